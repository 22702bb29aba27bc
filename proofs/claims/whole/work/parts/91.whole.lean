set_option maxHeartbeats 4000000 in
set_option maxRecDepth 100000 in
theorem law_arr {s : State} {b : Nat} {ty : FieldType} (h : (Cond.arrayClass ty).before #[Value.ref b] s = true) : ∃ cA : ClassId, ArrOfT s cA ty ∧ s.vm.findClass ("[" ++ ty.toString) = some cA := by
  obtain ⟨cA, kA, comp, h1, h2, h3⟩ := Cond.arrayClass_spec h
  exact ⟨cA, fun n z => ⟨fun k h => (by cases h), kA, h2, comp, h3⟩, h1⟩
theorem law_split {A : Nat → Prop} {D : va_G} {H : Heap} {w1 w2 : va_W} (hP : va_P D vwCl (w1 ++ w2) H) (hD : va_D A (w1 ++ w2)) : (va_P D vwCl w1 H ∧ va_P D vwCl w2 H) ∧ (va_D A w1 ∧ va_D A w2) ∧ ∀ q, wa w1 q → ¬ wa w2 q := by
  have a1 : ∀ (k : Nat) (q : Nat × va_E), w1[k]? = some q → (w1 ++ w2)[k]? = some q := fun k q h => by
    rw [List.getElem?_append_left (List.getElem?_eq_some_iff.mp h).1]; exact h
  have a2 : ∀ (k : Nat) (q : Nat × va_E), w2[k]? = some q → (w1 ++ w2)[w1.length + k]? = some q := fun k q h => by
    rw [List.getElem?_append_right (by omega), show w1.length + k - w1.length = k by omega]; exact h
  refine ⟨⟨fun k q h => hP k q (a1 k q h), fun k q h => hP _ q (a2 k q h)⟩, ⟨⟨fun i j p q h1 h2 h3 => hD.1 i j p q (a1 i p h1) (a1 j q h2) h3, fun k q h => hD.2 k q (a1 k q h)⟩, ⟨fun i j p q h1 h2 h3 => by have := hD.1 _ _ p q (a2 i p h1) (a2 j q h2) h3; omega, fun k q h => hD.2 _ q (a2 k q h)⟩⟩, ?_⟩
  rintro q ⟨i, e1, h1⟩ ⟨j, e2, h2⟩
  have h3 := hD.1 _ _ _ _ (a1 i _ h1) (a2 j _ h2) rfl
  have h4 := (List.getElem?_eq_some_iff.mp h1).1
  omega
set_option maxHeartbeats 4000000 in
set_option maxRecDepth 100000 in
theorem law_known {b : Nat} {s : State} (hts : ∀ w ∈ wsL_law, w.before #[Value.ref b] s = true) : ∃ D : va_G, ∀ (k : Nat) (q : vw_C), vwCl[k]? = some q → u_Kn s q.1 q.2.1 q.2.2 (D.1 k) (D.2 k) := by
  obtain ⟨c0, i0, k0⟩ := u_known (C := RX0) (T := TX0) (N := 6) (n := 6) hts inlX0 (hts (.instantiable RX0 6) (by decide +kernel))
  obtain ⟨c1, i1, k1⟩ := u_known (C := RX1) (T := TX1) (N := 5) (n := 5) hts inlX1 (hts (.instantiable RX1 5) (by decide +kernel))
  obtain ⟨c2, i2, k2⟩ := u_known (C := RX2) (T := TX2) (N := 6) (n := 6) hts inlX2 (hts (.instantiable RX2 6) (by decide +kernel))
  obtain ⟨c3, i3, k3⟩ := u_known (C := RX3) (T := TX3) (N := 7) (n := 7) hts inlX3 (hts (.instantiable RX3 7) (by decide +kernel))
  obtain ⟨c4, i4, k4⟩ := u_known (C := RX4) (T := TX4) (N := 6) (n := 6) hts inlX4 (hts (.instantiable RX4 6) (by decide +kernel))
  obtain ⟨c5, i5, k5⟩ := u_known (C := RX5) (T := TX5) (N := 9) (n := 9) hts inlX5 (hts (.instantiable RX5 9) (List.mem_of_getElem? (i := 1) rfl))
  obtain ⟨c6, i6, k6⟩ := u_known (C := RX6) (T := TX6) (N := 33) (n := 33) hts inlX6 (hts (.instantiable RX6 33) (List.mem_of_getElem? (i := 4) rfl))
  refine ⟨(fun k => match k with | 0 => c0 | 1 => c1 | 2 => c2 | 3 => c3 | 4 => c4 | 5 => c5 | _ => c6, fun k => match k with | 0 => i0 | 1 => i1 | 2 => i2 | 3 => i3 | 4 => i4 | 5 => i5 | _ => i6), ?_⟩
  intro k q hq
  match k, hq with
  | 0, hq => cases hq; exact k0
  | 1, hq => cases hq; exact k1
  | 2, hq => cases hq; exact k2
  | 3, hq => cases hq; exact k3
  | 4, hq => cases hq; exact k4
  | 5, hq => cases hq; exact k5
  | 6, hq => cases hq; exact k6
  | k + 7, hq => simp [vwCl] at hq
set_option maxHeartbeats 4000000 in
set_option maxRecDepth 100000 in
theorem whole_start {p : Program} {e : Env} {s : State} {m : MethodId} {below : List Frame} {meth : Method} {c : Code} (l : Launch) {b L : Nat} {xs : Nat → Int32} (hL : L ≤ 2560) (C0 : lw_At p s m meth c b L xs) : W p l e room_1 s m #[Value.ref b] below meth c s.heap [] 0 0 (lw_Z below #[Value.ref b] s) (entryFrame m ([Value.ref b] : List Value).toArray 4) := by
  obtain ⟨t0, hZ0, hT0⟩ := law_first C0
  obtain ⟨t1, hZ1, hT1⟩ := law_least C0
  obtain ⟨t2, hZ2, hT2⟩ := law_most C0
  obtain ⟨hx, hb, hr, hml, hown, hts, hX, hbl, hlocks, hgv⟩ := id C0
  have hts : ∀ w ∈ wsL_law, w.before #[Value.ref b] s = true := fun w h => hts w (wsL_law_in w h)
  have hb : c.code = cL_law := hb
  have hown : s.vm.findClass RL = some m.cls := hown
  have hA : ∀ q : Nat, s.heap.size ≤ q → (fun q : Nat => s.heap.size ≤ q) q := fun _ h => h
  obtain ⟨D, hKc⟩ := law_known hts
  obtain ⟨cI, kI, fI⟩ := law_arr (hts (.arrayClass .int) (by decide +kernel))
  obtain ⟨cZ, kZ, fZ⟩ := law_arr (hts (.arrayClass .boolean) (by decide +kernel))
  have hK : va_K D vwCl (tyB cI cZ) s := ⟨hKc, fun k q hq => by
    match k, hq with
    | 0, hq => cases hq; exact ⟨kI, fI⟩
    | 1, hq => cases hq; exact ⟨kZ, fZ⟩
    | k + 2, hq => simp [tyB] at hq⟩
  have hS : va_S (fun q : Nat => s.heap.size ≤ q) s.heap s.heap [] := va_S.rf
  have hP : va_P D vwCl [] s.heap := fun k q h => by simp at h
  have hD : va_D (fun q : Nat => s.heap.size ≤ q) [] := ⟨fun i j p q h => by simp at h, fun k q h => by simp at h⟩
  have hl := lv_entry ([.ref b]) (n := 4) (Nat.le_of_ble_eq_true rfl)
  rw [lg_entry_eq]
  generalize (lg_sl ([.ref b]) ++ List.replicate (4 - (lg_sl ([.ref b])).length) Slot.unset).toArray = ls at hl ⊢
  have hl : lv_has ls 4 [(0, .ref b)] := hl
  refine va_new (ci := 5) (fs := [.null, .null, .null, .null, .null, .null, .null, .null, .int 0]) (C := RX5) (T := TX5) (N := 9) hx hb hts inlX5 tyX5 tyX5_ok hown (hts (.classLink RL 7 RX5) (List.mem_of_getElem? (i := 0) rfl)) (hts (.instantiable RX5 9) (List.mem_of_getElem? (i := 1) rfl)) (hts (.initialized RX5) (List.mem_of_getElem? (i := 2) rfl)) hK hP hD hS hA rfl (fun j hj => by rcases (show j = 0 ∨ j = 1 ∨ j = 2 ∨ j = 3 ∨ j = 4 ∨ j = 5 ∨ j = 6 ∨ j = 7 ∨ j = 8 by omega) with rfl | rfl | rfl | rfl | rfl | rfl | rfl | rfl | rfl <;> rfl) (Nat.le_of_ble_eq_true rfl) (Nat.le_of_ble_eq_true rfl) dL_law_0 (fun qF H hP hD hS => ?_)
  refine W.widen (k := 1) (n := 9) (by omega) (by omega) ?_
  refine lv_dup hx hb dL_law_3 rfl ?_
  refine gcallI (wr := []) (As := []) (rest := [.ref qF]) ⟨hx, hb, hml, hown, hts⟩ (c_X5_init l D cI cZ qF t0) (cwI 0 hts gL_law_X5_init rfl rfl rfl (hts (.initialized RX5) (List.mem_of_getElem? (i := 2) rfl)) (hts (.methodLink RL 9 yX5_init) (List.mem_of_getElem? (i := 7) rfl)) (hts (.instanceMethod yX5_init) (List.mem_of_getElem? (i := 8) rfl)) rfl (by decide +kernel) ⟨Nat.le_of_ble_eq_true rfl, Nat.le_of_ble_eq_true rfl⟩) hK hP hD hS hA (fun B a U g mk h => ⟨h.1.moved (U := U.calling g mk a) (Vm.Alike.refl U.vm), h.2.moved (U := U.calling g mk a) (Vm.Alike.refl U.vm)⟩) (fun U hU hvm => ?_) rfl hl.1 rfl (Nat.le_of_ble_eq_true rfl) dL_law_4 ⟨Nat.le_of_ble_eq_true rfl, Nat.le_of_ble_eq_true rfl⟩ (fun w H locs hw hP9 hD9 hS9 => ?_)
  · have hBA : ∀ q, va_A [(qF, .inr (5, [.null, .null, .null, .null, .null, .null, .null, .null, .int 0]))] H.size q → (fun q : Nat => s.heap.size ≤ q) q := va_free hD hS hA [0] rfl
    have hk : ∀ a : Nat, a < s.heap.size → ¬ (fun q : Nat => s.heap.size ≤ q) a → U.heap[a]? = s.heap[a]? := fun a g1 g2 => by rw [hU]; exact hS.2.1 a g1 g2
    exact ⟨((hZ0.kept hk).moved hvm).narrow hBA, ((hT0.kept hk).moved hvm).narrow hBA⟩
  · obtain ⟨aF, hF, rfl⟩ := hw
    subst hF
    have hP : va_P D vwCl (fw aF cI cZ uF0) H := hP9
    have hD : va_D (fun q : Nat => s.heap.size ≤ q) (fw aF cI cZ uF0) := hD9
    have hS := hS9
    refine W.widen (k := 27) (n := 1511) (by omega) (by omega) ?_
    refine lv_astore_n (lv' := [(1, .ref (aF 0)), (0, .ref b)]) hx hb dL_law_7 rfl hl (by decide) rfl (fun ls hl => ?_)
    refine va_new (ci := 6) (fs := [.int 0, .int 0, .int 0, .null, .int 0, .null, .null, .null, .null, .null, .null, .int 0, .int 0, .int 0, .int 0, .null, .int 0, .null, .null, .null, .null, .null, .int 0, .int 0, .int 0, .int 0, .null, .null, .null, .int 0, .int 0, .null, .null]) (C := RX6) (T := TX6) (N := 33) hx hb hts inlX6 tyX6 tyX6_ok hown (hts (.classLink RL 10 RX6) (List.mem_of_getElem? (i := 3) rfl)) (hts (.instantiable RX6 33) (List.mem_of_getElem? (i := 4) rfl)) (hts (.initialized RX6) (List.mem_of_getElem? (i := 5) rfl)) hK hP hD hS hA rfl (fun j hj => by rcases (show j = 0 ∨ j = 1 ∨ j = 2 ∨ j = 3 ∨ j = 4 ∨ j = 5 ∨ j = 6 ∨ j = 7 ∨ j = 8 ∨ j = 9 ∨ j = 10 ∨ j = 11 ∨ j = 12 ∨ j = 13 ∨ j = 14 ∨ j = 15 ∨ j = 16 ∨ j = 17 ∨ j = 18 ∨ j = 19 ∨ j = 20 ∨ j = 21 ∨ j = 22 ∨ j = 23 ∨ j = 24 ∨ j = 25 ∨ j = 26 ∨ j = 27 ∨ j = 28 ∨ j = 29 ∨ j = 30 ∨ j = 31 ∨ j = 32 by omega) with rfl | rfl | rfl | rfl | rfl | rfl | rfl | rfl | rfl | rfl | rfl | rfl | rfl | rfl | rfl | rfl | rfl | rfl | rfl | rfl | rfl | rfl | rfl | rfl | rfl | rfl | rfl | rfl | rfl | rfl | rfl | rfl | rfl <;> rfl) (Nat.le_of_ble_eq_true rfl) (Nat.le_of_ble_eq_true rfl) dL_law_8 (fun qM H hP hD hS => ?_)
    refine W.widen (k := 28) (n := 1544) (by omega) (by omega) ?_
    refine lv_dup hx hb dL_law_11 rfl ?_
    refine gcallI (wr := fw aF cI cZ uF0) (As := []) (rest := [.ref qM]) ⟨hx, hb, hml, hown, hts⟩ (c_X6_init l D cI cZ qM) (cwI 0 hts gL_law_X6_init rfl rfl rfl (hts (.initialized RX6) (List.mem_of_getElem? (i := 5) rfl)) (hts (.methodLink RL 12 yX6_init) (by decide +kernel)) (hts (.instanceMethod yX6_init) (by decide +kernel)) rfl (by decide +kernel) ⟨Nat.le_of_ble_eq_true rfl, Nat.le_of_ble_eq_true rfl⟩) hK hP hD hS hA (fun _ _ _ _ _ _ => trivial) (fun _ _ _ => trivial) rfl hl.1 rfl (Nat.le_of_ble_eq_true rfl) dL_law_12 ⟨Nat.le_of_ble_eq_true rfl, Nat.le_of_ble_eq_true rfl⟩ (fun w H locs hw hP8 hD8 hS8 => ?_)
    obtain ⟨aM, hM, rfl⟩ := hw
    subst hM
    have hP := hP8
    have hD := hD8
    have hS := hS8
    refine W.widen (k := 46) (n := 2969) (by omega) (by omega) ?_
    refine lv_astore_n (lv' := [(2, .ref (aM 0)), (1, .ref (aF 0)), (0, .ref b)]) hx hb dL_law_15 rfl hl (by decide) rfl (fun ls hl => ?_)
    refine lv_iconst (v := (0 : Int32)) hx hb dL_law_16 (by decide) ?_
    refine lv_istore_n (lv' := [(3, .int 0), (2, .ref (aM 0)), (1, .ref (aF 0)), (0, .ref b)]) hx hb dL_law_17 rfl hl (by decide) rfl (fun ls hl => ?_)
    obtain ⟨⟨hPF, hPM⟩, ⟨hDF, hDM⟩, hdis⟩ := law_split hP hD
    have inA : ∀ {w : va_W}, va_D (fun q : Nat => s.heap.size ≤ q) w → ∀ q, wa w q → s.heap.size ≤ q := fun h q hq => by
      obtain ⟨k, e1, hk⟩ := hq
      exact h.2 k _ hk
    have C : LawC p s m c b L xs D cI cZ aF aM (wa (fw aF cI cZ uF0)) (wa (mw aM cI cZ uM0)) t1 t2 :=
      ⟨hx, hb, hml, hown, hts, hX, hbl, hK, fun u => wa_D (fw_map aF cI cZ uF0 u) hDF, fun u => wa_D (mw_map aM cI cZ uM0 u) hDM, inA hDF, inA hDM, hdis, hZ1, hT1, hZ2, hT2⟩
    exact law_loop C hL hr hlocks (L + 1) 0 (by omega) (by omega) uF0 uM0 H locs ls beg_INV ⟨hPF, hPM, hS⟩ (lv_sub hl [3, 2, 1, 0] rfl)
