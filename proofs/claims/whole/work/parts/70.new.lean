/-! ===== what is made anew: rows, objects, a table copied ===== -/
def gX (_ : Nat → Prop) (_ : State) : Prop := True
/-- a call that makes: from a world of one cell to a world of which post holds -/
def gC (l : Launch) (y : MethodName) (ws : List Cond) (rm : Room) (D : va_G) (cI cZ : ClassId) (E : (Nat → Prop) → State → Prop) (av : List Value) (wc : va_W) (post : va_W → Prop) (mc ms : Nat) : Prop :=
  ∀ sz : Nat, Met l y ws rm (va_Pc av (fun U => U.heap.size = sz ∧ va_P D vwCl wc U.heap ∧ va_K D vwCl (tyB cI cZ) U ∧ va_D (fun _ => True) wc ∧ E (va_A wc sz) U)) (va_Qv post (fun w t => va_P D vwCl w t.heap ∧ va_K D vwCl (tyB cI cZ) t ∧ va_D (va_A wc sz) w) (va_A wc sz)) mc ms (va_A wc sz)
section GN
variable {p : Program} {l : Launch} {e : Env} {R : Room} {s : State} {m : MethodId} {args : Array Value} {below : List Frame} {meth : Method} {c : Code} {H : Heap} {locs : List Loc} {cells slots : Nat} {Q : State → Prop}
variable {y : MethodName} {bytes cc : ByteArray} {maxL nL n index pc b : Nat} {ws Ts : List Cond} {own : String} {As rest st0 : List Value} {ls : Array Slot} {rm : Room}
variable {D : va_G} {cI cZ : ClassId} {A : Nat → Prop} {H0 : Heap} {W0 : va_W}
theorem gsame {t : FieldType} {a b : ClassId} (h1 : s.vm.findClass ("[" ++ t.toString) = some a) (h2 : s.vm.findClass ("[" ++ t.toString) = some b) : a = b := Option.some.inj (h1.symm.trans h2)
theorem gnewI (hx : p.tables.exec = Jvm.exec) (hb : c.code = cc) (harr : (Cond.arrayClass .int).before args s = true) (hK : va_K D vwCl (tyB cI cZ) s) (hP : va_P D vwCl W0 H) (hD : va_D A W0) (hS : va_S A H0 H locs) (hA : ∀ q, H0.size ≤ q → A q)
    {z : Int32} {N : Nat} (hn : ¬ z < 0) (hN : z.toNatClampNeg = N) (hbytes : N * componentBytes .int ≤ 536870912) (hcells : cells + 1 ≤ R.cells) (hslots : slots + N ≤ R.slots) (hdg : decode cc pc = .ok (.newarray .int, 2))
    (kk : ∀ (q : Nat) (H1 : Heap), va_P D vwCl (W0 ++ [(q, .inl (cI, N, .inl (fun _ => 0)))]) H1 → va_D A (W0 ++ [(q, .inl (cI, N, .inl (fun _ => 0)))]) → va_S A H0 H1 locs → W p l e R s m args below meth c H1 locs (cells + 1) (slots + N) Q (F0 m (pc + 2) ls (.ref q :: rest))) :
    W p l e R s m args below meth c H locs cells slots Q (F0 m pc ls (.int z :: rest)) := by
  refine va_newa (atype := .int) (ty := .int) (a0 := (N, .inl (fun _ => 0))) hx hb harr rfl hK hP hD hS hA (fun _ => rfl) hn hN hbytes hcells hslots hdg (fun q cA H1 hK1 hP1 hD1 hS1 => ?_)
  have e : cA = cI := gsame (t := .int) (hK1.2 2 _ rfl).2 (hK.2 0 _ rfl).2
  subst e
  exact kk q H1 hP1 hD1 hS1
theorem gnewZ (hx : p.tables.exec = Jvm.exec) (hb : c.code = cc) (harr : (Cond.arrayClass .boolean).before args s = true) (hK : va_K D vwCl (tyB cI cZ) s) (hP : va_P D vwCl W0 H) (hD : va_D A W0) (hS : va_S A H0 H locs) (hA : ∀ q, H0.size ≤ q → A q)
    {z : Int32} {N : Nat} (hn : ¬ z < 0) (hN : z.toNatClampNeg = N) (hbytes : N * componentBytes .boolean ≤ 536870912) (hcells : cells + 1 ≤ R.cells) (hslots : slots + N ≤ R.slots) (hdg : decode cc pc = .ok (.newarray .boolean, 2))
    (kk : ∀ (q : Nat) (H1 : Heap), va_P D vwCl (W0 ++ [(q, .inl (cZ, N, .inl (fun _ => 0)))]) H1 → va_D A (W0 ++ [(q, .inl (cZ, N, .inl (fun _ => 0)))]) → va_S A H0 H1 locs → W p l e R s m args below meth c H1 locs (cells + 1) (slots + N) Q (F0 m (pc + 2) ls (.ref q :: rest))) :
    W p l e R s m args below meth c H locs cells slots Q (F0 m pc ls (.int z :: rest)) := by
  refine va_newa (atype := .boolean) (ty := .boolean) (a0 := (N, .inl (fun _ => 0))) hx hb harr rfl hK hP hD hS hA (fun _ => rfl) hn hN hbytes hcells hslots hdg (fun q cA H1 hK1 hP1 hD1 hS1 => ?_)
  have e : cA = cZ := gsame (t := .boolean) (hK1.2 2 _ rfl).2 (hK.2 1 _ rfl).2
  subst e
  exact kk q H1 hP1 hD1 hS1
theorem gjoin {wr w : va_W} {en : va_E} {H1 : Heap} (hP : va_P D vwCl (wr ++ [(b, en)]) H) (hD : va_D A (wr ++ [(b, en)])) (hk : ∀ q : Nat, q < H.size → ¬ va_A [(b, en)] H.size q → H1[q]? = H[q]?) (hF : ∀ q, va_A [(b, en)] H.size q → A q) (hP1 : va_P D vwCl w H1) (hD1 : va_D (va_A [(b, en)] H.size) w) : va_P D vwCl (wr ++ w) H1 ∧ va_D A (wr ++ w) := by
  have at0 : ∀ (k : Nat) (q : Nat × va_E), wr[k]? = some q → (wr ++ [(b, en)])[k]? = some q := fun k q h => by
    rw [List.getElem?_append_left (List.getElem?_eq_some_iff.mp h).1]; exact h
  have hl : (wr ++ [(b, en)])[wr.length]? = some (b, en) := by simp
  have no : ∀ (k : Nat) (q : Nat × va_E), wr[k]? = some q → q.1 < H.size ∧ ¬ va_A [(b, en)] H.size q.1 := fun k q h => by
    have h1 := (hP k q (at0 k q h)).lt
    refine ⟨h1, ?_⟩
    rintro (⟨j, e1, hj⟩ | h2)
    · have hj0 : j = 0 := by
        have := (List.getElem?_eq_some_iff.mp hj).1
        simp at this
        exact this
      subst hj0
      simp at hj
      have := hD.1 _ _ _ _ (at0 k q h) hl hj.1.symm
      have hk := (List.getElem?_eq_some_iff.mp h).1
      omega
    · omega
  refine ⟨va_P.app (va_P.kept (H := H) (fun k q h => hP k q (at0 k q h)) (fun k q h => hk q.1 (no k q h).1 (no k q h).2)) hP1, va_D.app ⟨fun i j p q h1 h2 h3 => hD.1 i j p q (at0 i p h1) (at0 j q h2) h3, fun k q h => hD.2 k q (at0 k q h)⟩ (hD1.weaken (fun k q _ h => hF q.1 h)) (fun i j p q h1 h2 h3 => (no i p h1).2 (by rw [h3]; exact hD1.2 j q h2))⟩
theorem gcallI {E : (Nat → Prop) → State → Prop} {wr : va_W} {en : va_E} {post : va_W → Prop} {mc ms : Nat} (S : CallFix p m c cc nL s args Ts own) (hM : gC l y ws rm D cI cZ E (.ref b :: As) [(b, en)] post mc ms) (cw : CallB R s args own index y bytes maxL none ws rm mc ms n ∧ y.name = "<init>" ∧ (Cond.instanceMethod y).before args s = true)
    (hK : va_K D vwCl (tyB cI cZ) s) (hP : va_P D vwCl (wr ++ [(b, en)]) H) (hD : va_D A (wr ++ [(b, en)])) (hS : va_S A H0 H locs) (hA : ∀ q, H0.size ≤ q → A q) (hEb : ∀ (B : Nat → Prop) (a : Array Value) (U : State) g mk, E B U → E B (U.calling g mk a)) (hE : ∀ U : State, U.heap = H → s.vm.Alike U.vm → E (va_A [(b, en)] H.size) U)
    (hn : As.length = n) (hl : ls.size = nL) (hst : st0 = As.reverse ++ .ref b :: rest) (hW : (rest.map fun v => v.category).sum ≤ 8) (hdg : decode cc pc = .ok (.invokespecial index, 3)) (hc : cells + mc ≤ R.cells ∧ slots + ms ≤ R.slots)
    (kk : ∀ (w : va_W) (H1 : Heap) (locs1 : List Loc), post w → va_P D vwCl (wr ++ w) H1 → va_D A (wr ++ w) → va_S A H0 H1 locs1 → W p l e R s m args below meth c H1 locs1 (cells + mc) (slots + ms) Q (F0 m (pc + 3) ls rest)) :
    W p l e R s m args below meth c H locs cells slots Q (F0 m pc ls st0) := by
  have hl0 : (wr ++ [(b, en)])[wr.length]? = some (b, en) := by simp
  have hPc : va_P D vwCl [(b, en)] H := hP.sub [wr.length] (by simp)
  have hDc : va_D A [(b, en)] := hD.sub [wr.length] rfl (by simp)
  have hFc : ∀ q, va_A [(b, en)] H.size q → A q := va_free hD hS hA [wr.length] (by simp)
  refine va_callv (va_runI (As := As) (rest := rest) S (hM H.size) cw ⟨fun a U g mk q => ?_, fun U hU hW => ⟨rfl, by rw [hU], by rw [hU]; exact hPc, va_K.moved hW.alike hK, hDc.weaken (fun _ _ _ _ => trivial), hE U hU hW.alike⟩⟩ rfl hn hl hst (lv_room hW) hdg hc) hS (fun q _ h => hFc q h) hFc (fun w t H1 locs1 ht hvm hw hB hz1 hk1 hS1 => ?_)
  · obtain ⟨q0, q1, qP, qK, qD, qE⟩ := q
    exact ⟨q0, q1, qP, va_K.moved (u := U) (U := U.calling g mk a) (Vm.Alike.refl U.vm) qK, qD, hEb _ a U g mk qE⟩
  · obtain ⟨hP1, hK1, hD1⟩ := hB
    rw [ht] at hP1
    obtain ⟨hP2, hD2⟩ := gjoin hP hD hk1 hFc hP1 hD1
    exact kk w H1 locs1 hw hP2 hD2 hS1
def tbF (k : Nat) : Int32 := if k = 0 then 1 else if k = 1 then 2 else 5
/-- the first rules, out of the table -/
def gFirst (t0 : Nat) (B : Nat → Prop) (U : State) : Prop := va_Z "FilmBench" "FIRST_RULES" "[I" (.ref t0) B U U.heap ∧ va_T .int t0 3 (fun k => .int (tbF k)) B U U.heap
theorem gcopyT (hx : p.tables.exec = Jvm.exec) (hb : c.code = cc) (hml : c.maxLocals = ls.size) (hown : s.vm.findClass own = some m.cls) (hts : ∀ w ∈ Ts, w.before args s = true) (hi : [Cond.methodLink own index arraycopyName, Cond.native arraycopyName, Cond.static arraycopyName, Cond.initialized "java/lang/System"].all (fun w => decide (w ∈ Ts)) = true)
    (hK : va_K D vwCl (tyB cI cZ) s) (hP : va_P D vwCl W0 H) (hD : va_D A W0) (hS : va_S A s.heap H locs) {t0 a1 q1 : Nat} {g : Nat → Int32} (hT : va_T .int t0 3 (fun k => .int (tbF k)) A s s.heap) (ha1 : W0[q1]? = some (a1, .inl (cI, 3, .inl g)))
    (hf : 1 ≤ R.frames) (hlo : (rest.map fun v => v.category).sum + (nativeFrameWords "java/lang/System" "arraycopy" 5 + 11) ≤ R.locals) (hdg : decode cc pc = .ok (.invokestatic index, 3))
    (kk : ∀ (H1 : Heap) (locs1 : List Loc), va_P D vwCl (W0.set q1 (a1, .inl (cI, 3, .inl (va_cpy tbF g 0 0 3)))) H1 → va_D A (W0.set q1 (a1, .inl (cI, 3, .inl (va_cpy tbF g 0 0 3)))) → va_S A s.heap H1 locs1 → W p l e R s m args below meth c H1 locs1 cells slots Q (F0 m (pc + 3) ls rest)) :
    W p l e R s m args below meth c H locs cells slots Q (F0 m pc ls (.int 3 :: .int 0 :: .ref a1 :: .int 0 :: .ref t0 :: rest)) := by
  simp only [List.all_cons, List.all_nil, Bool.and_true, Bool.and_eq_true, decide_eq_true_eq] at hi
  obtain ⟨i1, i2, i3, i4⟩ := hi
  intro T hTH X
  obtain ⟨cs, c1, ⟨c2, kS, c3, cmS, c4⟩, c5, c6, -, c7, c8⟩ := hT
  have hsrc : H[t0]? = some cs := (hS.2.1 t0 (Array.getElem?_eq_some_iff.mp c1).1 c8).trans c1
  have hdst : H[a1]? = some (vp_cell cI (3, .inl g)) := hP q1 _ ha1
  have hlt : a1 < H.size := (Array.getElem?_eq_some_iff.mp hdst).1
  have hAa : A a1 := hD.2 q1 _ ha1
  obtain ⟨-, kD, d1, cmD, d2⟩ := (hK.2 0 _ rfl).1 3 (fun j => .int (g j))
  have hget : ∀ i : Nat, i < 3 → cs.slots.getD i .null = .int (tbF i) := fun i hi => by
    rw [Array.getD_eq_getD_getElem?, c7 i hi]; rfl
  obtain ⟨vm2, X2, go⟩ := X.arraycopy hx hown (hts _ i1) (hts _ i2) (hts _ i3) (hts _ i4) (src := t0) (dst := a1) (cs := cs) (cd := vp_cell cI (3, .inl g)) (srcPos := 0) (destPos := 0) (n := 3)
    (hTH ▸ hsrc) (hTH ▸ hdst) c2 (fun _ h => by cases h) c5 (fun h => by cases h) c3 d1 c4 d2 (by simp [refKind]) (by decide) (by decide) (by decide)
    (by show ¬ ((0 : Int) + 3 > (cs.slots.size : Int)); omega)
    (by show ¬ ((0 : Int) + 3 > ((arrV cI 3 (fun j => .int (g j))).slots.size : Int)); rw [arrV_size]; omega)
    (fun vm1 _ i hi => by
      have h3 : i < 3 := hi
      have h4 : cs.slots.getD ((0 : Int32).toNatClampNeg + i) .null = .int (tbF i) := by
        rw [show (0 : Int32).toNatClampNeg + i = i from by simp]; exact hget i h3
      rw [h4]
      exact ⟨rfl, trivial⟩)
    (g := F0 m pc ls (.int 3 :: .int 0 :: .ref a1 :: .int 0 :: .ref t0 :: rest)) rfl hml.symm (rest := rest) rfl (by rw [hb]; exact hdg) hf (by show 2 * 0 + _ + _ ≤ _; omega)
  have he : copied cs (vp_cell cI (3, .inl g)) 0 0 3 = vp_cell cI (3, .inl (va_cpy tbF g 0 0 3)) := va_copiedX (fun z => .int z) cs cI (n0 := 3) tbF g c7 (by decide)
  rw [he] at X2 go
  have other : ∀ q : Nat, q ≠ a1 → (H.setIfInBounds a1 (vp_cell cI (3, .inl (va_cpy tbF g 0 0 3))))[q]? = H[q]? := fun q hq => by simp [Array.getElem?_setIfInBounds, Ne.symm hq]
  have here : (H.setIfInBounds a1 (vp_cell cI (3, .inl (va_cpy tbF g 0 0 3))))[a1]? = some (vp_cell cI (3, .inl (va_cpy tbF g 0 0 3))) := by simp [Array.getElem?_setIfInBounds, hlt]
  have hS2 : ∀ L : List Loc, (∀ q ∈ L, q.base = a1) → va_S A s.heap (H.setIfInBounds a1 (vp_cell cI (3, .inl (va_cpy tbF g 0 0 3)))) (locs ++ L) := fun L hL => by
    refine ⟨by simpa using hS.1, fun q g1 g2 => (other q (fun h => g2 (h ▸ hAa))).trans (hS.2.1 q g1 g2), fun q hq => ?_⟩
    rcases List.mem_append.mp hq with h | h
    · exact hS.2.2 q h
    · rw [hL q h]; exact hAa
  obtain ⟨t, r1, r2⟩ := kk _ _ (hP.set hD ha1 here other) (hD.set ha1) (hS2 _ (fun q hq => by obtain ⟨z, -, hz⟩ := List.mem_map.mp hq; rw [← hz])) _ (by rw [← hTH]; rfl) X2
  exact ⟨t, go t r1, r2⟩
end GN
