/-! ===== where both sides begin; the law's own calls ===== -/
theorem beg_FR : RR (uF0.2 9) 1 2 5 := ⟨by decide +kernel, by decide +kernel, by decide +kernel, by omega, by omega, by omega⟩
theorem beg_MR : RR (uM0.2 10) 1 2 5 := ⟨by decide +kernel, by decide +kernel, by decide +kernel, by omega, by omega, by omega⟩
theorem beg_FD : FD uF0 2 2 0 := ⟨by omega, by omega, by omega, by decide +kernel, by decide +kernel, by decide +kernel, by decide +kernel⟩
theorem beg_MD : MD uM0 2 2 0 := ⟨by omega, by omega, by omega, by decide +kernel, by decide +kernel, by decide +kernel⟩
theorem beg_INV : INV uF0 uM0 := by
  refine ⟨Or.inl ⟨by decide +kernel, by decide +kernel⟩, 2, 2, 0, 0, fun _ _ => 0, fun _ => 0, fun _ => 0, fun _ => 0, fun _ => 0, fun _ => 0, 1, 2, 5, ⟨beg_FD, CG.nil, ?_, beg_FR⟩, beg_MD, CG.nil, ?_, beg_MR⟩
  · exact ⟨by omega, by decide +kernel, fun i hi => absurd hi (by omega)⟩
  · exact ⟨by omega, by decide +kernel, fun i hi => absurd hi (by omega)⟩
/-- the cells of a world -/
def wa (w : va_W) : Nat → Prop := fun q => ∃ (k : Nat) (e : va_E), w[k]? = some (q, e)
theorem wa_map {w w' : va_W} (h : w.map Prod.fst = w'.map Prod.fst) {k : Nat} {p : Nat × va_E} (hk : w'[k]? = some p) : ∃ p0 : Nat × va_E, w[k]? = some p0 ∧ p0.1 = p.1 := by
  have h1 : (w'.map Prod.fst)[k]? = some p.1 := by rw [List.getElem?_map, hk]; rfl
  rw [← h, List.getElem?_map] at h1
  cases h2 : w[k]? with
  | none => rw [h2] at h1; cases h1
  | some p0 => rw [h2] at h1; exact ⟨p0, rfl, Option.some.inj h1⟩
theorem wa_D {A : Nat → Prop} {w w' : va_W} (h : w.map Prod.fst = w'.map Prod.fst) (hD : va_D A w) : va_D (wa w) w' := by
  refine ⟨fun i j p q hi hj e => ?_, fun k q hk => ?_⟩
  · obtain ⟨p0, h1, h2⟩ := wa_map h hi
    obtain ⟨q0, h3, h4⟩ := wa_map h hj
    exact hD.1 i j p0 q0 h1 h3 (by rw [h2, h4, e])
  · obtain ⟨p0, h1, h2⟩ := wa_map h hk
    exact ⟨k, p0.2, by rw [h1, ← h2]⟩
theorem fw_map (adr : Nat → Nat) (cI cZ : ClassId) (u u' : US) : (fw adr cI cZ u).map Prod.fst = (fw adr cI cZ u').map Prod.fst := rfl
theorem mw_map (adr : Nat → Nat) (cI cZ : ClassId) (u u' : US) : (mw adr cI cZ u).map Prod.fst = (mw adr cI cZ u').map Prod.fst := rfl
/-- what does not change in the law's walk -/
def LawC (p : Program) (s : State) (m : MethodId) (c : Code) (b L : Nat) (xs : Nat → Int32) (D : va_G) (cI cZ : ClassId) (aF aM : Nat → Nat) (AF AM : Nat → Prop) (t1 t2 : Nat) : Prop :=
  p.tables.exec = Jvm.exec ∧ c.code = cL_law ∧ c.maxLocals = 4 ∧ s.vm.findClass RL = some m.cls ∧ (∀ w ∈ wsL_law, w.before #[Value.ref b] s = true) ∧ va_X b L xs s s.heap ∧ b < s.heap.size ∧ va_K D vwCl (tyB cI cZ) s ∧ (∀ u, va_D AF (fw aF cI cZ u)) ∧ (∀ u, va_D AM (mw aM cI cZ u)) ∧ (∀ q, AF q → s.heap.size ≤ q) ∧ (∀ q, AM q → s.heap.size ≤ q) ∧ (∀ q, AF q → ¬ AM q) ∧ gRules t1 t2 (fun q => s.heap.size ≤ q) s
/-- both worlds -/
def LawW (s : State) (D : va_G) (cI cZ : ClassId) (aF aM : Nat → Nat) (u v : US) (H : Heap) (locs : List Loc) : Prop :=
  va_P D vwCl (fw aF cI cZ u) H ∧ va_P D vwCl (mw aM cI cZ v) H ∧ va_S (fun q => s.heap.size ≤ q) s.heap H locs
section LAWC
variable {p : Program} {l : Launch} {e : Env} {s : State} {m : MethodId} {below : List Frame} {meth : Method} {c : Code} {H : Heap} {locs : List Loc} {Q : State → Prop}
variable {y : MethodName} {bytes : ByteArray} {maxL n index k pc b L : Nat} {ret : Option FieldType} {ws : List Cond} {As rest st0 : List Value} {ls : Array Slot} {xs : Nat → Int32}
variable {D : va_G} {cI cZ : ClassId} {aF aM : Nat → Nat} {AF AM : Nat → Prop} {t1 t2 : Nat} {u v : US}
theorem lawF {post : Int32 → US → Prop} (C : LawC p s m c b L xs D cI cZ aF aM AF AM t1 t2) (h : LawW s D cI cZ aF aM u v H locs) (hM : gMi l y ws k D cI cZ (fw aF cI cZ) AF (.ref (aF 0) :: As) u post) (cw : CallW room_1 s #[Value.ref b] RL RX5 index y bytes maxL ret ws (rmL k) 0 0 n)
    (hn : As.length = n) (hl : ls.size = 4) (hst : st0 = As.reverse ++ .ref (aF 0) :: rest) (hW : (rest.map fun v => v.category).sum ≤ 8) (hdg : decode cL_law pc = .ok (.invokevirtual index, 3))
    (kk : ∀ (r : Int32) (u' : US) (H1 : Heap) (locs1 : List Loc), post r u' → LawW s D cI cZ aF aM u' v H1 locs1 → W p l e room_1 s m #[Value.ref b] below meth c H1 locs1 46 2969 Q (F0 m (pc + 3) ls (.int r :: rest))) :
    W p l e room_1 s m #[Value.ref b] below meth c H locs 46 2969 Q (F0 m pc ls st0) := by
  obtain ⟨hx, hb, hml, hown, hts, hX, hbl, hK, hDF, hDM, hF0, hM0, hdis, hR⟩ := C
  obtain ⟨hP1, hP2, hS⟩ := h
  refine gcallVi' (As := As) (rest := rest) ⟨hx, hb, hml, hown, hts⟩ hM cw (va_recv hK hP1 (ci := 5) (q0 := 0) rfl rfl) hK hP1 hS hF0 hn hl hst hW hdg ⟨Nat.le_of_ble_eq_true rfl, Nat.le_of_ble_eq_true rfl⟩ (fun r u' H1 locs1 hp hQ1 hS1 hk => kk r u' H1 locs1 hp ⟨hQ1, hP2.kept (fun i q hq => hk q.1 ((hP2 i q hq).lt) (fun ha => hdis _ ha ((hDM v).2 i q hq))), hS1⟩)
theorem lawM {post : Int32 → US → Prop} (C : LawC p s m c b L xs D cI cZ aF aM AF AM t1 t2) (h : LawW s D cI cZ aF aM u v H locs) (hM : gMi l y ws k D cI cZ (mw aM cI cZ) AM (.ref (aM 0) :: As) v post) (cw : CallW room_1 s #[Value.ref b] RL RX6 index y bytes maxL ret ws (rmL k) 0 0 n)
    (hn : As.length = n) (hl : ls.size = 4) (hst : st0 = As.reverse ++ .ref (aM 0) :: rest) (hW : (rest.map fun v => v.category).sum ≤ 8) (hdg : decode cL_law pc = .ok (.invokevirtual index, 3))
    (kk : ∀ (r : Int32) (v' : US) (H1 : Heap) (locs1 : List Loc), post r v' → LawW s D cI cZ aF aM u v' H1 locs1 → W p l e room_1 s m #[Value.ref b] below meth c H1 locs1 46 2969 Q (F0 m (pc + 3) ls (.int r :: rest))) :
    W p l e room_1 s m #[Value.ref b] below meth c H locs 46 2969 Q (F0 m pc ls st0) := by
  obtain ⟨hx, hb, hml, hown, hts, hX, hbl, hK, hDF, hDM, hF0, hM0, hdis, hR⟩ := C
  obtain ⟨hP1, hP2, hS⟩ := h
  refine gcallVi' (As := As) (rest := rest) ⟨hx, hb, hml, hown, hts⟩ hM cw (va_recv hK hP2 (ci := 6) (q0 := 0) rfl rfl) hK hP2 hS hM0 hn hl hst hW hdg ⟨Nat.le_of_ble_eq_true rfl, Nat.le_of_ble_eq_true rfl⟩ (fun r v' H1 locs1 hp hQ1 hS1 hk => kk r v' H1 locs1 hp ⟨hP1.kept (fun i q hq => hk q.1 ((hP1 i q hq).lt) (fun ha => hdis _ ((hDF u).2 i q hq) ha)), hQ1, hS1⟩)
theorem gRules_to {A B : Nat → Prop} {U T : State} (h : gRules t1 t2 A U) (hvm : U.vm.Alike T.vm) (hq : ∀ a : Nat, a < U.heap.size → ¬ A a → T.heap[a]? = U.heap[a]?) (hBA : ∀ q, B q → A q) : gRules t1 t2 B T :=
  ⟨((h.1.kept hq).moved hvm).narrow hBA, ((h.2.1.kept hq).moved hvm).narrow hBA, ((h.2.2.1.kept hq).moved hvm).narrow hBA, ((h.2.2.2.kept hq).moved hvm).narrow hBA⟩
theorem lawR {post : Int32 → US → Prop} (C : LawC p s m c b L xs D cI cZ aF aM AF AM t1 t2) (h : LawW s D cI cZ aF aM u v H locs) (hM : Met l y ws (rmL k) (va_Pc (.ref (aF 0) :: As) (fun U => gP D cI cZ (fw aF cI cZ) u U ∧ gRules t1 t2 AF U)) (va_Qi post (gP D cI cZ (fw aF cI cZ)) AF) 0 0 AF) (cw : CallW room_1 s #[Value.ref b] RL RX5 index y bytes maxL ret ws (rmL k) 0 0 n)
    (hn : As.length = n) (hl : ls.size = 4) (hst : st0 = As.reverse ++ .ref (aF 0) :: rest) (hW : (rest.map fun v => v.category).sum ≤ 8) (hdg : decode cL_law pc = .ok (.invokevirtual index, 3))
    (kk : ∀ (r : Int32) (u' : US) (H1 : Heap) (locs1 : List Loc), post r u' → LawW s D cI cZ aF aM u' v H1 locs1 → W p l e room_1 s m #[Value.ref b] below meth c H1 locs1 46 2969 Q (F0 m (pc + 3) ls (.int r :: rest))) :
    W p l e room_1 s m #[Value.ref b] below meth c H locs 46 2969 Q (F0 m pc ls st0) := by
  obtain ⟨hx, hb, hml, hown, hts, hX, hbl, hK, hDF, hDM, hF0, hM0, hdis, hR⟩ := C
  obtain ⟨hP1, hP2, hS⟩ := h
  refine va_calli (va_runV (As := As) (rest := rest) ⟨hx, hb, hml, hown, hts⟩ hM cw ⟨fun a U g mk q => ?_, va_recv hK hP1 (ci := 5) (q0 := 0) rfl rfl, fun U hU hW => ⟨rfl, ⟨by rw [hU]; exact hP1, va_K.moved hW.alike hK⟩, gRules_to hR hW.alike (fun a g1 g2 => by rw [hU]; exact hS.2.1 a g1 g2) hF0⟩⟩ rfl hn hl hst (lv_room hW) hdg ⟨Nat.le_of_ble_eq_true rfl, Nat.le_of_ble_eq_true rfl⟩) hS (fun q _ h => hF0 q h) hF0 (fun r u' t H1 locs1 ht hvm hw hB hz1 hk hS1 => ?_)
  · obtain ⟨q0, ⟨qP, qK⟩, qR⟩ := q
    exact ⟨q0, ⟨qP, va_K.moved (u := U) (U := U.calling g mk a) (Vm.Alike.refl U.vm) qK⟩, gRules_to (T := U.calling g mk a) qR (Vm.Alike.refl U.vm) (fun _ _ _ => rfl) (fun _ h => h)⟩
  · exact kk r u' H1 locs1 hw ⟨by rw [← ht]; exact hB.1, hP2.kept (fun i q hq => hk q.1 ((hP2 i q hq).lt) (fun ha => hdis _ ha ((hDM v).2 i q hq))), hS1⟩
end LAWC
