/-! ===== the state of one side: its whole numbers and its rows; a contract over a side's world ===== -/
abbrev US : Type := (Nat → Int32) × (Nat → Nat → Int32)
def si (u : US) (k : Nat) (v : Int32) : US := (fun j => if j = k then v else u.1 j, u.2)
def sA (u : US) (k : Nat) (f : Nat → Int32) : US := (u.1, fun j => if j = k then f else u.2 j)
abbrev sa (u : US) (k i : Nat) (v : Int32) : US := sA u k (upd (u.2 k) i v)
def jmax (x y : Int32) : Int32 := if x < y then y else x
def jmin (x y : Int32) : Int32 := if y < x then y else x
def jabs (x : Int32) : Int32 := if 0 ≤ x then x else 0 - x
def isB (r : Int32) : Prop := narrow .boolean (.int r) = .int r
def rmL (k : Nat) : Room := { frames := k, cells := 0, slots := 0, locals := 30 * k }
abbrev tyB (cI cZ : ClassId) : List (ClassId × FieldType) := [(cI, .int), (cZ, .boolean)]
def gP (D : va_G) (cI cZ : ClassId) (wd : US → va_W) (u : US) (U : State) : Prop := va_P D vwCl (wd u) U.heap ∧ va_K D vwCl (tyB cI cZ) U
/-- a method that answers an int: from the world of u it comes to a world of which post holds -/
def gMi (l : Launch) (y : MethodName) (ws : List Cond) (k : Nat) (D : va_G) (cI cZ : ClassId) (wd : US → va_W) (A : Nat → Prop) (av : List Value) (u : US) (post : Int32 → US → Prop) : Prop :=
  Met l y ws (rmL k) (va_Pc av (gP D cI cZ wd u)) (va_Qi post (gP D cI cZ wd) A) 0 0 A
def gMv (l : Launch) (y : MethodName) (ws : List Cond) (k : Nat) (D : va_G) (cI cZ : ClassId) (wd : US → va_W) (A : Nat → Prop) (av : List Value) (u : US) (post : US → Prop) : Prop :=
  Met l y ws (rmL k) (va_Pc av (gP D cI cZ wd u)) (va_Qv post (gP D cI cZ wd) A) 0 0 A
abbrev gWi (p : Program) (l : Launch) (e : Env) (ws : List Cond) (k : Nat) (s : State) (m : MethodId) (av : List Value) (below : List Frame) (meth : Method) (c : Code) (D : va_G) (cI cZ : ClassId) (wd : US → va_W) (A : Nat → Prop) (post : Int32 → US → Prop) (H : Heap) (locs : List Loc) (g : JFrame) : Prop :=
  W p l e (headSpec ws (rmL k)).room s m av.toArray below meth c H locs 0 0 (MQ below (va_Qi post (gP D cI cZ wd) A) av.toArray s 0 0 A) g
abbrev gWv (p : Program) (l : Launch) (e : Env) (ws : List Cond) (k : Nat) (s : State) (m : MethodId) (av : List Value) (below : List Frame) (meth : Method) (c : Code) (D : va_G) (cI cZ : ClassId) (wd : US → va_W) (A : Nat → Prop) (post : US → Prop) (H : Heap) (locs : List Loc) (g : JFrame) : Prop :=
  W p l e (headSpec ws (rmL k)).room s m av.toArray below meth c H locs 0 0 (MQ below (va_Qv post (gP D cI cZ wd) A) av.toArray s 0 0 A) g
theorem gP_blind {D : va_G} {cI cZ : ClassId} {wd : US → va_W} {u : US} {av : List Value} : FrameBlind (va_Pc av (gP D cI cZ wd u)) := fun a U g mk q => by
  obtain ⟨q0, qP, qK⟩ := q
  exact ⟨q0, qP, va_K.moved (u := U) (U := U.calling g mk a) (Vm.Alike.refl U.vm) qK⟩
def tbR1 (k : Nat) : Int32 := if k = 2 then 1 else 0
def tbR2 (k : Nat) : Int32 := if k = 0 then 3 else if k = 1 then 10 else 63
/-- the two tables that rule looks at -/
def gRules (t1 t2 : Nat) (A : Nat → Prop) (U : State) : Prop := va_Z "FilmBench" "LEAST_RULES" "[I" (.ref t1) A U U.heap ∧ va_T .int t1 3 (fun k => .int (tbR1 k)) A U U.heap ∧ va_Z "FilmBench" "MOST_RULES" "[I" (.ref t2) A U U.heap ∧ va_T .int t2 3 (fun k => .int (tbR2 k)) A U U.heap
section GB
variable {p : Program} {l : Launch} {e : Env} {R : Room} {s : State} {m : MethodId} {args : Array Value} {below : List Frame} {meth : Method} {c : Code} {H : Heap} {locs : List Loc} {cells slots : Nat} {Q : State → Prop}
variable {y : MethodName} {bytes cc : ByteArray} {maxL nL n index k pc b : Nat} {ret : Option FieldType} {ws Ts : List Cond} {own C : String} {As rest st0 : List Value} {ls : Array Slot}
variable {D : va_G} {cI cZ : ClassId} {wd : US → va_W} {A A0 : Nat → Prop} {u : US} {H0 : Heap}
theorem gcallVi' {post : Int32 → US → Prop} (S : CallFix p m c cc nL s args Ts own) (hM : gMi l y ws k D cI cZ wd A (.ref b :: As) u post) (cw : CallW R s args own C index y bytes maxL ret ws (rmL k) 0 0 n) (hrecv : ∃ cell : Cell, H[b]? = some cell ∧ cell.vm.isStatics = false ∧ s.vm.findClass C = some cell.cls)
    (hK : va_K D vwCl (tyB cI cZ) s) (hP : va_P D vwCl (wd u) H) (hS : va_S A0 H0 H locs) (hA : ∀ q, A q → A0 q) (hn : As.length = n) (hl : ls.size = nL) (hst : st0 = As.reverse ++ .ref b :: rest) (hW : (rest.map fun v => v.category).sum ≤ 8) (hdg : decode cc pc = .ok (.invokevirtual index, 3)) (hc : cells ≤ R.cells ∧ slots ≤ R.slots)
    (kk : ∀ (r : Int32) (u' : US) (H1 : Heap) (locs1 : List Loc), post r u' → va_P D vwCl (wd u') H1 → va_S A0 H0 H1 locs1 → (∀ q : Nat, q < H.size → ¬ A q → H1[q]? = H[q]?) → W p l e R s m args below meth c H1 locs1 cells slots Q (F0 m (pc + 3) ls (.int r :: rest))) :
    W p l e R s m args below meth c H locs cells slots Q (F0 m pc ls st0) := by
  refine va_calli (va_runV (As := As) (rest := rest) S hM cw ⟨gP_blind, hrecv, fun U hU hW => ⟨rfl, by rw [hU]; exact hP, va_K.moved hW.alike hK⟩⟩ rfl hn hl hst (lv_room hW) hdg hc) hS (fun q _ h => hA q h) hA (fun r u' t H1 locs1 ht hvm hw hB hz1 hk1 hS => ?_)
  exact kk r u' H1 locs1 hw (by rw [← ht]; exact hB.1) hS hk1
theorem gcallVv' {post : US → Prop} (S : CallFix p m c cc nL s args Ts own) (hM : gMv l y ws k D cI cZ wd A (.ref b :: As) u post) (cw : CallW R s args own C index y bytes maxL ret ws (rmL k) 0 0 n) (hrecv : ∃ cell : Cell, H[b]? = some cell ∧ cell.vm.isStatics = false ∧ s.vm.findClass C = some cell.cls)
    (hK : va_K D vwCl (tyB cI cZ) s) (hP : va_P D vwCl (wd u) H) (hS : va_S A0 H0 H locs) (hA : ∀ q, A q → A0 q) (hn : As.length = n) (hl : ls.size = nL) (hst : st0 = As.reverse ++ .ref b :: rest) (hW : (rest.map fun v => v.category).sum ≤ 8) (hdg : decode cc pc = .ok (.invokevirtual index, 3)) (hc : cells ≤ R.cells ∧ slots ≤ R.slots)
    (kk : ∀ (u' : US) (H1 : Heap) (locs1 : List Loc), post u' → va_P D vwCl (wd u') H1 → va_S A0 H0 H1 locs1 → (∀ q : Nat, q < H.size → ¬ A q → H1[q]? = H[q]?) → W p l e R s m args below meth c H1 locs1 cells slots Q (F0 m (pc + 3) ls rest)) :
    W p l e R s m args below meth c H locs cells slots Q (F0 m pc ls st0) := by
  refine va_callv (va_runV (As := As) (rest := rest) S hM cw ⟨gP_blind, hrecv, fun U hU hW => ⟨rfl, by rw [hU]; exact hP, va_K.moved hW.alike hK⟩⟩ rfl hn hl hst (lv_room hW) hdg hc) hS (fun q _ h => hA q h) hA (fun u' t H1 locs1 ht hvm hw hB hz1 hk1 hS => ?_)
  exact kk u' H1 locs1 hw (by rw [← ht]; exact hB.1) hS hk1
theorem gcallVi {post : Int32 → US → Prop} (S : CallFix p m c cc nL s args Ts own) (hM : gMi l y ws k D cI cZ wd A (.ref b :: As) u post) (cw : CallW R s args own C index y bytes maxL ret ws (rmL k) 0 0 n) (hrecv : ∃ cell : Cell, H[b]? = some cell ∧ cell.vm.isStatics = false ∧ s.vm.findClass C = some cell.cls)
    (hK : va_K D vwCl (tyB cI cZ) s) (hP : va_P D vwCl (wd u) H) (hS : va_S A H0 H locs) (hn : As.length = n) (hl : ls.size = nL) (hst : st0 = As.reverse ++ .ref b :: rest) (hW : (rest.map fun v => v.category).sum ≤ 8) (hdg : decode cc pc = .ok (.invokevirtual index, 3)) (hc : cells ≤ R.cells ∧ slots ≤ R.slots)
    (kk : ∀ (r : Int32) (u' : US) (H1 : Heap) (locs1 : List Loc), post r u' → va_P D vwCl (wd u') H1 → va_S A H0 H1 locs1 → W p l e R s m args below meth c H1 locs1 cells slots Q (F0 m (pc + 3) ls (.int r :: rest))) :
    W p l e R s m args below meth c H locs cells slots Q (F0 m pc ls st0) :=
  gcallVi' S hM cw hrecv hK hP hS (fun _ h => h) hn hl hst hW hdg hc (fun r u' H1 locs1 h1 h2 h3 _ => kk r u' H1 locs1 h1 h2 h3)
theorem gcallVv {post : US → Prop} (S : CallFix p m c cc nL s args Ts own) (hM : gMv l y ws k D cI cZ wd A (.ref b :: As) u post) (cw : CallW R s args own C index y bytes maxL ret ws (rmL k) 0 0 n) (hrecv : ∃ cell : Cell, H[b]? = some cell ∧ cell.vm.isStatics = false ∧ s.vm.findClass C = some cell.cls)
    (hK : va_K D vwCl (tyB cI cZ) s) (hP : va_P D vwCl (wd u) H) (hS : va_S A H0 H locs) (hn : As.length = n) (hl : ls.size = nL) (hst : st0 = As.reverse ++ .ref b :: rest) (hW : (rest.map fun v => v.category).sum ≤ 8) (hdg : decode cc pc = .ok (.invokevirtual index, 3)) (hc : cells ≤ R.cells ∧ slots ≤ R.slots)
    (kk : ∀ (u' : US) (H1 : Heap) (locs1 : List Loc), post u' → va_P D vwCl (wd u') H1 → va_S A H0 H1 locs1 → W p l e R s m args below meth c H1 locs1 cells slots Q (F0 m (pc + 3) ls rest)) :
    W p l e R s m args below meth c H locs cells slots Q (F0 m pc ls st0) :=
  gcallVv' S hM cw hrecv hK hP hS (fun _ h => h) hn hl hst hW hdg hc (fun u' H1 locs1 h1 h2 h3 _ => kk u' H1 locs1 h1 h2 h3)
theorem gcallSi {post : Int32 → US → Prop} (S : CallFix p m c cc nL s args Ts own) (hM : gMi l y ws k D cI cZ wd A As u post) (cw : CallB R s args own index y bytes maxL ret ws (rmL k) 0 0 n ∧ (Cond.static y).before args s = true)
    (hK : va_K D vwCl (tyB cI cZ) s) (hP : va_P D vwCl (wd u) H) (hS : va_S A H0 H locs) (hn : As.length = n) (hl : ls.size = nL) (hst : st0 = As.reverse ++ rest) (hW : (rest.map fun v => v.category).sum ≤ 8) (hdg : decode cc pc = .ok (.invokestatic index, 3)) (hc : cells ≤ R.cells ∧ slots ≤ R.slots)
    (kk : ∀ (r : Int32) (u' : US) (H1 : Heap) (locs1 : List Loc), post r u' → va_P D vwCl (wd u') H1 → va_S A H0 H1 locs1 → W p l e R s m args below meth c H1 locs1 cells slots Q (F0 m (pc + 3) ls (.int r :: rest))) :
    W p l e R s m args below meth c H locs cells slots Q (F0 m pc ls st0) := by
  refine va_calli (va_runS (As := As) (rest := rest) S hM cw ⟨gP_blind, fun U hU hW => ⟨rfl, by rw [hU]; exact hP, va_K.moved hW.alike hK⟩⟩ rfl hn hl hst (lv_room hW) hdg hc) hS (fun q _ h => h) (fun _ h => h) (fun r u' t H1 locs1 ht hvm hw hB hz1 hk1 hS => ?_)
  exact kk r u' H1 locs1 hw (by rw [← ht]; exact hB.1) hS
theorem giret {post : Int32 → US → Prop} {av : List Value} {v : Int32} (hx : p.tables.exec = Jvm.exec) (hb : c.code = cc) (hr : meth.sig.returnType = some .int) (hlocks : meth.locks = false) (hK : va_K D vwCl (tyB cI cZ) s) (hP : va_P D vwCl (wd u) H) (hS : va_S A s.heap H locs) (h : post v u) (hdg : decode cc pc = .ok (.ireturn, 1)) :
    gWi p l e ws k s m av below meth c D cI cZ wd A post H locs (F0 m pc ls [.int v]) :=
  W.iret (v := v) hx hb hr (fun t ht hW => ⟨⟨v, u, rfl, h, by rw [ht]; exact hP, va_K.moved hW.alike hK⟩, hS.F ht⟩) hS.2.2 hdg hlocks
theorem gzret {post : Int32 → US → Prop} {av : List Value} {v : Int32} (hx : p.tables.exec = Jvm.exec) (hb : c.code = cc) (hr : meth.sig.returnType = some .boolean) (hlocks : meth.locks = false) (hK : va_K D vwCl (tyB cI cZ) s) (hP : va_P D vwCl (wd u) H) (hS : va_S A s.heap H locs) (hv : isB v) (h : post v u) (hdg : decode cc pc = .ok (.ireturn, 1)) :
    gWi p l e ws k s m av below meth c D cI cZ wd A post H locs (F0 m pc ls [.int v]) :=
  W.zret (v := v) hx hb hr hv (fun t ht hW => ⟨⟨v, u, rfl, h, by rw [ht]; exact hP, va_K.moved hW.alike hK⟩, hS.F ht⟩) hS.2.2 hdg hlocks
theorem gvret {post : US → Prop} {av : List Value} (hx : p.tables.exec = Jvm.exec) (hb : c.code = cc) (hr : meth.sig.returnType = none) (hlocks : meth.locks = false) (hK : va_K D vwCl (tyB cI cZ) s) (hP : va_P D vwCl (wd u) H) (hS : va_S A s.heap H locs) (h : post u) (hdg : decode cc pc = .ok (.return_, 1)) :
    gWv p l e ws k s m av below meth c D cI cZ wd A post H locs (F0 m pc ls []) :=
  W.vret hx hb hr (fun t ht hW => ⟨⟨u, rfl, h, by rw [ht]; exact hP, va_K.moved hW.alike hK⟩, hS.F ht⟩) hS.2.2 hdg hlocks
theorem gmax {x z : Int32} (hx : p.tables.exec = Jvm.exec) (hb : c.code = cc) (hml : c.maxLocals = ls.size) (hown : s.vm.findClass own = some m.cls) (hts : ∀ w ∈ Ts, w.before args s = true) (hi : [Cond.methodLink own index Lib.Math.max.name, Cond.static Lib.Math.max.name, Cond.initialized "java/lang/Math", Cond.code Lib.Math.max.name Lib.Math.max.code 2 (some .int)].all (fun w => decide (w ∈ Ts)) = true) (hf : 1 ≤ R.frames) (hlo : (rest.map fun v => v.category).sum + 13 ≤ R.locals) (hc : cells ≤ R.cells) (hs : slots ≤ R.slots) (hdg : decode cc pc = .ok (.invokestatic index, 3))
    (kk : W p l e R s m args below meth c H locs cells slots Q (F0 m (pc + 3) ls (.int (jmax x z) :: rest))) : W p l e R s m args below meth c H locs cells slots Q (F0 m pc ls (.int z :: .int x :: rest)) := by
  simp only [List.all_cons, List.all_nil, Bool.and_true, Bool.and_eq_true, decide_eq_true_eq] at hi
  exact va_mmax hx hb hml hown (hts _ hi.1) (hts _ hi.2.1) (hts _ hi.2.2.1) (hts _ hi.2.2.2) hf hlo hc hs hdg kk
theorem gmin {x z : Int32} (hx : p.tables.exec = Jvm.exec) (hb : c.code = cc) (hml : c.maxLocals = ls.size) (hown : s.vm.findClass own = some m.cls) (hts : ∀ w ∈ Ts, w.before args s = true) (hi : [Cond.methodLink own index Lib.Math.min.name, Cond.static Lib.Math.min.name, Cond.initialized "java/lang/Math", Cond.code Lib.Math.min.name Lib.Math.min.code 2 (some .int)].all (fun w => decide (w ∈ Ts)) = true) (hf : 1 ≤ R.frames) (hlo : (rest.map fun v => v.category).sum + 13 ≤ R.locals) (hc : cells ≤ R.cells) (hs : slots ≤ R.slots) (hdg : decode cc pc = .ok (.invokestatic index, 3))
    (kk : W p l e R s m args below meth c H locs cells slots Q (F0 m (pc + 3) ls (.int (jmin x z) :: rest))) : W p l e R s m args below meth c H locs cells slots Q (F0 m pc ls (.int z :: .int x :: rest)) := by
  simp only [List.all_cons, List.all_nil, Bool.and_true, Bool.and_eq_true, decide_eq_true_eq] at hi
  exact va_mmin hx hb hml hown (hts _ hi.1) (hts _ hi.2.1) (hts _ hi.2.2.1) (hts _ hi.2.2.2) hf hlo hc hs hdg kk
theorem gabs {x : Int32} (hx : p.tables.exec = Jvm.exec) (hb : c.code = cc) (hml : c.maxLocals = ls.size) (hown : s.vm.findClass own = some m.cls) (hts : ∀ w ∈ Ts, w.before args s = true) (hi : [Cond.methodLink own index Lib.Math.abs.name, Cond.static Lib.Math.abs.name, Cond.initialized "java/lang/Math", Cond.code Lib.Math.abs.name Lib.Math.abs.code 1 (some .int)].all (fun w => decide (w ∈ Ts)) = true) (hf : 1 ≤ R.frames) (hlo : (rest.map fun v => v.category).sum + 13 ≤ R.locals) (hc : cells ≤ R.cells) (hs : slots ≤ R.slots) (hdg : decode cc pc = .ok (.invokestatic index, 3))
    (kk : W p l e R s m args below meth c H locs cells slots Q (F0 m (pc + 3) ls (.int (jabs x) :: rest))) : W p l e R s m args below meth c H locs cells slots Q (F0 m pc ls (.int x :: rest)) := by
  simp only [List.all_cons, List.all_nil, Bool.and_true, Bool.and_eq_true, decide_eq_true_eq] at hi
  exact va_mabs hx hb hml hown (hts _ hi.1) (hts _ hi.2.1) (hts _ hi.2.2.1) (hts _ hi.2.2.2) hf hlo hc hs hdg kk
/-- a row copied over another one: what is asked of its numbers -/
def gcpOk (n0 n1 : Nat) (sp dp n : Int32) : Prop := ¬ sp < 0 ∧ ¬ dp < 0 ∧ ¬ n < 0 ∧ sp.toNatClampNeg + n.toNatClampNeg ≤ n0 ∧ dp.toNatClampNeg + n.toNatClampNeg ≤ n1
def gcp (f g : Nat → Int32) (sp dp n : Int32) : Nat → Int32 := va_cpy f g sp.toNatClampNeg dp.toNatClampNeg n.toNatClampNeg
theorem gcopy {W0 : va_W} (hx : p.tables.exec = Jvm.exec) (hb : c.code = cc) (hml : c.maxLocals = ls.size) (hown : s.vm.findClass own = some m.cls) (hts : ∀ w ∈ Ts, w.before args s = true) (hi : [Cond.methodLink own index arraycopyName, Cond.native arraycopyName, Cond.static arraycopyName, Cond.initialized "java/lang/System"].all (fun w => decide (w ∈ Ts)) = true)
    (hK : va_K D vwCl (tyB cI cZ) s) (hP : va_P D vwCl W0 H) (hD : va_D A W0) (hS : va_S A H0 H locs) (q0 q1 : Nat) {a0 a1 n0 n1 : Nat} {f g : Nat → Int32} (ha0 : W0[q0]? = some (a0, .inl (cI, n0, .inl f))) (ha1 : W0[q1]? = some (a1, .inl (cI, n1, .inl g)))
    {sp dp n : Int32} (hk : gcpOk n0 n1 sp dp n) (hframes : 1 ≤ R.frames) (hlocals : (rest.map fun v => v.category).sum + (nativeFrameWords "java/lang/System" "arraycopy" 5 + 11) ≤ R.locals) (hdg : decode cc pc = .ok (.invokestatic index, 3))
    (kk : ∀ (H1 : Heap) (locs1 : List Loc), va_P D vwCl (W0.set q1 (a1, .inl (cI, n1, .inl (gcp f g sp dp n)))) H1 → va_S A H0 H1 locs1 → W p l e R s m args below meth c H1 locs1 cells slots Q (F0 m (pc + 3) ls rest)) :
    W p l e R s m args below meth c H locs cells slots Q (F0 m pc ls (.int n :: .int dp :: .ref a1 :: .int sp :: .ref a0 :: rest)) := by
  simp only [List.all_cons, List.all_nil, Bool.and_true, Bool.and_eq_true, decide_eq_true_eq] at hi
  obtain ⟨k1, k2, k3, k4, k5⟩ := hk
  exact va_copyi hx hb hml hown (hts _ hi.1) (hts _ hi.2.1) (hts _ hi.2.2.1) (hts _ hi.2.2.2) hK hP hD hS q0 q1 0 0 ha0 ha1 rfl rfl rfl k1 k2 k3 k4 k5 (fun _ _ => rfl) hframes hlocals hdg (fun H1 locs1 h1 _ h3 => kk H1 locs1 h1 h3)
end GB
