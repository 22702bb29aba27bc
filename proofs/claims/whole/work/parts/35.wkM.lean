set_option maxRecDepth 100000 in
set_option maxHeartbeats 4000000 in
theorem c_X6_moved (l : Launch) (D : va_G) (cI cZ : ClassId) (adr : Nat → Nat) (A : Nat → Prop) (hD : ∀ u, va_D A (mw adr cI cZ u)) (p1 : Int32) (p2 : Int32) (u : US) (post : Int32 → US → Prop) (h : wp_X6_moved p1 p2 u post) : gMi l yX6_moved wsX6_moved 2 D cI cZ (mw adr cI cZ) A [.ref (adr 0), .int p1, .int p2] u post := by
  refine Met.ofW (cc := cX6_moved) (maxL := 5) (ret := (some .int)) (by decide) rfl ?_
  intro p e s m args below meth c s₁ B hml hv
  obtain ⟨rfl, hP, hK⟩ := hv
  have hx := B.exec
  have hb := B.bytes
  have hr := B.returns
  have hts := atoms_spec (ws := wsX6_moved) B.pre
  have hown : s.vm.findClass RX6 = some m.cls := findClass_of_methodNamed B.named
  have hlocks := B.notSynchronized
  have hinX6 : ∀ w ∈ wsX60, w ∈ wsX6_moved := by decide +kernel
  have hS : va_S A s.heap s.heap [] := va_S.rf
  have hl := lv_entry ([.ref (adr 0), .int p1, .int p2]) (n := 5) (Nat.le_of_ble_eq_true rfl)
  rw [lg_entry_eq]
  generalize (lg_sl ([.ref (adr 0), .int p1, .int p2]) ++ List.replicate (5 - (lg_sl ([.ref (adr 0), .int p1, .int p2])).length) Slot.unset).toArray = ls at hl ⊢
  replace hl : lv_has ls 5 [(0, .ref (adr 0)), (1, .int p1), (2, .int p2)] := hl
  refine lv_iload_n hx hb dX6_moved_0 rfl (lv_at hl 2 rfl) ?_
  refine lv_aload_n hx hb dX6_moved_1 rfl (lv_at hl 0 rfl) ?_
  refine mwg_0_1 (v := (u.1 1)) hx hb hts hinX6 hown hK hP (hts (.fieldLink RX6 13 "FilmBenchModel" "wide" "I") (by decide +kernel)) dX6_moved_2 rfl ?_
  refine lv_idiv hx hb dX6_moved_5 h.1 ?_
  have h := h.2
  refine lv_aload_n hx hb dX6_moved_6 rfl (lv_at hl 0 rfl) ?_
  refine mwg_0_8 hx hb hts hinX6 hown hK hP (hts (.fieldLink RX6 29 "FilmBenchModel" "second" "[I") (by decide +kernel)) dX6_moved_7 ?_
  refine lv_iload_n hx hb dX6_moved_10 rfl (lv_at hl 1 rfl) ?_
  refine mwl_8 (v := ((u.2 8) p1.toNatClampNeg)) hx hb hK hP h.1 dX6_moved_11 rfl ?_
  have h := h.2
  refine lv_isub hx hb dX6_moved_12 ?_
  refine lv_istore_n (lv' := [(3, .int ((p2 / (u.1 1)) - ((u.2 8) p1.toNatClampNeg))), (0, .ref (adr 0)), (1, .int p1), (2, .int p2)]) hx hb dX6_moved_13 rfl hl (by decide) rfl (fun ls hl => ?_)
  refine lv_iload_n hx hb dX6_moved_14 rfl (lv_at hl 3 rfl) ?_
  refine lv_aload_n hx hb dX6_moved_15 rfl (lv_at hl 1 rfl) ?_
  refine mwg_0_1 (v := (u.1 1)) hx hb hts hinX6 hown hK hP (hts (.fieldLink RX6 13 "FilmBenchModel" "wide" "I") (by decide +kernel)) dX6_moved_16 rfl ?_
  refine lv_irem hx hb dX6_moved_19 h.1 ?_
  have h := h.2
  refine lv_aload_n hx hb dX6_moved_20 rfl (lv_at hl 1 rfl) ?_
  refine mwg_0_7 hx hb hts hinX6 hown hK hP (hts (.fieldLink RX6 26 "FilmBenchModel" "first" "[I") (by decide +kernel)) dX6_moved_21 ?_
  refine lv_iload_n hx hb dX6_moved_24 rfl (lv_at hl 2 rfl) ?_
  refine mwl_7 (v := ((u.2 7) p1.toNatClampNeg)) hx hb hK hP h.1 dX6_moved_25 rfl ?_
  have h := h.2
  refine lv_isub hx hb dX6_moved_26 ?_
  refine lv_istore (lv' := [(4, .int ((p2 - p2 / (u.1 1) * (u.1 1)) - ((u.2 7) p1.toNatClampNeg))), (3, .int ((p2 / (u.1 1)) - ((u.2 8) p1.toNatClampNeg))), (0, .ref (adr 0)), (1, .int p1), (2, .int p2)]) hx hb dX6_moved_27 hl (by decide) rfl (fun ls hl => ?_)
  refine lv_aload_n hx hb dX6_moved_29 rfl (lv_at hl 2 rfl) ?_
  refine lv_iload_n hx hb dX6_moved_30 rfl (lv_at hl 1 rfl) ?_
  refine lv_iload hx hb dX6_moved_31 (lv_at hl 0 rfl) ?_
  refine gcallVi (As := [.int ((p2 / (u.1 1)) - ((u.2 8) p1.toNatClampNeg)), .int ((p2 - p2 / (u.1 1) * (u.1 1)) - ((u.2 7) p1.toNatClampNeg))]) (rest := []) ⟨hx, hb, hml, hown, hts⟩ (c_X6_isSquare l D cI cZ adr A hD ((p2 / (u.1 1)) - ((u.2 8) p1.toNatClampNeg)) ((p2 - p2 / (u.1 1) * (u.1 1)) - ((u.2 7) p1.toNatClampNeg)) u _ h) (cwV 2 hts gX6_moved_X6_isSquare rfl rfl rfl (by decide +kernel) ⟨Nat.le_of_ble_eq_true rfl, Nat.le_of_ble_eq_true rfl⟩) (va_recv hK hP (ci := 6) (q0 := 0) rfl rfl) hK hP hS rfl hl.1 rfl (Nat.le_of_ble_eq_true rfl) dX6_moved_33 ⟨Nat.le_refl _, Nat.le_refl _⟩ (fun r33 u33 H locs h hP hS => ?_)
  refine lv_if_eq (tgt := 56) hx hb dX6_moved_36 (by decide) (fun hc => ?_) (fun hc => ?_)
  · have h := h.1 hc
    refine lv_iconst (v := (-1 : Int32)) hx hb dX6_moved_56 (by decide) ?_
    exact giret hx hb hr hlocks hK hP hS h dX6_moved_57
  · have h := h.2 hc
    refine lv_aload_n hx hb dX6_moved_39 rfl (lv_at hl 2 rfl) ?_
    refine mwg_0_32 hx hb hts hinX6 hown hK hP (hts (.fieldLink RX6 69 "FilmBenchModel" "was" "[I") (by decide +kernel)) dX6_moved_40 ?_
    refine lv_aload_n hx hb dX6_moved_43 rfl (lv_at hl 2 rfl) ?_
    refine mwg_0_1 (v := (u33.1 1)) hx hb hts hinX6 hown hK hP (hts (.fieldLink RX6 13 "FilmBenchModel" "wide" "I") (by decide +kernel)) dX6_moved_44 rfl ?_
    refine lv_iload_n hx hb dX6_moved_47 rfl (lv_at hl 1 rfl) ?_
    refine lv_imul hx hb dX6_moved_48 ?_
    refine lv_iload hx hb dX6_moved_49 (lv_at hl 0 rfl) ?_
    refine lv_iadd hx hb dX6_moved_51 ?_
    refine mwl_32 (v := ((u33.2 32) (((u33.1 1) * ((p2 / (u.1 1)) - ((u.2 8) p1.toNatClampNeg))) + ((p2 - p2 / (u.1 1) * (u.1 1)) - ((u.2 7) p1.toNatClampNeg))).toNatClampNeg)) hx hb hK hP h.1 dX6_moved_52 rfl ?_
    have h := h.2
    refine lv_goto (tgt := 57) hx hb dX6_moved_53 (by decide) ?_
    exact giret hx hb hr hlocks hK hP hS h dX6_moved_57
set_option maxRecDepth 100000 in
set_option maxHeartbeats 4000000 in
theorem c_X6_goes (l : Launch) (D : va_G) (cI cZ : ClassId) (adr : Nat → Nat) (A : Nat → Prop) (hD : ∀ u, va_D A (mw adr cI cZ u)) (p1 : Int32) (u : US) (post : Int32 → US → Prop) (h : wp_X6_goes p1 u post) : gMi l yX6_goes wsX6_goes 3 D cI cZ (mw adr cI cZ) A [.ref (adr 0), .int p1] u post := by
  refine Met.ofW (cc := cX6_goes) (maxL := 6) (ret := (some .int)) (by decide) rfl ?_
  intro p e s m args below meth c s₁ B hml hv
  obtain ⟨rfl, hP, hK⟩ := hv
  have hx := B.exec
  have hb := B.bytes
  have hr := B.returns
  have hts := atoms_spec (ws := wsX6_goes) B.pre
  have hown : s.vm.findClass RX6 = some m.cls := findClass_of_methodNamed B.named
  have hlocks := B.notSynchronized
  have hinX6 : ∀ w ∈ wsX60, w ∈ wsX6_goes := by decide +kernel
  have hS : va_S A s.heap s.heap [] := va_S.rf
  have L208 : ∀ (k49 : Int32 → Int32 → Int32 → Int32 → US → Prop) (hk49 : ∀ (x1 : Int32) (x2 : Int32) (x3 : Int32) (x4 : Int32) (u : US) (H : Heap) (locs : List Loc) (ls : Array Slot), lv_has ls 6 [(0, .ref (adr 0)), (1, .int x1), (2, .int x2), (3, .int x3), (4, .int x4)] → va_P D vwCl (mw adr cI cZ u) H → va_S A s.heap H locs → k49 x1 x2 x3 x4 u → gWi p l e wsX6_goes 3 s m [.ref (adr 0), .int p1] below meth c D cI cZ (mw adr cI cZ) A post H locs (F0 m 49 ls [])), ∀ (x1 : Int32) (x2 : Int32) (x3 : Int32) (x4 : Int32) (x5 : Int32) (u : US) (H : Heap) (locs : List Loc) (ls : Array Slot), lv_has ls 6 [(0, .ref (adr 0)), (1, .int x1), (2, .int x2), (3, .int x3), (4, .int x4), (5, .int x5)] → va_P D vwCl (mw adr cI cZ u) H → va_S A s.heap H locs → wp_X6_goes_208 k49 post x1 x2 x3 x4 x5 u → gWi p l e wsX6_goes 3 s m [.ref (adr 0), .int p1] below meth c D cI cZ (mw adr cI cZ) A post H locs (F0 m 208 ls []) := by
    intro k49 hk49 x1 x2 x3 x4 x5 u H locs ls hl hP hS h
    refine lv_aload_n hx hb dX6_goes_208 rfl (lv_at hl 0 rfl) ?_
    refine mwg_0_31 hx hb hts hinX6 hown hK hP (hts (.fieldLink RX6 66 "FilmBenchModel" "made" "[I") (by decide +kernel)) dX6_goes_209 ?_
    refine lv_iload hx hb dX6_goes_212 (lv_at hl 4 rfl) ?_
    refine lv_iload hx hb dX6_goes_214 (lv_at hl 5 rfl) ?_
    refine mws_31 hx hb hK hP (hD _) hS h.1 dX6_goes_216 (fun H locs hP hS => ?_)
    have h := h.2
    refine lv_iload_n hx hb dX6_goes_217 rfl (lv_at hl 3 rfl) ?_
    refine lv_iload hx hb dX6_goes_218 (lv_at hl 5 rfl) ?_
    refine lv_aload_n hx hb dX6_goes_220 rfl (lv_at hl 0 rfl) ?_
    refine mwg_0_32 hx hb hts hinX6 hown hK hP (hts (.fieldLink RX6 69 "FilmBenchModel" "was" "[I") (by decide +kernel)) dX6_goes_221 ?_
    refine lv_iload hx hb dX6_goes_224 (lv_at hl 4 rfl) ?_
    refine mwl_32 (v := ((u.2 32) x4.toNatClampNeg)) hx hb hK hP h.1 dX6_goes_226 rfl ?_
    have h := h.2
    refine lv_icmp_eq (tgt := 234) hx hb dX6_goes_227 (by decide) (fun hc => ?_) (fun hc => ?_)
    · have h := h.1 hc
      refine lv_iconst (v := (0 : Int32)) hx hb dX6_goes_234 (by decide) ?_
      refine lv_iadd hx hb dX6_goes_235 ?_
      refine lv_istore_n (lv' := [(3, .int (x3 + (0 : Int32))), (0, .ref (adr 0)), (1, .int x1), (2, .int x2), (4, .int x4), (5, .int x5)]) hx hb dX6_goes_236 rfl hl (by decide) rfl (fun ls hl => ?_)
      refine lv_iinc (v := (x4 + 1)) (lv' := [(4, .int (x4 + 1)), (3, .int (x3 + (0 : Int32))), (0, .ref (adr 0)), (1, .int x1), (2, .int x2), (5, .int x5)]) hx hb dX6_goes_237 hl (k := 4) rfl (congrArg (HAdd.hAdd _) (show Int32.ofInt (1) = (1 : Int32) by decide)) (by decide) rfl (fun ls hl => ?_)
      refine lv_goto (tgt := 49) hx hb dX6_goes_240 (by decide) ?_
      exact hk49 x1 x2 (x3 + (0 : Int32)) (x4 + 1) (sA u 31 (upd (u.2 31) x4.toNatClampNeg x5)) _ _ _ (lv_sub hl [2, 3, 4, 1, 0] rfl) hP hS h
    · have h := h.2 hc
      refine lv_iconst (v := (1 : Int32)) hx hb dX6_goes_230 (by decide) ?_
      refine lv_goto (tgt := 235) hx hb dX6_goes_231 (by decide) ?_
      refine lv_iadd hx hb dX6_goes_235 ?_
      refine lv_istore_n (lv' := [(3, .int (x3 + (1 : Int32))), (0, .ref (adr 0)), (1, .int x1), (2, .int x2), (4, .int x4), (5, .int x5)]) hx hb dX6_goes_236 rfl hl (by decide) rfl (fun ls hl => ?_)
      refine lv_iinc (v := (x4 + 1)) (lv' := [(4, .int (x4 + 1)), (3, .int (x3 + (1 : Int32))), (0, .ref (adr 0)), (1, .int x1), (2, .int x2), (5, .int x5)]) hx hb dX6_goes_237 hl (k := 4) rfl (congrArg (HAdd.hAdd _) (show Int32.ofInt (1) = (1 : Int32) by decide)) (by decide) rfl (fun ls hl => ?_)
      refine lv_goto (tgt := 49) hx hb dX6_goes_240 (by decide) ?_
      exact hk49 x1 x2 (x3 + (1 : Int32)) (x4 + 1) (sA u 31 (upd (u.2 31) x4.toNatClampNeg x5)) _ _ _ (lv_sub hl [2, 3, 4, 1, 0] rfl) hP hS h
  have L107 : ∀ (k49 : Int32 → Int32 → Int32 → Int32 → US → Prop) (hk49 : ∀ (x1 : Int32) (x2 : Int32) (x3 : Int32) (x4 : Int32) (u : US) (H : Heap) (locs : List Loc) (ls : Array Slot), lv_has ls 6 [(0, .ref (adr 0)), (1, .int x1), (2, .int x2), (3, .int x3), (4, .int x4)] → va_P D vwCl (mw adr cI cZ u) H → va_S A s.heap H locs → k49 x1 x2 x3 x4 u → gWi p l e wsX6_goes 3 s m [.ref (adr 0), .int p1] below meth c D cI cZ (mw adr cI cZ) A post H locs (F0 m 49 ls [])), ∀ (s0 : Int32) (x1 : Int32) (x2 : Int32) (x3 : Int32) (x4 : Int32) (u : US) (H : Heap) (locs : List Loc) (ls : Array Slot), lv_has ls 6 [(0, .ref (adr 0)), (1, .int x1), (2, .int x2), (3, .int x3), (4, .int x4)] → va_P D vwCl (mw adr cI cZ u) H → va_S A s.heap H locs → wp_X6_goes_107 k49 post s0 x1 x2 x3 x4 u → gWi p l e wsX6_goes 3 s m [.ref (adr 0), .int p1] below meth c D cI cZ (mw adr cI cZ) A post H locs (F0 m 107 ls [.int s0]) := by
    intro k49 hk49 s0 x1 x2 x3 x4 u H locs ls hl hP hS h
    refine lv_istore (lv' := [(5, .int s0), (0, .ref (adr 0)), (1, .int x1), (2, .int x2), (3, .int x3), (4, .int x4)]) hx hb dX6_goes_107 hl (by decide) rfl (fun ls hl => ?_)
    refine lv_goto (tgt := 208) hx hb dX6_goes_109 (by decide) ?_
    exact L208 _ hk49 x1 x2 x3 x4 s0 u _ _ _ (lv_sub hl [1, 2, 3, 4, 5, 0] rfl) hP hS h
  have L194 : ∀ (k49 : Int32 → Int32 → Int32 → Int32 → US → Prop) (hk49 : ∀ (x1 : Int32) (x2 : Int32) (x3 : Int32) (x4 : Int32) (u : US) (H : Heap) (locs : List Loc) (ls : Array Slot), lv_has ls 6 [(0, .ref (adr 0)), (1, .int x1), (2, .int x2), (3, .int x3), (4, .int x4)] → va_P D vwCl (mw adr cI cZ u) H → va_S A s.heap H locs → k49 x1 x2 x3 x4 u → gWi p l e wsX6_goes 3 s m [.ref (adr 0), .int p1] below meth c D cI cZ (mw adr cI cZ) A post H locs (F0 m 49 ls [])), ∀ (s0 : Int32) (x1 : Int32) (x2 : Int32) (x3 : Int32) (x4 : Int32) (u : US) (H : Heap) (locs : List Loc) (ls : Array Slot), lv_has ls 6 [(0, .ref (adr 0)), (1, .int x1), (2, .int x2), (3, .int x3), (4, .int x4)] → va_P D vwCl (mw adr cI cZ u) H → va_S A s.heap H locs → wp_X6_goes_194 k49 post s0 x1 x2 x3 x4 u → gWi p l e wsX6_goes 3 s m [.ref (adr 0), .int p1] below meth c D cI cZ (mw adr cI cZ) A post H locs (F0 m 194 ls [.int s0]) := by
    intro k49 hk49 s0 x1 x2 x3 x4 u H locs ls hl hP hS h
    refine lv_istore (lv' := [(5, .int s0), (0, .ref (adr 0)), (1, .int x1), (2, .int x2), (3, .int x3), (4, .int x4)]) hx hb dX6_goes_194 hl (by decide) rfl (fun ls hl => ?_)
    refine lv_goto (tgt := 208) hx hb dX6_goes_196 (by decide) ?_
    exact L208 _ hk49 x1 x2 x3 x4 s0 u _ _ _ (lv_sub hl [1, 2, 3, 4, 5, 0] rfl) hP hS h
  have L49 : ∀ (n : Nat), ∀ (x1 : Int32) (x2 : Int32) (x3 : Int32) (x4 : Int32) (u : US) (H : Heap) (locs : List Loc) (ls : Array Slot), lv_has ls 6 [(0, .ref (adr 0)), (1, .int x1), (2, .int x2), (3, .int x3), (4, .int x4)] → va_P D vwCl (mw adr cI cZ u) H → va_S A s.heap H locs → wp_X6_goes_49  post n x1 x2 x3 x4 u → gWi p l e wsX6_goes 3 s m [.ref (adr 0), .int p1] below meth c D cI cZ (mw adr cI cZ) A post H locs (F0 m 49 ls []) := by
    intro  n
    induction n with
    | zero => intro x1 x2 x3 x4 u H locs ls hl hP hS h; exact False.elim h
    | succ n ih =>
      intro x1 x2 x3 x4 u H locs ls hl hP hS h
      refine lv_iload hx hb dX6_goes_49 (lv_at hl 4 rfl) ?_
      refine lv_aload_n hx hb dX6_goes_51 rfl (lv_at hl 0 rfl) ?_
      refine mwg_0_0 (v := (u.1 0)) hx hb hts hinX6 hown hK hP (hts (.fieldLink RX6 7 "FilmBenchModel" "high" "I") (by decide +kernel)) dX6_goes_52 rfl ?_
      refine lv_aload_n hx hb dX6_goes_55 rfl (lv_at hl 0 rfl) ?_
      refine mwg_0_1 (v := (u.1 1)) hx hb hts hinX6 hown hK hP (hts (.fieldLink RX6 13 "FilmBenchModel" "wide" "I") (by decide +kernel)) dX6_goes_56 rfl ?_
      refine lv_imul hx hb dX6_goes_59 ?_
      refine lv_icmp_ge (tgt := 243) hx hb dX6_goes_60 (by decide) (fun hc => ?_) (fun hc => ?_)
      · have h := h.1 hc
        refine lv_iload_n hx hb dX6_goes_243 rfl (lv_at hl 3 rfl) ?_
        exact giret hx hb hr hlocks hK hP hS h dX6_goes_244
      · have h := h.2 hc
        refine lv_aload_n hx hb dX6_goes_63 rfl (lv_at hl 0 rfl) ?_
        refine mwg_0_32 hx hb hts hinX6 hown hK hP (hts (.fieldLink RX6 69 "FilmBenchModel" "was" "[I") (by decide +kernel)) dX6_goes_64 ?_
        refine lv_iload hx hb dX6_goes_67 (lv_at hl 4 rfl) ?_
        refine mwl_32 (v := ((u.2 32) x4.toNatClampNeg)) hx hb hK hP h.1 dX6_goes_69 rfl ?_
        have h := h.2
        refine lv_istore (lv' := [(5, .int ((u.2 32) x4.toNatClampNeg)), (0, .ref (adr 0)), (1, .int x1), (2, .int x2), (3, .int x3), (4, .int x4)]) hx hb dX6_goes_70 hl (by decide) rfl (fun ls hl => ?_)
        refine lv_aload_n hx hb dX6_goes_72 rfl (lv_at hl 1 rfl) ?_
        refine mwg_0_5 hx hb hts hinX6 hown hK hP (hts (.fieldLink RX6 20 "FilmBenchModel" "kind" "[I") (by decide +kernel)) dX6_goes_73 ?_
        refine lv_iload_n hx hb dX6_goes_76 rfl (lv_at hl 2 rfl) ?_
        refine mwl_5 (v := ((u.2 5) x1.toNatClampNeg)) hx hb hK hP h.1 dX6_goes_77 rfl ?_
        have h := h.2
        refine lv_if_ne (tgt := 112) hx hb dX6_goes_78 (by decide) (fun hc => ?_) (fun hc => ?_)
        · have h := h.2 hc
          refine lv_aload_n hx hb dX6_goes_112 rfl (lv_at hl 1 rfl) ?_
          refine mwg_0_5 hx hb hts hinX6 hown hK hP (hts (.fieldLink RX6 20 "FilmBenchModel" "kind" "[I") (by decide +kernel)) dX6_goes_113 ?_
          refine lv_iload_n hx hb dX6_goes_116 rfl (lv_at hl 2 rfl) ?_
          refine mwl_5 (v := ((u.2 5) x1.toNatClampNeg)) hx hb hK hP h.1 dX6_goes_117 rfl ?_
          have h := h.2
          refine lv_iconst (v := (1 : Int32)) hx hb dX6_goes_118 (by decide) ?_
          refine lv_icmp_ne (tgt := 139) hx hb dX6_goes_119 (by decide) (fun hc => ?_) (fun hc => ?_)
          · have h := h.2 hc
            refine lv_aload_n hx hb dX6_goes_139 rfl (lv_at hl 1 rfl) ?_
            refine mwg_0_5 hx hb hts hinX6 hown hK hP (hts (.fieldLink RX6 20 "FilmBenchModel" "kind" "[I") (by decide +kernel)) dX6_goes_140 ?_
            refine lv_iload_n hx hb dX6_goes_143 rfl (lv_at hl 2 rfl) ?_
            refine mwl_5 (v := ((u.2 5) x1.toNatClampNeg)) hx hb hK hP h.1 dX6_goes_144 rfl ?_
            have h := h.2
            refine lv_iconst (v := (2 : Int32)) hx hb dX6_goes_145 (by decide) ?_
            refine lv_icmp_ne (tgt := 199) hx hb dX6_goes_146 (by decide) (fun hc => ?_) (fun hc => ?_)
            · have h := h.2 hc
              refine lv_aload_n hx hb dX6_goes_199 rfl (lv_at hl 1 rfl) ?_
              refine lv_iload_n hx hb dX6_goes_200 rfl (lv_at hl 2 rfl) ?_
              refine lv_iload hx hb dX6_goes_201 (lv_at hl 5 rfl) ?_
              refine gcallVi (As := [.int x1, .int x4]) (rest := []) ⟨hx, hb, hml, hown, hts⟩ (c_X6_moved l D cI cZ adr A hD x1 x4 u _ h) (cwV 2 hts gX6_goes_X6_moved rfl rfl rfl (by decide +kernel) ⟨Nat.le_of_ble_eq_true rfl, Nat.le_of_ble_eq_true rfl⟩) (va_recv hK hP (ci := 6) (q0 := 0) rfl rfl) hK hP hS rfl hl.1 rfl (Nat.le_of_ble_eq_true rfl) dX6_goes_203 ⟨Nat.le_refl _, Nat.le_refl _⟩ (fun r203 u203 H locs h hP hS => ?_)
              refine lv_istore (lv' := [(5, .int r203), (0, .ref (adr 0)), (1, .int x1), (2, .int x2), (3, .int x3), (4, .int x4)]) hx hb dX6_goes_206 hl (by decide) rfl (fun ls hl => ?_)
              exact L208 _ ih x1 x2 x3 x4 r203 u203 _ _ _ (lv_sub hl [1, 2, 3, 4, 5, 0] rfl) hP hS h
            · have h := h.1 hc
              refine lv_iload hx hb dX6_goes_149 (lv_at hl 0 rfl) ?_
              refine lv_iconst (v := (-1 : Int32)) hx hb dX6_goes_151 (by decide) ?_
              refine lv_icmp_eq (tgt := 160) hx hb dX6_goes_152 (by decide) (fun hc => ?_) (fun hc => ?_)
              · have h := h.1 hc
                refine lv_aload_n hx hb dX6_goes_160 rfl (lv_at hl 1 rfl) ?_
                refine lv_iload_n hx hb dX6_goes_161 rfl (lv_at hl 3 rfl) ?_
                refine lv_iconst (v := (1 : Int32)) hx hb dX6_goes_162 (by decide) ?_
                refine lv_isub hx hb dX6_goes_163 ?_
                refine lv_iload hx hb dX6_goes_164 (lv_at hl 5 rfl) ?_
                refine gcallVi (As := [.int (x2 - (1 : Int32)), .int x4]) (rest := []) ⟨hx, hb, hml, hown, hts⟩ (c_X6_filledFrom l D cI cZ adr A hD (x2 - (1 : Int32)) x4 u _ h) (cwV 2 hts gX6_goes_X6_filledFrom rfl rfl rfl (by decide +kernel) ⟨Nat.le_of_ble_eq_true rfl, Nat.le_of_ble_eq_true rfl⟩) (va_recv hK hP (ci := 6) (q0 := 0) rfl rfl) hK hP hS rfl hl.1 rfl (Nat.le_of_ble_eq_true rfl) dX6_goes_166 ⟨Nat.le_refl _, Nat.le_refl _⟩ (fun r166 u166 H locs h hP hS => ?_)
                refine lv_iconst (v := (-1 : Int32)) hx hb dX6_goes_169 (by decide) ?_
                refine lv_icmp_eq (tgt := 185) hx hb dX6_goes_170 (by decide) (fun hc => ?_) (fun hc => ?_)
                · have h := h.1 hc
                  refine lv_aload_n hx hb dX6_goes_185 rfl (lv_at hl 1 rfl) ?_
                  refine lv_iload_n hx hb dX6_goes_186 rfl (lv_at hl 3 rfl) ?_
                  refine lv_iconst (v := (1 : Int32)) hx hb dX6_goes_187 (by decide) ?_
                  refine lv_iadd hx hb dX6_goes_188 ?_
                  refine lv_iload hx hb dX6_goes_189 (lv_at hl 5 rfl) ?_
                  refine gcallVi (As := [.int (x2 + (1 : Int32)), .int x4]) (rest := []) ⟨hx, hb, hml, hown, hts⟩ (c_X6_filledFrom l D cI cZ adr A hD (x2 + (1 : Int32)) x4 u166 _ h) (cwV 2 hts gX6_goes_X6_filledFrom rfl rfl rfl (by decide +kernel) ⟨Nat.le_of_ble_eq_true rfl, Nat.le_of_ble_eq_true rfl⟩) (va_recv hK hP (ci := 6) (q0 := 0) rfl rfl) hK hP hS rfl hl.1 rfl (Nat.le_of_ble_eq_true rfl) dX6_goes_191 ⟨Nat.le_refl _, Nat.le_refl _⟩ (fun r191 u191 H locs h hP hS => ?_)
                  exact L194 _ ih r191 x1 x2 x3 x4 u191 _ _ _ (lv_sub hl [1, 2, 3, 4, 5] rfl) hP hS h
                · have h := h.2 hc
                  refine lv_aload_n hx hb dX6_goes_173 rfl (lv_at hl 1 rfl) ?_
                  refine lv_iload_n hx hb dX6_goes_174 rfl (lv_at hl 3 rfl) ?_
                  refine lv_iconst (v := (1 : Int32)) hx hb dX6_goes_175 (by decide) ?_
                  refine lv_isub hx hb dX6_goes_176 ?_
                  refine lv_iload hx hb dX6_goes_177 (lv_at hl 5 rfl) ?_
                  refine gcallVi (As := [.int (x2 - (1 : Int32)), .int x4]) (rest := []) ⟨hx, hb, hml, hown, hts⟩ (c_X6_filledFrom l D cI cZ adr A hD (x2 - (1 : Int32)) x4 u166 _ h) (cwV 2 hts gX6_goes_X6_filledFrom rfl rfl rfl (by decide +kernel) ⟨Nat.le_of_ble_eq_true rfl, Nat.le_of_ble_eq_true rfl⟩) (va_recv hK hP (ci := 6) (q0 := 0) rfl rfl) hK hP hS rfl hl.1 rfl (Nat.le_of_ble_eq_true rfl) dX6_goes_179 ⟨Nat.le_refl _, Nat.le_refl _⟩ (fun r179 u179 H locs h hP hS => ?_)
                  refine lv_goto (tgt := 194) hx hb dX6_goes_182 (by decide) ?_
                  exact L194 _ ih r179 x1 x2 x3 x4 u179 _ _ _ (lv_sub hl [1, 2, 3, 4, 5] rfl) hP hS h
              · have h := h.2 hc
                refine lv_iload hx hb dX6_goes_155 (lv_at hl 0 rfl) ?_
                refine lv_goto (tgt := 194) hx hb dX6_goes_157 (by decide) ?_
                exact L194 _ ih ((u.2 32) x4.toNatClampNeg) x1 x2 x3 x4 u _ _ _ (lv_sub hl [1, 2, 3, 4, 5] rfl) hP hS h
          · have h := h.1 hc
            refine lv_aload_n hx hb dX6_goes_122 rfl (lv_at hl 1 rfl) ?_
            refine lv_aload_n hx hb dX6_goes_123 rfl (lv_at hl 1 rfl) ?_
            refine mwg_0_7 hx hb hts hinX6 hown hK hP (hts (.fieldLink RX6 26 "FilmBenchModel" "first" "[I") (by decide +kernel)) dX6_goes_124 ?_
            refine lv_iload_n hx hb dX6_goes_127 rfl (lv_at hl 2 rfl) ?_
            refine mwl_7 (v := ((u.2 7) x1.toNatClampNeg)) hx hb hK hP h.1 dX6_goes_128 rfl ?_
            have h := h.2
            refine lv_iload hx hb dX6_goes_129 (lv_at hl 0 rfl) ?_
            refine gcallVi (As := [.int ((u.2 7) x1.toNatClampNeg), .int ((u.2 32) x4.toNatClampNeg)]) (rest := []) ⟨hx, hb, hml, hown, hts⟩ (c_X6_matched l D cI cZ adr A hD ((u.2 7) x1.toNatClampNeg) ((u.2 32) x4.toNatClampNeg) u _ h) (cwV 2 hts gX6_goes_X6_matched rfl rfl rfl (by decide +kernel) ⟨Nat.le_of_ble_eq_true rfl, Nat.le_of_ble_eq_true rfl⟩) (va_recv hK hP (ci := 6) (q0 := 0) rfl rfl) hK hP hS rfl hl.1 rfl (Nat.le_of_ble_eq_true rfl) dX6_goes_131 ⟨Nat.le_refl _, Nat.le_refl _⟩ (fun r131 u131 H locs h hP hS => ?_)
            refine lv_istore (lv' := [(5, .int r131), (0, .ref (adr 0)), (1, .int x1), (2, .int x2), (3, .int x3), (4, .int x4)]) hx hb dX6_goes_134 hl (by decide) rfl (fun ls hl => ?_)
            refine lv_goto (tgt := 208) hx hb dX6_goes_136 (by decide) ?_
            exact L208 _ ih x1 x2 x3 x4 r131 u131 _ _ _ (lv_sub hl [1, 2, 3, 4, 5, 0] rfl) hP hS h
        · have h := h.1 hc
          refine lv_aload_n hx hb dX6_goes_81 rfl (lv_at hl 1 rfl) ?_
          refine lv_iload_n hx hb dX6_goes_82 rfl (lv_at hl 3 rfl) ?_
          refine lv_iload hx hb dX6_goes_83 (lv_at hl 5 rfl) ?_
          refine lv_iload hx hb dX6_goes_85 (lv_at hl 0 rfl) ?_
          refine gcallVi (As := [.int x2, .int x4, .int ((u.2 32) x4.toNatClampNeg)]) (rest := []) ⟨hx, hb, hml, hown, hts⟩ (c_X6_cleaned l D cI cZ adr A hD x2 x4 ((u.2 32) x4.toNatClampNeg) u _ h) (cwV 3 hts gX6_goes_X6_cleaned rfl rfl rfl (by decide +kernel) ⟨Nat.le_of_ble_eq_true rfl, Nat.le_of_ble_eq_true rfl⟩) (va_recv hK hP (ci := 6) (q0 := 0) rfl rfl) hK hP hS rfl hl.1 rfl (Nat.le_of_ble_eq_true rfl) dX6_goes_87 ⟨Nat.le_refl _, Nat.le_refl _⟩ (fun r87 u87 H locs h hP hS => ?_)
          refine lv_if_lt (tgt := 105) hx hb dX6_goes_90 (by decide) (fun hc => ?_) (fun hc => ?_)
          · have h := h.1 hc
            refine lv_iload hx hb dX6_goes_105 (lv_at hl 0 rfl) ?_
            exact L107 _ ih ((u.2 32) x4.toNatClampNeg) x1 x2 x3 x4 u87 _ _ _ (lv_sub hl [1, 2, 3, 4, 5] rfl) hP hS h
          · have h := h.2 hc
            refine lv_aload_n hx hb dX6_goes_93 rfl (lv_at hl 1 rfl) ?_
            refine lv_iload_n hx hb dX6_goes_94 rfl (lv_at hl 3 rfl) ?_
            refine lv_iload hx hb dX6_goes_95 (lv_at hl 5 rfl) ?_
            refine lv_iload hx hb dX6_goes_97 (lv_at hl 0 rfl) ?_
            refine gcallVi (As := [.int x2, .int x4, .int ((u.2 32) x4.toNatClampNeg)]) (rest := []) ⟨hx, hb, hml, hown, hts⟩ (c_X6_cleaned l D cI cZ adr A hD x2 x4 ((u.2 32) x4.toNatClampNeg) u87 _ h) (cwV 3 hts gX6_goes_X6_cleaned rfl rfl rfl (by decide +kernel) ⟨Nat.le_of_ble_eq_true rfl, Nat.le_of_ble_eq_true rfl⟩) (va_recv hK hP (ci := 6) (q0 := 0) rfl rfl) hK hP hS rfl hl.1 rfl (Nat.le_of_ble_eq_true rfl) dX6_goes_99 ⟨Nat.le_refl _, Nat.le_refl _⟩ (fun r99 u99 H locs h hP hS => ?_)
            refine lv_goto (tgt := 107) hx hb dX6_goes_102 (by decide) ?_
            exact L107 _ ih r99 x1 x2 x3 x4 u99 _ _ _ (lv_sub hl [1, 2, 3, 4, 5] rfl) hP hS h
  have L12 : ∀ (n : Nat), ∀ (x1 : Int32) (x2 : Int32) (x3 : Int32) (x4 : Int32) (u : US) (H : Heap) (locs : List Loc) (ls : Array Slot), lv_has ls 6 [(0, .ref (adr 0)), (1, .int x1), (2, .int x2), (3, .int x3), (4, .int x4)] → va_P D vwCl (mw adr cI cZ u) H → va_S A s.heap H locs → wp_X6_goes_12  post n x1 x2 x3 x4 u → gWi p l e wsX6_goes 3 s m [.ref (adr 0), .int p1] below meth c D cI cZ (mw adr cI cZ) A post H locs (F0 m 12 ls []) := by
    intro  n
    induction n with
    | zero => intro x1 x2 x3 x4 u H locs ls hl hP hS h; exact False.elim h
    | succ n ih =>
      intro x1 x2 x3 x4 u H locs ls hl hP hS h
      refine lv_iload hx hb dX6_goes_12 (lv_at hl 4 rfl) ?_
      refine lv_aload_n hx hb dX6_goes_14 rfl (lv_at hl 0 rfl) ?_
      refine mwg_0_0 (v := (u.1 0)) hx hb hts hinX6 hown hK hP (hts (.fieldLink RX6 7 "FilmBenchModel" "high" "I") (by decide +kernel)) dX6_goes_15 rfl ?_
      refine lv_aload_n hx hb dX6_goes_18 rfl (lv_at hl 0 rfl) ?_
      refine mwg_0_1 (v := (u.1 1)) hx hb hts hinX6 hown hK hP (hts (.fieldLink RX6 13 "FilmBenchModel" "wide" "I") (by decide +kernel)) dX6_goes_19 rfl ?_
      refine lv_imul hx hb dX6_goes_22 ?_
      refine lv_icmp_ge (tgt := 46) hx hb dX6_goes_23 (by decide) (fun hc => ?_) (fun hc => ?_)
      · have h := h.1 hc
        refine lv_iconst (v := (0 : Int32)) hx hb dX6_goes_46 (by decide) ?_
        refine lv_istore (lv' := [(4, .int (0 : Int32)), (0, .ref (adr 0)), (1, .int x1), (2, .int x2), (3, .int x3)]) hx hb dX6_goes_47 hl (by decide) rfl (fun ls hl => ?_)
        obtain ⟨n, h⟩ := h
        exact L49  n x1 x2 x3 (0 : Int32) u _ _ _ (lv_sub hl [1, 2, 3, 4, 0] rfl) hP hS h
      · have h := h.2 hc
        refine lv_aload_n hx hb dX6_goes_26 rfl (lv_at hl 0 rfl) ?_
        refine mwg_0_32 hx hb hts hinX6 hown hK hP (hts (.fieldLink RX6 69 "FilmBenchModel" "was" "[I") (by decide +kernel)) dX6_goes_27 ?_
        refine lv_iload hx hb dX6_goes_30 (lv_at hl 4 rfl) ?_
        refine lv_aload_n hx hb dX6_goes_32 rfl (lv_at hl 0 rfl) ?_
        refine mwg_0_31 hx hb hts hinX6 hown hK hP (hts (.fieldLink RX6 66 "FilmBenchModel" "made" "[I") (by decide +kernel)) dX6_goes_33 ?_
        refine lv_iload hx hb dX6_goes_36 (lv_at hl 4 rfl) ?_
        refine mwl_31 (v := ((u.2 31) x4.toNatClampNeg)) hx hb hK hP h.1 dX6_goes_38 rfl ?_
        have h := h.2
        refine mws_32 hx hb hK hP (hD _) hS h.1 dX6_goes_39 (fun H locs hP hS => ?_)
        have h := h.2
        refine lv_iinc (v := (x4 + 1)) (lv' := [(4, .int (x4 + 1)), (0, .ref (adr 0)), (1, .int x1), (2, .int x2), (3, .int x3)]) hx hb dX6_goes_40 hl (k := 4) rfl (congrArg (HAdd.hAdd _) (show Int32.ofInt (1) = (1 : Int32) by decide)) (by decide) rfl (fun ls hl => ?_)
        refine lv_goto (tgt := 12) hx hb dX6_goes_43 (by decide) ?_
        exact ih x1 x2 x3 (x4 + 1) (sA u 32 (upd (u.2 32) x4.toNatClampNeg ((u.2 31) x4.toNatClampNeg))) _ _ _ (lv_sub hl [1, 2, 3, 4, 0] rfl) hP hS h
  have hl := lv_entry ([.ref (adr 0), .int p1]) (n := 6) (Nat.le_of_ble_eq_true rfl)
  rw [lg_entry_eq]
  generalize (lg_sl ([.ref (adr 0), .int p1]) ++ List.replicate (6 - (lg_sl ([.ref (adr 0), .int p1])).length) Slot.unset).toArray = ls at hl ⊢
  replace hl : lv_has ls 6 [(0, .ref (adr 0)), (1, .int p1)] := hl
  refine lv_aload_n hx hb dX6_goes_0 rfl (lv_at hl 0 rfl) ?_
  refine mwg_0_6 hx hb hts hinX6 hown hK hP (hts (.fieldLink RX6 23 "FilmBenchModel" "of" "[I") (by decide +kernel)) dX6_goes_1 ?_
  refine lv_iload_n hx hb dX6_goes_4 rfl (lv_at hl 1 rfl) ?_
  refine mwl_6 (v := ((u.2 6) p1.toNatClampNeg)) hx hb hK hP h.1 dX6_goes_5 rfl ?_
  have h := h.2
  refine lv_istore_n (lv' := [(2, .int ((u.2 6) p1.toNatClampNeg)), (0, .ref (adr 0)), (1, .int p1)]) hx hb dX6_goes_6 rfl hl (by decide) rfl (fun ls hl => ?_)
  refine lv_iconst (v := (0 : Int32)) hx hb dX6_goes_7 (by decide) ?_
  refine lv_istore_n (lv' := [(3, .int (0 : Int32)), (2, .int ((u.2 6) p1.toNatClampNeg)), (0, .ref (adr 0)), (1, .int p1)]) hx hb dX6_goes_8 rfl hl (by decide) rfl (fun ls hl => ?_)
  refine lv_iconst (v := (0 : Int32)) hx hb dX6_goes_9 (by decide) ?_
  refine lv_istore (lv' := [(4, .int (0 : Int32)), (3, .int (0 : Int32)), (2, .int ((u.2 6) p1.toNatClampNeg)), (0, .ref (adr 0)), (1, .int p1)]) hx hb dX6_goes_10 hl (by decide) rfl (fun ls hl => ?_)
  obtain ⟨n, h⟩ := h
  exact L12  n p1 ((u.2 6) p1.toNatClampNeg) (0 : Int32) (0 : Int32) u _ _ _ (lv_sub hl [3, 4, 2, 1, 0] rfl) hP hS h
set_option maxRecDepth 100000 in
set_option maxHeartbeats 4000000 in
theorem c_X6_makes (l : Launch) (D : va_G) (cI cZ : ClassId) (adr : Nat → Nat) (A : Nat → Prop) (hD : ∀ u, va_D A (mw adr cI cZ u)) (p1 : Int32) (p2 : Int32) (u : US) (post : Int32 → US → Prop) (h : wp_X6_makes p1 p2 u post) : gMi l yX6_makes wsX6_makes 4 D cI cZ (mw adr cI cZ) A [.ref (adr 0), .int p1, .int p2] u post := by
  refine Met.ofW (cc := cX6_makes) (maxL := 6) (ret := (some .int)) (by decide) rfl ?_
  intro p e s m args below meth c s₁ B hml hv
  obtain ⟨rfl, hP, hK⟩ := hv
  have hx := B.exec
  have hb := B.bytes
  have hr := B.returns
  have hts := atoms_spec (ws := wsX6_makes) B.pre
  have hown : s.vm.findClass RX6 = some m.cls := findClass_of_methodNamed B.named
  have hlocks := B.notSynchronized
  have hinX6 : ∀ w ∈ wsX60, w ∈ wsX6_makes := by decide +kernel
  have hS : va_S A s.heap s.heap [] := va_S.rf
  have L47 : ∀ (n : Nat), ∀ (x1 : Int32) (x2 : Int32) (x3 : Int32) (x4 : Int32) (u : US) (H : Heap) (locs : List Loc) (ls : Array Slot), lv_has ls 6 [(0, .ref (adr 0)), (1, .int x1), (2, .int x2), (3, .int x3), (4, .int x4)] → va_P D vwCl (mw adr cI cZ u) H → va_S A s.heap H locs → wp_X6_makes_47  post n x1 x2 x3 x4 u → gWi p l e wsX6_makes 4 s m [.ref (adr 0), .int p1, .int p2] below meth c D cI cZ (mw adr cI cZ) A post H locs (F0 m 47 ls []) := by
    intro  n
    induction n with
    | zero => intro x1 x2 x3 x4 u H locs ls hl hP hS h; exact False.elim h
    | succ n ih =>
      intro x1 x2 x3 x4 u H locs ls hl hP hS h
      refine lv_iload hx hb dX6_makes_47 (lv_at hl 4 rfl) ?_
      refine lv_aload_n hx hb dX6_makes_49 rfl (lv_at hl 0 rfl) ?_
      refine mwg_0_4 (v := (u.1 4)) hx hb hts hinX6 hown hK hP (hts (.fieldLink RX6 79 "FilmBenchModel" "layers" "I") (by decide +kernel)) dX6_makes_50 rfl ?_
      refine lv_icmp_ge (tgt := 104) hx hb dX6_makes_53 (by decide) (fun hc => ?_) (fun hc => ?_)
      · have h := h.1 hc
        refine lv_iload_n hx hb dX6_makes_104 rfl (lv_at hl 3 rfl) ?_
        exact giret hx hb hr hlocks hK hP hS h dX6_makes_105
      · have h := h.2 hc
        refine lv_aload_n hx hb dX6_makes_56 rfl (lv_at hl 0 rfl) ?_
        refine mwg_0_6 hx hb hts hinX6 hown hK hP (hts (.fieldLink RX6 23 "FilmBenchModel" "of" "[I") (by decide +kernel)) dX6_makes_57 ?_
        refine lv_iload hx hb dX6_makes_60 (lv_at hl 4 rfl) ?_
        refine mwl_6 (v := ((u.2 6) x4.toNatClampNeg)) hx hb hK hP h.1 dX6_makes_62 rfl ?_
        have h := h.2
        refine lv_iload_n hx hb dX6_makes_63 rfl (lv_at hl 1 rfl) ?_
        refine lv_icmp_ne (tgt := 98) hx hb dX6_makes_64 (by decide) (fun hc => ?_) (fun hc => ?_)
        · have h := h.2 hc
          refine lv_iinc (v := (x4 + 1)) (lv' := [(4, .int (x4 + 1)), (0, .ref (adr 0)), (1, .int x1), (2, .int x2), (3, .int x3)]) hx hb dX6_makes_98 hl (k := 4) rfl (congrArg (HAdd.hAdd _) (show Int32.ofInt (1) = (1 : Int32) by decide)) (by decide) rfl (fun ls hl => ?_)
          refine lv_goto (tgt := 47) hx hb dX6_makes_101 (by decide) ?_
          exact ih x1 x2 x3 (x4 + 1) u _ _ _ (lv_sub hl [1, 2, 3, 4, 0] rfl) hP hS h
        · have h := h.1 hc
          refine lv_aload_n hx hb dX6_makes_67 rfl (lv_at hl 0 rfl) ?_
          refine mwg_0_9 hx hb hts hinX6 hown hK hP (hts (.fieldLink RX6 32 "FilmBenchModel" "isOn" "[Z") (by decide +kernel)) dX6_makes_68 ?_
          refine lv_iload hx hb dX6_makes_71 (lv_at hl 4 rfl) ?_
          refine mwl_9 (v := ((u.2 9) x4.toNatClampNeg)) hx hb hK hP h.1 dX6_makes_73 rfl ?_
          have h := h.2
          refine lv_if_eq (tgt := 98) hx hb dX6_makes_74 (by decide) (fun hc => ?_) (fun hc => ?_)
          · have h := h.1 hc
            refine lv_iinc (v := (x4 + 1)) (lv' := [(4, .int (x4 + 1)), (0, .ref (adr 0)), (1, .int x1), (2, .int x2), (3, .int x3)]) hx hb dX6_makes_98 hl (k := 4) rfl (congrArg (HAdd.hAdd _) (show Int32.ofInt (1) = (1 : Int32) by decide)) (by decide) rfl (fun ls hl => ?_)
            refine lv_goto (tgt := 47) hx hb dX6_makes_101 (by decide) ?_
            exact ih x1 x2 x3 (x4 + 1) u _ _ _ (lv_sub hl [1, 2, 3, 4, 0] rfl) hP hS h
          · have h := h.2 hc
            refine lv_aload_n hx hb dX6_makes_77 rfl (lv_at hl 0 rfl) ?_
            refine lv_iload hx hb dX6_makes_78 (lv_at hl 4 rfl) ?_
            refine gcallVi (As := [.int x4]) (rest := []) ⟨hx, hb, hml, hown, hts⟩ (c_X6_goes l D cI cZ adr A hD x4 u _ h) (cwV 1 hts gX6_makes_X6_goes rfl rfl rfl (by decide +kernel) ⟨Nat.le_of_ble_eq_true rfl, Nat.le_of_ble_eq_true rfl⟩) (va_recv hK hP (ci := 6) (q0 := 0) rfl rfl) hK hP hS rfl hl.1 rfl (Nat.le_of_ble_eq_true rfl) dX6_makes_80 ⟨Nat.le_refl _, Nat.le_refl _⟩ (fun r80 u80 H locs h hP hS => ?_)
            refine lv_istore (lv' := [(5, .int r80), (0, .ref (adr 0)), (1, .int x1), (2, .int x2), (3, .int x3), (4, .int x4)]) hx hb dX6_makes_83 hl (by decide) rfl (fun ls hl => ?_)
            refine lv_iload hx hb dX6_makes_85 (lv_at hl 5 rfl) ?_
            refine lv_iload_n hx hb dX6_makes_87 rfl (lv_at hl 3 rfl) ?_
            refine lv_icmp_ne (tgt := 96) hx hb dX6_makes_88 (by decide) (fun hc => ?_) (fun hc => ?_)
            · have h := h.2 hc
              refine lv_iload_n hx hb dX6_makes_96 rfl (lv_at hl 4 rfl) ?_
              refine lv_istore_n (lv' := [(3, .int x3), (5, .int r80), (0, .ref (adr 0)), (1, .int x1), (2, .int x2), (4, .int x4)]) hx hb dX6_makes_97 rfl hl (by decide) rfl (fun ls hl => ?_)
              refine lv_iinc (v := (x4 + 1)) (lv' := [(4, .int (x4 + 1)), (3, .int x3), (5, .int r80), (0, .ref (adr 0)), (1, .int x1), (2, .int x2)]) hx hb dX6_makes_98 hl (k := 5) rfl (congrArg (HAdd.hAdd _) (show Int32.ofInt (1) = (1 : Int32) by decide)) (by decide) rfl (fun ls hl => ?_)
              refine lv_goto (tgt := 47) hx hb dX6_makes_101 (by decide) ?_
              exact ih x1 x2 x3 (x4 + 1) u80 _ _ _ (lv_sub hl [3, 4, 5, 1, 0] rfl) hP hS h
            · have h := h.1 hc
              refine lv_iload hx hb dX6_makes_91 (lv_at hl 0 rfl) ?_
              refine lv_goto (tgt := 97) hx hb dX6_makes_93 (by decide) ?_
              refine lv_istore_n (lv' := [(3, .int r80), (5, .int r80), (0, .ref (adr 0)), (1, .int x1), (2, .int x2), (4, .int x4)]) hx hb dX6_makes_97 rfl hl (by decide) rfl (fun ls hl => ?_)
              refine lv_iinc (v := (x4 + 1)) (lv' := [(4, .int (x4 + 1)), (3, .int r80), (5, .int r80), (0, .ref (adr 0)), (1, .int x1), (2, .int x2)]) hx hb dX6_makes_98 hl (k := 5) rfl (congrArg (HAdd.hAdd _) (show Int32.ofInt (1) = (1 : Int32) by decide)) (by decide) rfl (fun ls hl => ?_)
              refine lv_goto (tgt := 47) hx hb dX6_makes_101 (by decide) ?_
              exact ih x1 x2 r80 (x4 + 1) u80 _ _ _ (lv_sub hl [3, 4, 5, 1, 0] rfl) hP hS h
  have L5 : ∀ (n : Nat), ∀ (x1 : Int32) (x2 : Int32) (x3 : Int32) (x4 : Int32) (u : US) (H : Heap) (locs : List Loc) (ls : Array Slot), lv_has ls 6 [(0, .ref (adr 0)), (1, .int x1), (2, .int x2), (3, .int x3), (4, .int x4)] → va_P D vwCl (mw adr cI cZ u) H → va_S A s.heap H locs → wp_X6_makes_5  post n x1 x2 x3 x4 u → gWi p l e wsX6_makes 4 s m [.ref (adr 0), .int p1, .int p2] below meth c D cI cZ (mw adr cI cZ) A post H locs (F0 m 5 ls []) := by
    intro  n
    induction n with
    | zero => intro x1 x2 x3 x4 u H locs ls hl hP hS h; exact False.elim h
    | succ n ih =>
      intro x1 x2 x3 x4 u H locs ls hl hP hS h
      refine lv_iload hx hb dX6_makes_5 (lv_at hl 4 rfl) ?_
      refine lv_aload_n hx hb dX6_makes_7 rfl (lv_at hl 0 rfl) ?_
      refine mwg_0_0 (v := (u.1 0)) hx hb hts hinX6 hown hK hP (hts (.fieldLink RX6 7 "FilmBenchModel" "high" "I") (by decide +kernel)) dX6_makes_8 rfl ?_
      refine lv_aload_n hx hb dX6_makes_11 rfl (lv_at hl 0 rfl) ?_
      refine mwg_0_1 (v := (u.1 1)) hx hb hts hinX6 hown hK hP (hts (.fieldLink RX6 13 "FilmBenchModel" "wide" "I") (by decide +kernel)) dX6_makes_12 rfl ?_
      refine lv_imul hx hb dX6_makes_15 ?_
      refine lv_icmp_ge (tgt := 44) hx hb dX6_makes_16 (by decide) (fun hc => ?_) (fun hc => ?_)
      · have h := h.1 hc
        refine lv_iconst (v := (0 : Int32)) hx hb dX6_makes_44 (by decide) ?_
        refine lv_istore (lv' := [(4, .int (0 : Int32)), (0, .ref (adr 0)), (1, .int x1), (2, .int x2), (3, .int x3)]) hx hb dX6_makes_45 hl (by decide) rfl (fun ls hl => ?_)
        obtain ⟨n, h⟩ := h
        exact L47  n x1 x2 x3 (0 : Int32) u _ _ _ (lv_sub hl [1, 2, 3, 4, 0] rfl) hP hS h
      · have h := h.2 hc
        refine lv_aload_n hx hb dX6_makes_19 rfl (lv_at hl 0 rfl) ?_
        refine mwg_0_31 hx hb hts hinX6 hown hK hP (hts (.fieldLink RX6 66 "FilmBenchModel" "made" "[I") (by decide +kernel)) dX6_makes_20 ?_
        refine lv_iload hx hb dX6_makes_23 (lv_at hl 4 rfl) ?_
        refine lv_aload_n hx hb dX6_makes_25 rfl (lv_at hl 0 rfl) ?_
        refine mwg_0_3 hx hb hts hinX6 hown hK hP (hts (.fieldLink RX6 16 "FilmBenchModel" "raw" "[I") (by decide +kernel)) dX6_makes_26 ?_
        refine lv_bipush (v := (36 : Int32)) hx hb dX6_makes_29 (by decide) ?_
        refine lv_iload_n hx hb dX6_makes_31 rfl (lv_at hl 1 rfl) ?_
        refine lv_imul hx hb dX6_makes_32 ?_
        refine lv_iload hx hb dX6_makes_33 (lv_at hl 4 rfl) ?_
        refine lv_iadd hx hb dX6_makes_35 ?_
        refine mwl_3 (v := ((u.2 3) (((36 : Int32) * x1) + x4).toNatClampNeg)) hx hb hK hP h.1 dX6_makes_36 rfl ?_
        have h := h.2
        refine mws_31 hx hb hK hP (hD _) hS h.1 dX6_makes_37 (fun H locs hP hS => ?_)
        have h := h.2
        refine lv_iinc (v := (x4 + 1)) (lv' := [(4, .int (x4 + 1)), (0, .ref (adr 0)), (1, .int x1), (2, .int x2), (3, .int x3)]) hx hb dX6_makes_38 hl (k := 4) rfl (congrArg (HAdd.hAdd _) (show Int32.ofInt (1) = (1 : Int32) by decide)) (by decide) rfl (fun ls hl => ?_)
        refine lv_goto (tgt := 5) hx hb dX6_makes_41 (by decide) ?_
        exact ih x1 x2 x3 (x4 + 1) (sA u 31 (upd (u.2 31) x4.toNatClampNeg ((u.2 3) (((36 : Int32) * x1) + x4).toNatClampNeg))) _ _ _ (lv_sub hl [1, 2, 3, 4, 0] rfl) hP hS h
  have hl := lv_entry ([.ref (adr 0), .int p1, .int p2]) (n := 6) (Nat.le_of_ble_eq_true rfl)
  rw [lg_entry_eq]
  generalize (lg_sl ([.ref (adr 0), .int p1, .int p2]) ++ List.replicate (6 - (lg_sl ([.ref (adr 0), .int p1, .int p2])).length) Slot.unset).toArray = ls at hl ⊢
  replace hl : lv_has ls 6 [(0, .ref (adr 0)), (1, .int p1), (2, .int p2)] := hl
  refine lv_iconst (v := (0 : Int32)) hx hb dX6_makes_0 (by decide) ?_
  refine lv_istore_n (lv' := [(3, .int (0 : Int32)), (0, .ref (adr 0)), (1, .int p1), (2, .int p2)]) hx hb dX6_makes_1 rfl hl (by decide) rfl (fun ls hl => ?_)
  refine lv_iconst (v := (0 : Int32)) hx hb dX6_makes_2 (by decide) ?_
  refine lv_istore (lv' := [(4, .int (0 : Int32)), (3, .int (0 : Int32)), (0, .ref (adr 0)), (1, .int p1), (2, .int p2)]) hx hb dX6_makes_3 hl (by decide) rfl (fun ls hl => ?_)
  obtain ⟨n, h⟩ := h
  exact L5  n p1 p2 (0 : Int32) (0 : Int32) u _ _ _ (lv_sub hl [2, 3, 4, 1, 0] rfl) hP hS h
set_option maxRecDepth 100000 in
set_option maxHeartbeats 4000000 in
theorem c_X6_made (l : Launch) (D : va_G) (cI cZ : ClassId) (adr : Nat → Nat) (A : Nat → Prop) (hD : ∀ u, va_D A (mw adr cI cZ u)) (p1 : Int32) (p2 : Int32) (p3 : Int32) (u : US) (post : Int32 → US → Prop) (h : wp_X6_made p1 p2 p3 u post) : gMi l yX6_made wsX6_made 5 D cI cZ (mw adr cI cZ) A [.ref (adr 0), .int p1, .int p2, .int p3] u post := by
  refine Met.ofW (cc := cX6_made) (maxL := 5) (ret := (some .int)) (by decide) rfl ?_
  intro p e s m args below meth c s₁ B hml hv
  obtain ⟨rfl, hP, hK⟩ := hv
  have hx := B.exec
  have hb := B.bytes
  have hr := B.returns
  have hts := atoms_spec (ws := wsX6_made) B.pre
  have hown : s.vm.findClass RX6 = some m.cls := findClass_of_methodNamed B.named
  have hlocks := B.notSynchronized
  have hinX6 : ∀ w ∈ wsX60, w ∈ wsX6_made := by decide +kernel
  have hS : va_S A s.heap s.heap [] := va_S.rf
  have hl := lv_entry ([.ref (adr 0), .int p1, .int p2, .int p3]) (n := 5) (Nat.le_of_ble_eq_true rfl)
  rw [lg_entry_eq]
  generalize (lg_sl ([.ref (adr 0), .int p1, .int p2, .int p3]) ++ List.replicate (5 - (lg_sl ([.ref (adr 0), .int p1, .int p2, .int p3])).length) Slot.unset).toArray = ls at hl ⊢
  replace hl : lv_has ls 5 [(0, .ref (adr 0)), (1, .int p1), (2, .int p2), (3, .int p3)] := hl
  refine lv_aload_n hx hb dX6_made_0 rfl (lv_at hl 0 rfl) ?_
  refine lv_iload_n hx hb dX6_made_1 rfl (lv_at hl 1 rfl) ?_
  refine gcallVi (As := [.int p1]) (rest := []) ⟨hx, hb, hml, hown, hts⟩ (c_X6_isFrame l D cI cZ adr A hD p1 u _ h) (cwV 1 hts gX6_made_X6_isFrame rfl rfl rfl (by decide +kernel) ⟨Nat.le_of_ble_eq_true rfl, Nat.le_of_ble_eq_true rfl⟩) (va_recv hK hP (ci := 6) (q0 := 0) rfl rfl) hK hP hS rfl hl.1 rfl (Nat.le_of_ble_eq_true rfl) dX6_made_2 ⟨Nat.le_refl _, Nat.le_refl _⟩ (fun r2 u2 H locs h hP hS => ?_)
  refine lv_if_eq (tgt := 17) hx hb dX6_made_5 (by decide) (fun hc => ?_) (fun hc => ?_)
  · have h := h.1 hc
    refine lv_sipush (v := (-1000 : Int32)) hx hb dX6_made_17 (by decide) ?_
    exact giret hx hb hr hlocks hK hP hS h dX6_made_20
  · have h := h.2 hc
    refine lv_aload_n hx hb dX6_made_8 rfl (lv_at hl 0 rfl) ?_
    refine lv_iload_n hx hb dX6_made_9 rfl (lv_at hl 2 rfl) ?_
    refine lv_iload_n hx hb dX6_made_10 rfl (lv_at hl 3 rfl) ?_
    refine gcallVi (As := [.int p2, .int p3]) (rest := []) ⟨hx, hb, hml, hown, hts⟩ (c_X6_isSquare l D cI cZ adr A hD p2 p3 u2 _ h) (cwV 2 hts gX6_made_X6_isSquare rfl rfl rfl (by decide +kernel) ⟨Nat.le_of_ble_eq_true rfl, Nat.le_of_ble_eq_true rfl⟩) (va_recv hK hP (ci := 6) (q0 := 0) rfl rfl) hK hP hS rfl hl.1 rfl (Nat.le_of_ble_eq_true rfl) dX6_made_11 ⟨Nat.le_refl _, Nat.le_refl _⟩ (fun r11 u11 H locs h hP hS => ?_)
    refine lv_if_ne (tgt := 21) hx hb dX6_made_14 (by decide) (fun hc => ?_) (fun hc => ?_)
    · have h := h.2 hc
      refine lv_aload_n hx hb dX6_made_21 rfl (lv_at hl 0 rfl) ?_
      refine lv_iload_n hx hb dX6_made_22 rfl (lv_at hl 1 rfl) ?_
      refine lv_iconst (v := (-1 : Int32)) hx hb dX6_made_23 (by decide) ?_
      refine gcallVi (As := [.int p1, .int (-1 : Int32)]) (rest := []) ⟨hx, hb, hml, hown, hts⟩ (c_X6_makes l D cI cZ adr A hD p1 (-1 : Int32) u11 _ h) (cwV 2 hts gX6_made_X6_makes rfl rfl rfl (by decide +kernel) ⟨Nat.le_of_ble_eq_true rfl, Nat.le_of_ble_eq_true rfl⟩) (va_recv hK hP (ci := 6) (q0 := 0) rfl rfl) hK hP hS rfl hl.1 rfl (Nat.le_of_ble_eq_true rfl) dX6_made_24 ⟨Nat.le_refl _, Nat.le_refl _⟩ (fun r24 u24 H locs h hP hS => ?_)
      refine lv_istore (lv' := [(4, .int r24), (0, .ref (adr 0)), (1, .int p1), (2, .int p2), (3, .int p3)]) hx hb dX6_made_27 hl (by decide) rfl (fun ls hl => ?_)
      refine lv_aload_n hx hb dX6_made_29 rfl (lv_at hl 1 rfl) ?_
      refine mwg_0_31 hx hb hts hinX6 hown hK hP (hts (.fieldLink RX6 66 "FilmBenchModel" "made" "[I") (by decide +kernel)) dX6_made_30 ?_
      refine lv_aload_n hx hb dX6_made_33 rfl (lv_at hl 1 rfl) ?_
      refine mwg_0_1 (v := (u24.1 1)) hx hb hts hinX6 hown hK hP (hts (.fieldLink RX6 13 "FilmBenchModel" "wide" "I") (by decide +kernel)) dX6_made_34 rfl ?_
      refine lv_iload_n hx hb dX6_made_37 rfl (lv_at hl 3 rfl) ?_
      refine lv_imul hx hb dX6_made_38 ?_
      refine lv_iload_n hx hb dX6_made_39 rfl (lv_at hl 4 rfl) ?_
      refine lv_iadd hx hb dX6_made_40 ?_
      refine mwl_31 (v := ((u24.2 31) (((u24.1 1) * p2) + p3).toNatClampNeg)) hx hb hK hP h.1 dX6_made_41 rfl ?_
      have h := h.2
      exact giret hx hb hr hlocks hK hP hS h dX6_made_42
    · have h := h.1 hc
      refine lv_sipush (v := (-1000 : Int32)) hx hb dX6_made_17 (by decide) ?_
      exact giret hx hb hr hlocks hK hP hS h dX6_made_20
set_option maxRecDepth 100000 in
set_option maxHeartbeats 4000000 in
theorem c_X6_changed (l : Launch) (D : va_G) (cI cZ : ClassId) (adr : Nat → Nat) (A : Nat → Prop) (hD : ∀ u, va_D A (mw adr cI cZ u)) (p1 : Int32) (u : US) (post : Int32 → US → Prop) (h : wp_X6_changed p1 u post) : gMi l yX6_changed wsX6_changed 5 D cI cZ (mw adr cI cZ) A [.ref (adr 0), .int p1] u post := by
  refine Met.ofW (cc := cX6_changed) (maxL := 2) (ret := (some .int)) (by decide) rfl ?_
  intro p e s m args below meth c s₁ B hml hv
  obtain ⟨rfl, hP, hK⟩ := hv
  have hx := B.exec
  have hb := B.bytes
  have hr := B.returns
  have hts := atoms_spec (ws := wsX6_changed) B.pre
  have hown : s.vm.findClass RX6 = some m.cls := findClass_of_methodNamed B.named
  have hlocks := B.notSynchronized
  have hinX6 : ∀ w ∈ wsX60, w ∈ wsX6_changed := by decide +kernel
  have hS : va_S A s.heap s.heap [] := va_S.rf
  have hl := lv_entry ([.ref (adr 0), .int p1]) (n := 2) (Nat.le_of_ble_eq_true rfl)
  rw [lg_entry_eq]
  generalize (lg_sl ([.ref (adr 0), .int p1]) ++ List.replicate (2 - (lg_sl ([.ref (adr 0), .int p1])).length) Slot.unset).toArray = ls at hl ⊢
  replace hl : lv_has ls 2 [(0, .ref (adr 0)), (1, .int p1)] := hl
  refine lv_aload_n hx hb dX6_changed_0 rfl (lv_at hl 0 rfl) ?_
  refine lv_iload_n hx hb dX6_changed_1 rfl (lv_at hl 1 rfl) ?_
  refine gcallVi (As := [.int p1]) (rest := []) ⟨hx, hb, hml, hown, hts⟩ (c_X6_isLayer l D cI cZ adr A hD p1 u _ h) (cwV 1 hts gX6_changed_X6_isLayer rfl rfl rfl (by decide +kernel) ⟨Nat.le_of_ble_eq_true rfl, Nat.le_of_ble_eq_true rfl⟩) (va_recv hK hP (ci := 6) (q0 := 0) rfl rfl) hK hP hS rfl hl.1 rfl (Nat.le_of_ble_eq_true rfl) dX6_changed_2 ⟨Nat.le_refl _, Nat.le_refl _⟩ (fun r2 u2 H locs h hP hS => ?_)
  refine lv_if_eq (tgt := 22) hx hb dX6_changed_5 (by decide) (fun hc => ?_) (fun hc => ?_)
  · have h := h.1 hc
    refine lv_iconst (v := (-1 : Int32)) hx hb dX6_changed_22 (by decide) ?_
    exact giret hx hb hr hlocks hK hP hS h dX6_changed_23
  · have h := h.2 hc
    refine lv_aload_n hx hb dX6_changed_8 rfl (lv_at hl 0 rfl) ?_
    refine lv_aload_n hx hb dX6_changed_9 rfl (lv_at hl 0 rfl) ?_
    refine mwg_0_6 hx hb hts hinX6 hown hK hP (hts (.fieldLink RX6 23 "FilmBenchModel" "of" "[I") (by decide +kernel)) dX6_changed_10 ?_
    refine lv_iload_n hx hb dX6_changed_13 rfl (lv_at hl 1 rfl) ?_
    refine mwl_6 (v := ((u2.2 6) p1.toNatClampNeg)) hx hb hK hP h.1 dX6_changed_14 rfl ?_
    have h := h.2
    refine lv_iload_n hx hb dX6_changed_15 rfl (lv_at hl 1 rfl) ?_
    refine gcallVi (As := [.int ((u2.2 6) p1.toNatClampNeg), .int p1]) (rest := []) ⟨hx, hb, hml, hown, hts⟩ (c_X6_makes l D cI cZ adr A hD ((u2.2 6) p1.toNatClampNeg) p1 u2 _ h) (cwV 2 hts gX6_changed_X6_makes rfl rfl rfl (by decide +kernel) ⟨Nat.le_of_ble_eq_true rfl, Nat.le_of_ble_eq_true rfl⟩) (va_recv hK hP (ci := 6) (q0 := 0) rfl rfl) hK hP hS rfl hl.1 rfl (Nat.le_of_ble_eq_true rfl) dX6_changed_16 ⟨Nat.le_refl _, Nat.le_refl _⟩ (fun r16 u16 H locs h hP hS => ?_)
    refine lv_goto (tgt := 23) hx hb dX6_changed_19 (by decide) ?_
    exact giret hx hb hr hlocks hK hP hS h dX6_changed_23
set_option maxRecDepth 100000 in
set_option maxHeartbeats 4000000 in
theorem c_X6_of (l : Launch) (D : va_G) (cI cZ : ClassId) (adr : Nat → Nat) (A : Nat → Prop) (hD : ∀ u, va_D A (mw adr cI cZ u)) (p1 : Int32) (p2 : Int32) (u : US) (post : Int32 → US → Prop) (h : wp_X6_of p1 p2 u post) : gMi l yX6_of wsX6_of 2 D cI cZ (mw adr cI cZ) A [.ref (adr 0), .int p1, .int p2] u post := by
  refine Met.ofW (cc := cX6_of) (maxL := 3) (ret := (some .int)) (by decide) rfl ?_
  intro p e s m args below meth c s₁ B hml hv
  obtain ⟨rfl, hP, hK⟩ := hv
  have hx := B.exec
  have hb := B.bytes
  have hr := B.returns
  have hts := atoms_spec (ws := wsX6_of) B.pre
  have hown : s.vm.findClass RX6 = some m.cls := findClass_of_methodNamed B.named
  have hlocks := B.notSynchronized
  have hinX6 : ∀ w ∈ wsX60, w ∈ wsX6_of := by decide +kernel
  have hS : va_S A s.heap s.heap [] := va_S.rf
  have hl := lv_entry ([.ref (adr 0), .int p1, .int p2]) (n := 3) (Nat.le_of_ble_eq_true rfl)
  rw [lg_entry_eq]
  generalize (lg_sl ([.ref (adr 0), .int p1, .int p2]) ++ List.replicate (3 - (lg_sl ([.ref (adr 0), .int p1, .int p2])).length) Slot.unset).toArray = ls at hl ⊢
  replace hl : lv_has ls 3 [(0, .ref (adr 0)), (1, .int p1), (2, .int p2)] := hl
  refine lv_aload_n hx hb dX6_of_0 rfl (lv_at hl 0 rfl) ?_
  refine lv_iload_n hx hb dX6_of_1 rfl (lv_at hl 1 rfl) ?_
  refine gcallVi (As := [.int p1]) (rest := []) ⟨hx, hb, hml, hown, hts⟩ (c_X6_isLayer l D cI cZ adr A hD p1 u _ h) (cwV 1 hts gX6_of_X6_isLayer rfl rfl rfl (by decide +kernel) ⟨Nat.le_of_ble_eq_true rfl, Nat.le_of_ble_eq_true rfl⟩) (va_recv hK hP (ci := 6) (q0 := 0) rfl rfl) hK hP hS rfl hl.1 rfl (Nat.le_of_ble_eq_true rfl) dX6_of_2 ⟨Nat.le_refl _, Nat.le_refl _⟩ (fun r2 u2 H locs h hP hS => ?_)
  refine lv_if_ne (tgt := 12) hx hb dX6_of_5 (by decide) (fun hc => ?_) (fun hc => ?_)
  · have h := h.2 hc
    refine lv_iload_n hx hb dX6_of_12 rfl (lv_at hl 2 rfl) ?_
    by_cases hc : p2.toInt < 0 ∨ 4 < p2.toInt
    · refine lv_tableOut (tgt := 91) hx hb dX6_of_13 hc (by decide) ?_
      have h := h.1 hc
      refine lv_sipush (v := (-1000 : Int32)) hx hb dX6_of_91 (by decide) ?_
      exact giret hx hb hr hlocks hK hP hS h dX6_of_94
    · have hv : p2.toInt = 0 ∨ p2.toInt = 1 ∨ p2.toInt = 2 ∨ p2.toInt = 3 ∨ p2.toInt = 4 := by omega
      rcases hv with hv | hv | hv | hv | hv
      · refine lv_tableIn (off := 35) (tgt := 48) hx hb dX6_of_13 (by omega) (by omega) (by rw [hv]; rfl) (by decide) ?_
        have h := h.2.1 hv
        refine lv_aload_n hx hb dX6_of_48 rfl (lv_at hl 0 rfl) ?_
        refine mwg_0_5 hx hb hts hinX6 hown hK hP (hts (.fieldLink RX6 20 "FilmBenchModel" "kind" "[I") (by decide +kernel)) dX6_of_49 ?_
        refine lv_iload_n hx hb dX6_of_52 rfl (lv_at hl 1 rfl) ?_
        refine mwl_5 (v := ((u2.2 5) p1.toNatClampNeg)) hx hb hK hP h.1 dX6_of_53 rfl ?_
        have h := h.2
        exact giret hx hb hr hlocks hK hP hS h dX6_of_54
      · refine lv_tableIn (off := 42) (tgt := 55) hx hb dX6_of_13 (by omega) (by omega) (by rw [hv]; rfl) (by decide) ?_
        have h := h.2.2.1 hv
        refine lv_aload_n hx hb dX6_of_55 rfl (lv_at hl 0 rfl) ?_
        refine mwg_0_6 hx hb hts hinX6 hown hK hP (hts (.fieldLink RX6 23 "FilmBenchModel" "of" "[I") (by decide +kernel)) dX6_of_56 ?_
        refine lv_iload_n hx hb dX6_of_59 rfl (lv_at hl 1 rfl) ?_
        refine mwl_6 (v := ((u2.2 6) p1.toNatClampNeg)) hx hb hK hP h.1 dX6_of_60 rfl ?_
        have h := h.2
        exact giret hx hb hr hlocks hK hP hS h dX6_of_61
      · refine lv_tableIn (off := 49) (tgt := 62) hx hb dX6_of_13 (by omega) (by omega) (by rw [hv]; rfl) (by decide) ?_
        have h := h.2.2.2.1 hv
        refine lv_aload_n hx hb dX6_of_62 rfl (lv_at hl 0 rfl) ?_
        refine mwg_0_7 hx hb hts hinX6 hown hK hP (hts (.fieldLink RX6 26 "FilmBenchModel" "first" "[I") (by decide +kernel)) dX6_of_63 ?_
        refine lv_iload_n hx hb dX6_of_66 rfl (lv_at hl 1 rfl) ?_
        refine mwl_7 (v := ((u2.2 7) p1.toNatClampNeg)) hx hb hK hP h.1 dX6_of_67 rfl ?_
        have h := h.2
        exact giret hx hb hr hlocks hK hP hS h dX6_of_68
      · refine lv_tableIn (off := 56) (tgt := 69) hx hb dX6_of_13 (by omega) (by omega) (by rw [hv]; rfl) (by decide) ?_
        have h := h.2.2.2.2.1 hv
        refine lv_aload_n hx hb dX6_of_69 rfl (lv_at hl 0 rfl) ?_
        refine mwg_0_8 hx hb hts hinX6 hown hK hP (hts (.fieldLink RX6 29 "FilmBenchModel" "second" "[I") (by decide +kernel)) dX6_of_70 ?_
        refine lv_iload_n hx hb dX6_of_73 rfl (lv_at hl 1 rfl) ?_
        refine mwl_8 (v := ((u2.2 8) p1.toNatClampNeg)) hx hb hK hP h.1 dX6_of_74 rfl ?_
        have h := h.2
        exact giret hx hb hr hlocks hK hP hS h dX6_of_75
      · refine lv_tableIn (off := 63) (tgt := 76) hx hb dX6_of_13 (by omega) (by omega) (by rw [hv]; rfl) (by decide) ?_
        have h := h.2.2.2.2.2 hv
        refine lv_aload_n hx hb dX6_of_76 rfl (lv_at hl 0 rfl) ?_
        refine mwg_0_9 hx hb hts hinX6 hown hK hP (hts (.fieldLink RX6 32 "FilmBenchModel" "isOn" "[Z") (by decide +kernel)) dX6_of_77 ?_
        refine lv_iload_n hx hb dX6_of_80 rfl (lv_at hl 1 rfl) ?_
        refine mwl_9 (v := ((u2.2 9) p1.toNatClampNeg)) hx hb hK hP h.1 dX6_of_81 rfl ?_
        have h := h.2
        refine lv_if_eq (tgt := 89) hx hb dX6_of_82 (by decide) (fun hc => ?_) (fun hc => ?_)
        · have h := h.1 hc
          refine lv_iconst (v := (0 : Int32)) hx hb dX6_of_89 (by decide) ?_
          exact giret hx hb hr hlocks hK hP hS h dX6_of_90
        · have h := h.2 hc
          refine lv_iconst (v := (1 : Int32)) hx hb dX6_of_85 (by decide) ?_
          refine lv_goto (tgt := 90) hx hb dX6_of_86 (by decide) ?_
          exact giret hx hb hr hlocks hK hP hS h dX6_of_90
  · have h := h.1 hc
    refine lv_sipush (v := (-1000 : Int32)) hx hb dX6_of_8 (by decide) ?_
    exact giret hx hb hr hlocks hK hP hS h dX6_of_11
