set_option maxRecDepth 100000 in
set_option maxHeartbeats 4000000 in
theorem c_X6_findPath (l : Launch) (D : va_G) (cI cZ : ClassId) (adr : Nat → Nat) (A : Nat → Prop) (hD : ∀ u, va_D A (mw adr cI cZ u)) (p1 : Int32) (u : US) (post : US → Prop) (h : wp_X6_findPath p1 u post) : gMv l yX6_findPath wsX6_findPath 5 D cI cZ (mw adr cI cZ) A [.ref (adr 0), .int p1] u post := by
  refine Met.ofW (cc := cX6_findPath) (maxL := 9) (ret := none) (by decide) rfl ?_
  intro p e s m args below meth c s₁ B hml hv
  obtain ⟨rfl, hP, hK⟩ := hv
  have hx := B.exec
  have hb := B.bytes
  have hr := B.returns
  have hts := atoms_spec (ws := wsX6_findPath) B.pre
  have hown : s.vm.findClass RX6 = some m.cls := findClass_of_methodNamed B.named
  have hlocks := B.notSynchronized
  have hinX6 : ∀ w ∈ wsX60, w ∈ wsX6_findPath := by decide +kernel
  have hS : va_S A s.heap s.heap [] := va_S.rf
  have L142 : ∀ (k94 : Int32 → Int32 → Int32 → Int32 → Int32 → Int32 → US → Prop) (hk94 : ∀ (x2 : Int32) (x3 : Int32) (x4 : Int32) (x5 : Int32) (x6 : Int32) (x7 : Int32) (u : US) (H : Heap) (locs : List Loc) (ls : Array Slot), lv_has ls 9 [(0, .ref (adr 0)), (2, .int x2), (3, .int x3), (4, .int x4), (5, .int x5), (6, .int x6), (7, .int x7)] → va_P D vwCl (mw adr cI cZ u) H → va_S A s.heap H locs → k94 x2 x3 x4 x5 x6 x7 u → gWv p l e wsX6_findPath 5 s m [.ref (adr 0), .int p1] below meth c D cI cZ (mw adr cI cZ) A post H locs (F0 m 94 ls [])), ∀ (x2 : Int32) (x6 : Int32) (x7 : Int32) (x8 : Int32) (u : US) (H : Heap) (locs : List Loc) (ls : Array Slot), lv_has ls 9 [(0, .ref (adr 0)), (2, .int x2), (6, .int x6), (7, .int x7), (8, .int x8)] → va_P D vwCl (mw adr cI cZ u) H → va_S A s.heap H locs → wp_X6_findPath_142 k94 post x2 x6 x7 x8 u → gWv p l e wsX6_findPath 5 s m [.ref (adr 0), .int p1] below meth c D cI cZ (mw adr cI cZ) A post H locs (F0 m 142 ls []) := by
    intro k94 hk94 x2 x6 x7 x8 u H locs ls hl hP hS h
    refine lv_iload hx hb dX6_findPath_142 (lv_at hl 4 rfl) ?_
    refine lv_istore_n (lv' := [(3, .int x8), (0, .ref (adr 0)), (2, .int x2), (6, .int x6), (7, .int x7), (8, .int x8)]) hx hb dX6_findPath_144 rfl hl (by decide) rfl (fun ls hl => ?_)
    refine lv_iload hx hb dX6_findPath_145 (lv_at hl 3 rfl) ?_
    refine lv_istore (lv' := [(4, .int x6), (3, .int x8), (0, .ref (adr 0)), (2, .int x2), (6, .int x6), (7, .int x7), (8, .int x8)]) hx hb dX6_findPath_147 hl (by decide) rfl (fun ls hl => ?_)
    refine lv_iload hx hb dX6_findPath_149 (lv_at hl 5 rfl) ?_
    refine lv_istore (lv' := [(5, .int x7), (4, .int x6), (3, .int x8), (0, .ref (adr 0)), (2, .int x2), (6, .int x6), (7, .int x7), (8, .int x8)]) hx hb dX6_findPath_151 hl (by decide) rfl (fun ls hl => ?_)
    refine lv_iinc (v := (x7 + 1)) (lv' := [(7, .int (x7 + 1)), (5, .int x7), (4, .int x6), (3, .int x8), (0, .ref (adr 0)), (2, .int x2), (6, .int x6), (8, .int x8)]) hx hb dX6_findPath_153 hl (k := 6) rfl (congrArg (HAdd.hAdd _) (show Int32.ofInt (1) = (1 : Int32) by decide)) (by decide) rfl (fun ls hl => ?_)
    refine lv_goto (tgt := 94) hx hb dX6_findPath_156 (by decide) ?_
    exact hk94 x2 x8 x6 x7 x6 (x7 + 1) u _ _ _ (lv_sub hl [4, 5, 3, 2, 1, 6, 0] rfl) hP hS h
  have L94 : ∀ (k85 : Int32 → Int32 → Int32 → Int32 → Int32 → US → Prop) (hk85 : ∀ (x2 : Int32) (x3 : Int32) (x4 : Int32) (x5 : Int32) (x6 : Int32) (u : US) (H : Heap) (locs : List Loc) (ls : Array Slot), lv_has ls 9 [(0, .ref (adr 0)), (2, .int x2), (3, .int x3), (4, .int x4), (5, .int x5), (6, .int x6)] → va_P D vwCl (mw adr cI cZ u) H → va_S A s.heap H locs → k85 x2 x3 x4 x5 x6 u → gWv p l e wsX6_findPath 5 s m [.ref (adr 0), .int p1] below meth c D cI cZ (mw adr cI cZ) A post H locs (F0 m 85 ls [])), ∀ (n : Nat), ∀ (x2 : Int32) (x3 : Int32) (x4 : Int32) (x5 : Int32) (x6 : Int32) (x7 : Int32) (u : US) (H : Heap) (locs : List Loc) (ls : Array Slot), lv_has ls 9 [(0, .ref (adr 0)), (2, .int x2), (3, .int x3), (4, .int x4), (5, .int x5), (6, .int x6), (7, .int x7)] → va_P D vwCl (mw adr cI cZ u) H → va_S A s.heap H locs → wp_X6_findPath_94 k85 post n x2 x3 x4 x5 x6 x7 u → gWv p l e wsX6_findPath 5 s m [.ref (adr 0), .int p1] below meth c D cI cZ (mw adr cI cZ) A post H locs (F0 m 94 ls []) := by
    intro k85 hk85 n
    induction n with
    | zero => intro x2 x3 x4 x5 x6 x7 u H locs ls hl hP hS h; exact False.elim h
    | succ n ih =>
      intro x2 x3 x4 x5 x6 x7 u H locs ls hl hP hS h
      refine lv_iload hx hb dX6_findPath_94 (lv_at hl 6 rfl) ?_
      refine lv_iload_n hx hb dX6_findPath_96 rfl (lv_at hl 1 rfl) ?_
      refine lv_icmp_ge (tgt := 159) hx hb dX6_findPath_97 (by decide) (fun hc => ?_) (fun hc => ?_)
      · have h := h.1 hc
        refine lv_iinc (v := (x6 + 1)) (lv' := [(6, .int (x6 + 1)), (0, .ref (adr 0)), (2, .int x2), (3, .int x3), (4, .int x4), (5, .int x5), (7, .int x7)]) hx hb dX6_findPath_159 hl (k := 5) rfl (congrArg (HAdd.hAdd _) (show Int32.ofInt (1) = (1 : Int32) by decide)) (by decide) rfl (fun ls hl => ?_)
        refine lv_goto (tgt := 85) hx hb dX6_findPath_162 (by decide) ?_
        exact hk85 x2 x3 x4 x5 (x6 + 1) u _ _ _ (lv_sub hl [1, 2, 3, 4, 5, 0] rfl) hP hS h
      · have h := h.2 hc
        refine lv_aload_n hx hb dX6_findPath_100 rfl (lv_at hl 0 rfl) ?_
        refine lv_iload hx hb dX6_findPath_101 (lv_at hl 5 rfl) ?_
        refine gcallVi (As := [.int x6]) (rest := []) ⟨hx, hb, hml, hown, hts⟩ (c_X6_strayAt l D cI cZ adr A hD x6 u _ h) (cwV 1 hts gX6_findPath_X6_strayAt rfl rfl rfl (by decide +kernel) ⟨Nat.le_of_ble_eq_true rfl, Nat.le_of_ble_eq_true rfl⟩) (va_recv hK hP (ci := 6) (q0 := 0) rfl rfl) hK hP hS rfl hl.1 rfl (Nat.le_of_ble_eq_true rfl) dX6_findPath_103 ⟨Nat.le_refl _, Nat.le_refl _⟩ (fun r103 u103 H locs h hP hS => ?_)
        refine lv_aload_n hx hb dX6_findPath_106 rfl (lv_at hl 0 rfl) ?_
        refine lv_iload hx hb dX6_findPath_107 (lv_at hl 6 rfl) ?_
        refine gcallVi (As := [.int x7]) (rest := [.int r103]) ⟨hx, hb, hml, hown, hts⟩ (c_X6_strayAt l D cI cZ adr A hD x7 u103 _ h) (cwV 1 hts gX6_findPath_X6_strayAt rfl rfl rfl (by decide +kernel) ⟨Nat.le_of_ble_eq_true rfl, Nat.le_of_ble_eq_true rfl⟩) (va_recv hK hP (ci := 6) (q0 := 0) rfl rfl) hK hP hS rfl hl.1 rfl (Nat.le_of_ble_eq_true rfl) dX6_findPath_109 ⟨Nat.le_refl _, Nat.le_refl _⟩ (fun r109 u109 H locs h hP hS => ?_)
        refine lv_iadd hx hb dX6_findPath_112 ?_
        refine lv_aload_n hx hb dX6_findPath_113 rfl (lv_at hl 0 rfl) ?_
        refine mwg_0_28 hx hb hts hinX6 hown hK hP (hts (.fieldLink RX6 63 "FilmBenchModel" "rest" "[I") (by decide +kernel)) dX6_findPath_114 ?_
        refine lv_bipush (v := (49 : Int32)) hx hb dX6_findPath_117 (by decide) ?_
        refine lv_bipush (v := (7 : Int32)) hx hb dX6_findPath_119 (by decide) ?_
        refine lv_iload hx hb dX6_findPath_121 (lv_at hl 5 rfl) ?_
        refine lv_imul hx hb dX6_findPath_123 ?_
        refine lv_iadd hx hb dX6_findPath_124 ?_
        refine lv_iload hx hb dX6_findPath_125 (lv_at hl 6 rfl) ?_
        refine lv_iadd hx hb dX6_findPath_127 ?_
        refine mwl_28 (v := ((u109.2 28) (((49 : Int32) + ((7 : Int32) * x6)) + x7).toNatClampNeg)) hx hb hK hP h.1 dX6_findPath_128 rfl ?_
        have h := h.2
        refine lv_iadd hx hb dX6_findPath_129 ?_
        refine lv_istore (lv' := [(8, .int ((r103 + r109) + ((u109.2 28) (((49 : Int32) + ((7 : Int32) * x6)) + x7).toNatClampNeg))), (0, .ref (adr 0)), (2, .int x2), (3, .int x3), (4, .int x4), (5, .int x5), (6, .int x6), (7, .int x7)]) hx hb dX6_findPath_130 hl (by decide) rfl (fun ls hl => ?_)
        refine lv_iload_n hx hb dX6_findPath_132 rfl (lv_at hl 3 rfl) ?_
        refine lv_if_lt (tgt := 142) hx hb dX6_findPath_133 (by decide) (fun hc => ?_) (fun hc => ?_)
        · have h := h.1 hc
          exact L142 _ ih x2 x6 x7 ((r103 + r109) + ((u109.2 28) (((49 : Int32) + ((7 : Int32) * x6)) + x7).toNatClampNeg)) u109 _ _ _ (lv_sub hl [1, 2, 6, 7, 0] rfl) hP hS h
        · have h := h.2 hc
          refine lv_iload hx hb dX6_findPath_136 (lv_at hl 0 rfl) ?_
          refine lv_iload_n hx hb dX6_findPath_138 rfl (lv_at hl 3 rfl) ?_
          refine lv_icmp_ge (tgt := 153) hx hb dX6_findPath_139 (by decide) (fun hc => ?_) (fun hc => ?_)
          · have h := h.1 hc
            refine lv_iinc (v := (x7 + 1)) (lv' := [(7, .int (x7 + 1)), (8, .int ((r103 + r109) + ((u109.2 28) (((49 : Int32) + ((7 : Int32) * x6)) + x7).toNatClampNeg))), (0, .ref (adr 0)), (2, .int x2), (3, .int x3), (4, .int x4), (5, .int x5), (6, .int x6)]) hx hb dX6_findPath_153 hl (k := 7) rfl (congrArg (HAdd.hAdd _) (show Int32.ofInt (1) = (1 : Int32) by decide)) (by decide) rfl (fun ls hl => ?_)
            refine lv_goto (tgt := 94) hx hb dX6_findPath_156 (by decide) ?_
            exact ih x2 x3 x4 x5 x6 (x7 + 1) u109 _ _ _ (lv_sub hl [2, 3, 4, 5, 6, 7, 0] rfl) hP hS h
          · have h := h.2 hc
            exact L142 _ ih x2 x6 x7 ((r103 + r109) + ((u109.2 28) (((49 : Int32) + ((7 : Int32) * x6)) + x7).toNatClampNeg)) u109 _ _ _ (lv_sub hl [1, 2, 6, 7, 0] rfl) hP hS h
  have L224 : ∀ (k210 : Int32 → Int32 → Int32 → US → Prop) (hk210 : ∀ (x4 : Int32) (x5 : Int32) (x6 : Int32) (u : US) (H : Heap) (locs : List Loc) (ls : Array Slot), lv_has ls 9 [(0, .ref (adr 0)), (4, .int x4), (5, .int x5), (6, .int x6)] → va_P D vwCl (mw adr cI cZ u) H → va_S A s.heap H locs → k210 x4 x5 x6 u → gWv p l e wsX6_findPath 5 s m [.ref (adr 0), .int p1] below meth c D cI cZ (mw adr cI cZ) A post H locs (F0 m 210 ls [])), ∀ (n : Nat), ∀ (x4 : Int32) (x5 : Int32) (x6 : Int32) (x7 : Int32) (u : US) (H : Heap) (locs : List Loc) (ls : Array Slot), lv_has ls 9 [(0, .ref (adr 0)), (4, .int x4), (5, .int x5), (6, .int x6), (7, .int x7)] → va_P D vwCl (mw adr cI cZ u) H → va_S A s.heap H locs → wp_X6_findPath_224 k210 post n x4 x5 x6 x7 u → gWv p l e wsX6_findPath 5 s m [.ref (adr 0), .int p1] below meth c D cI cZ (mw adr cI cZ) A post H locs (F0 m 224 ls []) := by
    intro k210 hk210 n
    induction n with
    | zero => intro x4 x5 x6 x7 u H locs ls hl hP hS h; exact False.elim h
    | succ n ih =>
      intro x4 x5 x6 x7 u H locs ls hl hP hS h
      unfold wp_X6_findPath_224 at h
      refine lv_aload_n hx hb dX6_findPath_224 rfl (lv_at hl 0 rfl) ?_
      refine lv_iload hx hb dX6_findPath_225 (lv_at hl 3 rfl) ?_
      refine lv_iload hx hb dX6_findPath_227 (lv_at hl 1 rfl) ?_
      refine lv_iload hx hb dX6_findPath_229 (lv_at hl 2 rfl) ?_
      refine lv_iload hx hb dX6_findPath_231 (lv_at hl 4 rfl) ?_
      refine gcallVi (As := [.int x6, .int x4, .int x5, .int x7]) (rest := []) ⟨hx, hb, hml, hown, hts⟩ (c_X6_by l D cI cZ adr A hD x6 x4 x5 x7 u _ h) (cwV 4 hts gX6_findPath_X6_by rfl rfl rfl (by decide +kernel) ⟨Nat.le_of_ble_eq_true rfl, Nat.le_of_ble_eq_true rfl⟩) (va_recv hK hP (ci := 6) (q0 := 0) rfl rfl) hK hP hS rfl hl.1 rfl (Nat.le_of_ble_eq_true rfl) dX6_findPath_233 ⟨Nat.le_refl _, Nat.le_refl _⟩ (fun r233 u233 H locs h hP hS => ?_)
      refine lv_aload_n hx hb dX6_findPath_236 rfl (lv_at hl 0 rfl) ?_
      refine mwg_0_28 hx hb hts hinX6 hown hK hP (hts (.fieldLink RX6 63 "FilmBenchModel" "rest" "[I") (by decide +kernel)) dX6_findPath_237 ?_
      refine lv_bipush (v := (49 : Int32)) hx hb dX6_findPath_240 (by decide) ?_
      refine lv_iload hx hb dX6_findPath_242 (lv_at hl 3 rfl) ?_
      refine lv_imul hx hb dX6_findPath_244 ?_
      refine lv_bipush (v := (7 : Int32)) hx hb dX6_findPath_245 (by decide) ?_
      refine lv_iload hx hb dX6_findPath_247 (lv_at hl 1 rfl) ?_
      refine lv_imul hx hb dX6_findPath_249 ?_
      refine lv_iadd hx hb dX6_findPath_250 ?_
      refine lv_iload hx hb dX6_findPath_251 (lv_at hl 2 rfl) ?_
      refine lv_iadd hx hb dX6_findPath_253 ?_
      refine mwl_28 (v := ((u233.2 28) ((((49 : Int32) * x6) + ((7 : Int32) * x4)) + x5).toNatClampNeg)) hx hb hK hP h.1 dX6_findPath_254 rfl ?_
      have h := h.2
      refine lv_icmp_eq (tgt := 264) hx hb dX6_findPath_255 (by decide) (fun hc => ?_) (fun hc => ?_)
      · have h := h.1 hc
        refine lv_aload_n hx hb dX6_findPath_264 rfl (lv_at hl 0 rfl) ?_
        refine mwg_0_27 hx hb hts hinX6 hown hK hP (hts (.fieldLink RX6 60 "FilmBenchModel" "path" "[I") (by decide +kernel)) dX6_findPath_265 ?_
        refine lv_iload hx hb dX6_findPath_268 (lv_at hl 3 rfl) ?_
        refine lv_iconst (v := (1 : Int32)) hx hb dX6_findPath_270 (by decide) ?_
        refine lv_iadd hx hb dX6_findPath_271 ?_
        refine lv_aload_n hx hb dX6_findPath_272 rfl (lv_at hl 0 rfl) ?_
        refine lv_iload hx hb dX6_findPath_273 (lv_at hl 3 rfl) ?_
        refine lv_iconst (v := (1 : Int32)) hx hb dX6_findPath_275 (by decide) ?_
        refine lv_iadd hx hb dX6_findPath_276 ?_
        refine lv_iload hx hb dX6_findPath_277 (lv_at hl 4 rfl) ?_
        refine gcallVi (As := [.int (x6 + (1 : Int32)), .int x7]) (rest := [.int (x6 + (1 : Int32)), .ref (adr 27)]) ⟨hx, hb, hml, hown, hts⟩ (c_X6_placeAt l D cI cZ adr A hD (x6 + (1 : Int32)) x7 u233 _ h) (cwV 2 hts gX6_findPath_X6_placeAt rfl rfl rfl (by decide +kernel) ⟨Nat.le_of_ble_eq_true rfl, Nat.le_of_ble_eq_true rfl⟩) (va_recv hK hP (ci := 6) (q0 := 0) rfl rfl) hK hP hS rfl hl.1 rfl (Nat.le_of_ble_eq_true rfl) dX6_findPath_279 ⟨Nat.le_refl _, Nat.le_refl _⟩ (fun r279 u279 H locs h hP hS => ?_)
        refine mws_27 hx hb hK hP (hD _) hS h.1 dX6_findPath_282 (fun H locs hP hS => ?_)
        have h := h.2
        refine lv_iload hx hb dX6_findPath_283 (lv_at hl 2 rfl) ?_
        refine lv_istore (lv' := [(4, .int x5), (0, .ref (adr 0)), (5, .int x5), (6, .int x6), (7, .int x7)]) hx hb dX6_findPath_285 hl (by decide) rfl (fun ls hl => ?_)
        refine lv_iload hx hb dX6_findPath_287 (lv_at hl 4 rfl) ?_
        refine lv_istore (lv' := [(5, .int x7), (4, .int x5), (0, .ref (adr 0)), (6, .int x6), (7, .int x7)]) hx hb dX6_findPath_289 hl (by decide) rfl (fun ls hl => ?_)
        refine lv_iinc (v := (x6 + 1)) (lv' := [(6, .int (x6 + 1)), (5, .int x7), (4, .int x5), (0, .ref (adr 0)), (7, .int x7)]) hx hb dX6_findPath_291 hl (k := 3) rfl (congrArg (HAdd.hAdd _) (show Int32.ofInt (1) = (1 : Int32) by decide)) (by decide) rfl (fun ls hl => ?_)
        refine lv_goto (tgt := 210) hx hb dX6_findPath_294 (by decide) ?_
        exact hk210 x5 x7 (x6 + 1) (sA u279 27 (upd (u279.2 27) (x6 + (1 : Int32)).toNatClampNeg r279)) _ _ _ (lv_sub hl [3, 2, 1, 0] rfl) hP hS h
      · have h := h.2 hc
        refine lv_iinc (v := (x7 + 1)) (lv' := [(7, .int (x7 + 1)), (0, .ref (adr 0)), (4, .int x4), (5, .int x5), (6, .int x6)]) hx hb dX6_findPath_258 hl (k := 4) rfl (congrArg (HAdd.hAdd _) (show Int32.ofInt (1) = (1 : Int32) by decide)) (by decide) rfl (fun ls hl => ?_)
        refine lv_goto (tgt := 224) hx hb dX6_findPath_261 (by decide) ?_
        exact ih x4 x5 x6 (x7 + 1) u233 _ _ _ (lv_sub hl [1, 2, 3, 4, 0] rfl) hP hS h
  have L210 : ∀ (n : Nat), ∀ (x4 : Int32) (x5 : Int32) (x6 : Int32) (u : US) (H : Heap) (locs : List Loc) (ls : Array Slot), lv_has ls 9 [(0, .ref (adr 0)), (4, .int x4), (5, .int x5), (6, .int x6)] → va_P D vwCl (mw adr cI cZ u) H → va_S A s.heap H locs → wp_X6_findPath_210  post n x4 x5 x6 u → gWv p l e wsX6_findPath 5 s m [.ref (adr 0), .int p1] below meth c D cI cZ (mw adr cI cZ) A post H locs (F0 m 210 ls []) := by
    intro  n
    induction n with
    | zero => intro x4 x5 x6 u H locs ls hl hP hS h; exact False.elim h
    | succ n ih =>
      intro x4 x5 x6 u H locs ls hl hP hS h
      refine lv_iload hx hb dX6_findPath_210 (lv_at hl 3 rfl) ?_
      refine lv_aload_n hx hb dX6_findPath_212 rfl (lv_at hl 0 rfl) ?_
      refine mwg_0_2 (v := (u.1 2)) hx hb hts hinX6 hown hK hP (hts (.fieldLink RX6 72 "FilmBenchModel" "frames" "I") (by decide +kernel)) dX6_findPath_213 rfl ?_
      refine lv_iconst (v := (1 : Int32)) hx hb dX6_findPath_216 (by decide) ?_
      refine lv_isub hx hb dX6_findPath_217 ?_
      refine lv_icmp_ge (tgt := 297) hx hb dX6_findPath_218 (by decide) (fun hc => ?_) (fun hc => ?_)
      · have h := h.1 hc
        exact gvret hx hb hr hlocks hK hP hS h dX6_findPath_297
      · have h := h.2 hc
        refine lv_iconst (v := (0 : Int32)) hx hb dX6_findPath_221 (by decide) ?_
        refine lv_istore (lv' := [(7, .int (0 : Int32)), (0, .ref (adr 0)), (4, .int x4), (5, .int x5), (6, .int x6)]) hx hb dX6_findPath_222 hl (by decide) rfl (fun ls hl => ?_)
        obtain ⟨n, h⟩ := h
        exact L224 _ ih n x4 x5 x6 (0 : Int32) u _ _ _ (lv_sub hl [1, 2, 3, 4, 0] rfl) hP hS h
  have L85 : ∀ (n : Nat), ∀ (x2 : Int32) (x3 : Int32) (x4 : Int32) (x5 : Int32) (x6 : Int32) (u : US) (H : Heap) (locs : List Loc) (ls : Array Slot), lv_has ls 9 [(0, .ref (adr 0)), (2, .int x2), (3, .int x3), (4, .int x4), (5, .int x5), (6, .int x6)] → va_P D vwCl (mw adr cI cZ u) H → va_S A s.heap H locs → wp_X6_findPath_85  post n x2 x3 x4 x5 x6 u → gWv p l e wsX6_findPath 5 s m [.ref (adr 0), .int p1] below meth c D cI cZ (mw adr cI cZ) A post H locs (F0 m 85 ls []) := by
    intro  n
    induction n with
    | zero => intro x2 x3 x4 x5 x6 u H locs ls hl hP hS h; exact False.elim h
    | succ n ih =>
      intro x2 x3 x4 x5 x6 u H locs ls hl hP hS h
      refine lv_iload hx hb dX6_findPath_85 (lv_at hl 5 rfl) ?_
      refine lv_iload_n hx hb dX6_findPath_87 rfl (lv_at hl 1 rfl) ?_
      refine lv_icmp_ge (tgt := 165) hx hb dX6_findPath_88 (by decide) (fun hc => ?_) (fun hc => ?_)
      · have h := h.1 hc
        refine lv_aload_n hx hb dX6_findPath_165 rfl (lv_at hl 0 rfl) ?_
        refine lv_iload_n hx hb dX6_findPath_166 rfl (lv_at hl 2 rfl) ?_
        refine lv_bipush (v := (100 : Int32)) hx hb dX6_findPath_167 (by decide) ?_
        refine lv_idiv hx hb dX6_findPath_169 (by decide) ?_
        refine mwp_0_29 (v := (x3 / (100 : Int32))) hx hb hts hinX6 hown hK hP (hD _) hS (hts (.fieldLink RX6 136 "FilmBenchModel" "bendsOf" "I") (by decide +kernel)) dX6_findPath_170 (fun H locs hP hS => ?_)
        refine lv_aload_n hx hb dX6_findPath_173 rfl (lv_at hl 0 rfl) ?_
        refine lv_iload_n hx hb dX6_findPath_174 rfl (lv_at hl 2 rfl) ?_
        refine lv_bipush (v := (100 : Int32)) hx hb dX6_findPath_175 (by decide) ?_
        refine lv_irem hx hb dX6_findPath_177 (by decide) ?_
        refine mwp_0_30 (v := (x3 - x3 / (100 : Int32) * (100 : Int32))) hx hb hts hinX6 hown hK hP (hD _) hS (hts (.fieldLink RX6 139 "FilmBenchModel" "straysOf" "I") (by decide +kernel)) dX6_findPath_178 (fun H locs hP hS => ?_)
        refine lv_aload_n hx hb dX6_findPath_181 rfl (lv_at hl 0 rfl) ?_
        refine mwg_0_27 hx hb hts hinX6 hown hK hP (hts (.fieldLink RX6 60 "FilmBenchModel" "path" "[I") (by decide +kernel)) dX6_findPath_182 ?_
        refine lv_iconst (v := (0 : Int32)) hx hb dX6_findPath_185 (by decide) ?_
        refine lv_aload_n hx hb dX6_findPath_186 rfl (lv_at hl 0 rfl) ?_
        refine lv_iconst (v := (0 : Int32)) hx hb dX6_findPath_187 (by decide) ?_
        refine lv_iload hx hb dX6_findPath_188 (lv_at hl 3 rfl) ?_
        refine gcallVi (As := [.int (0 : Int32), .int x4]) (rest := [.int (0 : Int32), .ref (adr 27)]) ⟨hx, hb, hml, hown, hts⟩ (c_X6_placeAt l D cI cZ adr A hD (0 : Int32) x4 (si (si u 29 (x3 / (100 : Int32))) 30 (x3 - x3 / (100 : Int32) * (100 : Int32))) _ h) (cwV 2 hts gX6_findPath_X6_placeAt rfl rfl rfl (by decide +kernel) ⟨Nat.le_of_ble_eq_true rfl, Nat.le_of_ble_eq_true rfl⟩) (va_recv hK hP (ci := 6) (q0 := 0) rfl rfl) hK hP hS rfl hl.1 rfl (Nat.le_of_ble_eq_true rfl) dX6_findPath_190 ⟨Nat.le_refl _, Nat.le_refl _⟩ (fun r190 u190 H locs h hP hS => ?_)
        refine mws_27 hx hb hK hP (hD _) hS (by unfold vp_in; decide) dX6_findPath_193 (fun H locs hP hS => ?_)
        refine lv_aload_n hx hb dX6_findPath_194 rfl (lv_at hl 0 rfl) ?_
        refine mwg_0_27 hx hb hts hinX6 hown hK hP (hts (.fieldLink RX6 60 "FilmBenchModel" "path" "[I") (by decide +kernel)) dX6_findPath_195 ?_
        refine lv_iconst (v := (1 : Int32)) hx hb dX6_findPath_198 (by decide) ?_
        refine lv_aload_n hx hb dX6_findPath_199 rfl (lv_at hl 0 rfl) ?_
        refine lv_iconst (v := (1 : Int32)) hx hb dX6_findPath_200 (by decide) ?_
        refine lv_iload hx hb dX6_findPath_201 (lv_at hl 4 rfl) ?_
        refine gcallVi (As := [.int (1 : Int32), .int x5]) (rest := [.int (1 : Int32), .ref (adr 27)]) ⟨hx, hb, hml, hown, hts⟩ (c_X6_placeAt l D cI cZ adr A hD (1 : Int32) x5 (sA u190 27 (upd (u190.2 27) (0 : Int32).toNatClampNeg r190)) _ h) (cwV 2 hts gX6_findPath_X6_placeAt rfl rfl rfl (by decide +kernel) ⟨Nat.le_of_ble_eq_true rfl, Nat.le_of_ble_eq_true rfl⟩) (va_recv hK hP (ci := 6) (q0 := 0) rfl rfl) hK hP hS rfl hl.1 rfl (Nat.le_of_ble_eq_true rfl) dX6_findPath_203 ⟨Nat.le_refl _, Nat.le_refl _⟩ (fun r203 u203 H locs h hP hS => ?_)
        refine mws_27 hx hb hK hP (hD _) hS (by unfold vp_in; decide) dX6_findPath_206 (fun H locs hP hS => ?_)
        refine lv_iconst (v := (1 : Int32)) hx hb dX6_findPath_207 (by decide) ?_
        refine lv_istore (lv' := [(6, .int (1 : Int32)), (0, .ref (adr 0)), (2, .int x2), (3, .int x3), (4, .int x4), (5, .int x5)]) hx hb dX6_findPath_208 hl (by decide) rfl (fun ls hl => ?_)
        obtain ⟨n, h⟩ := h
        exact L210  n x4 x5 (1 : Int32) (sA u203 27 (upd (u203.2 27) (1 : Int32).toNatClampNeg r203)) _ _ _ (lv_sub hl [1, 4, 5, 0] rfl) hP hS h
      · have h := h.2 hc
        refine lv_iconst (v := (0 : Int32)) hx hb dX6_findPath_91 (by decide) ?_
        refine lv_istore (lv' := [(7, .int (0 : Int32)), (0, .ref (adr 0)), (2, .int x2), (3, .int x3), (4, .int x4), (5, .int x5), (6, .int x6)]) hx hb dX6_findPath_92 hl (by decide) rfl (fun ls hl => ?_)
        obtain ⟨n, h⟩ := h
        exact L94 _ ih n x2 x3 x4 x5 x6 (0 : Int32) u _ _ _ (lv_sub hl [1, 2, 3, 4, 5, 6, 0] rfl) hP hS h
  have L23 : ∀ (n : Nat), ∀ (x1 : Int32) (x2 : Int32) (x3 : Int32) (u : US) (H : Heap) (locs : List Loc) (ls : Array Slot), lv_has ls 9 [(0, .ref (adr 0)), (1, .int x1), (2, .int x2), (3, .int x3)] → va_P D vwCl (mw adr cI cZ u) H → va_S A s.heap H locs → wp_X6_findPath_23  post n x1 x2 x3 u → gWv p l e wsX6_findPath 5 s m [.ref (adr 0), .int p1] below meth c D cI cZ (mw adr cI cZ) A post H locs (F0 m 23 ls []) := by
    intro  n
    induction n with
    | zero => intro x1 x2 x3 u H locs ls hl hP hS h; exact False.elim h
    | succ n ih =>
      intro x1 x2 x3 u H locs ls hl hP hS h
      refine lv_iload_n hx hb dX6_findPath_23 rfl (lv_at hl 3 rfl) ?_
      refine lv_aload_n hx hb dX6_findPath_24 rfl (lv_at hl 0 rfl) ?_
      refine mwg_0_2 (v := (u.1 2)) hx hb hts hinX6 hown hK hP (hts (.fieldLink RX6 72 "FilmBenchModel" "frames" "I") (by decide +kernel)) dX6_findPath_25 rfl ?_
      refine lv_icmp_ge (tgt := 61) hx hb dX6_findPath_28 (by decide) (fun hc => ?_) (fun hc => ?_)
      · have h := h.1 hc
        refine lv_aload_n hx hb dX6_findPath_61 rfl (lv_at hl 0 rfl) ?_
        refine mwg_0_2 (v := (u.1 2)) hx hb hts hinX6 hown hK hP (hts (.fieldLink RX6 72 "FilmBenchModel" "frames" "I") (by decide +kernel)) dX6_findPath_62 rfl ?_
        refine lv_iconst (v := (2 : Int32)) hx hb dX6_findPath_65 (by decide) ?_
        refine lv_icmp_ge (tgt := 70) hx hb dX6_findPath_66 (by decide) (fun hc => ?_) (fun hc => ?_)
        · have h := h.1 hc
          refine lv_aload_n hx hb dX6_findPath_70 rfl (lv_at hl 0 rfl) ?_
          refine gcallVv (As := []) (rest := []) ⟨hx, hb, hml, hown, hts⟩ (c_X6_findRest l D cI cZ adr A hD u _ h) (cwV 0 hts gX6_findPath_X6_findRest rfl rfl rfl (by decide +kernel) ⟨Nat.le_of_ble_eq_true rfl, Nat.le_of_ble_eq_true rfl⟩) (va_recv hK hP (ci := 6) (q0 := 0) rfl rfl) hK hP hS rfl hl.1 rfl (Nat.le_of_ble_eq_true rfl) dX6_findPath_71 ⟨Nat.le_refl _, Nat.le_refl _⟩ (fun u71 H locs h hP hS => ?_)
          refine lv_iconst (v := (-1 : Int32)) hx hb dX6_findPath_74 (by decide) ?_
          refine lv_istore_n (lv' := [(3, .int (-1 : Int32)), (0, .ref (adr 0)), (1, .int x1), (2, .int x2)]) hx hb dX6_findPath_75 rfl hl (by decide) rfl (fun ls hl => ?_)
          refine lv_iconst (v := (0 : Int32)) hx hb dX6_findPath_76 (by decide) ?_
          refine lv_istore (lv' := [(4, .int (0 : Int32)), (3, .int (-1 : Int32)), (0, .ref (adr 0)), (1, .int x1), (2, .int x2)]) hx hb dX6_findPath_77 hl (by decide) rfl (fun ls hl => ?_)
          refine lv_iconst (v := (0 : Int32)) hx hb dX6_findPath_79 (by decide) ?_
          refine lv_istore (lv' := [(5, .int (0 : Int32)), (4, .int (0 : Int32)), (3, .int (-1 : Int32)), (0, .ref (adr 0)), (1, .int x1), (2, .int x2)]) hx hb dX6_findPath_80 hl (by decide) rfl (fun ls hl => ?_)
          refine lv_iconst (v := (0 : Int32)) hx hb dX6_findPath_82 (by decide) ?_
          refine lv_istore (lv' := [(6, .int (0 : Int32)), (5, .int (0 : Int32)), (4, .int (0 : Int32)), (3, .int (-1 : Int32)), (0, .ref (adr 0)), (1, .int x1), (2, .int x2)]) hx hb dX6_findPath_83 hl (by decide) rfl (fun ls hl => ?_)
          obtain ⟨n, h⟩ := h
          exact L85  n x2 (-1 : Int32) (0 : Int32) (0 : Int32) (0 : Int32) u71 _ _ _ (lv_sub hl [4, 6, 3, 2, 1, 0] rfl) hP hS h
        · have h := h.2 hc
          exact gvret hx hb hr hlocks hK hP hS h dX6_findPath_69
      · have h := h.2 hc
        refine lv_aload_n hx hb dX6_findPath_31 rfl (lv_at hl 0 rfl) ?_
        refine mwg_0_26 hx hb hts hinX6 hown hK hP (hts (.fieldLink RX6 57 "FilmBenchModel" "drifts" "[I") (by decide +kernel)) dX6_findPath_32 ?_
        refine lv_iload_n hx hb dX6_findPath_35 rfl (lv_at hl 3 rfl) ?_
        refine lv_aload_n hx hb dX6_findPath_36 rfl (lv_at hl 0 rfl) ?_
        refine lv_iload_n hx hb dX6_findPath_37 rfl (lv_at hl 3 rfl) ?_
        refine lv_iload_n hx hb dX6_findPath_38 rfl (lv_at hl 1 rfl) ?_
        refine gcallVi (As := [.int x3, .int x1]) (rest := [.int x3, .ref (adr 26)]) ⟨hx, hb, hml, hown, hts⟩ (c_X6_driftOf l D cI cZ adr A hD x3 x1 u _ h) (cwV 2 hts gX6_findPath_X6_driftOf rfl rfl rfl (by decide +kernel) ⟨Nat.le_of_ble_eq_true rfl, Nat.le_of_ble_eq_true rfl⟩) (va_recv hK hP (ci := 6) (q0 := 0) rfl rfl) hK hP hS rfl hl.1 rfl (Nat.le_of_ble_eq_true rfl) dX6_findPath_39 ⟨Nat.le_refl _, Nat.le_refl _⟩ (fun r39 u39 H locs h hP hS => ?_)
        refine mws_26 hx hb hK hP (hD _) hS h.1 dX6_findPath_42 (fun H locs hP hS => ?_)
        have h := h.2
        refine lv_aload_n hx hb dX6_findPath_43 rfl (lv_at hl 0 rfl) ?_
        refine mwg_0_27 hx hb hts hinX6 hown hK hP (hts (.fieldLink RX6 60 "FilmBenchModel" "path" "[I") (by decide +kernel)) dX6_findPath_44 ?_
        refine lv_iload_n hx hb dX6_findPath_47 rfl (lv_at hl 3 rfl) ?_
        refine lv_aload_n hx hb dX6_findPath_48 rfl (lv_at hl 0 rfl) ?_
        refine mwg_0_26 hx hb hts hinX6 hown hK hP (hts (.fieldLink RX6 57 "FilmBenchModel" "drifts" "[I") (by decide +kernel)) dX6_findPath_49 ?_
        refine lv_iload_n hx hb dX6_findPath_52 rfl (lv_at hl 3 rfl) ?_
        refine mwl_26 (v := ((upd (u39.2 26) x3.toNatClampNeg r39) x3.toNatClampNeg)) hx hb hK hP h.1 dX6_findPath_53 rfl ?_
        have h := h.2
        refine mws_27 hx hb hK hP (hD _) hS h.1 dX6_findPath_54 (fun H locs hP hS => ?_)
        have h := h.2
        refine lv_iinc (v := (x3 + 1)) (lv' := [(3, .int (x3 + 1)), (0, .ref (adr 0)), (1, .int x1), (2, .int x2)]) hx hb dX6_findPath_55 hl (k := 3) rfl (congrArg (HAdd.hAdd _) (show Int32.ofInt (1) = (1 : Int32) by decide)) (by decide) rfl (fun ls hl => ?_)
        refine lv_goto (tgt := 23) hx hb dX6_findPath_58 (by decide) ?_
        exact ih x1 x2 (x3 + 1) (sA (sA u39 26 (upd (u39.2 26) x3.toNatClampNeg r39)) 27 (upd (u39.2 27) x3.toNatClampNeg ((upd (u39.2 26) x3.toNatClampNeg r39) x3.toNatClampNeg))) _ _ _ (lv_sub hl [1, 2, 3, 0] rfl) hP hS h
  have hl := lv_entry ([.ref (adr 0), .int p1]) (n := 9) (Nat.le_of_ble_eq_true rfl)
  rw [lg_entry_eq]
  generalize (lg_sl ([.ref (adr 0), .int p1]) ++ List.replicate (9 - (lg_sl ([.ref (adr 0), .int p1])).length) Slot.unset).toArray = ls at hl ⊢
  replace hl : lv_has ls 9 [(0, .ref (adr 0)), (1, .int p1)] := hl
  refine lv_iconst (v := (2 : Int32)) hx hb dX6_findPath_0 (by decide) ?_
  refine lv_aload_n hx hb dX6_findPath_1 rfl (lv_at hl 0 rfl) ?_
  refine mwg_0_10 hx hb hts hinX6 hown hK hP (hts (.fieldLink RX6 36 "FilmBenchModel" "rules" "[I") (by decide +kernel)) dX6_findPath_2 ?_
  refine lv_iconst (v := (0 : Int32)) hx hb dX6_findPath_5 (by decide) ?_
  refine mwl_10 (v := ((u.2 10) (0 : Int32).toNatClampNeg)) hx hb hK hP (by unfold vp_in; decide) dX6_findPath_6 rfl ?_
  refine lv_imul hx hb dX6_findPath_7 ?_
  refine lv_iconst (v := (1 : Int32)) hx hb dX6_findPath_8 (by decide) ?_
  refine lv_iadd hx hb dX6_findPath_9 ?_
  refine lv_istore_n (lv' := [(2, .int (((2 : Int32) * ((u.2 10) (0 : Int32).toNatClampNeg)) + (1 : Int32))), (0, .ref (adr 0)), (1, .int p1)]) hx hb dX6_findPath_10 rfl hl (by decide) rfl (fun ls hl => ?_)
  refine lv_aload_n hx hb dX6_findPath_11 rfl (lv_at hl 1 rfl) ?_
  refine lv_iconst (v := (0 : Int32)) hx hb dX6_findPath_12 (by decide) ?_
  refine mwp_0_29 (v := (0 : Int32)) hx hb hts hinX6 hown hK hP (hD _) hS (hts (.fieldLink RX6 136 "FilmBenchModel" "bendsOf" "I") (by decide +kernel)) dX6_findPath_13 (fun H locs hP hS => ?_)
  refine lv_aload_n hx hb dX6_findPath_16 rfl (lv_at hl 1 rfl) ?_
  refine lv_iconst (v := (0 : Int32)) hx hb dX6_findPath_17 (by decide) ?_
  refine mwp_0_30 (v := (0 : Int32)) hx hb hts hinX6 hown hK hP (hD _) hS (hts (.fieldLink RX6 139 "FilmBenchModel" "straysOf" "I") (by decide +kernel)) dX6_findPath_18 (fun H locs hP hS => ?_)
  refine lv_iconst (v := (0 : Int32)) hx hb dX6_findPath_21 (by decide) ?_
  refine lv_istore_n (lv' := [(3, .int (0 : Int32)), (2, .int (((2 : Int32) * ((u.2 10) (0 : Int32).toNatClampNeg)) + (1 : Int32))), (0, .ref (adr 0)), (1, .int p1)]) hx hb dX6_findPath_22 rfl hl (by decide) rfl (fun ls hl => ?_)
  obtain ⟨n, h⟩ := h
  exact L23  n p1 (((2 : Int32) * ((u.2 10) (0 : Int32).toNatClampNeg)) + (1 : Int32)) (0 : Int32) (si (si u 29 (0 : Int32)) 30 (0 : Int32)) _ _ _ (lv_sub hl [2, 3, 1, 0] rfl) hP hS h
set_option maxRecDepth 100000 in
set_option maxHeartbeats 4000000 in
theorem c_X6_path (l : Launch) (D : va_G) (cI cZ : ClassId) (adr : Nat → Nat) (A : Nat → Prop) (hD : ∀ u, va_D A (mw adr cI cZ u)) (p1 : Int32) (p2 : Int32) (u : US) (post : Int32 → US → Prop) (h : wp_X6_path p1 p2 u post) : gMi l yX6_path wsX6_path 6 D cI cZ (mw adr cI cZ) A [.ref (adr 0), .int p1, .int p2] u post := by
  refine Met.ofW (cc := cX6_path) (maxL := 3) (ret := (some .int)) (by decide) rfl ?_
  intro p e s m args below meth c s₁ B hml hv
  obtain ⟨rfl, hP, hK⟩ := hv
  have hx := B.exec
  have hb := B.bytes
  have hr := B.returns
  have hts := atoms_spec (ws := wsX6_path) B.pre
  have hown : s.vm.findClass RX6 = some m.cls := findClass_of_methodNamed B.named
  have hlocks := B.notSynchronized
  have hinX6 : ∀ w ∈ wsX60, w ∈ wsX6_path := by decide +kernel
  have hS : va_S A s.heap s.heap [] := va_S.rf
  have hl := lv_entry ([.ref (adr 0), .int p1, .int p2]) (n := 3) (Nat.le_of_ble_eq_true rfl)
  rw [lg_entry_eq]
  generalize (lg_sl ([.ref (adr 0), .int p1, .int p2]) ++ List.replicate (3 - (lg_sl ([.ref (adr 0), .int p1, .int p2])).length) Slot.unset).toArray = ls at hl ⊢
  replace hl : lv_has ls 3 [(0, .ref (adr 0)), (1, .int p1), (2, .int p2)] := hl
  refine lv_aload_n hx hb dX6_path_0 rfl (lv_at hl 0 rfl) ?_
  refine lv_iload_n hx hb dX6_path_1 rfl (lv_at hl 1 rfl) ?_
  refine gcallVi (As := [.int p1]) (rest := []) ⟨hx, hb, hml, hown, hts⟩ (c_X6_isFrame l D cI cZ adr A hD p1 u _ h) (cwV 1 hts gX6_path_X6_isFrame rfl rfl rfl (by decide +kernel) ⟨Nat.le_of_ble_eq_true rfl, Nat.le_of_ble_eq_true rfl⟩) (va_recv hK hP (ci := 6) (q0 := 0) rfl rfl) hK hP hS rfl hl.1 rfl (Nat.le_of_ble_eq_true rfl) dX6_path_2 ⟨Nat.le_refl _, Nat.le_refl _⟩ (fun r2 u2 H locs h hP hS => ?_)
  refine lv_if_eq (tgt := 17) hx hb dX6_path_5 (by decide) (fun hc => ?_) (fun hc => ?_)
  · have h := h.1 hc
    refine lv_sipush (v := (-1000 : Int32)) hx hb dX6_path_17 (by decide) ?_
    exact giret hx hb hr hlocks hK hP hS h dX6_path_20
  · have h := h.2 hc
    refine lv_iload_n hx hb dX6_path_8 rfl (lv_at hl 2 rfl) ?_
    refine lv_iconst (v := (0 : Int32)) hx hb dX6_path_9 (by decide) ?_
    refine lv_iconst (v := (1 : Int32)) hx hb dX6_path_10 (by decide) ?_
    refine gcallSi (As := [.int p2, .int (0 : Int32), .int (1 : Int32)]) (rest := []) ⟨hx, hb, hml, hown, hts⟩ (c_X6_in l D cI cZ adr A hD p2 (0 : Int32) (1 : Int32) u2 _ h) (va_cwS 3 hts gX6_path_X6_in rfl rfl rfl (by decide +kernel) ⟨Nat.le_of_ble_eq_true rfl, Nat.le_of_ble_eq_true rfl⟩) hK hP hS rfl hl.1 rfl (Nat.le_of_ble_eq_true rfl) dX6_path_11 ⟨Nat.le_refl _, Nat.le_refl _⟩ (fun r11 u11 H locs h hP hS => ?_)
    refine lv_if_ne (tgt := 21) hx hb dX6_path_14 (by decide) (fun hc => ?_) (fun hc => ?_)
    · have h := h.2 hc
      refine lv_aload_n hx hb dX6_path_21 rfl (lv_at hl 0 rfl) ?_
      refine lv_iload_n hx hb dX6_path_22 rfl (lv_at hl 2 rfl) ?_
      refine gcallVv (As := [.int p2]) (rest := []) ⟨hx, hb, hml, hown, hts⟩ (c_X6_findPath l D cI cZ adr A hD p2 u11 _ h) (cwV 1 hts gX6_path_X6_findPath rfl rfl rfl (by decide +kernel) ⟨Nat.le_of_ble_eq_true rfl, Nat.le_of_ble_eq_true rfl⟩) (va_recv hK hP (ci := 6) (q0 := 0) rfl rfl) hK hP hS rfl hl.1 rfl (Nat.le_of_ble_eq_true rfl) dX6_path_23 ⟨Nat.le_refl _, Nat.le_refl _⟩ (fun u23 H locs h hP hS => ?_)
      refine lv_aload_n hx hb dX6_path_26 rfl (lv_at hl 0 rfl) ?_
      refine mwg_0_27 hx hb hts hinX6 hown hK hP (hts (.fieldLink RX6 60 "FilmBenchModel" "path" "[I") (by decide +kernel)) dX6_path_27 ?_
      refine lv_iload_n hx hb dX6_path_30 rfl (lv_at hl 1 rfl) ?_
      refine mwl_27 (v := ((u23.2 27) p1.toNatClampNeg)) hx hb hK hP h.1 dX6_path_31 rfl ?_
      have h := h.2
      exact giret hx hb hr hlocks hK hP hS h dX6_path_32
    · have h := h.1 hc
      refine lv_sipush (v := (-1000 : Int32)) hx hb dX6_path_17 (by decide) ?_
      exact giret hx hb hr hlocks hK hP hS h dX6_path_20
set_option maxRecDepth 100000 in
set_option maxHeartbeats 4000000 in
theorem c_X6_bends (l : Launch) (D : va_G) (cI cZ : ClassId) (adr : Nat → Nat) (A : Nat → Prop) (hD : ∀ u, va_D A (mw adr cI cZ u)) (p1 : Int32) (p2 : Int32) (u : US) (post : Int32 → US → Prop) (h : wp_X6_bends p1 p2 u post) : gMi l yX6_bends wsX6_bends 6 D cI cZ (mw adr cI cZ) A [.ref (adr 0), .int p1, .int p2] u post := by
  refine Met.ofW (cc := cX6_bends) (maxL := 3) (ret := (some .int)) (by decide) rfl ?_
  intro p e s m args below meth c s₁ B hml hv
  obtain ⟨rfl, hP, hK⟩ := hv
  have hx := B.exec
  have hb := B.bytes
  have hr := B.returns
  have hts := atoms_spec (ws := wsX6_bends) B.pre
  have hown : s.vm.findClass RX6 = some m.cls := findClass_of_methodNamed B.named
  have hlocks := B.notSynchronized
  have hinX6 : ∀ w ∈ wsX60, w ∈ wsX6_bends := by decide +kernel
  have hS : va_S A s.heap s.heap [] := va_S.rf
  have hl := lv_entry ([.ref (adr 0), .int p1, .int p2]) (n := 3) (Nat.le_of_ble_eq_true rfl)
  rw [lg_entry_eq]
  generalize (lg_sl ([.ref (adr 0), .int p1, .int p2]) ++ List.replicate (3 - (lg_sl ([.ref (adr 0), .int p1, .int p2])).length) Slot.unset).toArray = ls at hl ⊢
  replace hl : lv_has ls 3 [(0, .ref (adr 0)), (1, .int p1), (2, .int p2)] := hl
  refine lv_iload_n hx hb dX6_bends_0 rfl (lv_at hl 1 rfl) ?_
  refine lv_iconst (v := (0 : Int32)) hx hb dX6_bends_1 (by decide) ?_
  refine lv_iconst (v := (1 : Int32)) hx hb dX6_bends_2 (by decide) ?_
  refine gcallSi (As := [.int p1, .int (0 : Int32), .int (1 : Int32)]) (rest := []) ⟨hx, hb, hml, hown, hts⟩ (c_X6_in l D cI cZ adr A hD p1 (0 : Int32) (1 : Int32) u _ h) (va_cwS 3 hts gX6_bends_X6_in rfl rfl rfl (by decide +kernel) ⟨Nat.le_of_ble_eq_true rfl, Nat.le_of_ble_eq_true rfl⟩) hK hP hS rfl hl.1 rfl (Nat.le_of_ble_eq_true rfl) dX6_bends_3 ⟨Nat.le_refl _, Nat.le_refl _⟩ (fun r3 u3 H locs h hP hS => ?_)
  refine lv_if_eq (tgt := 18) hx hb dX6_bends_6 (by decide) (fun hc => ?_) (fun hc => ?_)
  · have h := h.1 hc
    refine lv_iconst (v := (-1 : Int32)) hx hb dX6_bends_18 (by decide) ?_
    exact giret hx hb hr hlocks hK hP hS h dX6_bends_19
  · have h := h.2 hc
    refine lv_iload_n hx hb dX6_bends_9 rfl (lv_at hl 2 rfl) ?_
    refine lv_iconst (v := (0 : Int32)) hx hb dX6_bends_10 (by decide) ?_
    refine lv_iconst (v := (1 : Int32)) hx hb dX6_bends_11 (by decide) ?_
    refine gcallSi (As := [.int p2, .int (0 : Int32), .int (1 : Int32)]) (rest := []) ⟨hx, hb, hml, hown, hts⟩ (c_X6_in l D cI cZ adr A hD p2 (0 : Int32) (1 : Int32) u3 _ h) (va_cwS 3 hts gX6_bends_X6_in rfl rfl rfl (by decide +kernel) ⟨Nat.le_of_ble_eq_true rfl, Nat.le_of_ble_eq_true rfl⟩) hK hP hS rfl hl.1 rfl (Nat.le_of_ble_eq_true rfl) dX6_bends_12 ⟨Nat.le_refl _, Nat.le_refl _⟩ (fun r12 u12 H locs h hP hS => ?_)
    refine lv_if_ne (tgt := 20) hx hb dX6_bends_15 (by decide) (fun hc => ?_) (fun hc => ?_)
    · have h := h.2 hc
      refine lv_aload_n hx hb dX6_bends_20 rfl (lv_at hl 0 rfl) ?_
      refine lv_iload_n hx hb dX6_bends_21 rfl (lv_at hl 1 rfl) ?_
      refine gcallVv (As := [.int p1]) (rest := []) ⟨hx, hb, hml, hown, hts⟩ (c_X6_findPath l D cI cZ adr A hD p1 u12 _ h) (cwV 1 hts gX6_bends_X6_findPath rfl rfl rfl (by decide +kernel) ⟨Nat.le_of_ble_eq_true rfl, Nat.le_of_ble_eq_true rfl⟩) (va_recv hK hP (ci := 6) (q0 := 0) rfl rfl) hK hP hS rfl hl.1 rfl (Nat.le_of_ble_eq_true rfl) dX6_bends_22 ⟨Nat.le_refl _, Nat.le_refl _⟩ (fun u22 H locs h hP hS => ?_)
      refine lv_iload_n hx hb dX6_bends_25 rfl (lv_at hl 2 rfl) ?_
      refine lv_if_ne (tgt := 36) hx hb dX6_bends_26 (by decide) (fun hc => ?_) (fun hc => ?_)
      · have h := h.2 hc
        refine lv_aload_n hx hb dX6_bends_36 rfl (lv_at hl 0 rfl) ?_
        refine mwg_0_30 (v := (u22.1 30)) hx hb hts hinX6 hown hK hP (hts (.fieldLink RX6 139 "FilmBenchModel" "straysOf" "I") (by decide +kernel)) dX6_bends_37 rfl ?_
        exact giret hx hb hr hlocks hK hP hS h dX6_bends_40
      · have h := h.1 hc
        refine lv_aload_n hx hb dX6_bends_29 rfl (lv_at hl 0 rfl) ?_
        refine mwg_0_29 (v := (u22.1 29)) hx hb hts hinX6 hown hK hP (hts (.fieldLink RX6 136 "FilmBenchModel" "bendsOf" "I") (by decide +kernel)) dX6_bends_30 rfl ?_
        refine lv_goto (tgt := 40) hx hb dX6_bends_33 (by decide) ?_
        exact giret hx hb hr hlocks hK hP hS h dX6_bends_40
    · have h := h.1 hc
      refine lv_iconst (v := (-1 : Int32)) hx hb dX6_bends_18 (by decide) ?_
      exact giret hx hb hr hlocks hK hP hS h dX6_bends_19
set_option maxRecDepth 100000 in
set_option maxHeartbeats 4000000 in
theorem c_X6_cleaned (l : Launch) (D : va_G) (cI cZ : ClassId) (adr : Nat → Nat) (A : Nat → Prop) (hD : ∀ u, va_D A (mw adr cI cZ u)) (p1 : Int32) (p2 : Int32) (p3 : Int32) (u : US) (post : Int32 → US → Prop) (h : wp_X6_cleaned p1 p2 p3 u post) : gMi l yX6_cleaned wsX6_cleaned 1 D cI cZ (mw adr cI cZ) A [.ref (adr 0), .int p1, .int p2, .int p3] u post := by
  refine Met.ofW (cc := cX6_cleaned) (maxL := 7) (ret := (some .int)) (by decide) rfl ?_
  intro p e s m args below meth c s₁ B hml hv
  obtain ⟨rfl, hP, hK⟩ := hv
  have hx := B.exec
  have hb := B.bytes
  have hr := B.returns
  have hts := atoms_spec (ws := wsX6_cleaned) B.pre
  have hown : s.vm.findClass RX6 = some m.cls := findClass_of_methodNamed B.named
  have hlocks := B.notSynchronized
  have hinX6 : ∀ w ∈ wsX60, w ∈ wsX6_cleaned := by decide +kernel
  have hS : va_S A s.heap s.heap [] := va_S.rf
  have L117 : ∀ (s0 : Int32) (x4 : Int32) (x5 : Int32) (u : US) (H : Heap) (locs : List Loc) (ls : Array Slot), lv_has ls 7 [(4, .int x4), (5, .int x5)] → va_P D vwCl (mw adr cI cZ u) H → va_S A s.heap H locs → wp_X6_cleaned_117  post s0 x4 x5 u → gWi p l e wsX6_cleaned 1 s m [.ref (adr 0), .int p1, .int p2, .int p3] below meth c D cI cZ (mw adr cI cZ) A post H locs (F0 m 117 ls [.int s0]) := by
    intro  s0 x4 x5 u H locs ls hl hP hS h
    refine lv_istore (lv' := [(6, .int s0), (4, .int x4), (5, .int x5)]) hx hb dX6_cleaned_117 hl (by decide) rfl (fun ls hl => ?_)
    refine lv_iload hx hb dX6_cleaned_119 (lv_at hl 0 rfl) ?_
    refine lv_if_eq (tgt := 134) hx hb dX6_cleaned_121 (by decide) (fun hc => ?_) (fun hc => ?_)
    · have h := h.1 hc
      refine lv_iconst (v := (-1 : Int32)) hx hb dX6_cleaned_134 (by decide) ?_
      exact giret hx hb hr hlocks hK hP hS h dX6_cleaned_135
    · have h := h.2 hc
      refine lv_iload hx hb dX6_cleaned_124 (lv_at hl 1 rfl) ?_
      refine lv_iload hx hb dX6_cleaned_126 (lv_at hl 2 rfl) ?_
      refine lv_iadd hx hb dX6_cleaned_128 ?_
      refine lv_iconst (v := (2 : Int32)) hx hb dX6_cleaned_129 (by decide) ?_
      refine lv_idiv hx hb dX6_cleaned_130 (by decide) ?_
      refine lv_goto (tgt := 135) hx hb dX6_cleaned_131 (by decide) ?_
      exact giret hx hb hr hlocks hK hP hS h dX6_cleaned_135
  have L116 : ∀ (x4 : Int32) (x5 : Int32) (u : US) (H : Heap) (locs : List Loc) (ls : Array Slot), lv_has ls 7 [(4, .int x4), (5, .int x5)] → va_P D vwCl (mw adr cI cZ u) H → va_S A s.heap H locs → wp_X6_cleaned_116  post x4 x5 u → gWi p l e wsX6_cleaned 1 s m [.ref (adr 0), .int p1, .int p2, .int p3] below meth c D cI cZ (mw adr cI cZ) A post H locs (F0 m 116 ls []) := by
    intro  x4 x5 u H locs ls hl hP hS h
    refine lv_iconst (v := (0 : Int32)) hx hb dX6_cleaned_116 (by decide) ?_
    exact L117  (0 : Int32) x4 x5 u _ _ _ (lv_sub hl [0, 1] rfl) hP hS h
  have hl := lv_entry ([.ref (adr 0), .int p1, .int p2, .int p3]) (n := 7) (Nat.le_of_ble_eq_true rfl)
  rw [lg_entry_eq]
  generalize (lg_sl ([.ref (adr 0), .int p1, .int p2, .int p3]) ++ List.replicate (7 - (lg_sl ([.ref (adr 0), .int p1, .int p2, .int p3])).length) Slot.unset).toArray = ls at hl ⊢
  replace hl : lv_has ls 7 [(0, .ref (adr 0)), (1, .int p1), (2, .int p2), (3, .int p3)] := hl
  refine lv_iload_n hx hb dX6_cleaned_0 rfl (lv_at hl 3 rfl) ?_
  refine lv_iconst (v := (-1 : Int32)) hx hb dX6_cleaned_1 (by decide) ?_
  refine lv_icmp_eq (tgt := 19) hx hb dX6_cleaned_2 (by decide) (fun hc => ?_) (fun hc => ?_)
  · have h := h.1 hc
    refine lv_iconst (v := (-1 : Int32)) hx hb dX6_cleaned_19 (by decide) ?_
    exact giret hx hb hr hlocks hK hP hS h dX6_cleaned_20
  · have h := h.2 hc
    refine lv_iload_n hx hb dX6_cleaned_5 rfl (lv_at hl 1 rfl) ?_
    refine lv_if_eq (tgt := 19) hx hb dX6_cleaned_6 (by decide) (fun hc => ?_) (fun hc => ?_)
    · have h := h.1 hc
      refine lv_iconst (v := (-1 : Int32)) hx hb dX6_cleaned_19 (by decide) ?_
      exact giret hx hb hr hlocks hK hP hS h dX6_cleaned_20
    · have h := h.2 hc
      refine lv_iload_n hx hb dX6_cleaned_9 rfl (lv_at hl 1 rfl) ?_
      refine lv_aload_n hx hb dX6_cleaned_10 rfl (lv_at hl 0 rfl) ?_
      refine mwg_0_2 (v := (u.1 2)) hx hb hts hinX6 hown hK hP (hts (.fieldLink RX6 72 "FilmBenchModel" "frames" "I") (by decide +kernel)) dX6_cleaned_11 rfl ?_
      refine lv_iconst (v := (1 : Int32)) hx hb dX6_cleaned_14 (by decide) ?_
      refine lv_isub hx hb dX6_cleaned_15 ?_
      refine lv_icmp_ne (tgt := 21) hx hb dX6_cleaned_16 (by decide) (fun hc => ?_) (fun hc => ?_)
      · have h := h.2 hc
        refine lv_aload_n hx hb dX6_cleaned_21 rfl (lv_at hl 0 rfl) ?_
        refine mwg_0_3 hx hb hts hinX6 hown hK hP (hts (.fieldLink RX6 16 "FilmBenchModel" "raw" "[I") (by decide +kernel)) dX6_cleaned_22 ?_
        refine lv_bipush (v := (36 : Int32)) hx hb dX6_cleaned_25 (by decide) ?_
        refine lv_iload_n hx hb dX6_cleaned_27 rfl (lv_at hl 1 rfl) ?_
        refine lv_iconst (v := (1 : Int32)) hx hb dX6_cleaned_28 (by decide) ?_
        refine lv_isub hx hb dX6_cleaned_29 ?_
        refine lv_imul hx hb dX6_cleaned_30 ?_
        refine lv_iload_n hx hb dX6_cleaned_31 rfl (lv_at hl 2 rfl) ?_
        refine lv_iadd hx hb dX6_cleaned_32 ?_
        refine mwl_3 (v := ((u.2 3) (((36 : Int32) * (p1 - (1 : Int32))) + p2).toNatClampNeg)) hx hb hK hP h.1 dX6_cleaned_33 rfl ?_
        have h := h.2
        refine lv_istore (lv' := [(4, .int ((u.2 3) (((36 : Int32) * (p1 - (1 : Int32))) + p2).toNatClampNeg)), (0, .ref (adr 0)), (1, .int p1), (2, .int p2), (3, .int p3)]) hx hb dX6_cleaned_34 hl (by decide) rfl (fun ls hl => ?_)
        refine lv_aload_n hx hb dX6_cleaned_36 rfl (lv_at hl 1 rfl) ?_
        refine mwg_0_3 hx hb hts hinX6 hown hK hP (hts (.fieldLink RX6 16 "FilmBenchModel" "raw" "[I") (by decide +kernel)) dX6_cleaned_37 ?_
        refine lv_bipush (v := (36 : Int32)) hx hb dX6_cleaned_40 (by decide) ?_
        refine lv_iload_n hx hb dX6_cleaned_42 rfl (lv_at hl 2 rfl) ?_
        refine lv_iconst (v := (1 : Int32)) hx hb dX6_cleaned_43 (by decide) ?_
        refine lv_iadd hx hb dX6_cleaned_44 ?_
        refine lv_imul hx hb dX6_cleaned_45 ?_
        refine lv_iload_n hx hb dX6_cleaned_46 rfl (lv_at hl 3 rfl) ?_
        refine lv_iadd hx hb dX6_cleaned_47 ?_
        refine mwl_3 (v := ((u.2 3) (((36 : Int32) * (p1 + (1 : Int32))) + p2).toNatClampNeg)) hx hb hK hP h.1 dX6_cleaned_48 rfl ?_
        have h := h.2
        refine lv_istore (lv' := [(5, .int ((u.2 3) (((36 : Int32) * (p1 + (1 : Int32))) + p2).toNatClampNeg)), (4, .int ((u.2 3) (((36 : Int32) * (p1 - (1 : Int32))) + p2).toNatClampNeg)), (0, .ref (adr 0)), (1, .int p1), (2, .int p2), (3, .int p3)]) hx hb dX6_cleaned_49 hl (by decide) rfl (fun ls hl => ?_)
        refine lv_iload hx hb dX6_cleaned_51 (lv_at hl 1 rfl) ?_
        refine lv_iconst (v := (-1 : Int32)) hx hb dX6_cleaned_53 (by decide) ?_
        refine lv_icmp_eq (tgt := 116) hx hb dX6_cleaned_54 (by decide) (fun hc => ?_) (fun hc => ?_)
        · have h := h.1 hc
          exact L116  ((u.2 3) (((36 : Int32) * (p1 - (1 : Int32))) + p2).toNatClampNeg) ((u.2 3) (((36 : Int32) * (p1 + (1 : Int32))) + p2).toNatClampNeg) u _ _ _ (lv_sub hl [1, 0] rfl) hP hS h
        · have h := h.2 hc
          refine lv_iload hx hb dX6_cleaned_57 (lv_at hl 0 rfl) ?_
          refine lv_iconst (v := (-1 : Int32)) hx hb dX6_cleaned_59 (by decide) ?_
          refine lv_icmp_eq (tgt := 116) hx hb dX6_cleaned_60 (by decide) (fun hc => ?_) (fun hc => ?_)
          · have h := h.1 hc
            exact L116  ((u.2 3) (((36 : Int32) * (p1 - (1 : Int32))) + p2).toNatClampNeg) ((u.2 3) (((36 : Int32) * (p1 + (1 : Int32))) + p2).toNatClampNeg) u _ _ _ (lv_sub hl [1, 0] rfl) hP hS h
          · have h := h.2 hc
            refine lv_iload hx hb dX6_cleaned_63 (lv_at hl 1 rfl) ?_
            refine lv_iload hx hb dX6_cleaned_65 (lv_at hl 0 rfl) ?_
            refine lv_isub hx hb dX6_cleaned_67 ?_
            refine gcallSi (As := [.int (((u.2 3) (((36 : Int32) * (p1 - (1 : Int32))) + p2).toNatClampNeg) - ((u.2 3) (((36 : Int32) * (p1 + (1 : Int32))) + p2).toNatClampNeg))]) (rest := []) ⟨hx, hb, hml, hown, hts⟩ (c_X6_size l D cI cZ adr A hD (((u.2 3) (((36 : Int32) * (p1 - (1 : Int32))) + p2).toNatClampNeg) - ((u.2 3) (((36 : Int32) * (p1 + (1 : Int32))) + p2).toNatClampNeg)) u _ h) (va_cwS 1 hts gX6_cleaned_X6_size rfl rfl rfl (by decide +kernel) ⟨Nat.le_of_ble_eq_true rfl, Nat.le_of_ble_eq_true rfl⟩) hK hP hS rfl hl.1 rfl (Nat.le_of_ble_eq_true rfl) dX6_cleaned_68 ⟨Nat.le_refl _, Nat.le_refl _⟩ (fun r68 u68 H locs h hP hS => ?_)
            refine lv_aload_n hx hb dX6_cleaned_71 rfl (lv_at hl 2 rfl) ?_
            refine mwg_0_10 hx hb hts hinX6 hown hK hP (hts (.fieldLink RX6 36 "FilmBenchModel" "rules" "[I") (by decide +kernel)) dX6_cleaned_72 ?_
            refine lv_iconst (v := (1 : Int32)) hx hb dX6_cleaned_75 (by decide) ?_
            refine mwl_10 (v := ((u68.2 10) (1 : Int32).toNatClampNeg)) hx hb hK hP (by unfold vp_in; decide) dX6_cleaned_76 rfl ?_
            refine lv_icmp_gt (tgt := 116) hx hb dX6_cleaned_77 (by decide) (fun hc => ?_) (fun hc => ?_)
            · have h := h.1 hc
              exact L116  ((u.2 3) (((36 : Int32) * (p1 - (1 : Int32))) + p2).toNatClampNeg) ((u.2 3) (((36 : Int32) * (p1 + (1 : Int32))) + p2).toNatClampNeg) u68 _ _ _ (lv_sub hl [1, 0] rfl) hP hS h
            · have h := h.2 hc
              refine lv_iload_n hx hb dX6_cleaned_80 rfl (lv_at hl 5 rfl) ?_
              refine lv_iload hx hb dX6_cleaned_81 (lv_at hl 1 rfl) ?_
              refine lv_isub hx hb dX6_cleaned_83 ?_
              refine gcallSi (As := [.int (p3 - ((u.2 3) (((36 : Int32) * (p1 - (1 : Int32))) + p2).toNatClampNeg))]) (rest := []) ⟨hx, hb, hml, hown, hts⟩ (c_X6_size l D cI cZ adr A hD (p3 - ((u.2 3) (((36 : Int32) * (p1 - (1 : Int32))) + p2).toNatClampNeg)) u68 _ h) (va_cwS 1 hts gX6_cleaned_X6_size rfl rfl rfl (by decide +kernel) ⟨Nat.le_of_ble_eq_true rfl, Nat.le_of_ble_eq_true rfl⟩) hK hP hS rfl hl.1 rfl (Nat.le_of_ble_eq_true rfl) dX6_cleaned_84 ⟨Nat.le_refl _, Nat.le_refl _⟩ (fun r84 u84 H locs h hP hS => ?_)
              refine lv_aload_n hx hb dX6_cleaned_87 rfl (lv_at hl 2 rfl) ?_
              refine mwg_0_10 hx hb hts hinX6 hown hK hP (hts (.fieldLink RX6 36 "FilmBenchModel" "rules" "[I") (by decide +kernel)) dX6_cleaned_88 ?_
              refine lv_iconst (v := (2 : Int32)) hx hb dX6_cleaned_91 (by decide) ?_
              refine mwl_10 (v := ((u84.2 10) (2 : Int32).toNatClampNeg)) hx hb hK hP (by unfold vp_in; decide) dX6_cleaned_92 rfl ?_
              refine lv_icmp_le (tgt := 116) hx hb dX6_cleaned_93 (by decide) (fun hc => ?_) (fun hc => ?_)
              · have h := h.1 hc
                exact L116  ((u.2 3) (((36 : Int32) * (p1 - (1 : Int32))) + p2).toNatClampNeg) ((u.2 3) (((36 : Int32) * (p1 + (1 : Int32))) + p2).toNatClampNeg) u84 _ _ _ (lv_sub hl [1, 0] rfl) hP hS h
              · have h := h.2 hc
                refine lv_iload_n hx hb dX6_cleaned_96 rfl (lv_at hl 5 rfl) ?_
                refine lv_iload hx hb dX6_cleaned_97 (lv_at hl 0 rfl) ?_
                refine lv_isub hx hb dX6_cleaned_99 ?_
                refine gcallSi (As := [.int (p3 - ((u.2 3) (((36 : Int32) * (p1 + (1 : Int32))) + p2).toNatClampNeg))]) (rest := []) ⟨hx, hb, hml, hown, hts⟩ (c_X6_size l D cI cZ adr A hD (p3 - ((u.2 3) (((36 : Int32) * (p1 + (1 : Int32))) + p2).toNatClampNeg)) u84 _ h) (va_cwS 1 hts gX6_cleaned_X6_size rfl rfl rfl (by decide +kernel) ⟨Nat.le_of_ble_eq_true rfl, Nat.le_of_ble_eq_true rfl⟩) hK hP hS rfl hl.1 rfl (Nat.le_of_ble_eq_true rfl) dX6_cleaned_100 ⟨Nat.le_refl _, Nat.le_refl _⟩ (fun r100 u100 H locs h hP hS => ?_)
                refine lv_aload_n hx hb dX6_cleaned_103 rfl (lv_at hl 2 rfl) ?_
                refine mwg_0_10 hx hb hts hinX6 hown hK hP (hts (.fieldLink RX6 36 "FilmBenchModel" "rules" "[I") (by decide +kernel)) dX6_cleaned_104 ?_
                refine lv_iconst (v := (2 : Int32)) hx hb dX6_cleaned_107 (by decide) ?_
                refine mwl_10 (v := ((u100.2 10) (2 : Int32).toNatClampNeg)) hx hb hK hP (by unfold vp_in; decide) dX6_cleaned_108 rfl ?_
                refine lv_icmp_le (tgt := 116) hx hb dX6_cleaned_109 (by decide) (fun hc => ?_) (fun hc => ?_)
                · have h := h.1 hc
                  exact L116  ((u.2 3) (((36 : Int32) * (p1 - (1 : Int32))) + p2).toNatClampNeg) ((u.2 3) (((36 : Int32) * (p1 + (1 : Int32))) + p2).toNatClampNeg) u100 _ _ _ (lv_sub hl [1, 0] rfl) hP hS h
                · have h := h.2 hc
                  refine lv_iconst (v := (1 : Int32)) hx hb dX6_cleaned_112 (by decide) ?_
                  refine lv_goto (tgt := 117) hx hb dX6_cleaned_113 (by decide) ?_
                  exact L117  (1 : Int32) ((u.2 3) (((36 : Int32) * (p1 - (1 : Int32))) + p2).toNatClampNeg) ((u.2 3) (((36 : Int32) * (p1 + (1 : Int32))) + p2).toNatClampNeg) u100 _ _ _ (lv_sub hl [1, 0] rfl) hP hS h
      · have h := h.1 hc
        refine lv_iconst (v := (-1 : Int32)) hx hb dX6_cleaned_19 (by decide) ?_
        exact giret hx hb hr hlocks hK hP hS h dX6_cleaned_20
set_option maxRecDepth 100000 in
set_option maxHeartbeats 4000000 in
theorem c_X6_dust (l : Launch) (D : va_G) (cI cZ : ClassId) (adr : Nat → Nat) (A : Nat → Prop) (hD : ∀ u, va_D A (mw adr cI cZ u)) (p1 : Int32) (u : US) (post : Int32 → US → Prop) (h : wp_X6_dust p1 u post) : gMi l yX6_dust wsX6_dust 2 D cI cZ (mw adr cI cZ) A [.ref (adr 0), .int p1] u post := by
  refine Met.ofW (cc := cX6_dust) (maxL := 4) (ret := (some .int)) (by decide) rfl ?_
  intro p e s m args below meth c s₁ B hml hv
  obtain ⟨rfl, hP, hK⟩ := hv
  have hx := B.exec
  have hb := B.bytes
  have hr := B.returns
  have hts := atoms_spec (ws := wsX6_dust) B.pre
  have hown : s.vm.findClass RX6 = some m.cls := findClass_of_methodNamed B.named
  have hlocks := B.notSynchronized
  have hinX6 : ∀ w ∈ wsX60, w ∈ wsX6_dust := by decide +kernel
  have hS : va_S A s.heap s.heap [] := va_S.rf
  have L14 : ∀ (n : Nat), ∀ (x1 : Int32) (x2 : Int32) (x3 : Int32) (u : US) (H : Heap) (locs : List Loc) (ls : Array Slot), lv_has ls 4 [(0, .ref (adr 0)), (1, .int x1), (2, .int x2), (3, .int x3)] → va_P D vwCl (mw adr cI cZ u) H → va_S A s.heap H locs → wp_X6_dust_14  post n x1 x2 x3 u → gWi p l e wsX6_dust 2 s m [.ref (adr 0), .int p1] below meth c D cI cZ (mw adr cI cZ) A post H locs (F0 m 14 ls []) := by
    intro  n
    induction n with
    | zero => intro x1 x2 x3 u H locs ls hl hP hS h; exact False.elim h
    | succ n ih =>
      intro x1 x2 x3 u H locs ls hl hP hS h
      refine lv_iload_n hx hb dX6_dust_14 rfl (lv_at hl 3 rfl) ?_
      refine lv_aload_n hx hb dX6_dust_15 rfl (lv_at hl 0 rfl) ?_
      refine mwg_0_0 (v := (u.1 0)) hx hb hts hinX6 hown hK hP (hts (.fieldLink RX6 7 "FilmBenchModel" "high" "I") (by decide +kernel)) dX6_dust_16 rfl ?_
      refine lv_aload_n hx hb dX6_dust_19 rfl (lv_at hl 0 rfl) ?_
      refine mwg_0_1 (v := (u.1 1)) hx hb hts hinX6 hown hK hP (hts (.fieldLink RX6 13 "FilmBenchModel" "wide" "I") (by decide +kernel)) dX6_dust_20 rfl ?_
      refine lv_imul hx hb dX6_dust_23 ?_
      refine lv_icmp_ge (tgt := 61) hx hb dX6_dust_24 (by decide) (fun hc => ?_) (fun hc => ?_)
      · have h := h.1 hc
        refine lv_iload_n hx hb dX6_dust_61 rfl (lv_at hl 2 rfl) ?_
        exact giret hx hb hr hlocks hK hP hS h dX6_dust_62
      · have h := h.2 hc
        refine lv_iload_n hx hb dX6_dust_27 rfl (lv_at hl 2 rfl) ?_
        refine lv_aload_n hx hb dX6_dust_28 rfl (lv_at hl 0 rfl) ?_
        refine lv_iload_n hx hb dX6_dust_29 rfl (lv_at hl 1 rfl) ?_
        refine lv_iload_n hx hb dX6_dust_30 rfl (lv_at hl 3 rfl) ?_
        refine lv_aload_n hx hb dX6_dust_31 rfl (lv_at hl 0 rfl) ?_
        refine mwg_0_3 hx hb hts hinX6 hown hK hP (hts (.fieldLink RX6 16 "FilmBenchModel" "raw" "[I") (by decide +kernel)) dX6_dust_32 ?_
        refine lv_bipush (v := (36 : Int32)) hx hb dX6_dust_35 (by decide) ?_
        refine lv_iload_n hx hb dX6_dust_37 rfl (lv_at hl 1 rfl) ?_
        refine lv_imul hx hb dX6_dust_38 ?_
        refine lv_iload_n hx hb dX6_dust_39 rfl (lv_at hl 3 rfl) ?_
        refine lv_iadd hx hb dX6_dust_40 ?_
        refine mwl_3 (v := ((u.2 3) (((36 : Int32) * x1) + x3).toNatClampNeg)) hx hb hK hP h.1 dX6_dust_41 rfl ?_
        have h := h.2
        refine gcallVi (As := [.int x1, .int x3, .int ((u.2 3) (((36 : Int32) * x1) + x3).toNatClampNeg)]) (rest := [.int x2]) ⟨hx, hb, hml, hown, hts⟩ (c_X6_cleaned l D cI cZ adr A hD x1 x3 ((u.2 3) (((36 : Int32) * x1) + x3).toNatClampNeg) u _ h) (cwV 3 hts gX6_dust_X6_cleaned rfl rfl rfl (by decide +kernel) ⟨Nat.le_of_ble_eq_true rfl, Nat.le_of_ble_eq_true rfl⟩) (va_recv hK hP (ci := 6) (q0 := 0) rfl rfl) hK hP hS rfl hl.1 rfl (Nat.le_of_ble_eq_true rfl) dX6_dust_42 ⟨Nat.le_refl _, Nat.le_refl _⟩ (fun r42 u42 H locs h hP hS => ?_)
        refine lv_if_lt (tgt := 52) hx hb dX6_dust_45 (by decide) (fun hc => ?_) (fun hc => ?_)
        · have h := h.1 hc
          refine lv_iconst (v := (0 : Int32)) hx hb dX6_dust_52 (by decide) ?_
          refine lv_iadd hx hb dX6_dust_53 ?_
          refine lv_istore_n (lv' := [(2, .int (x2 + (0 : Int32))), (0, .ref (adr 0)), (1, .int x1), (3, .int x3)]) hx hb dX6_dust_54 rfl hl (by decide) rfl (fun ls hl => ?_)
          refine lv_iinc (v := (x3 + 1)) (lv' := [(3, .int (x3 + 1)), (2, .int (x2 + (0 : Int32))), (0, .ref (adr 0)), (1, .int x1)]) hx hb dX6_dust_55 hl (k := 3) rfl (congrArg (HAdd.hAdd _) (show Int32.ofInt (1) = (1 : Int32) by decide)) (by decide) rfl (fun ls hl => ?_)
          refine lv_goto (tgt := 14) hx hb dX6_dust_58 (by decide) ?_
          exact ih x1 (x2 + (0 : Int32)) (x3 + 1) u42 _ _ _ (lv_sub hl [2, 3, 1, 0] rfl) hP hS h
        · have h := h.2 hc
          refine lv_iconst (v := (1 : Int32)) hx hb dX6_dust_48 (by decide) ?_
          refine lv_goto (tgt := 53) hx hb dX6_dust_49 (by decide) ?_
          refine lv_iadd hx hb dX6_dust_53 ?_
          refine lv_istore_n (lv' := [(2, .int (x2 + (1 : Int32))), (0, .ref (adr 0)), (1, .int x1), (3, .int x3)]) hx hb dX6_dust_54 rfl hl (by decide) rfl (fun ls hl => ?_)
          refine lv_iinc (v := (x3 + 1)) (lv' := [(3, .int (x3 + 1)), (2, .int (x2 + (1 : Int32))), (0, .ref (adr 0)), (1, .int x1)]) hx hb dX6_dust_55 hl (k := 3) rfl (congrArg (HAdd.hAdd _) (show Int32.ofInt (1) = (1 : Int32) by decide)) (by decide) rfl (fun ls hl => ?_)
          refine lv_goto (tgt := 14) hx hb dX6_dust_58 (by decide) ?_
          exact ih x1 (x2 + (1 : Int32)) (x3 + 1) u42 _ _ _ (lv_sub hl [2, 3, 1, 0] rfl) hP hS h
  have hl := lv_entry ([.ref (adr 0), .int p1]) (n := 4) (Nat.le_of_ble_eq_true rfl)
  rw [lg_entry_eq]
  generalize (lg_sl ([.ref (adr 0), .int p1]) ++ List.replicate (4 - (lg_sl ([.ref (adr 0), .int p1])).length) Slot.unset).toArray = ls at hl ⊢
  replace hl : lv_has ls 4 [(0, .ref (adr 0)), (1, .int p1)] := hl
  refine lv_aload_n hx hb dX6_dust_0 rfl (lv_at hl 0 rfl) ?_
  refine lv_iload_n hx hb dX6_dust_1 rfl (lv_at hl 1 rfl) ?_
  refine gcallVi (As := [.int p1]) (rest := []) ⟨hx, hb, hml, hown, hts⟩ (c_X6_isFrame l D cI cZ adr A hD p1 u _ h) (cwV 1 hts gX6_dust_X6_isFrame rfl rfl rfl (by decide +kernel) ⟨Nat.le_of_ble_eq_true rfl, Nat.le_of_ble_eq_true rfl⟩) (va_recv hK hP (ci := 6) (q0 := 0) rfl rfl) hK hP hS rfl hl.1 rfl (Nat.le_of_ble_eq_true rfl) dX6_dust_2 ⟨Nat.le_refl _, Nat.le_refl _⟩ (fun r2 u2 H locs h hP hS => ?_)
  refine lv_if_ne (tgt := 10) hx hb dX6_dust_5 (by decide) (fun hc => ?_) (fun hc => ?_)
  · have h := h.2 hc
    refine lv_iconst (v := (0 : Int32)) hx hb dX6_dust_10 (by decide) ?_
    refine lv_istore_n (lv' := [(2, .int (0 : Int32)), (0, .ref (adr 0)), (1, .int p1)]) hx hb dX6_dust_11 rfl hl (by decide) rfl (fun ls hl => ?_)
    refine lv_iconst (v := (0 : Int32)) hx hb dX6_dust_12 (by decide) ?_
    refine lv_istore_n (lv' := [(3, .int (0 : Int32)), (2, .int (0 : Int32)), (0, .ref (adr 0)), (1, .int p1)]) hx hb dX6_dust_13 rfl hl (by decide) rfl (fun ls hl => ?_)
    obtain ⟨n, h⟩ := h
    exact L14  n p1 (0 : Int32) (0 : Int32) u2 _ _ _ (lv_sub hl [2, 3, 1, 0] rfl) hP hS h
  · have h := h.1 hc
    refine lv_iconst (v := (-1 : Int32)) hx hb dX6_dust_8 (by decide) ?_
    exact giret hx hb hr hlocks hK hP hS h dX6_dust_9
