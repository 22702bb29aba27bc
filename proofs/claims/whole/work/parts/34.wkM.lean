set_option maxRecDepth 100000 in
set_option maxHeartbeats 4000000 in
theorem c_X6_layer (l : Launch) (D : va_G) (cI cZ : ClassId) (adr : Nat → Nat) (A : Nat → Prop) (hD : ∀ u, va_D A (mw adr cI cZ u)) (p1 : Int32) (p2 : Int32) (p3 : Int32) (p4 : Int32) (u : US) (post : Int32 → US → Prop) (h : wp_X6_layer p1 p2 p3 p4 u post) : gMi l yX6_layer wsX6_layer 2 D cI cZ (mw adr cI cZ) A [.ref (adr 0), .int p1, .int p2, .int p3, .int p4] u post := by
  refine Met.ofW (cc := cX6_layer) (maxL := 5) (ret := (some .int)) (by decide) rfl ?_
  intro p e s m args below meth c s₁ B hml hv
  obtain ⟨rfl, hP, hK⟩ := hv
  have hx := B.exec
  have hb := B.bytes
  have hr := B.returns
  have hts := atoms_spec (ws := wsX6_layer) B.pre
  have hown : s.vm.findClass RX6 = some m.cls := findClass_of_methodNamed B.named
  have hlocks := B.notSynchronized
  have hinX6 : ∀ w ∈ wsX60, w ∈ wsX6_layer := by decide +kernel
  have hS : va_S A s.heap s.heap [] := va_S.rf
  have L140 : ∀ (s0 : Int32) (s1 : Int32) (u : US) (H : Heap) (locs : List Loc) (ls : Array Slot), lv_has ls 5 [(0, .ref (adr 0))] → va_P D vwCl (mw adr cI cZ u) H → va_S A s.heap H locs → wp_X6_layer_140  post s0 s1 u → gWi p l e wsX6_layer 2 s m [.ref (adr 0), .int p1, .int p2, .int p3, .int p4] below meth c D cI cZ (mw adr cI cZ) A post H locs (F0 m 140 ls [.int s0, .int s1, .ref (adr 8)]) := by
    intro  s0 s1 u H locs ls hl hP hS h
    refine mws_8 hx hb hK hP (hD _) hS h.1 dX6_layer_140 (fun H locs hP hS => ?_)
    have h := h.2
    refine lv_aload_n hx hb dX6_layer_141 rfl (lv_at hl 0 rfl) ?_
    refine mwg_0_9 hx hb hts hinX6 hown hK hP (hts (.fieldLink RX6 32 "FilmBenchModel" "isOn" "[Z") (by decide +kernel)) dX6_layer_142 ?_
    refine lv_aload_n hx hb dX6_layer_145 rfl (lv_at hl 0 rfl) ?_
    refine mwg_0_4 (v := (u.1 4)) hx hb hts hinX6 hown hK hP (hts (.fieldLink RX6 79 "FilmBenchModel" "layers" "I") (by decide +kernel)) dX6_layer_146 rfl ?_
    refine lv_iconst (v := (1 : Int32)) hx hb dX6_layer_149 (by decide) ?_
    refine mws_9 hx hb hK hP (hD _) hS h.1 dX6_layer_150 (fun H locs hP hS => ?_)
    have h := h.2
    refine lv_aload_n hx hb dX6_layer_151 rfl (lv_at hl 0 rfl) ?_
    refine lv_dup hx hb dX6_layer_152 rfl ?_
    refine mwg_0_4 (v := (u.1 4)) hx hb hts hinX6 hown hK hP (hts (.fieldLink RX6 79 "FilmBenchModel" "layers" "I") (by decide +kernel)) dX6_layer_153 rfl ?_
    refine lv_iconst (v := (1 : Int32)) hx hb dX6_layer_156 (by decide) ?_
    refine lv_iadd hx hb dX6_layer_157 ?_
    refine mwp_0_4 (v := ((u.1 4) + (1 : Int32))) hx hb hts hinX6 hown hK hP (hD _) hS (hts (.fieldLink RX6 79 "FilmBenchModel" "layers" "I") (by decide +kernel)) dX6_layer_158 (fun H locs hP hS => ?_)
    refine lv_aload_n hx hb dX6_layer_161 rfl (lv_at hl 0 rfl) ?_
    refine mwg_0_4 (v := ((u.1 4) + (1 : Int32))) hx hb hts hinX6 hown hK hP (hts (.fieldLink RX6 79 "FilmBenchModel" "layers" "I") (by decide +kernel)) dX6_layer_162 rfl ?_
    refine lv_iconst (v := (1 : Int32)) hx hb dX6_layer_165 (by decide) ?_
    refine lv_isub hx hb dX6_layer_166 ?_
    exact giret hx hb hr hlocks hK hP hS h dX6_layer_167
  have L120 : ∀ (s0 : Int32) (s1 : Int32) (x1 : Int32) (x4 : Int32) (u : US) (H : Heap) (locs : List Loc) (ls : Array Slot), lv_has ls 5 [(0, .ref (adr 0)), (1, .int x1), (4, .int x4)] → va_P D vwCl (mw adr cI cZ u) H → va_S A s.heap H locs → wp_X6_layer_120  post s0 s1 x1 x4 u → gWi p l e wsX6_layer 2 s m [.ref (adr 0), .int p1, .int p2, .int p3, .int p4] below meth c D cI cZ (mw adr cI cZ) A post H locs (F0 m 120 ls [.int s0, .int s1, .ref (adr 7)]) := by
    intro  s0 s1 x1 x4 u H locs ls hl hP hS h
    refine mws_7 hx hb hK hP (hD _) hS h.1 dX6_layer_120 (fun H locs hP hS => ?_)
    have h := h.2
    refine lv_aload_n hx hb dX6_layer_121 rfl (lv_at hl 0 rfl) ?_
    refine mwg_0_8 hx hb hts hinX6 hown hK hP (hts (.fieldLink RX6 29 "FilmBenchModel" "second" "[I") (by decide +kernel)) dX6_layer_122 ?_
    refine lv_aload_n hx hb dX6_layer_125 rfl (lv_at hl 0 rfl) ?_
    refine mwg_0_4 (v := (u.1 4)) hx hb hts hinX6 hown hK hP (hts (.fieldLink RX6 79 "FilmBenchModel" "layers" "I") (by decide +kernel)) dX6_layer_126 rfl ?_
    refine lv_iload_n hx hb dX6_layer_129 rfl (lv_at hl 1 rfl) ?_
    refine lv_iconst (v := (3 : Int32)) hx hb dX6_layer_130 (by decide) ?_
    refine lv_icmp_ne (tgt := 139) hx hb dX6_layer_131 (by decide) (fun hc => ?_) (fun hc => ?_)
    · have h := h.2 hc
      refine lv_iconst (v := (0 : Int32)) hx hb dX6_layer_139 (by decide) ?_
      exact L140  (0 : Int32) (u.1 4) (sA u 7 (upd (u.2 7) s1.toNatClampNeg s0)) _ _ _ (lv_sub hl [0] rfl) hP hS h
    · have h := h.1 hc
      refine lv_iload hx hb dX6_layer_134 (lv_at hl 2 rfl) ?_
      refine lv_goto (tgt := 140) hx hb dX6_layer_136 (by decide) ?_
      exact L140  x4 (u.1 4) (sA u 7 (upd (u.2 7) s1.toNatClampNeg s0)) _ _ _ (lv_sub hl [0] rfl) hP hS h
  have L115 : ∀ (s0 : Int32) (x1 : Int32) (x3 : Int32) (x4 : Int32) (u : US) (H : Heap) (locs : List Loc) (ls : Array Slot), lv_has ls 5 [(0, .ref (adr 0)), (1, .int x1), (3, .int x3), (4, .int x4)] → va_P D vwCl (mw adr cI cZ u) H → va_S A s.heap H locs → wp_X6_layer_115  post s0 x1 x3 x4 u → gWi p l e wsX6_layer 2 s m [.ref (adr 0), .int p1, .int p2, .int p3, .int p4] below meth c D cI cZ (mw adr cI cZ) A post H locs (F0 m 115 ls [.int s0, .ref (adr 7)]) := by
    intro  s0 x1 x3 x4 u H locs ls hl hP hS h
    refine lv_iload_n hx hb dX6_layer_115 rfl (lv_at hl 2 rfl) ?_
    refine lv_goto (tgt := 120) hx hb dX6_layer_116 (by decide) ?_
    exact L120  x3 s0 x1 x4 u _ _ _ (lv_sub hl [0, 1, 3] rfl) hP hS h
  have L65 : ∀ (x1 : Int32) (x2 : Int32) (x3 : Int32) (x4 : Int32) (u : US) (H : Heap) (locs : List Loc) (ls : Array Slot), lv_has ls 5 [(0, .ref (adr 0)), (1, .int x1), (2, .int x2), (3, .int x3), (4, .int x4)] → va_P D vwCl (mw adr cI cZ u) H → va_S A s.heap H locs → wp_X6_layer_65  post x1 x2 x3 x4 u → gWi p l e wsX6_layer 2 s m [.ref (adr 0), .int p1, .int p2, .int p3, .int p4] below meth c D cI cZ (mw adr cI cZ) A post H locs (F0 m 65 ls []) := by
    intro  x1 x2 x3 x4 u H locs ls hl hP hS h
    refine lv_aload_n hx hb dX6_layer_65 rfl (lv_at hl 0 rfl) ?_
    refine mwg_0_4 (v := (u.1 4)) hx hb hts hinX6 hown hK hP (hts (.fieldLink RX6 79 "FilmBenchModel" "layers" "I") (by decide +kernel)) dX6_layer_66 rfl ?_
    refine lv_bipush (v := (12 : Int32)) hx hb dX6_layer_69 (by decide) ?_
    refine lv_icmp_ne (tgt := 77) hx hb dX6_layer_71 (by decide) (fun hc => ?_) (fun hc => ?_)
    · have h := h.2 hc
      refine lv_aload_n hx hb dX6_layer_77 rfl (lv_at hl 0 rfl) ?_
      refine mwg_0_5 hx hb hts hinX6 hown hK hP (hts (.fieldLink RX6 20 "FilmBenchModel" "kind" "[I") (by decide +kernel)) dX6_layer_78 ?_
      refine lv_aload_n hx hb dX6_layer_81 rfl (lv_at hl 0 rfl) ?_
      refine mwg_0_4 (v := (u.1 4)) hx hb hts hinX6 hown hK hP (hts (.fieldLink RX6 79 "FilmBenchModel" "layers" "I") (by decide +kernel)) dX6_layer_82 rfl ?_
      refine lv_iload_n hx hb dX6_layer_85 rfl (lv_at hl 1 rfl) ?_
      refine mws_5 hx hb hK hP (hD _) hS h.1 dX6_layer_86 (fun H locs hP hS => ?_)
      have h := h.2
      refine lv_aload_n hx hb dX6_layer_87 rfl (lv_at hl 0 rfl) ?_
      refine mwg_0_6 hx hb hts hinX6 hown hK hP (hts (.fieldLink RX6 23 "FilmBenchModel" "of" "[I") (by decide +kernel)) dX6_layer_88 ?_
      refine lv_aload_n hx hb dX6_layer_91 rfl (lv_at hl 0 rfl) ?_
      refine mwg_0_4 (v := (u.1 4)) hx hb hts hinX6 hown hK hP (hts (.fieldLink RX6 79 "FilmBenchModel" "layers" "I") (by decide +kernel)) dX6_layer_92 rfl ?_
      refine lv_iload_n hx hb dX6_layer_95 rfl (lv_at hl 2 rfl) ?_
      refine mws_6 hx hb hK hP (hD _) hS h.1 dX6_layer_96 (fun H locs hP hS => ?_)
      have h := h.2
      refine lv_aload_n hx hb dX6_layer_97 rfl (lv_at hl 0 rfl) ?_
      refine mwg_0_7 hx hb hts hinX6 hown hK hP (hts (.fieldLink RX6 26 "FilmBenchModel" "first" "[I") (by decide +kernel)) dX6_layer_98 ?_
      refine lv_aload_n hx hb dX6_layer_101 rfl (lv_at hl 0 rfl) ?_
      refine mwg_0_4 (v := (u.1 4)) hx hb hts hinX6 hown hK hP (hts (.fieldLink RX6 79 "FilmBenchModel" "layers" "I") (by decide +kernel)) dX6_layer_102 rfl ?_
      refine lv_iload_n hx hb dX6_layer_105 rfl (lv_at hl 1 rfl) ?_
      refine lv_iconst (v := (1 : Int32)) hx hb dX6_layer_106 (by decide) ?_
      refine lv_icmp_eq (tgt := 115) hx hb dX6_layer_107 (by decide) (fun hc => ?_) (fun hc => ?_)
      · have h := h.1 hc
        exact L115  (u.1 4) x1 x3 x4 (sA (sA u 5 (upd (u.2 5) (u.1 4).toNatClampNeg x1)) 6 (upd (u.2 6) (u.1 4).toNatClampNeg x2)) _ _ _ (lv_sub hl [0, 1, 3, 4] rfl) hP hS h
      · have h := h.2 hc
        refine lv_iload_n hx hb dX6_layer_110 rfl (lv_at hl 1 rfl) ?_
        refine lv_iconst (v := (3 : Int32)) hx hb dX6_layer_111 (by decide) ?_
        refine lv_icmp_ne (tgt := 119) hx hb dX6_layer_112 (by decide) (fun hc => ?_) (fun hc => ?_)
        · have h := h.2 hc
          refine lv_iconst (v := (0 : Int32)) hx hb dX6_layer_119 (by decide) ?_
          exact L120  (0 : Int32) (u.1 4) x1 x4 (sA (sA u 5 (upd (u.2 5) (u.1 4).toNatClampNeg x1)) 6 (upd (u.2 6) (u.1 4).toNatClampNeg x2)) _ _ _ (lv_sub hl [0, 1, 4] rfl) hP hS h
        · have h := h.1 hc
          exact L115  (u.1 4) x1 x3 x4 (sA (sA u 5 (upd (u.2 5) (u.1 4).toNatClampNeg x1)) 6 (upd (u.2 6) (u.1 4).toNatClampNeg x2)) _ _ _ (lv_sub hl [0, 1, 3, 4] rfl) hP hS h
    · have h := h.1 hc
      refine lv_bipush (v := (-2 : Int32)) hx hb dX6_layer_74 (by decide) ?_
      exact giret hx hb hr hlocks hK hP hS h dX6_layer_76
  have L37 : ∀ (x1 : Int32) (x2 : Int32) (x3 : Int32) (x4 : Int32) (u : US) (H : Heap) (locs : List Loc) (ls : Array Slot), lv_has ls 5 [(0, .ref (adr 0)), (1, .int x1), (2, .int x2), (3, .int x3), (4, .int x4)] → va_P D vwCl (mw adr cI cZ u) H → va_S A s.heap H locs → wp_X6_layer_37  post x1 x2 x3 x4 u → gWi p l e wsX6_layer 2 s m [.ref (adr 0), .int p1, .int p2, .int p3, .int p4] below meth c D cI cZ (mw adr cI cZ) A post H locs (F0 m 37 ls []) := by
    intro  x1 x2 x3 x4 u H locs ls hl hP hS h
    refine lv_iload_n hx hb dX6_layer_37 rfl (lv_at hl 1 rfl) ?_
    refine lv_iconst (v := (3 : Int32)) hx hb dX6_layer_38 (by decide) ?_
    refine lv_icmp_ne (tgt := 65) hx hb dX6_layer_39 (by decide) (fun hc => ?_) (fun hc => ?_)
    · have h := h.2 hc
      exact L65  x1 x2 x3 x4 u _ _ _ (lv_sub hl [0, 1, 2, 3, 4] rfl) hP hS h
    · have h := h.1 hc
      refine lv_iload_n hx hb dX6_layer_42 rfl (lv_at hl 3 rfl) ?_
      refine lv_bipush (v := (-3 : Int32)) hx hb dX6_layer_43 (by decide) ?_
      refine lv_iconst (v := (3 : Int32)) hx hb dX6_layer_45 (by decide) ?_
      refine gcallSi (As := [.int x3, .int (-3 : Int32), .int (3 : Int32)]) (rest := []) ⟨hx, hb, hml, hown, hts⟩ (c_X6_in l D cI cZ adr A hD x3 (-3 : Int32) (3 : Int32) u _ h) (va_cwS 3 hts gX6_layer_X6_in rfl rfl rfl (by decide +kernel) ⟨Nat.le_of_ble_eq_true rfl, Nat.le_of_ble_eq_true rfl⟩) hK hP hS rfl hl.1 rfl (Nat.le_of_ble_eq_true rfl) dX6_layer_46 ⟨Nat.le_refl _, Nat.le_refl _⟩ (fun r46 u46 H locs h hP hS => ?_)
      refine lv_if_eq (tgt := 63) hx hb dX6_layer_49 (by decide) (fun hc => ?_) (fun hc => ?_)
      · have h := h.1 hc
        refine lv_iconst (v := (-1 : Int32)) hx hb dX6_layer_63 (by decide) ?_
        exact giret hx hb hr hlocks hK hP hS h dX6_layer_64
      · have h := h.2 hc
        refine lv_iload hx hb dX6_layer_52 (lv_at hl 4 rfl) ?_
        refine lv_bipush (v := (-3 : Int32)) hx hb dX6_layer_54 (by decide) ?_
        refine lv_iconst (v := (3 : Int32)) hx hb dX6_layer_56 (by decide) ?_
        refine gcallSi (As := [.int x4, .int (-3 : Int32), .int (3 : Int32)]) (rest := []) ⟨hx, hb, hml, hown, hts⟩ (c_X6_in l D cI cZ adr A hD x4 (-3 : Int32) (3 : Int32) u46 _ h) (va_cwS 3 hts gX6_layer_X6_in rfl rfl rfl (by decide +kernel) ⟨Nat.le_of_ble_eq_true rfl, Nat.le_of_ble_eq_true rfl⟩) hK hP hS rfl hl.1 rfl (Nat.le_of_ble_eq_true rfl) dX6_layer_57 ⟨Nat.le_refl _, Nat.le_refl _⟩ (fun r57 u57 H locs h hP hS => ?_)
        refine lv_if_ne (tgt := 65) hx hb dX6_layer_60 (by decide) (fun hc => ?_) (fun hc => ?_)
        · have h := h.2 hc
          exact L65  x1 x2 x3 x4 u57 _ _ _ (lv_sub hl [0, 1, 2, 3, 4] rfl) hP hS h
        · have h := h.1 hc
          refine lv_iconst (v := (-1 : Int32)) hx hb dX6_layer_63 (by decide) ?_
          exact giret hx hb hr hlocks hK hP hS h dX6_layer_64
  have hl := lv_entry ([.ref (adr 0), .int p1, .int p2, .int p3, .int p4]) (n := 5) (Nat.le_of_ble_eq_true rfl)
  rw [lg_entry_eq]
  generalize (lg_sl ([.ref (adr 0), .int p1, .int p2, .int p3, .int p4]) ++ List.replicate (5 - (lg_sl ([.ref (adr 0), .int p1, .int p2, .int p3, .int p4])).length) Slot.unset).toArray = ls at hl ⊢
  replace hl : lv_has ls 5 [(0, .ref (adr 0)), (1, .int p1), (2, .int p2), (3, .int p3), (4, .int p4)] := hl
  refine lv_iload_n hx hb dX6_layer_0 rfl (lv_at hl 1 rfl) ?_
  refine lv_iconst (v := (0 : Int32)) hx hb dX6_layer_1 (by decide) ?_
  refine lv_iconst (v := (3 : Int32)) hx hb dX6_layer_2 (by decide) ?_
  refine gcallSi (As := [.int p1, .int (0 : Int32), .int (3 : Int32)]) (rest := []) ⟨hx, hb, hml, hown, hts⟩ (c_X6_in l D cI cZ adr A hD p1 (0 : Int32) (3 : Int32) u _ h) (va_cwS 3 hts gX6_layer_X6_in rfl rfl rfl (by decide +kernel) ⟨Nat.le_of_ble_eq_true rfl, Nat.le_of_ble_eq_true rfl⟩) hK hP hS rfl hl.1 rfl (Nat.le_of_ble_eq_true rfl) dX6_layer_3 ⟨Nat.le_refl _, Nat.le_refl _⟩ (fun r3 u3 H locs h hP hS => ?_)
  refine lv_if_eq (tgt := 17) hx hb dX6_layer_6 (by decide) (fun hc => ?_) (fun hc => ?_)
  · have h := h.1 hc
    refine lv_iconst (v := (-1 : Int32)) hx hb dX6_layer_17 (by decide) ?_
    exact giret hx hb hr hlocks hK hP hS h dX6_layer_18
  · have h := h.2 hc
    refine lv_aload_n hx hb dX6_layer_9 rfl (lv_at hl 0 rfl) ?_
    refine lv_iload_n hx hb dX6_layer_10 rfl (lv_at hl 2 rfl) ?_
    refine gcallVi (As := [.int p2]) (rest := []) ⟨hx, hb, hml, hown, hts⟩ (c_X6_isFrame l D cI cZ adr A hD p2 u3 _ h) (cwV 1 hts gX6_layer_X6_isFrame rfl rfl rfl (by decide +kernel) ⟨Nat.le_of_ble_eq_true rfl, Nat.le_of_ble_eq_true rfl⟩) (va_recv hK hP (ci := 6) (q0 := 0) rfl rfl) hK hP hS rfl hl.1 rfl (Nat.le_of_ble_eq_true rfl) dX6_layer_11 ⟨Nat.le_refl _, Nat.le_refl _⟩ (fun r11 u11 H locs h hP hS => ?_)
    refine lv_if_ne (tgt := 19) hx hb dX6_layer_14 (by decide) (fun hc => ?_) (fun hc => ?_)
    · have h := h.2 hc
      refine lv_iload_n hx hb dX6_layer_19 rfl (lv_at hl 1 rfl) ?_
      refine lv_iconst (v := (1 : Int32)) hx hb dX6_layer_20 (by decide) ?_
      refine lv_icmp_ne (tgt := 37) hx hb dX6_layer_21 (by decide) (fun hc => ?_) (fun hc => ?_)
      · have h := h.2 hc
        exact L37  p1 p2 p3 p4 u11 _ _ _ (lv_sub hl [0, 1, 2, 3, 4] rfl) hP hS h
      · have h := h.1 hc
        refine lv_aload_n hx hb dX6_layer_24 rfl (lv_at hl 0 rfl) ?_
        refine lv_iload_n hx hb dX6_layer_25 rfl (lv_at hl 3 rfl) ?_
        refine gcallVi (As := [.int p3]) (rest := []) ⟨hx, hb, hml, hown, hts⟩ (c_X6_isFrame l D cI cZ adr A hD p3 u11 _ h) (cwV 1 hts gX6_layer_X6_isFrame rfl rfl rfl (by decide +kernel) ⟨Nat.le_of_ble_eq_true rfl, Nat.le_of_ble_eq_true rfl⟩) (va_recv hK hP (ci := 6) (q0 := 0) rfl rfl) hK hP hS rfl hl.1 rfl (Nat.le_of_ble_eq_true rfl) dX6_layer_26 ⟨Nat.le_refl _, Nat.le_refl _⟩ (fun r26 u26 H locs h hP hS => ?_)
        refine lv_if_eq (tgt := 63) hx hb dX6_layer_29 (by decide) (fun hc => ?_) (fun hc => ?_)
        · have h := h.1 hc
          refine lv_iconst (v := (-1 : Int32)) hx hb dX6_layer_63 (by decide) ?_
          exact giret hx hb hr hlocks hK hP hS h dX6_layer_64
        · have h := h.2 hc
          refine lv_iload_n hx hb dX6_layer_32 rfl (lv_at hl 3 rfl) ?_
          refine lv_iload_n hx hb dX6_layer_33 rfl (lv_at hl 2 rfl) ?_
          refine lv_icmp_eq (tgt := 63) hx hb dX6_layer_34 (by decide) (fun hc => ?_) (fun hc => ?_)
          · have h := h.1 hc
            refine lv_iconst (v := (-1 : Int32)) hx hb dX6_layer_63 (by decide) ?_
            exact giret hx hb hr hlocks hK hP hS h dX6_layer_64
          · have h := h.2 hc
            exact L37  p1 p2 p3 p4 u26 _ _ _ (lv_sub hl [0, 1, 2, 3, 4] rfl) hP hS h
    · have h := h.1 hc
      refine lv_iconst (v := (-1 : Int32)) hx hb dX6_layer_17 (by decide) ?_
      exact giret hx hb hr hlocks hK hP hS h dX6_layer_18
set_option maxRecDepth 100000 in
set_option maxHeartbeats 4000000 in
theorem c_X6_isLayer (l : Launch) (D : va_G) (cI cZ : ClassId) (adr : Nat → Nat) (A : Nat → Prop) (hD : ∀ u, va_D A (mw adr cI cZ u)) (p1 : Int32) (u : US) (post : Int32 → US → Prop) (h : wp_X6_isLayer p1 u post) : gMi l yX6_isLayer wsX6_isLayer 1 D cI cZ (mw adr cI cZ) A [.ref (adr 0), .int p1] u post := by
  refine Met.ofW (cc := cX6_isLayer) (maxL := 2) (ret := (some .boolean)) (by decide) rfl ?_
  intro p e s m args below meth c s₁ B hml hv
  obtain ⟨rfl, hP, hK⟩ := hv
  have hx := B.exec
  have hb := B.bytes
  have hr := B.returns
  have hts := atoms_spec (ws := wsX6_isLayer) B.pre
  have hown : s.vm.findClass RX6 = some m.cls := findClass_of_methodNamed B.named
  have hlocks := B.notSynchronized
  have hinX6 : ∀ w ∈ wsX60, w ∈ wsX6_isLayer := by decide +kernel
  have hS : va_S A s.heap s.heap [] := va_S.rf
  have hl := lv_entry ([.ref (adr 0), .int p1]) (n := 2) (Nat.le_of_ble_eq_true rfl)
  rw [lg_entry_eq]
  generalize (lg_sl ([.ref (adr 0), .int p1]) ++ List.replicate (2 - (lg_sl ([.ref (adr 0), .int p1])).length) Slot.unset).toArray = ls at hl ⊢
  replace hl : lv_has ls 2 [(0, .ref (adr 0)), (1, .int p1)] := hl
  refine lv_iload_n hx hb dX6_isLayer_0 rfl (lv_at hl 1 rfl) ?_
  refine lv_iconst (v := (0 : Int32)) hx hb dX6_isLayer_1 (by decide) ?_
  refine lv_aload_n hx hb dX6_isLayer_2 rfl (lv_at hl 0 rfl) ?_
  refine mwg_0_4 (v := (u.1 4)) hx hb hts hinX6 hown hK hP (hts (.fieldLink RX6 79 "FilmBenchModel" "layers" "I") (by decide +kernel)) dX6_isLayer_3 rfl ?_
  refine lv_iconst (v := (1 : Int32)) hx hb dX6_isLayer_6 (by decide) ?_
  refine lv_isub hx hb dX6_isLayer_7 ?_
  refine gcallSi (As := [.int p1, .int (0 : Int32), .int ((u.1 4) - (1 : Int32))]) (rest := []) ⟨hx, hb, hml, hown, hts⟩ (c_X6_in l D cI cZ adr A hD p1 (0 : Int32) ((u.1 4) - (1 : Int32)) u _ h) (va_cwS 3 hts gX6_isLayer_X6_in rfl rfl rfl (by decide +kernel) ⟨Nat.le_of_ble_eq_true rfl, Nat.le_of_ble_eq_true rfl⟩) hK hP hS rfl hl.1 rfl (Nat.le_of_ble_eq_true rfl) dX6_isLayer_8 ⟨Nat.le_refl _, Nat.le_refl _⟩ (fun r8 u8 H locs h hP hS => ?_)
  exact gzret hx hb hr hlocks hK hP hS h.1 h.2 dX6_isLayer_11
set_option maxRecDepth 100000 in
set_option maxHeartbeats 4000000 in
theorem c_X6_on (l : Launch) (D : va_G) (cI cZ : ClassId) (adr : Nat → Nat) (A : Nat → Prop) (hD : ∀ u, va_D A (mw adr cI cZ u)) (p1 : Int32) (p2 : Int32) (u : US) (post : Int32 → US → Prop) (h : wp_X6_on p1 p2 u post) : gMi l yX6_on wsX6_on 2 D cI cZ (mw adr cI cZ) A [.ref (adr 0), .int p1, .int p2] u post := by
  refine Met.ofW (cc := cX6_on) (maxL := 4) (ret := (some .int)) (by decide) rfl ?_
  intro p e s m args below meth c s₁ B hml hv
  obtain ⟨rfl, hP, hK⟩ := hv
  have hx := B.exec
  have hb := B.bytes
  have hr := B.returns
  have hts := atoms_spec (ws := wsX6_on) B.pre
  have hown : s.vm.findClass RX6 = some m.cls := findClass_of_methodNamed B.named
  have hlocks := B.notSynchronized
  have hinX6 : ∀ w ∈ wsX60, w ∈ wsX6_on := by decide +kernel
  have hS : va_S A s.heap s.heap [] := va_S.rf
  have L25 : ∀ (s0 : Int32) (x1 : Int32) (x2 : Int32) (u : US) (H : Heap) (locs : List Loc) (ls : Array Slot), lv_has ls 4 [(0, .ref (adr 0)), (1, .int x1), (2, .int x2)] → va_P D vwCl (mw adr cI cZ u) H → va_S A s.heap H locs → wp_X6_on_25  post s0 x1 x2 u → gWi p l e wsX6_on 2 s m [.ref (adr 0), .int p1, .int p2] below meth c D cI cZ (mw adr cI cZ) A post H locs (F0 m 25 ls [.int s0]) := by
    intro  s0 x1 x2 u H locs ls hl hP hS h
    refine lv_istore_n (lv' := [(3, .int s0), (0, .ref (adr 0)), (1, .int x1), (2, .int x2)]) hx hb dX6_on_25 rfl hl (by decide) rfl (fun ls hl => ?_)
    refine lv_aload_n hx hb dX6_on_26 rfl (lv_at hl 1 rfl) ?_
    refine mwg_0_9 hx hb hts hinX6 hown hK hP (hts (.fieldLink RX6 32 "FilmBenchModel" "isOn" "[Z") (by decide +kernel)) dX6_on_27 ?_
    refine lv_iload_n hx hb dX6_on_30 rfl (lv_at hl 2 rfl) ?_
    refine lv_iload_n hx hb dX6_on_31 rfl (lv_at hl 3 rfl) ?_
    refine mws_9 hx hb hK hP (hD _) hS h.1 dX6_on_32 (fun H locs hP hS => ?_)
    have h := h.2
    refine lv_iload_n hx hb dX6_on_33 rfl (lv_at hl 0 rfl) ?_
    exact giret hx hb hr hlocks hK hP hS h dX6_on_34
  have hl := lv_entry ([.ref (adr 0), .int p1, .int p2]) (n := 4) (Nat.le_of_ble_eq_true rfl)
  rw [lg_entry_eq]
  generalize (lg_sl ([.ref (adr 0), .int p1, .int p2]) ++ List.replicate (4 - (lg_sl ([.ref (adr 0), .int p1, .int p2])).length) Slot.unset).toArray = ls at hl ⊢
  replace hl : lv_has ls 4 [(0, .ref (adr 0)), (1, .int p1), (2, .int p2)] := hl
  refine lv_aload_n hx hb dX6_on_0 rfl (lv_at hl 0 rfl) ?_
  refine lv_iload_n hx hb dX6_on_1 rfl (lv_at hl 1 rfl) ?_
  refine gcallVi (As := [.int p1]) (rest := []) ⟨hx, hb, hml, hown, hts⟩ (c_X6_isLayer l D cI cZ adr A hD p1 u _ h) (cwV 1 hts gX6_on_X6_isLayer rfl rfl rfl (by decide +kernel) ⟨Nat.le_of_ble_eq_true rfl, Nat.le_of_ble_eq_true rfl⟩) (va_recv hK hP (ci := 6) (q0 := 0) rfl rfl) hK hP hS rfl hl.1 rfl (Nat.le_of_ble_eq_true rfl) dX6_on_2 ⟨Nat.le_refl _, Nat.le_refl _⟩ (fun r2 u2 H locs h hP hS => ?_)
  refine lv_if_ne (tgt := 10) hx hb dX6_on_5 (by decide) (fun hc => ?_) (fun hc => ?_)
  · have h := h.2 hc
    refine lv_aload_n hx hb dX6_on_10 rfl (lv_at hl 0 rfl) ?_
    refine mwg_0_9 hx hb hts hinX6 hown hK hP (hts (.fieldLink RX6 32 "FilmBenchModel" "isOn" "[Z") (by decide +kernel)) dX6_on_11 ?_
    refine lv_iload_n hx hb dX6_on_14 rfl (lv_at hl 1 rfl) ?_
    refine mwl_9 (v := ((u2.2 9) p1.toNatClampNeg)) hx hb hK hP h.1 dX6_on_15 rfl ?_
    have h := h.2
    refine lv_iload_n hx hb dX6_on_16 rfl (lv_at hl 2 rfl) ?_
    refine lv_icmp_ne (tgt := 24) hx hb dX6_on_17 (by decide) (fun hc => ?_) (fun hc => ?_)
    · have h := h.2 hc
      refine lv_iconst (v := (1 : Int32)) hx hb dX6_on_24 (by decide) ?_
      exact L25  (1 : Int32) p1 p2 u2 _ _ _ (lv_sub hl [0, 1, 2] rfl) hP hS h
    · have h := h.1 hc
      refine lv_iconst (v := (0 : Int32)) hx hb dX6_on_20 (by decide) ?_
      refine lv_goto (tgt := 25) hx hb dX6_on_21 (by decide) ?_
      exact L25  (0 : Int32) p1 p2 u2 _ _ _ (lv_sub hl [0, 1, 2] rfl) hP hS h
  · have h := h.1 hc
    refine lv_iconst (v := (-1 : Int32)) hx hb dX6_on_8 (by decide) ?_
    exact giret hx hb hr hlocks hK hP hS h dX6_on_9
set_option maxRecDepth 100000 in
set_option maxHeartbeats 4000000 in
theorem c_X6_peel (l : Launch) (D : va_G) (cI cZ : ClassId) (adr : Nat → Nat) (A : Nat → Prop) (hD : ∀ u, va_D A (mw adr cI cZ u))  (u : US) (post : Int32 → US → Prop) (h : wp_X6_peel  u post) : gMi l yX6_peel wsX6_peel 0 D cI cZ (mw adr cI cZ) A [.ref (adr 0)] u post := by
  refine Met.ofW (cc := cX6_peel) (maxL := 1) (ret := (some .int)) (by decide) rfl ?_
  intro p e s m args below meth c s₁ B hml hv
  obtain ⟨rfl, hP, hK⟩ := hv
  have hx := B.exec
  have hb := B.bytes
  have hr := B.returns
  have hts := atoms_spec (ws := wsX6_peel) B.pre
  have hown : s.vm.findClass RX6 = some m.cls := findClass_of_methodNamed B.named
  have hlocks := B.notSynchronized
  have hinX6 : ∀ w ∈ wsX60, w ∈ wsX6_peel := by decide +kernel
  have hS : va_S A s.heap s.heap [] := va_S.rf
  have hl := lv_entry ([.ref (adr 0)]) (n := 1) (Nat.le_of_ble_eq_true rfl)
  rw [lg_entry_eq]
  generalize (lg_sl ([.ref (adr 0)]) ++ List.replicate (1 - (lg_sl ([.ref (adr 0)])).length) Slot.unset).toArray = ls at hl ⊢
  replace hl : lv_has ls 1 [(0, .ref (adr 0))] := hl
  refine lv_aload_n hx hb dX6_peel_0 rfl (lv_at hl 0 rfl) ?_
  refine mwg_0_4 (v := (u.1 4)) hx hb hts hinX6 hown hK hP (hts (.fieldLink RX6 79 "FilmBenchModel" "layers" "I") (by decide +kernel)) dX6_peel_1 rfl ?_
  refine lv_if_ne (tgt := 10) hx hb dX6_peel_4 (by decide) (fun hc => ?_) (fun hc => ?_)
  · have h := h.2 hc
    refine lv_aload_n hx hb dX6_peel_10 rfl (lv_at hl 0 rfl) ?_
    refine lv_dup hx hb dX6_peel_11 rfl ?_
    refine mwg_0_4 (v := (u.1 4)) hx hb hts hinX6 hown hK hP (hts (.fieldLink RX6 79 "FilmBenchModel" "layers" "I") (by decide +kernel)) dX6_peel_12 rfl ?_
    refine lv_iconst (v := (1 : Int32)) hx hb dX6_peel_15 (by decide) ?_
    refine lv_isub hx hb dX6_peel_16 ?_
    refine mwp_0_4 (v := ((u.1 4) - (1 : Int32))) hx hb hts hinX6 hown hK hP (hD _) hS (hts (.fieldLink RX6 79 "FilmBenchModel" "layers" "I") (by decide +kernel)) dX6_peel_17 (fun H locs hP hS => ?_)
    refine lv_aload_n hx hb dX6_peel_20 rfl (lv_at hl 0 rfl) ?_
    refine mwg_0_4 (v := ((u.1 4) - (1 : Int32))) hx hb hts hinX6 hown hK hP (hts (.fieldLink RX6 79 "FilmBenchModel" "layers" "I") (by decide +kernel)) dX6_peel_21 rfl ?_
    exact giret hx hb hr hlocks hK hP hS h dX6_peel_24
  · have h := h.1 hc
    refine lv_bipush (v := (-3 : Int32)) hx hb dX6_peel_7 (by decide) ?_
    exact giret hx hb hr hlocks hK hP hS h dX6_peel_9
set_option maxRecDepth 100000 in
set_option maxHeartbeats 4000000 in
theorem c_X6_filledFrom (l : Launch) (D : va_G) (cI cZ : ClassId) (adr : Nat → Nat) (A : Nat → Prop) (hD : ∀ u, va_D A (mw adr cI cZ u)) (p1 : Int32) (p2 : Int32) (u : US) (post : Int32 → US → Prop) (h : wp_X6_filledFrom p1 p2 u post) : gMi l yX6_filledFrom wsX6_filledFrom 0 D cI cZ (mw adr cI cZ) A [.ref (adr 0), .int p1, .int p2] u post := by
  refine Met.ofW (cc := cX6_filledFrom) (maxL := 3) (ret := (some .int)) (by decide) rfl ?_
  intro p e s m args below meth c s₁ B hml hv
  obtain ⟨rfl, hP, hK⟩ := hv
  have hx := B.exec
  have hb := B.bytes
  have hr := B.returns
  have hts := atoms_spec (ws := wsX6_filledFrom) B.pre
  have hown : s.vm.findClass RX6 = some m.cls := findClass_of_methodNamed B.named
  have hlocks := B.notSynchronized
  have hinX6 : ∀ w ∈ wsX60, w ∈ wsX6_filledFrom := by decide +kernel
  have hS : va_S A s.heap s.heap [] := va_S.rf
  have hl := lv_entry ([.ref (adr 0), .int p1, .int p2]) (n := 3) (Nat.le_of_ble_eq_true rfl)
  rw [lg_entry_eq]
  generalize (lg_sl ([.ref (adr 0), .int p1, .int p2]) ++ List.replicate (3 - (lg_sl ([.ref (adr 0), .int p1, .int p2])).length) Slot.unset).toArray = ls at hl ⊢
  replace hl : lv_has ls 3 [(0, .ref (adr 0)), (1, .int p1), (2, .int p2)] := hl
  refine lv_iload_n hx hb dX6_filledFrom_0 rfl (lv_at hl 1 rfl) ?_
  refine lv_if_lt (tgt := 12) hx hb dX6_filledFrom_1 (by decide) (fun hc => ?_) (fun hc => ?_)
  · have h := h.1 hc
    refine lv_iconst (v := (-1 : Int32)) hx hb dX6_filledFrom_12 (by decide) ?_
    refine lv_goto (tgt := 27) hx hb dX6_filledFrom_13 (by decide) ?_
    exact giret hx hb hr hlocks hK hP hS h dX6_filledFrom_27
  · have h := h.2 hc
    refine lv_iload_n hx hb dX6_filledFrom_4 rfl (lv_at hl 1 rfl) ?_
    refine lv_aload_n hx hb dX6_filledFrom_5 rfl (lv_at hl 0 rfl) ?_
    refine mwg_0_2 (v := (u.1 2)) hx hb hts hinX6 hown hK hP (hts (.fieldLink RX6 72 "FilmBenchModel" "frames" "I") (by decide +kernel)) dX6_filledFrom_6 rfl ?_
    refine lv_icmp_lt (tgt := 16) hx hb dX6_filledFrom_9 (by decide) (fun hc => ?_) (fun hc => ?_)
    · have h := h.1 hc
      refine lv_aload_n hx hb dX6_filledFrom_16 rfl (lv_at hl 0 rfl) ?_
      refine mwg_0_3 hx hb hts hinX6 hown hK hP (hts (.fieldLink RX6 16 "FilmBenchModel" "raw" "[I") (by decide +kernel)) dX6_filledFrom_17 ?_
      refine lv_bipush (v := (36 : Int32)) hx hb dX6_filledFrom_20 (by decide) ?_
      refine lv_iload_n hx hb dX6_filledFrom_22 rfl (lv_at hl 1 rfl) ?_
      refine lv_imul hx hb dX6_filledFrom_23 ?_
      refine lv_iload_n hx hb dX6_filledFrom_24 rfl (lv_at hl 2 rfl) ?_
      refine lv_iadd hx hb dX6_filledFrom_25 ?_
      refine mwl_3 (v := ((u.2 3) (((36 : Int32) * p1) + p2).toNatClampNeg)) hx hb hK hP h.1 dX6_filledFrom_26 rfl ?_
      have h := h.2
      exact giret hx hb hr hlocks hK hP hS h dX6_filledFrom_27
    · have h := h.2 hc
      refine lv_iconst (v := (-1 : Int32)) hx hb dX6_filledFrom_12 (by decide) ?_
      refine lv_goto (tgt := 27) hx hb dX6_filledFrom_13 (by decide) ?_
      exact giret hx hb hr hlocks hK hP hS h dX6_filledFrom_27
set_option maxRecDepth 100000 in
set_option maxHeartbeats 4000000 in
theorem c_X6_rising (l : Launch) (D : va_G) (cI cZ : ClassId) (adr : Nat → Nat) (A : Nat → Prop) (hD : ∀ u, va_D A (mw adr cI cZ u)) (p1 : Int32) (p2 : Int32) (u : US) (post : Int32 → US → Prop) (h : wp_X6_rising p1 p2 u post) : gMi l yX6_rising wsX6_rising 0 D cI cZ (mw adr cI cZ) A [.ref (adr 0), .int p1, .int p2] u post := by
  refine Met.ofW (cc := cX6_rising) (maxL := 6) (ret := (some .int)) (by decide) rfl ?_
  intro p e s m args below meth c s₁ B hml hv
  obtain ⟨rfl, hP, hK⟩ := hv
  have hx := B.exec
  have hb := B.bytes
  have hr := B.returns
  have hts := atoms_spec (ws := wsX6_rising) B.pre
  have hown : s.vm.findClass RX6 = some m.cls := findClass_of_methodNamed B.named
  have hlocks := B.notSynchronized
  have hinX6 : ∀ w ∈ wsX60, w ∈ wsX6_rising := by decide +kernel
  have hS : va_S A s.heap s.heap [] := va_S.rf
  have L15 : ∀ (k5 : Int32 → Int32 → Int32 → US → Prop) (hk5 : ∀ (x1 : Int32) (x3 : Int32) (x4 : Int32) (u : US) (H : Heap) (locs : List Loc) (ls : Array Slot), lv_has ls 6 [(0, .ref (adr 0)), (1, .int x1), (3, .int x3), (4, .int x4)] → va_P D vwCl (mw adr cI cZ u) H → va_S A s.heap H locs → k5 x1 x3 x4 u → gWi p l e wsX6_rising 0 s m [.ref (adr 0), .int p1, .int p2] below meth c D cI cZ (mw adr cI cZ) A post H locs (F0 m 5 ls [])), ∀ (n : Nat), ∀ (x1 : Int32) (x3 : Int32) (x4 : Int32) (x5 : Int32) (u : US) (H : Heap) (locs : List Loc) (ls : Array Slot), lv_has ls 6 [(0, .ref (adr 0)), (1, .int x1), (3, .int x3), (4, .int x4), (5, .int x5)] → va_P D vwCl (mw adr cI cZ u) H → va_S A s.heap H locs → wp_X6_rising_15 k5 post n x1 x3 x4 x5 u → gWi p l e wsX6_rising 0 s m [.ref (adr 0), .int p1, .int p2] below meth c D cI cZ (mw adr cI cZ) A post H locs (F0 m 15 ls []) := by
    intro k5 hk5 n
    induction n with
    | zero => intro x1 x3 x4 x5 u H locs ls hl hP hS h; exact False.elim h
    | succ n ih =>
      intro x1 x3 x4 x5 u H locs ls hl hP hS h
      refine lv_iload hx hb dX6_rising_15 (lv_at hl 4 rfl) ?_
      refine lv_aload_n hx hb dX6_rising_17 rfl (lv_at hl 0 rfl) ?_
      refine mwg_0_0 (v := (u.1 0)) hx hb hts hinX6 hown hK hP (hts (.fieldLink RX6 7 "FilmBenchModel" "high" "I") (by decide +kernel)) dX6_rising_18 rfl ?_
      refine lv_aload_n hx hb dX6_rising_21 rfl (lv_at hl 0 rfl) ?_
      refine mwg_0_1 (v := (u.1 1)) hx hb hts hinX6 hown hK hP (hts (.fieldLink RX6 13 "FilmBenchModel" "wide" "I") (by decide +kernel)) dX6_rising_22 rfl ?_
      refine lv_imul hx hb dX6_rising_25 ?_
      refine lv_icmp_ge (tgt := 65) hx hb dX6_rising_26 (by decide) (fun hc => ?_) (fun hc => ?_)
      · have h := h.1 hc
        refine lv_iinc (v := (x4 + 1)) (lv' := [(4, .int (x4 + 1)), (0, .ref (adr 0)), (1, .int x1), (3, .int x3), (5, .int x5)]) hx hb dX6_rising_65 hl (k := 3) rfl (congrArg (HAdd.hAdd _) (show Int32.ofInt (1) = (1 : Int32) by decide)) (by decide) rfl (fun ls hl => ?_)
        refine lv_goto (tgt := 5) hx hb dX6_rising_68 (by decide) ?_
        exact hk5 x1 x3 (x4 + 1) u _ _ _ (lv_sub hl [1, 2, 3, 0] rfl) hP hS h
      · have h := h.2 hc
        refine lv_aload_n hx hb dX6_rising_29 rfl (lv_at hl 0 rfl) ?_
        refine mwg_0_3 hx hb hts hinX6 hown hK hP (hts (.fieldLink RX6 16 "FilmBenchModel" "raw" "[I") (by decide +kernel)) dX6_rising_30 ?_
        refine lv_bipush (v := (36 : Int32)) hx hb dX6_rising_33 (by decide) ?_
        refine lv_iload_n hx hb dX6_rising_35 rfl (lv_at hl 1 rfl) ?_
        refine lv_imul hx hb dX6_rising_36 ?_
        refine lv_iload hx hb dX6_rising_37 (lv_at hl 4 rfl) ?_
        refine lv_iadd hx hb dX6_rising_39 ?_
        refine mwl_3 (v := ((u.2 3) (((36 : Int32) * x1) + x5).toNatClampNeg)) hx hb hK hP h.1 dX6_rising_40 rfl ?_
        have h := h.2
        refine lv_iload hx hb dX6_rising_41 (lv_at hl 3 rfl) ?_
        refine lv_icmp_eq (tgt := 49) hx hb dX6_rising_43 (by decide) (fun hc => ?_) (fun hc => ?_)
        · have h := h.1 hc
          refine lv_iload_n hx hb dX6_rising_49 rfl (lv_at hl 2 rfl) ?_
          refine lv_if_ne (tgt := 56) hx hb dX6_rising_50 (by decide) (fun hc => ?_) (fun hc => ?_)
          · have h := h.2 hc
            refine lv_iinc (v := (x3 + (-1))) (lv' := [(3, .int (x3 + (-1))), (0, .ref (adr 0)), (1, .int x1), (4, .int x4), (5, .int x5)]) hx hb dX6_rising_56 hl (k := 2) rfl (congrArg (HAdd.hAdd _) (show Int32.ofInt (-1) = (-1 : Int32) by decide)) (by decide) rfl (fun ls hl => ?_)
            refine lv_iinc (v := (x5 + 1)) (lv' := [(5, .int (x5 + 1)), (3, .int (x3 + (-1))), (0, .ref (adr 0)), (1, .int x1), (4, .int x4)]) hx hb dX6_rising_59 hl (k := 4) rfl (congrArg (HAdd.hAdd _) (show Int32.ofInt (1) = (1 : Int32) by decide)) (by decide) rfl (fun ls hl => ?_)
            refine lv_goto (tgt := 15) hx hb dX6_rising_62 (by decide) ?_
            exact ih x1 (x3 + (-1)) x4 (x5 + 1) u _ _ _ (lv_sub hl [2, 3, 1, 4, 0] rfl) hP hS h
          · have h := h.1 hc
            refine lv_iload hx hb dX6_rising_53 (lv_at hl 3 rfl) ?_
            exact giret hx hb hr hlocks hK hP hS h dX6_rising_55
        · have h := h.2 hc
          refine lv_goto (tgt := 59) hx hb dX6_rising_46 (by decide) ?_
          refine lv_iinc (v := (x5 + 1)) (lv' := [(5, .int (x5 + 1)), (0, .ref (adr 0)), (1, .int x1), (3, .int x3), (4, .int x4)]) hx hb dX6_rising_59 hl (k := 4) rfl (congrArg (HAdd.hAdd _) (show Int32.ofInt (1) = (1 : Int32) by decide)) (by decide) rfl (fun ls hl => ?_)
          refine lv_goto (tgt := 15) hx hb dX6_rising_62 (by decide) ?_
          exact ih x1 x3 x4 (x5 + 1) u _ _ _ (lv_sub hl [1, 2, 3, 4, 0] rfl) hP hS h
  have L5 : ∀ (n : Nat), ∀ (x1 : Int32) (x3 : Int32) (x4 : Int32) (u : US) (H : Heap) (locs : List Loc) (ls : Array Slot), lv_has ls 6 [(0, .ref (adr 0)), (1, .int x1), (3, .int x3), (4, .int x4)] → va_P D vwCl (mw adr cI cZ u) H → va_S A s.heap H locs → wp_X6_rising_5  post n x1 x3 x4 u → gWi p l e wsX6_rising 0 s m [.ref (adr 0), .int p1, .int p2] below meth c D cI cZ (mw adr cI cZ) A post H locs (F0 m 5 ls []) := by
    intro  n
    induction n with
    | zero => intro x1 x3 x4 u H locs ls hl hP hS h; exact False.elim h
    | succ n ih =>
      intro x1 x3 x4 u H locs ls hl hP hS h
      refine lv_iload hx hb dX6_rising_5 (lv_at hl 3 rfl) ?_
      refine lv_bipush (v := (64 : Int32)) hx hb dX6_rising_7 (by decide) ?_
      refine lv_icmp_ge (tgt := 71) hx hb dX6_rising_9 (by decide) (fun hc => ?_) (fun hc => ?_)
      · have h := h.1 hc
        refine lv_iconst (v := (-1 : Int32)) hx hb dX6_rising_71 (by decide) ?_
        exact giret hx hb hr hlocks hK hP hS h dX6_rising_72
      · have h := h.2 hc
        refine lv_iconst (v := (0 : Int32)) hx hb dX6_rising_12 (by decide) ?_
        refine lv_istore (lv' := [(5, .int (0 : Int32)), (0, .ref (adr 0)), (1, .int x1), (3, .int x3), (4, .int x4)]) hx hb dX6_rising_13 hl (by decide) rfl (fun ls hl => ?_)
        obtain ⟨n, h⟩ := h
        exact L15 _ ih n x1 x3 x4 (0 : Int32) u _ _ _ (lv_sub hl [1, 2, 3, 4, 0] rfl) hP hS h
  have hl := lv_entry ([.ref (adr 0), .int p1, .int p2]) (n := 6) (Nat.le_of_ble_eq_true rfl)
  rw [lg_entry_eq]
  generalize (lg_sl ([.ref (adr 0), .int p1, .int p2]) ++ List.replicate (6 - (lg_sl ([.ref (adr 0), .int p1, .int p2])).length) Slot.unset).toArray = ls at hl ⊢
  replace hl : lv_has ls 6 [(0, .ref (adr 0)), (1, .int p1), (2, .int p2)] := hl
  refine lv_iload_n hx hb dX6_rising_0 rfl (lv_at hl 2 rfl) ?_
  refine lv_istore_n (lv' := [(3, .int p2), (0, .ref (adr 0)), (1, .int p1), (2, .int p2)]) hx hb dX6_rising_1 rfl hl (by decide) rfl (fun ls hl => ?_)
  refine lv_iconst (v := (0 : Int32)) hx hb dX6_rising_2 (by decide) ?_
  refine lv_istore (lv' := [(4, .int (0 : Int32)), (3, .int p2), (0, .ref (adr 0)), (1, .int p1), (2, .int p2)]) hx hb dX6_rising_3 hl (by decide) rfl (fun ls hl => ?_)
  obtain ⟨n, h⟩ := h
  exact L5  n p1 p2 (0 : Int32) u _ _ _ (lv_sub hl [2, 3, 1, 0] rfl) hP hS h
set_option maxRecDepth 100000 in
set_option maxHeartbeats 4000000 in
theorem c_X6_matched (l : Launch) (D : va_G) (cI cZ : ClassId) (adr : Nat → Nat) (A : Nat → Prop) (hD : ∀ u, va_D A (mw adr cI cZ u)) (p1 : Int32) (p2 : Int32) (u : US) (post : Int32 → US → Prop) (h : wp_X6_matched p1 p2 u post) : gMi l yX6_matched wsX6_matched 1 D cI cZ (mw adr cI cZ) A [.ref (adr 0), .int p1, .int p2] u post := by
  refine Met.ofW (cc := cX6_matched) (maxL := 8) (ret := (some .int)) (by decide) rfl ?_
  intro p e s m args below meth c s₁ B hml hv
  obtain ⟨rfl, hP, hK⟩ := hv
  have hx := B.exec
  have hb := B.bytes
  have hr := B.returns
  have hts := atoms_spec (ws := wsX6_matched) B.pre
  have hown : s.vm.findClass RX6 = some m.cls := findClass_of_methodNamed B.named
  have hlocks := B.notSynchronized
  have hinX6 : ∀ w ∈ wsX60, w ∈ wsX6_matched := by decide +kernel
  have hS : va_S A s.heap s.heap [] := va_S.rf
  have L97 : ∀ (k14 : Int32 → Int32 → Int32 → Int32 → Int32 → Int32 → Int32 → US → Prop) (hk14 : ∀ (x1 : Int32) (x2 : Int32) (x3 : Int32) (x4 : Int32) (x5 : Int32) (x6 : Int32) (x7 : Int32) (u : US) (H : Heap) (locs : List Loc) (ls : Array Slot), lv_has ls 8 [(0, .ref (adr 0)), (1, .int x1), (2, .int x2), (3, .int x3), (4, .int x4), (5, .int x5), (6, .int x6), (7, .int x7)] → va_P D vwCl (mw adr cI cZ u) H → va_S A s.heap H locs → k14 x1 x2 x3 x4 x5 x6 x7 u → gWi p l e wsX6_matched 1 s m [.ref (adr 0), .int p1, .int p2] below meth c D cI cZ (mw adr cI cZ) A post H locs (F0 m 14 ls [])), ∀ (s0 : Int32) (s1 : Int32) (x1 : Int32) (x2 : Int32) (x3 : Int32) (x4 : Int32) (x6 : Int32) (x7 : Int32) (u : US) (H : Heap) (locs : List Loc) (ls : Array Slot), lv_has ls 8 [(0, .ref (adr 0)), (1, .int x1), (2, .int x2), (3, .int x3), (4, .int x4), (6, .int x6), (7, .int x7)] → va_P D vwCl (mw adr cI cZ u) H → va_S A s.heap H locs → wp_X6_matched_97 k14 post s0 s1 x1 x2 x3 x4 x6 x7 u → gWi p l e wsX6_matched 1 s m [.ref (adr 0), .int p1, .int p2] below meth c D cI cZ (mw adr cI cZ) A post H locs (F0 m 97 ls [.int s0, .int s1]) := by
    intro k14 hk14 s0 s1 x1 x2 x3 x4 x6 x7 u H locs ls hl hP hS h
    refine lv_iadd hx hb dX6_matched_97 ?_
    refine lv_istore (lv' := [(5, .int (s1 + s0)), (0, .ref (adr 0)), (1, .int x1), (2, .int x2), (3, .int x3), (4, .int x4), (6, .int x6), (7, .int x7)]) hx hb dX6_matched_98 hl (by decide) rfl (fun ls hl => ?_)
    refine lv_iload hx hb dX6_matched_100 (lv_at hl 6 rfl) ?_
    refine lv_aload_n hx hb dX6_matched_102 rfl (lv_at hl 1 rfl) ?_
    refine mwg_0_3 hx hb hts hinX6 hown hK hP (hts (.fieldLink RX6 16 "FilmBenchModel" "raw" "[I") (by decide +kernel)) dX6_matched_103 ?_
    refine lv_bipush (v := (36 : Int32)) hx hb dX6_matched_106 (by decide) ?_
    refine lv_iload_n hx hb dX6_matched_108 rfl (lv_at hl 2 rfl) ?_
    refine lv_imul hx hb dX6_matched_109 ?_
    refine lv_iload hx hb dX6_matched_110 (lv_at hl 7 rfl) ?_
    refine lv_iadd hx hb dX6_matched_112 ?_
    refine mwl_3 (v := ((u.2 3) (((36 : Int32) * x1) + x7).toNatClampNeg)) hx hb hK hP h.1 dX6_matched_113 rfl ?_
    have h := h.2
    refine lv_iconst (v := (-1 : Int32)) hx hb dX6_matched_114 (by decide) ?_
    refine lv_icmp_eq (tgt := 122) hx hb dX6_matched_115 (by decide) (fun hc => ?_) (fun hc => ?_)
    · have h := h.1 hc
      refine lv_iconst (v := (0 : Int32)) hx hb dX6_matched_122 (by decide) ?_
      refine lv_iadd hx hb dX6_matched_123 ?_
      refine lv_istore (lv' := [(6, .int (x6 + (0 : Int32))), (5, .int (s1 + s0)), (0, .ref (adr 0)), (1, .int x1), (2, .int x2), (3, .int x3), (4, .int x4), (7, .int x7)]) hx hb dX6_matched_124 hl (by decide) rfl (fun ls hl => ?_)
      refine lv_iinc (v := (x7 + 1)) (lv' := [(7, .int (x7 + 1)), (6, .int (x6 + (0 : Int32))), (5, .int (s1 + s0)), (0, .ref (adr 0)), (1, .int x1), (2, .int x2), (3, .int x3), (4, .int x4)]) hx hb dX6_matched_126 hl (k := 7) rfl (congrArg (HAdd.hAdd _) (show Int32.ofInt (1) = (1 : Int32) by decide)) (by decide) rfl (fun ls hl => ?_)
      refine lv_goto (tgt := 14) hx hb dX6_matched_129 (by decide) ?_
      exact hk14 x1 x2 x3 x4 (s1 + s0) (x6 + (0 : Int32)) (x7 + 1) u _ _ _ (lv_sub hl [3, 4, 5, 6, 7, 2, 1, 0] rfl) hP hS h
    · have h := h.2 hc
      refine lv_iconst (v := (1 : Int32)) hx hb dX6_matched_118 (by decide) ?_
      refine lv_goto (tgt := 123) hx hb dX6_matched_119 (by decide) ?_
      refine lv_iadd hx hb dX6_matched_123 ?_
      refine lv_istore (lv' := [(6, .int (x6 + (1 : Int32))), (5, .int (s1 + s0)), (0, .ref (adr 0)), (1, .int x1), (2, .int x2), (3, .int x3), (4, .int x4), (7, .int x7)]) hx hb dX6_matched_124 hl (by decide) rfl (fun ls hl => ?_)
      refine lv_iinc (v := (x7 + 1)) (lv' := [(7, .int (x7 + 1)), (6, .int (x6 + (1 : Int32))), (5, .int (s1 + s0)), (0, .ref (adr 0)), (1, .int x1), (2, .int x2), (3, .int x3), (4, .int x4)]) hx hb dX6_matched_126 hl (k := 7) rfl (congrArg (HAdd.hAdd _) (show Int32.ofInt (1) = (1 : Int32) by decide)) (by decide) rfl (fun ls hl => ?_)
      refine lv_goto (tgt := 14) hx hb dX6_matched_129 (by decide) ?_
      exact hk14 x1 x2 x3 x4 (s1 + s0) (x6 + (1 : Int32)) (x7 + 1) u _ _ _ (lv_sub hl [3, 4, 5, 6, 7, 2, 1, 0] rfl) hP hS h
  have L76 : ∀ (k14 : Int32 → Int32 → Int32 → Int32 → Int32 → Int32 → Int32 → US → Prop) (hk14 : ∀ (x1 : Int32) (x2 : Int32) (x3 : Int32) (x4 : Int32) (x5 : Int32) (x6 : Int32) (x7 : Int32) (u : US) (H : Heap) (locs : List Loc) (ls : Array Slot), lv_has ls 8 [(0, .ref (adr 0)), (1, .int x1), (2, .int x2), (3, .int x3), (4, .int x4), (5, .int x5), (6, .int x6), (7, .int x7)] → va_P D vwCl (mw adr cI cZ u) H → va_S A s.heap H locs → k14 x1 x2 x3 x4 x5 x6 x7 u → gWi p l e wsX6_matched 1 s m [.ref (adr 0), .int p1, .int p2] below meth c D cI cZ (mw adr cI cZ) A post H locs (F0 m 14 ls [])), ∀ (s0 : Int32) (s1 : Int32) (x1 : Int32) (x2 : Int32) (x3 : Int32) (x5 : Int32) (x6 : Int32) (x7 : Int32) (u : US) (H : Heap) (locs : List Loc) (ls : Array Slot), lv_has ls 8 [(0, .ref (adr 0)), (1, .int x1), (2, .int x2), (3, .int x3), (5, .int x5), (6, .int x6), (7, .int x7)] → va_P D vwCl (mw adr cI cZ u) H → va_S A s.heap H locs → wp_X6_matched_76 k14 post s0 s1 x1 x2 x3 x5 x6 x7 u → gWi p l e wsX6_matched 1 s m [.ref (adr 0), .int p1, .int p2] below meth c D cI cZ (mw adr cI cZ) A post H locs (F0 m 76 ls [.int s0, .int s1]) := by
    intro k14 hk14 s0 s1 x1 x2 x3 x5 x6 x7 u H locs ls hl hP hS h
    refine lv_iadd hx hb dX6_matched_76 ?_
    refine lv_istore (lv' := [(4, .int (s1 + s0)), (0, .ref (adr 0)), (1, .int x1), (2, .int x2), (3, .int x3), (5, .int x5), (6, .int x6), (7, .int x7)]) hx hb dX6_matched_77 hl (by decide) rfl (fun ls hl => ?_)
    refine lv_iload hx hb dX6_matched_79 (lv_at hl 5 rfl) ?_
    refine lv_aload_n hx hb dX6_matched_81 rfl (lv_at hl 1 rfl) ?_
    refine mwg_0_32 hx hb hts hinX6 hown hK hP (hts (.fieldLink RX6 69 "FilmBenchModel" "was" "[I") (by decide +kernel)) dX6_matched_82 ?_
    refine lv_iload hx hb dX6_matched_85 (lv_at hl 7 rfl) ?_
    refine mwl_32 (v := ((u.2 32) x7.toNatClampNeg)) hx hb hK hP h.1 dX6_matched_87 rfl ?_
    have h := h.2
    refine lv_iload_n hx hb dX6_matched_88 rfl (lv_at hl 3 rfl) ?_
    refine lv_icmp_ne (tgt := 96) hx hb dX6_matched_89 (by decide) (fun hc => ?_) (fun hc => ?_)
    · have h := h.2 hc
      refine lv_iconst (v := (0 : Int32)) hx hb dX6_matched_96 (by decide) ?_
      exact L97 _ hk14 (0 : Int32) x5 x1 x2 x3 (s1 + s0) x6 x7 u _ _ _ (lv_sub hl [1, 2, 3, 4, 0, 6, 7] rfl) hP hS h
    · have h := h.1 hc
      refine lv_iconst (v := (1 : Int32)) hx hb dX6_matched_92 (by decide) ?_
      refine lv_goto (tgt := 97) hx hb dX6_matched_93 (by decide) ?_
      exact L97 _ hk14 (1 : Int32) x5 x1 x2 x3 (s1 + s0) x6 x7 u _ _ _ (lv_sub hl [1, 2, 3, 4, 0, 6, 7] rfl) hP hS h
  have L75 : ∀ (k14 : Int32 → Int32 → Int32 → Int32 → Int32 → Int32 → Int32 → US → Prop) (hk14 : ∀ (x1 : Int32) (x2 : Int32) (x3 : Int32) (x4 : Int32) (x5 : Int32) (x6 : Int32) (x7 : Int32) (u : US) (H : Heap) (locs : List Loc) (ls : Array Slot), lv_has ls 8 [(0, .ref (adr 0)), (1, .int x1), (2, .int x2), (3, .int x3), (4, .int x4), (5, .int x5), (6, .int x6), (7, .int x7)] → va_P D vwCl (mw adr cI cZ u) H → va_S A s.heap H locs → k14 x1 x2 x3 x4 x5 x6 x7 u → gWi p l e wsX6_matched 1 s m [.ref (adr 0), .int p1, .int p2] below meth c D cI cZ (mw adr cI cZ) A post H locs (F0 m 14 ls [])), ∀ (s0 : Int32) (x1 : Int32) (x2 : Int32) (x3 : Int32) (x5 : Int32) (x6 : Int32) (x7 : Int32) (u : US) (H : Heap) (locs : List Loc) (ls : Array Slot), lv_has ls 8 [(0, .ref (adr 0)), (1, .int x1), (2, .int x2), (3, .int x3), (5, .int x5), (6, .int x6), (7, .int x7)] → va_P D vwCl (mw adr cI cZ u) H → va_S A s.heap H locs → wp_X6_matched_75 k14 post s0 x1 x2 x3 x5 x6 x7 u → gWi p l e wsX6_matched 1 s m [.ref (adr 0), .int p1, .int p2] below meth c D cI cZ (mw adr cI cZ) A post H locs (F0 m 75 ls [.int s0]) := by
    intro k14 hk14 s0 x1 x2 x3 x5 x6 x7 u H locs ls hl hP hS h
    refine lv_iconst (v := (0 : Int32)) hx hb dX6_matched_75 (by decide) ?_
    exact L76 _ hk14 (0 : Int32) s0 x1 x2 x3 x5 x6 x7 u _ _ _ (lv_sub hl [0, 1, 2, 3, 4, 5, 6] rfl) hP hS h
  have L45 : ∀ (k14 : Int32 → Int32 → Int32 → Int32 → Int32 → Int32 → Int32 → US → Prop) (hk14 : ∀ (x1 : Int32) (x2 : Int32) (x3 : Int32) (x4 : Int32) (x5 : Int32) (x6 : Int32) (x7 : Int32) (u : US) (H : Heap) (locs : List Loc) (ls : Array Slot), lv_has ls 8 [(0, .ref (adr 0)), (1, .int x1), (2, .int x2), (3, .int x3), (4, .int x4), (5, .int x5), (6, .int x6), (7, .int x7)] → va_P D vwCl (mw adr cI cZ u) H → va_S A s.heap H locs → k14 x1 x2 x3 x4 x5 x6 x7 u → gWi p l e wsX6_matched 1 s m [.ref (adr 0), .int p1, .int p2] below meth c D cI cZ (mw adr cI cZ) A post H locs (F0 m 14 ls [])), ∀ (s0 : Int32) (s1 : Int32) (x1 : Int32) (x2 : Int32) (x4 : Int32) (x5 : Int32) (x6 : Int32) (x7 : Int32) (u : US) (H : Heap) (locs : List Loc) (ls : Array Slot), lv_has ls 8 [(0, .ref (adr 0)), (1, .int x1), (2, .int x2), (4, .int x4), (5, .int x5), (6, .int x6), (7, .int x7)] → va_P D vwCl (mw adr cI cZ u) H → va_S A s.heap H locs → wp_X6_matched_45 k14 post s0 s1 x1 x2 x4 x5 x6 x7 u → gWi p l e wsX6_matched 1 s m [.ref (adr 0), .int p1, .int p2] below meth c D cI cZ (mw adr cI cZ) A post H locs (F0 m 45 ls [.int s0, .int s1]) := by
    intro k14 hk14 s0 s1 x1 x2 x4 x5 x6 x7 u H locs ls hl hP hS h
    refine lv_iadd hx hb dX6_matched_45 ?_
    refine lv_istore_n (lv' := [(3, .int (s1 + s0)), (0, .ref (adr 0)), (1, .int x1), (2, .int x2), (4, .int x4), (5, .int x5), (6, .int x6), (7, .int x7)]) hx hb dX6_matched_46 rfl hl (by decide) rfl (fun ls hl => ?_)
    refine lv_iload hx hb dX6_matched_47 (lv_at hl 4 rfl) ?_
    refine lv_aload_n hx hb dX6_matched_49 rfl (lv_at hl 1 rfl) ?_
    refine mwg_0_32 hx hb hts hinX6 hown hK hP (hts (.fieldLink RX6 69 "FilmBenchModel" "was" "[I") (by decide +kernel)) dX6_matched_50 ?_
    refine lv_iload hx hb dX6_matched_53 (lv_at hl 7 rfl) ?_
    refine mwl_32 (v := ((u.2 32) x7.toNatClampNeg)) hx hb hK hP h.1 dX6_matched_55 rfl ?_
    have h := h.2
    refine lv_iconst (v := (-1 : Int32)) hx hb dX6_matched_56 (by decide) ?_
    refine lv_icmp_eq (tgt := 75) hx hb dX6_matched_57 (by decide) (fun hc => ?_) (fun hc => ?_)
    · have h := h.1 hc
      exact L75 _ hk14 x4 x1 x2 (s1 + s0) x5 x6 x7 u _ _ _ (lv_sub hl [1, 2, 3, 0, 5, 6, 7] rfl) hP hS h
    · have h := h.2 hc
      refine lv_aload_n hx hb dX6_matched_60 rfl (lv_at hl 1 rfl) ?_
      refine mwg_0_32 hx hb hts hinX6 hown hK hP (hts (.fieldLink RX6 69 "FilmBenchModel" "was" "[I") (by decide +kernel)) dX6_matched_61 ?_
      refine lv_iload hx hb dX6_matched_64 (lv_at hl 7 rfl) ?_
      refine mwl_32 (v := ((u.2 32) x7.toNatClampNeg)) hx hb hK hP h.1 dX6_matched_66 rfl ?_
      have h := h.2
      refine lv_iload_n hx hb dX6_matched_67 rfl (lv_at hl 3 rfl) ?_
      refine lv_icmp_ge (tgt := 75) hx hb dX6_matched_68 (by decide) (fun hc => ?_) (fun hc => ?_)
      · have h := h.1 hc
        exact L75 _ hk14 x4 x1 x2 (s1 + s0) x5 x6 x7 u _ _ _ (lv_sub hl [1, 2, 3, 0, 5, 6, 7] rfl) hP hS h
      · have h := h.2 hc
        refine lv_iconst (v := (1 : Int32)) hx hb dX6_matched_71 (by decide) ?_
        refine lv_goto (tgt := 76) hx hb dX6_matched_72 (by decide) ?_
        exact L76 _ hk14 (1 : Int32) x4 x1 x2 (s1 + s0) x5 x6 x7 u _ _ _ (lv_sub hl [1, 2, 3, 0, 5, 6, 7] rfl) hP hS h
  have L14 : ∀ (n : Nat), ∀ (x1 : Int32) (x2 : Int32) (x3 : Int32) (x4 : Int32) (x5 : Int32) (x6 : Int32) (x7 : Int32) (u : US) (H : Heap) (locs : List Loc) (ls : Array Slot), lv_has ls 8 [(0, .ref (adr 0)), (1, .int x1), (2, .int x2), (3, .int x3), (4, .int x4), (5, .int x5), (6, .int x6), (7, .int x7)] → va_P D vwCl (mw adr cI cZ u) H → va_S A s.heap H locs → wp_X6_matched_14  post n x1 x2 x3 x4 x5 x6 x7 u → gWi p l e wsX6_matched 1 s m [.ref (adr 0), .int p1, .int p2] below meth c D cI cZ (mw adr cI cZ) A post H locs (F0 m 14 ls []) := by
    intro  n
    induction n with
    | zero => intro x1 x2 x3 x4 x5 x6 x7 u H locs ls hl hP hS h; exact False.elim h
    | succ n ih =>
      intro x1 x2 x3 x4 x5 x6 x7 u H locs ls hl hP hS h
      refine lv_iload hx hb dX6_matched_14 (lv_at hl 7 rfl) ?_
      refine lv_aload_n hx hb dX6_matched_16 rfl (lv_at hl 0 rfl) ?_
      refine mwg_0_0 (v := (u.1 0)) hx hb hts hinX6 hown hK hP (hts (.fieldLink RX6 7 "FilmBenchModel" "high" "I") (by decide +kernel)) dX6_matched_17 rfl ?_
      refine lv_aload_n hx hb dX6_matched_20 rfl (lv_at hl 0 rfl) ?_
      refine mwg_0_1 (v := (u.1 1)) hx hb hts hinX6 hown hK hP (hts (.fieldLink RX6 13 "FilmBenchModel" "wide" "I") (by decide +kernel)) dX6_matched_21 rfl ?_
      refine lv_imul hx hb dX6_matched_24 ?_
      refine lv_icmp_ge (tgt := 132) hx hb dX6_matched_25 (by decide) (fun hc => ?_) (fun hc => ?_)
      · have h := h.1 hc
        refine lv_iload_n hx hb dX6_matched_132 rfl (lv_at hl 2 rfl) ?_
        refine lv_iconst (v := (-1 : Int32)) hx hb dX6_matched_133 (by decide) ?_
        refine lv_icmp_eq (tgt := 142) hx hb dX6_matched_134 (by decide) (fun hc => ?_) (fun hc => ?_)
        · have h := h.1 hc
          refine lv_iload_n hx hb dX6_matched_142 rfl (lv_at hl 2 rfl) ?_
          exact giret hx hb hr hlocks hK hP hS h dX6_matched_143
        · have h := h.2 hc
          refine lv_iload hx hb dX6_matched_137 (lv_at hl 6 rfl) ?_
          refine lv_if_ne (tgt := 144) hx hb dX6_matched_139 (by decide) (fun hc => ?_) (fun hc => ?_)
          · have h := h.2 hc
            refine lv_aload_n hx hb dX6_matched_144 rfl (lv_at hl 0 rfl) ?_
            refine lv_iload_n hx hb dX6_matched_145 rfl (lv_at hl 1 rfl) ?_
            refine lv_iconst (v := (2 : Int32)) hx hb dX6_matched_146 (by decide) ?_
            refine lv_iload hx hb dX6_matched_147 (lv_at hl 4 rfl) ?_
            refine lv_imul hx hb dX6_matched_149 ?_
            refine lv_iload hx hb dX6_matched_150 (lv_at hl 5 rfl) ?_
            refine lv_iadd hx hb dX6_matched_152 ?_
            refine lv_iconst (v := (1 : Int32)) hx hb dX6_matched_153 (by decide) ?_
            refine lv_isub hx hb dX6_matched_154 ?_
            refine lv_iconst (v := (2 : Int32)) hx hb dX6_matched_155 (by decide) ?_
            refine lv_idiv hx hb dX6_matched_156 (by decide) ?_
            refine lv_iload hx hb dX6_matched_157 (lv_at hl 6 rfl) ?_
            refine lv_imul hx hb dX6_matched_159 ?_
            refine lv_iload_n hx hb dX6_matched_160 rfl (lv_at hl 3 rfl) ?_
            refine lv_idiv hx hb dX6_matched_161 h.1 ?_
            have h := h.2
            refine gcallVi (As := [.int x1, .int (((((((2 : Int32) * x4) + x5) - (1 : Int32)) / (2 : Int32)) * x6) / x3)]) (rest := []) ⟨hx, hb, hml, hown, hts⟩ (c_X6_rising l D cI cZ adr A hD x1 (((((((2 : Int32) * x4) + x5) - (1 : Int32)) / (2 : Int32)) * x6) / x3) u _ h) (cwV 2 hts gX6_matched_X6_rising rfl rfl rfl (by decide +kernel) ⟨Nat.le_of_ble_eq_true rfl, Nat.le_of_ble_eq_true rfl⟩) (va_recv hK hP (ci := 6) (q0 := 0) rfl rfl) hK hP hS rfl hl.1 rfl (Nat.le_of_ble_eq_true rfl) dX6_matched_162 ⟨Nat.le_refl _, Nat.le_refl _⟩ (fun r162 u162 H locs h hP hS => ?_)
            exact giret hx hb hr hlocks hK hP hS h dX6_matched_165
          · have h := h.1 hc
            refine lv_iload_n hx hb dX6_matched_142 rfl (lv_at hl 2 rfl) ?_
            exact giret hx hb hr hlocks hK hP hS h dX6_matched_143
      · have h := h.2 hc
        refine lv_iload_n hx hb dX6_matched_28 rfl (lv_at hl 3 rfl) ?_
        refine lv_aload_n hx hb dX6_matched_29 rfl (lv_at hl 0 rfl) ?_
        refine mwg_0_32 hx hb hts hinX6 hown hK hP (hts (.fieldLink RX6 69 "FilmBenchModel" "was" "[I") (by decide +kernel)) dX6_matched_30 ?_
        refine lv_iload hx hb dX6_matched_33 (lv_at hl 7 rfl) ?_
        refine mwl_32 (v := ((u.2 32) x7.toNatClampNeg)) hx hb hK hP h.1 dX6_matched_35 rfl ?_
        have h := h.2
        refine lv_iconst (v := (-1 : Int32)) hx hb dX6_matched_36 (by decide) ?_
        refine lv_icmp_eq (tgt := 44) hx hb dX6_matched_37 (by decide) (fun hc => ?_) (fun hc => ?_)
        · have h := h.1 hc
          refine lv_iconst (v := (0 : Int32)) hx hb dX6_matched_44 (by decide) ?_
          exact L45 _ ih (0 : Int32) x3 x1 x2 x4 x5 x6 x7 u _ _ _ (lv_sub hl [0, 1, 2, 4, 5, 6, 7] rfl) hP hS h
        · have h := h.2 hc
          refine lv_iconst (v := (1 : Int32)) hx hb dX6_matched_40 (by decide) ?_
          refine lv_goto (tgt := 45) hx hb dX6_matched_41 (by decide) ?_
          exact L45 _ ih (1 : Int32) x3 x1 x2 x4 x5 x6 x7 u _ _ _ (lv_sub hl [0, 1, 2, 4, 5, 6, 7] rfl) hP hS h
  have hl := lv_entry ([.ref (adr 0), .int p1, .int p2]) (n := 8) (Nat.le_of_ble_eq_true rfl)
  rw [lg_entry_eq]
  generalize (lg_sl ([.ref (adr 0), .int p1, .int p2]) ++ List.replicate (8 - (lg_sl ([.ref (adr 0), .int p1, .int p2])).length) Slot.unset).toArray = ls at hl ⊢
  replace hl : lv_has ls 8 [(0, .ref (adr 0)), (1, .int p1), (2, .int p2)] := hl
  refine lv_iconst (v := (0 : Int32)) hx hb dX6_matched_0 (by decide) ?_
  refine lv_istore_n (lv' := [(3, .int (0 : Int32)), (0, .ref (adr 0)), (1, .int p1), (2, .int p2)]) hx hb dX6_matched_1 rfl hl (by decide) rfl (fun ls hl => ?_)
  refine lv_iconst (v := (0 : Int32)) hx hb dX6_matched_2 (by decide) ?_
  refine lv_istore (lv' := [(4, .int (0 : Int32)), (3, .int (0 : Int32)), (0, .ref (adr 0)), (1, .int p1), (2, .int p2)]) hx hb dX6_matched_3 hl (by decide) rfl (fun ls hl => ?_)
  refine lv_iconst (v := (0 : Int32)) hx hb dX6_matched_5 (by decide) ?_
  refine lv_istore (lv' := [(5, .int (0 : Int32)), (4, .int (0 : Int32)), (3, .int (0 : Int32)), (0, .ref (adr 0)), (1, .int p1), (2, .int p2)]) hx hb dX6_matched_6 hl (by decide) rfl (fun ls hl => ?_)
  refine lv_iconst (v := (0 : Int32)) hx hb dX6_matched_8 (by decide) ?_
  refine lv_istore (lv' := [(6, .int (0 : Int32)), (5, .int (0 : Int32)), (4, .int (0 : Int32)), (3, .int (0 : Int32)), (0, .ref (adr 0)), (1, .int p1), (2, .int p2)]) hx hb dX6_matched_9 hl (by decide) rfl (fun ls hl => ?_)
  refine lv_iconst (v := (0 : Int32)) hx hb dX6_matched_11 (by decide) ?_
  refine lv_istore (lv' := [(7, .int (0 : Int32)), (6, .int (0 : Int32)), (5, .int (0 : Int32)), (4, .int (0 : Int32)), (3, .int (0 : Int32)), (0, .ref (adr 0)), (1, .int p1), (2, .int p2)]) hx hb dX6_matched_12 hl (by decide) rfl (fun ls hl => ?_)
  obtain ⟨n, h⟩ := h
  exact L14  n p1 p2 (0 : Int32) (0 : Int32) (0 : Int32) (0 : Int32) (0 : Int32) u _ _ _ (lv_sub hl [5, 6, 7, 4, 3, 2, 1, 0] rfl) hP hS h
