set_option maxRecDepth 100000 in
set_option maxHeartbeats 4000000 in
theorem c_X6_findMiss (l : Launch) (D : va_G) (cI cZ : ClassId) (adr : Nat → Nat) (A : Nat → Prop) (hD : ∀ u, va_D A (mw adr cI cZ u)) (p1 : Int32) (p2 : Int32) (p3 : Int32) (u : US) (post : Int32 → US → Prop) (h : wp_X6_findMiss p1 p2 p3 u post) : gMi l yX6_findMiss wsX6_findMiss 2 D cI cZ (mw adr cI cZ) A [.ref (adr 0), .int p1, .int p2, .int p3] u post := by
  refine Met.ofW (cc := cX6_findMiss) (maxL := 8) (ret := (some .boolean)) (by decide) rfl ?_
  intro p e s m args below meth c s₁ B hml hv
  obtain ⟨rfl, hP, hK⟩ := hv
  have hx := B.exec
  have hb := B.bytes
  have hr := B.returns
  have hts := atoms_spec (ws := wsX6_findMiss) B.pre
  have hown : s.vm.findClass RX6 = some m.cls := findClass_of_methodNamed B.named
  have hlocks := B.notSynchronized
  have hinX6 : ∀ w ∈ wsX60, w ∈ wsX6_findMiss := by decide +kernel
  have hS : va_S A s.heap s.heap [] := va_S.rf
  have L130 : ∀ (k25 : Int32 → Int32 → Int32 → Int32 → Int32 → US → Prop) (hk25 : ∀ (x1 : Int32) (x2 : Int32) (x3 : Int32) (x4 : Int32) (x5 : Int32) (u : US) (H : Heap) (locs : List Loc) (ls : Array Slot), lv_has ls 8 [(0, .ref (adr 0)), (1, .int x1), (2, .int x2), (3, .int x3), (4, .int x4), (5, .int x5)] → va_P D vwCl (mw adr cI cZ u) H → va_S A s.heap H locs → k25 x1 x2 x3 x4 x5 u → gWi p l e wsX6_findMiss 2 s m [.ref (adr 0), .int p1, .int p2, .int p3] below meth c D cI cZ (mw adr cI cZ) A post H locs (F0 m 25 ls [])), ∀ (s0 : Int32) (s1 : Int32) (x1 : Int32) (x2 : Int32) (x3 : Int32) (x4 : Int32) (x5 : Int32) (u : US) (H : Heap) (locs : List Loc) (ls : Array Slot), lv_has ls 8 [(0, .ref (adr 0)), (1, .int x1), (2, .int x2), (3, .int x3), (4, .int x4), (5, .int x5)] → va_P D vwCl (mw adr cI cZ u) H → va_S A s.heap H locs → wp_X6_findMiss_130 k25 post s0 s1 x1 x2 x3 x4 x5 u → gWi p l e wsX6_findMiss 2 s m [.ref (adr 0), .int p1, .int p2, .int p3] below meth c D cI cZ (mw adr cI cZ) A post H locs (F0 m 130 ls [.int s0, .int s1, .ref (adr 0)]) := by
    intro k25 hk25 s0 s1 x1 x2 x3 x4 x5 u H locs ls hl hP hS h
    refine lv_iadd hx hb dX6_findMiss_130 ?_
    refine mwp_0_22 (v := (s1 + s0)) hx hb hts hinX6 hown hK hP (hD _) hS (hts (.fieldLink RX6 96 "FilmBenchModel" "missAbove" "I") (by decide +kernel)) dX6_findMiss_131 (fun H locs hP hS => ?_)
    refine lv_aload_n hx hb dX6_findMiss_134 rfl (lv_at hl 0 rfl) ?_
    refine lv_dup hx hb dX6_findMiss_135 rfl ?_
    refine mwg_0_23 (v := (u.1 23)) hx hb hts hinX6 hown hK hP (hts (.fieldLink RX6 99 "FilmBenchModel" "missBelow" "I") (by decide +kernel)) dX6_findMiss_136 rfl ?_
    refine lv_iconst (v := (1 : Int32)) hx hb dX6_findMiss_139 (by decide) ?_
    refine lv_iadd hx hb dX6_findMiss_140 ?_
    refine mwp_0_23 (v := ((u.1 23) + (1 : Int32))) hx hb hts hinX6 hown hK hP (hD _) hS (hts (.fieldLink RX6 99 "FilmBenchModel" "missBelow" "I") (by decide +kernel)) dX6_findMiss_141 (fun H locs hP hS => ?_)
    refine lv_iinc (v := (x5 + 1)) (lv' := [(5, .int (x5 + 1)), (0, .ref (adr 0)), (1, .int x1), (2, .int x2), (3, .int x3), (4, .int x4)]) hx hb dX6_findMiss_144 hl (k := 5) rfl (congrArg (HAdd.hAdd _) (show Int32.ofInt (1) = (1 : Int32) by decide)) (by decide) rfl (fun ls hl => ?_)
    refine lv_goto (tgt := 25) hx hb dX6_findMiss_147 (by decide) ?_
    exact hk25 x1 x2 x3 x4 (x5 + 1) (si (si u 22 (s1 + s0)) 23 ((u.1 23) + (1 : Int32))) _ _ _ (lv_sub hl [1, 2, 3, 4, 5, 0] rfl) hP hS h
  have L25 : ∀ (k13 : Int32 → Int32 → Int32 → Int32 → US → Prop) (hk13 : ∀ (x1 : Int32) (x2 : Int32) (x3 : Int32) (x4 : Int32) (u : US) (H : Heap) (locs : List Loc) (ls : Array Slot), lv_has ls 8 [(0, .ref (adr 0)), (1, .int x1), (2, .int x2), (3, .int x3), (4, .int x4)] → va_P D vwCl (mw adr cI cZ u) H → va_S A s.heap H locs → k13 x1 x2 x3 x4 u → gWi p l e wsX6_findMiss 2 s m [.ref (adr 0), .int p1, .int p2, .int p3] below meth c D cI cZ (mw adr cI cZ) A post H locs (F0 m 13 ls [])), ∀ (n : Nat), ∀ (x1 : Int32) (x2 : Int32) (x3 : Int32) (x4 : Int32) (x5 : Int32) (u : US) (H : Heap) (locs : List Loc) (ls : Array Slot), lv_has ls 8 [(0, .ref (adr 0)), (1, .int x1), (2, .int x2), (3, .int x3), (4, .int x4), (5, .int x5)] → va_P D vwCl (mw adr cI cZ u) H → va_S A s.heap H locs → wp_X6_findMiss_25 k13 post n x1 x2 x3 x4 x5 u → gWi p l e wsX6_findMiss 2 s m [.ref (adr 0), .int p1, .int p2, .int p3] below meth c D cI cZ (mw adr cI cZ) A post H locs (F0 m 25 ls []) := by
    intro k13 hk13 n
    induction n with
    | zero => intro x1 x2 x3 x4 x5 u H locs ls hl hP hS h; exact False.elim h
    | succ n ih =>
      intro x1 x2 x3 x4 x5 u H locs ls hl hP hS h
      refine lv_iload hx hb dX6_findMiss_25 (lv_at hl 5 rfl) ?_
      refine lv_aload_n hx hb dX6_findMiss_27 rfl (lv_at hl 0 rfl) ?_
      refine mwg_0_1 (v := (u.1 1)) hx hb hts hinX6 hown hK hP (hts (.fieldLink RX6 13 "FilmBenchModel" "wide" "I") (by decide +kernel)) dX6_findMiss_28 rfl ?_
      refine lv_icmp_ge (tgt := 150) hx hb dX6_findMiss_31 (by decide) (fun hc => ?_) (fun hc => ?_)
      · have h := h.1 hc
        refine lv_iinc (v := (x4 + 1)) (lv' := [(4, .int (x4 + 1)), (0, .ref (adr 0)), (1, .int x1), (2, .int x2), (3, .int x3), (5, .int x5)]) hx hb dX6_findMiss_150 hl (k := 4) rfl (congrArg (HAdd.hAdd _) (show Int32.ofInt (1) = (1 : Int32) by decide)) (by decide) rfl (fun ls hl => ?_)
        refine lv_goto (tgt := 13) hx hb dX6_findMiss_153 (by decide) ?_
        exact hk13 x1 x2 x3 (x4 + 1) u _ _ _ (lv_sub hl [1, 2, 3, 4, 0] rfl) hP hS h
      · have h := h.2 hc
        refine lv_aload_n hx hb dX6_findMiss_34 rfl (lv_at hl 0 rfl) ?_
        refine lv_iload hx hb dX6_findMiss_35 (lv_at hl 4 rfl) ?_
        refine lv_iload_n hx hb dX6_findMiss_37 rfl (lv_at hl 3 rfl) ?_
        refine lv_iadd hx hb dX6_findMiss_38 ?_
        refine lv_iload hx hb dX6_findMiss_39 (lv_at hl 5 rfl) ?_
        refine lv_iload_n hx hb dX6_findMiss_41 rfl (lv_at hl 2 rfl) ?_
        refine lv_iadd hx hb dX6_findMiss_42 ?_
        refine gcallVi (As := [.int (x4 + x3), .int (x5 + x2)]) (rest := []) ⟨hx, hb, hml, hown, hts⟩ (c_X6_isSquare l D cI cZ adr A hD (x4 + x3) (x5 + x2) u _ h) (cwV 2 hts gX6_findMiss_X6_isSquare rfl rfl rfl (by decide +kernel) ⟨Nat.le_of_ble_eq_true rfl, Nat.le_of_ble_eq_true rfl⟩) (va_recv hK hP (ci := 6) (q0 := 0) rfl rfl) hK hP hS rfl hl.1 rfl (Nat.le_of_ble_eq_true rfl) dX6_findMiss_43 ⟨Nat.le_refl _, Nat.le_refl _⟩ (fun r43 u43 H locs h hP hS => ?_)
        refine lv_if_ne (tgt := 52) hx hb dX6_findMiss_46 (by decide) (fun hc => ?_) (fun hc => ?_)
        · have h := h.2 hc
          refine lv_aload_n hx hb dX6_findMiss_52 rfl (lv_at hl 0 rfl) ?_
          refine mwg_0_3 hx hb hts hinX6 hown hK hP (hts (.fieldLink RX6 16 "FilmBenchModel" "raw" "[I") (by decide +kernel)) dX6_findMiss_53 ?_
          refine lv_aload_n hx hb dX6_findMiss_56 rfl (lv_at hl 0 rfl) ?_
          refine lv_iload_n hx hb dX6_findMiss_57 rfl (lv_at hl 1 rfl) ?_
          refine lv_iconst (v := (1 : Int32)) hx hb dX6_findMiss_58 (by decide) ?_
          refine lv_isub hx hb dX6_findMiss_59 ?_
          refine lv_iload hx hb dX6_findMiss_60 (lv_at hl 4 rfl) ?_
          refine lv_iload hx hb dX6_findMiss_62 (lv_at hl 5 rfl) ?_
          refine gcallVi (As := [.int (x1 - (1 : Int32)), .int x4, .int x5]) (rest := [.ref (adr 3)]) ⟨hx, hb, hml, hown, hts⟩ (c_X6_at l D cI cZ adr A hD (x1 - (1 : Int32)) x4 x5 u43 _ h) (cwV 3 hts gX6_findMiss_X6_at rfl rfl rfl (by decide +kernel) ⟨Nat.le_of_ble_eq_true rfl, Nat.le_of_ble_eq_true rfl⟩) (va_recv hK hP (ci := 6) (q0 := 0) rfl rfl) hK hP hS rfl hl.1 rfl (Nat.le_of_ble_eq_true rfl) dX6_findMiss_64 ⟨Nat.le_refl _, Nat.le_refl _⟩ (fun r64 u64 H locs h hP hS => ?_)
          refine mwl_3 (v := ((u64.2 3) r64.toNatClampNeg)) hx hb hK hP h.1 dX6_findMiss_67 rfl ?_
          have h := h.2
          refine lv_istore (lv' := [(6, .int ((u64.2 3) r64.toNatClampNeg)), (0, .ref (adr 0)), (1, .int x1), (2, .int x2), (3, .int x3), (4, .int x4), (5, .int x5)]) hx hb dX6_findMiss_68 hl (by decide) rfl (fun ls hl => ?_)
          refine lv_aload_n hx hb dX6_findMiss_70 rfl (lv_at hl 1 rfl) ?_
          refine mwg_0_3 hx hb hts hinX6 hown hK hP (hts (.fieldLink RX6 16 "FilmBenchModel" "raw" "[I") (by decide +kernel)) dX6_findMiss_71 ?_
          refine lv_aload_n hx hb dX6_findMiss_74 rfl (lv_at hl 1 rfl) ?_
          refine lv_iload_n hx hb dX6_findMiss_75 rfl (lv_at hl 2 rfl) ?_
          refine lv_iload hx hb dX6_findMiss_76 (lv_at hl 5 rfl) ?_
          refine lv_iload_n hx hb dX6_findMiss_78 rfl (lv_at hl 4 rfl) ?_
          refine lv_iadd hx hb dX6_findMiss_79 ?_
          refine lv_iload hx hb dX6_findMiss_80 (lv_at hl 6 rfl) ?_
          refine lv_iload_n hx hb dX6_findMiss_82 rfl (lv_at hl 3 rfl) ?_
          refine lv_iadd hx hb dX6_findMiss_83 ?_
          refine gcallVi (As := [.int x1, .int (x4 + x3), .int (x5 + x2)]) (rest := [.ref (adr 3)]) ⟨hx, hb, hml, hown, hts⟩ (c_X6_at l D cI cZ adr A hD x1 (x4 + x3) (x5 + x2) u64 _ h) (cwV 3 hts gX6_findMiss_X6_at rfl rfl rfl (by decide +kernel) ⟨Nat.le_of_ble_eq_true rfl, Nat.le_of_ble_eq_true rfl⟩) (va_recv hK hP (ci := 6) (q0 := 0) rfl rfl) hK hP hS rfl hl.1 rfl (Nat.le_of_ble_eq_true rfl) dX6_findMiss_84 ⟨Nat.le_refl _, Nat.le_refl _⟩ (fun r84 u84 H locs h hP hS => ?_)
          refine mwl_3 (v := ((u84.2 3) r84.toNatClampNeg)) hx hb hK hP h.1 dX6_findMiss_87 rfl ?_
          have h := h.2
          refine lv_istore (lv' := [(7, .int ((u84.2 3) r84.toNatClampNeg)), (6, .int ((u64.2 3) r64.toNatClampNeg)), (0, .ref (adr 0)), (1, .int x1), (2, .int x2), (3, .int x3), (4, .int x4), (5, .int x5)]) hx hb dX6_findMiss_88 hl (by decide) rfl (fun ls hl => ?_)
          refine lv_iload hx hb dX6_findMiss_90 (lv_at hl 1 rfl) ?_
          refine lv_iconst (v := (-1 : Int32)) hx hb dX6_findMiss_92 (by decide) ?_
          refine lv_icmp_eq (tgt := 144) hx hb dX6_findMiss_93 (by decide) (fun hc => ?_) (fun hc => ?_)
          · have h := h.1 hc
            refine lv_iinc (v := (x5 + 1)) (lv' := [(5, .int (x5 + 1)), (7, .int ((u84.2 3) r84.toNatClampNeg)), (6, .int ((u64.2 3) r64.toNatClampNeg)), (0, .ref (adr 0)), (1, .int x1), (2, .int x2), (3, .int x3), (4, .int x4)]) hx hb dX6_findMiss_144 hl (k := 7) rfl (congrArg (HAdd.hAdd _) (show Int32.ofInt (1) = (1 : Int32) by decide)) (by decide) rfl (fun ls hl => ?_)
            refine lv_goto (tgt := 25) hx hb dX6_findMiss_147 (by decide) ?_
            exact ih x1 x2 x3 x4 (x5 + 1) u84 _ _ _ (lv_sub hl [3, 4, 5, 6, 7, 0] rfl) hP hS h
          · have h := h.2 hc
            refine lv_iload hx hb dX6_findMiss_96 (lv_at hl 0 rfl) ?_
            refine lv_iconst (v := (-1 : Int32)) hx hb dX6_findMiss_98 (by decide) ?_
            refine lv_icmp_ne (tgt := 105) hx hb dX6_findMiss_99 (by decide) (fun hc => ?_) (fun hc => ?_)
            · have h := h.2 hc
              refine lv_aload_n hx hb dX6_findMiss_105 rfl (lv_at hl 2 rfl) ?_
              refine lv_dup hx hb dX6_findMiss_106 rfl ?_
              refine mwg_0_22 (v := (u84.1 22)) hx hb hts hinX6 hown hK hP (hts (.fieldLink RX6 96 "FilmBenchModel" "missAbove" "I") (by decide +kernel)) dX6_findMiss_107 rfl ?_
              refine lv_iload hx hb dX6_findMiss_110 (lv_at hl 1 rfl) ?_
              refine lv_iload hx hb dX6_findMiss_112 (lv_at hl 0 rfl) ?_
              refine lv_icmp_ge (tgt := 125) hx hb dX6_findMiss_114 (by decide) (fun hc => ?_) (fun hc => ?_)
              · have h := h.1 hc
                refine lv_iload hx hb dX6_findMiss_125 (lv_at hl 1 rfl) ?_
                refine lv_iload hx hb dX6_findMiss_127 (lv_at hl 0 rfl) ?_
                refine lv_isub hx hb dX6_findMiss_129 ?_
                exact L130 _ ih (((u64.2 3) r64.toNatClampNeg) - ((u84.2 3) r84.toNatClampNeg)) (u84.1 22) x1 x2 x3 x4 x5 u84 _ _ _ (lv_sub hl [2, 3, 4, 5, 6, 7] rfl) hP hS h
              · have h := h.2 hc
                refine lv_iload hx hb dX6_findMiss_117 (lv_at hl 0 rfl) ?_
                refine lv_iload hx hb dX6_findMiss_119 (lv_at hl 1 rfl) ?_
                refine lv_isub hx hb dX6_findMiss_121 ?_
                refine lv_goto (tgt := 130) hx hb dX6_findMiss_122 (by decide) ?_
                exact L130 _ ih (((u84.2 3) r84.toNatClampNeg) - ((u64.2 3) r64.toNatClampNeg)) (u84.1 22) x1 x2 x3 x4 x5 u84 _ _ _ (lv_sub hl [2, 3, 4, 5, 6, 7] rfl) hP hS h
            · have h := h.1 hc
              refine lv_goto (tgt := 144) hx hb dX6_findMiss_102 (by decide) ?_
              refine lv_iinc (v := (x5 + 1)) (lv' := [(5, .int (x5 + 1)), (7, .int ((u84.2 3) r84.toNatClampNeg)), (6, .int ((u64.2 3) r64.toNatClampNeg)), (0, .ref (adr 0)), (1, .int x1), (2, .int x2), (3, .int x3), (4, .int x4)]) hx hb dX6_findMiss_144 hl (k := 7) rfl (congrArg (HAdd.hAdd _) (show Int32.ofInt (1) = (1 : Int32) by decide)) (by decide) rfl (fun ls hl => ?_)
              refine lv_goto (tgt := 25) hx hb dX6_findMiss_147 (by decide) ?_
              exact ih x1 x2 x3 x4 (x5 + 1) u84 _ _ _ (lv_sub hl [3, 4, 5, 6, 7, 0] rfl) hP hS h
        · have h := h.1 hc
          refine lv_goto (tgt := 144) hx hb dX6_findMiss_49 (by decide) ?_
          refine lv_iinc (v := (x5 + 1)) (lv' := [(5, .int (x5 + 1)), (0, .ref (adr 0)), (1, .int x1), (2, .int x2), (3, .int x3), (4, .int x4)]) hx hb dX6_findMiss_144 hl (k := 5) rfl (congrArg (HAdd.hAdd _) (show Int32.ofInt (1) = (1 : Int32) by decide)) (by decide) rfl (fun ls hl => ?_)
          refine lv_goto (tgt := 25) hx hb dX6_findMiss_147 (by decide) ?_
          exact ih x1 x2 x3 x4 (x5 + 1) u43 _ _ _ (lv_sub hl [1, 2, 3, 4, 5, 0] rfl) hP hS h
  have L13 : ∀ (n : Nat), ∀ (x1 : Int32) (x2 : Int32) (x3 : Int32) (x4 : Int32) (u : US) (H : Heap) (locs : List Loc) (ls : Array Slot), lv_has ls 8 [(0, .ref (adr 0)), (1, .int x1), (2, .int x2), (3, .int x3), (4, .int x4)] → va_P D vwCl (mw adr cI cZ u) H → va_S A s.heap H locs → wp_X6_findMiss_13  post n x1 x2 x3 x4 u → gWi p l e wsX6_findMiss 2 s m [.ref (adr 0), .int p1, .int p2, .int p3] below meth c D cI cZ (mw adr cI cZ) A post H locs (F0 m 13 ls []) := by
    intro  n
    induction n with
    | zero => intro x1 x2 x3 x4 u H locs ls hl hP hS h; exact False.elim h
    | succ n ih =>
      intro x1 x2 x3 x4 u H locs ls hl hP hS h
      refine lv_iload hx hb dX6_findMiss_13 (lv_at hl 4 rfl) ?_
      refine lv_aload_n hx hb dX6_findMiss_15 rfl (lv_at hl 0 rfl) ?_
      refine mwg_0_0 (v := (u.1 0)) hx hb hts hinX6 hown hK hP (hts (.fieldLink RX6 7 "FilmBenchModel" "high" "I") (by decide +kernel)) dX6_findMiss_16 rfl ?_
      refine lv_icmp_ge (tgt := 156) hx hb dX6_findMiss_19 (by decide) (fun hc => ?_) (fun hc => ?_)
      · have h := h.1 hc
        refine lv_iconst (v := (4 : Int32)) hx hb dX6_findMiss_156 (by decide) ?_
        refine lv_aload_n hx hb dX6_findMiss_157 rfl (lv_at hl 0 rfl) ?_
        refine mwg_0_23 (v := (u.1 23)) hx hb hts hinX6 hown hK hP (hts (.fieldLink RX6 99 "FilmBenchModel" "missBelow" "I") (by decide +kernel)) dX6_findMiss_158 rfl ?_
        refine lv_imul hx hb dX6_findMiss_161 ?_
        refine lv_aload_n hx hb dX6_findMiss_162 rfl (lv_at hl 0 rfl) ?_
        refine mwg_0_0 (v := (u.1 0)) hx hb hts hinX6 hown hK hP (hts (.fieldLink RX6 7 "FilmBenchModel" "high" "I") (by decide +kernel)) dX6_findMiss_163 rfl ?_
        refine lv_aload_n hx hb dX6_findMiss_166 rfl (lv_at hl 0 rfl) ?_
        refine mwg_0_1 (v := (u.1 1)) hx hb hts hinX6 hown hK hP (hts (.fieldLink RX6 13 "FilmBenchModel" "wide" "I") (by decide +kernel)) dX6_findMiss_167 rfl ?_
        refine lv_imul hx hb dX6_findMiss_170 ?_
        refine lv_icmp_lt (tgt := 178) hx hb dX6_findMiss_171 (by decide) (fun hc => ?_) (fun hc => ?_)
        · have h := h.1 hc
          refine lv_iconst (v := (0 : Int32)) hx hb dX6_findMiss_178 (by decide) ?_
          exact gzret hx hb hr hlocks hK hP hS rfl h dX6_findMiss_179
        · have h := h.2 hc
          refine lv_iconst (v := (1 : Int32)) hx hb dX6_findMiss_174 (by decide) ?_
          refine lv_goto (tgt := 179) hx hb dX6_findMiss_175 (by decide) ?_
          exact gzret hx hb hr hlocks hK hP hS rfl h dX6_findMiss_179
      · have h := h.2 hc
        refine lv_iconst (v := (0 : Int32)) hx hb dX6_findMiss_22 (by decide) ?_
        refine lv_istore (lv' := [(5, .int (0 : Int32)), (0, .ref (adr 0)), (1, .int x1), (2, .int x2), (3, .int x3), (4, .int x4)]) hx hb dX6_findMiss_23 hl (by decide) rfl (fun ls hl => ?_)
        obtain ⟨n, h⟩ := h
        exact L25 _ ih n x1 x2 x3 x4 (0 : Int32) u _ _ _ (lv_sub hl [1, 2, 3, 4, 5, 0] rfl) hP hS h
  have hl := lv_entry ([.ref (adr 0), .int p1, .int p2, .int p3]) (n := 8) (Nat.le_of_ble_eq_true rfl)
  rw [lg_entry_eq]
  generalize (lg_sl ([.ref (adr 0), .int p1, .int p2, .int p3]) ++ List.replicate (8 - (lg_sl ([.ref (adr 0), .int p1, .int p2, .int p3])).length) Slot.unset).toArray = ls at hl ⊢
  replace hl : lv_has ls 8 [(0, .ref (adr 0)), (1, .int p1), (2, .int p2), (3, .int p3)] := hl
  refine lv_aload_n hx hb dX6_findMiss_0 rfl (lv_at hl 0 rfl) ?_
  refine lv_iconst (v := (0 : Int32)) hx hb dX6_findMiss_1 (by decide) ?_
  refine mwp_0_22 (v := (0 : Int32)) hx hb hts hinX6 hown hK hP (hD _) hS (hts (.fieldLink RX6 96 "FilmBenchModel" "missAbove" "I") (by decide +kernel)) dX6_findMiss_2 (fun H locs hP hS => ?_)
  refine lv_aload_n hx hb dX6_findMiss_5 rfl (lv_at hl 0 rfl) ?_
  refine lv_iconst (v := (0 : Int32)) hx hb dX6_findMiss_6 (by decide) ?_
  refine mwp_0_23 (v := (0 : Int32)) hx hb hts hinX6 hown hK hP (hD _) hS (hts (.fieldLink RX6 99 "FilmBenchModel" "missBelow" "I") (by decide +kernel)) dX6_findMiss_7 (fun H locs hP hS => ?_)
  refine lv_iconst (v := (0 : Int32)) hx hb dX6_findMiss_10 (by decide) ?_
  refine lv_istore (lv' := [(4, .int (0 : Int32)), (0, .ref (adr 0)), (1, .int p1), (2, .int p2), (3, .int p3)]) hx hb dX6_findMiss_11 hl (by decide) rfl (fun ls hl => ?_)
  obtain ⟨n, h⟩ := h
  exact L13  n p1 p2 p3 (0 : Int32) (si (si u 22 (0 : Int32)) 23 (0 : Int32)) _ _ _ (lv_sub hl [1, 2, 3, 4, 0] rfl) hP hS h
set_option maxRecDepth 100000 in
set_option maxHeartbeats 4000000 in
theorem c_X6_common (l : Launch) (D : va_G) (cI cZ : ClassId) (adr : Nat → Nat) (A : Nat → Prop) (hD : ∀ u, va_D A (mw adr cI cZ u)) (p0 : Int32) (p1 : Int32) (u : US) (post : Int32 → US → Prop) (h : wp_X6_common p0 p1 u post) : gMi l yX6_common wsX6_common 0 D cI cZ (mw adr cI cZ) A [.int p0, .int p1] u post := by
  refine Met.ofW (cc := cX6_common) (maxL := 5) (ret := (some .int)) (by decide) rfl ?_
  intro p e s m args below meth c s₁ B hml hv
  obtain ⟨rfl, hP, hK⟩ := hv
  have hx := B.exec
  have hb := B.bytes
  have hr := B.returns
  have hts := atoms_spec (ws := wsX6_common) B.pre
  have hown : s.vm.findClass RX6 = some m.cls := findClass_of_methodNamed B.named
  have hlocks := B.notSynchronized
  have hS : va_S A s.heap s.heap [] := va_S.rf
  have L4 : ∀ (n : Nat), ∀ (x2 : Int32) (x3 : Int32) (u : US) (H : Heap) (locs : List Loc) (ls : Array Slot), lv_has ls 5 [(2, .int x2), (3, .int x3)] → va_P D vwCl (mw adr cI cZ u) H → va_S A s.heap H locs → wp_X6_common_4  post n x2 x3 u → gWi p l e wsX6_common 0 s m [.int p0, .int p1] below meth c D cI cZ (mw adr cI cZ) A post H locs (F0 m 4 ls []) := by
    intro  n
    induction n with
    | zero => intro x2 x3 u H locs ls hl hP hS h; exact False.elim h
    | succ n ih =>
      intro x2 x3 u H locs ls hl hP hS h
      refine lv_iload_n hx hb dX6_common_4 rfl (lv_at hl 1 rfl) ?_
      refine lv_if_eq (tgt := 21) hx hb dX6_common_5 (by decide) (fun hc => ?_) (fun hc => ?_)
      · have h := h.1 hc
        refine lv_iload_n hx hb dX6_common_21 rfl (lv_at hl 0 rfl) ?_
        exact giret hx hb hr hlocks hK hP hS h dX6_common_22
      · have h := h.2 hc
        refine lv_iload_n hx hb dX6_common_8 rfl (lv_at hl 0 rfl) ?_
        refine lv_iload_n hx hb dX6_common_9 rfl (lv_at hl 1 rfl) ?_
        refine lv_irem hx hb dX6_common_10 h.1 ?_
        have h := h.2
        refine lv_istore (lv' := [(4, .int (x2 - x2 / x3 * x3)), (2, .int x2), (3, .int x3)]) hx hb dX6_common_11 hl (by decide) rfl (fun ls hl => ?_)
        refine lv_iload_n hx hb dX6_common_13 rfl (lv_at hl 2 rfl) ?_
        refine lv_istore_n (lv' := [(2, .int x3), (4, .int (x2 - x2 / x3 * x3)), (3, .int x3)]) hx hb dX6_common_14 rfl hl (by decide) rfl (fun ls hl => ?_)
        refine lv_iload hx hb dX6_common_15 (lv_at hl 1 rfl) ?_
        refine lv_istore_n (lv' := [(3, .int (x2 - x2 / x3 * x3)), (2, .int x3), (4, .int (x2 - x2 / x3 * x3))]) hx hb dX6_common_17 rfl hl (by decide) rfl (fun ls hl => ?_)
        refine lv_goto (tgt := 4) hx hb dX6_common_18 (by decide) ?_
        exact ih x3 (x2 - x2 / x3 * x3) u _ _ _ (lv_sub hl [1, 0] rfl) hP hS h
  have hl := lv_entry ([.int p0, .int p1]) (n := 5) (Nat.le_of_ble_eq_true rfl)
  rw [lg_entry_eq]
  generalize (lg_sl ([.int p0, .int p1]) ++ List.replicate (5 - (lg_sl ([.int p0, .int p1])).length) Slot.unset).toArray = ls at hl ⊢
  replace hl : lv_has ls 5 [(0, .int p0), (1, .int p1)] := hl
  refine lv_iload_n hx hb dX6_common_0 rfl (lv_at hl 0 rfl) ?_
  refine lv_istore_n (lv' := [(2, .int p0), (0, .int p0), (1, .int p1)]) hx hb dX6_common_1 rfl hl (by decide) rfl (fun ls hl => ?_)
  refine lv_iload_n hx hb dX6_common_2 rfl (lv_at hl 2 rfl) ?_
  refine lv_istore_n (lv' := [(3, .int p1), (2, .int p0), (0, .int p0), (1, .int p1)]) hx hb dX6_common_3 rfl hl (by decide) rfl (fun ls hl => ?_)
  obtain ⟨n, h⟩ := h
  exact L4  n p0 p1 u _ _ _ (lv_sub hl [1, 0] rfl) hP hS h
set_option maxRecDepth 100000 in
set_option maxHeartbeats 4000000 in
theorem c_X6_miss (l : Launch) (D : va_G) (cI cZ : ClassId) (adr : Nat → Nat) (A : Nat → Prop) (hD : ∀ u, va_D A (mw adr cI cZ u)) (p1 : Int32) (p2 : Int32) (p3 : Int32) (p4 : Int32) (u : US) (post : Int32 → US → Prop) (h : wp_X6_miss p1 p2 p3 p4 u post) : gMi l yX6_miss wsX6_miss 3 D cI cZ (mw adr cI cZ) A [.ref (adr 0), .int p1, .int p2, .int p3, .int p4] u post := by
  refine Met.ofW (cc := cX6_miss) (maxL := 6) (ret := (some .int)) (by decide) rfl ?_
  intro p e s m args below meth c s₁ B hml hv
  obtain ⟨rfl, hP, hK⟩ := hv
  have hx := B.exec
  have hb := B.bytes
  have hr := B.returns
  have hts := atoms_spec (ws := wsX6_miss) B.pre
  have hown : s.vm.findClass RX6 = some m.cls := findClass_of_methodNamed B.named
  have hlocks := B.notSynchronized
  have hinX6 : ∀ w ∈ wsX60, w ∈ wsX6_miss := by decide +kernel
  have hS : va_S A s.heap s.heap [] := va_S.rf
  have hl := lv_entry ([.ref (adr 0), .int p1, .int p2, .int p3, .int p4]) (n := 6) (Nat.le_of_ble_eq_true rfl)
  rw [lg_entry_eq]
  generalize (lg_sl ([.ref (adr 0), .int p1, .int p2, .int p3, .int p4]) ++ List.replicate (6 - (lg_sl ([.ref (adr 0), .int p1, .int p2, .int p3, .int p4])).length) Slot.unset).toArray = ls at hl ⊢
  replace hl : lv_has ls 6 [(0, .ref (adr 0)), (1, .int p1), (2, .int p2), (3, .int p3), (4, .int p4)] := hl
  refine lv_aload_n hx hb dX6_miss_0 rfl (lv_at hl 0 rfl) ?_
  refine lv_iload_n hx hb dX6_miss_1 rfl (lv_at hl 1 rfl) ?_
  refine gcallVi (As := [.int p1]) (rest := []) ⟨hx, hb, hml, hown, hts⟩ (c_X6_isFrame l D cI cZ adr A hD p1 u _ h) (cwV 1 hts gX6_miss_X6_isFrame rfl rfl rfl (by decide +kernel) ⟨Nat.le_of_ble_eq_true rfl, Nat.le_of_ble_eq_true rfl⟩) (va_recv hK hP (ci := 6) (q0 := 0) rfl rfl) hK hP hS rfl hl.1 rfl (Nat.le_of_ble_eq_true rfl) dX6_miss_2 ⟨Nat.le_refl _, Nat.le_refl _⟩ (fun r2 u2 H locs h hP hS => ?_)
  refine lv_if_eq (tgt := 42) hx hb dX6_miss_5 (by decide) (fun hc => ?_) (fun hc => ?_)
  · have h := h.1 hc
    refine lv_iconst (v := (-1 : Int32)) hx hb dX6_miss_42 (by decide) ?_
    exact giret hx hb hr hlocks hK hP hS h dX6_miss_43
  · have h := h.2 hc
    refine lv_iload_n hx hb dX6_miss_8 rfl (lv_at hl 1 rfl) ?_
    refine lv_if_eq (tgt := 42) hx hb dX6_miss_9 (by decide) (fun hc => ?_) (fun hc => ?_)
    · have h := h.1 hc
      refine lv_iconst (v := (-1 : Int32)) hx hb dX6_miss_42 (by decide) ?_
      exact giret hx hb hr hlocks hK hP hS h dX6_miss_43
    · have h := h.2 hc
      refine lv_iload_n hx hb dX6_miss_12 rfl (lv_at hl 2 rfl) ?_
      refine lv_bipush (v := (-2 : Int32)) hx hb dX6_miss_13 (by decide) ?_
      refine lv_iconst (v := (2 : Int32)) hx hb dX6_miss_15 (by decide) ?_
      refine gcallSi (As := [.int p2, .int (-2 : Int32), .int (2 : Int32)]) (rest := []) ⟨hx, hb, hml, hown, hts⟩ (c_X6_in l D cI cZ adr A hD p2 (-2 : Int32) (2 : Int32) u2 _ h) (va_cwS 3 hts gX6_miss_X6_in rfl rfl rfl (by decide +kernel) ⟨Nat.le_of_ble_eq_true rfl, Nat.le_of_ble_eq_true rfl⟩) hK hP hS rfl hl.1 rfl (Nat.le_of_ble_eq_true rfl) dX6_miss_16 ⟨Nat.le_refl _, Nat.le_refl _⟩ (fun r16 u16 H locs h hP hS => ?_)
      refine lv_if_eq (tgt := 42) hx hb dX6_miss_19 (by decide) (fun hc => ?_) (fun hc => ?_)
      · have h := h.1 hc
        refine lv_iconst (v := (-1 : Int32)) hx hb dX6_miss_42 (by decide) ?_
        exact giret hx hb hr hlocks hK hP hS h dX6_miss_43
      · have h := h.2 hc
        refine lv_iload_n hx hb dX6_miss_22 rfl (lv_at hl 3 rfl) ?_
        refine lv_bipush (v := (-2 : Int32)) hx hb dX6_miss_23 (by decide) ?_
        refine lv_iconst (v := (2 : Int32)) hx hb dX6_miss_25 (by decide) ?_
        refine gcallSi (As := [.int p3, .int (-2 : Int32), .int (2 : Int32)]) (rest := []) ⟨hx, hb, hml, hown, hts⟩ (c_X6_in l D cI cZ adr A hD p3 (-2 : Int32) (2 : Int32) u16 _ h) (va_cwS 3 hts gX6_miss_X6_in rfl rfl rfl (by decide +kernel) ⟨Nat.le_of_ble_eq_true rfl, Nat.le_of_ble_eq_true rfl⟩) hK hP hS rfl hl.1 rfl (Nat.le_of_ble_eq_true rfl) dX6_miss_26 ⟨Nat.le_refl _, Nat.le_refl _⟩ (fun r26 u26 H locs h hP hS => ?_)
        refine lv_if_eq (tgt := 42) hx hb dX6_miss_29 (by decide) (fun hc => ?_) (fun hc => ?_)
        · have h := h.1 hc
          refine lv_iconst (v := (-1 : Int32)) hx hb dX6_miss_42 (by decide) ?_
          exact giret hx hb hr hlocks hK hP hS h dX6_miss_43
        · have h := h.2 hc
          refine lv_iload hx hb dX6_miss_32 (lv_at hl 4 rfl) ?_
          refine lv_iconst (v := (0 : Int32)) hx hb dX6_miss_34 (by decide) ?_
          refine lv_iconst (v := (1 : Int32)) hx hb dX6_miss_35 (by decide) ?_
          refine gcallSi (As := [.int p4, .int (0 : Int32), .int (1 : Int32)]) (rest := []) ⟨hx, hb, hml, hown, hts⟩ (c_X6_in l D cI cZ adr A hD p4 (0 : Int32) (1 : Int32) u26 _ h) (va_cwS 3 hts gX6_miss_X6_in rfl rfl rfl (by decide +kernel) ⟨Nat.le_of_ble_eq_true rfl, Nat.le_of_ble_eq_true rfl⟩) hK hP hS rfl hl.1 rfl (Nat.le_of_ble_eq_true rfl) dX6_miss_36 ⟨Nat.le_refl _, Nat.le_refl _⟩ (fun r36 u36 H locs h hP hS => ?_)
          refine lv_if_ne (tgt := 44) hx hb dX6_miss_39 (by decide) (fun hc => ?_) (fun hc => ?_)
          · have h := h.2 hc
            refine lv_aload_n hx hb dX6_miss_44 rfl (lv_at hl 0 rfl) ?_
            refine lv_iload_n hx hb dX6_miss_45 rfl (lv_at hl 1 rfl) ?_
            refine lv_iload_n hx hb dX6_miss_46 rfl (lv_at hl 2 rfl) ?_
            refine lv_iload_n hx hb dX6_miss_47 rfl (lv_at hl 3 rfl) ?_
            refine gcallVi (As := [.int p1, .int p2, .int p3]) (rest := []) ⟨hx, hb, hml, hown, hts⟩ (c_X6_findMiss l D cI cZ adr A hD p1 p2 p3 u36 _ h) (cwV 3 hts gX6_miss_X6_findMiss rfl rfl rfl (by decide +kernel) ⟨Nat.le_of_ble_eq_true rfl, Nat.le_of_ble_eq_true rfl⟩) (va_recv hK hP (ci := 6) (q0 := 0) rfl rfl) hK hP hS rfl hl.1 rfl (Nat.le_of_ble_eq_true rfl) dX6_miss_48 ⟨Nat.le_refl _, Nat.le_refl _⟩ (fun r48 u48 H locs h hP hS => ?_)
            refine lv_if_ne (tgt := 57) hx hb dX6_miss_51 (by decide) (fun hc => ?_) (fun hc => ?_)
            · have h := h.2 hc
              refine lv_aload_n hx hb dX6_miss_57 rfl (lv_at hl 0 rfl) ?_
              refine mwg_0_22 (v := (u48.1 22)) hx hb hts hinX6 hown hK hP (hts (.fieldLink RX6 96 "FilmBenchModel" "missAbove" "I") (by decide +kernel)) dX6_miss_58 rfl ?_
              refine lv_aload_n hx hb dX6_miss_61 rfl (lv_at hl 0 rfl) ?_
              refine mwg_0_23 (v := (u48.1 23)) hx hb hts hinX6 hown hK hP (hts (.fieldLink RX6 99 "FilmBenchModel" "missBelow" "I") (by decide +kernel)) dX6_miss_62 rfl ?_
              refine gcallSi (As := [.int (u48.1 22), .int (u48.1 23)]) (rest := []) ⟨hx, hb, hml, hown, hts⟩ (c_X6_common l D cI cZ adr A hD (u48.1 22) (u48.1 23) u48 _ h) (va_cwS 2 hts gX6_miss_X6_common rfl rfl rfl (by decide +kernel) ⟨Nat.le_of_ble_eq_true rfl, Nat.le_of_ble_eq_true rfl⟩) hK hP hS rfl hl.1 rfl (Nat.le_of_ble_eq_true rfl) dX6_miss_65 ⟨Nat.le_refl _, Nat.le_refl _⟩ (fun r65 u65 H locs h hP hS => ?_)
              refine lv_istore (lv' := [(5, .int r65), (0, .ref (adr 0)), (1, .int p1), (2, .int p2), (3, .int p3), (4, .int p4)]) hx hb dX6_miss_68 hl (by decide) rfl (fun ls hl => ?_)
              refine lv_iload hx hb dX6_miss_70 (lv_at hl 5 rfl) ?_
              refine lv_if_ne (tgt := 85) hx hb dX6_miss_72 (by decide) (fun hc => ?_) (fun hc => ?_)
              · have h := h.2 hc
                refine lv_aload_n hx hb dX6_miss_85 rfl (lv_at hl 1 rfl) ?_
                refine mwg_0_23 (v := (u65.1 23)) hx hb hts hinX6 hown hK hP (hts (.fieldLink RX6 99 "FilmBenchModel" "missBelow" "I") (by decide +kernel)) dX6_miss_86 rfl ?_
                refine lv_iload hx hb dX6_miss_89 (lv_at hl 0 rfl) ?_
                refine lv_idiv hx hb dX6_miss_91 h.1 ?_
                have h := h.2
                exact giret hx hb hr hlocks hK hP hS h dX6_miss_92
              · have h := h.1 hc
                refine lv_aload_n hx hb dX6_miss_75 rfl (lv_at hl 1 rfl) ?_
                refine mwg_0_22 (v := (u65.1 22)) hx hb hts hinX6 hown hK hP (hts (.fieldLink RX6 96 "FilmBenchModel" "missAbove" "I") (by decide +kernel)) dX6_miss_76 rfl ?_
                refine lv_iload hx hb dX6_miss_79 (lv_at hl 0 rfl) ?_
                refine lv_idiv hx hb dX6_miss_81 h.1 ?_
                have h := h.2
                refine lv_goto (tgt := 92) hx hb dX6_miss_82 (by decide) ?_
                exact giret hx hb hr hlocks hK hP hS h dX6_miss_92
            · have h := h.1 hc
              refine lv_bipush (v := (-3 : Int32)) hx hb dX6_miss_54 (by decide) ?_
              exact giret hx hb hr hlocks hK hP hS h dX6_miss_56
          · have h := h.1 hc
            refine lv_iconst (v := (-1 : Int32)) hx hb dX6_miss_42 (by decide) ?_
            exact giret hx hb hr hlocks hK hP hS h dX6_miss_43
set_option maxRecDepth 100000 in
set_option maxHeartbeats 4000000 in
theorem c_X6_size (l : Launch) (D : va_G) (cI cZ : ClassId) (adr : Nat → Nat) (A : Nat → Prop) (hD : ∀ u, va_D A (mw adr cI cZ u)) (p0 : Int32) (u : US) (post : Int32 → US → Prop) (h : wp_X6_size p0 u post) : gMi l yX6_size wsX6_size 0 D cI cZ (mw adr cI cZ) A [.int p0] u post := by
  refine Met.ofW (cc := cX6_size) (maxL := 1) (ret := (some .int)) (by decide) rfl ?_
  intro p e s m args below meth c s₁ B hml hv
  obtain ⟨rfl, hP, hK⟩ := hv
  have hx := B.exec
  have hb := B.bytes
  have hr := B.returns
  have hts := atoms_spec (ws := wsX6_size) B.pre
  have hown : s.vm.findClass RX6 = some m.cls := findClass_of_methodNamed B.named
  have hlocks := B.notSynchronized
  have hS : va_S A s.heap s.heap [] := va_S.rf
  have hl := lv_entry ([.int p0]) (n := 1) (Nat.le_of_ble_eq_true rfl)
  rw [lg_entry_eq]
  generalize (lg_sl ([.int p0]) ++ List.replicate (1 - (lg_sl ([.int p0])).length) Slot.unset).toArray = ls at hl ⊢
  replace hl : lv_has ls 1 [(0, .int p0)] := hl
  refine lv_iload_n hx hb dX6_size_0 rfl (lv_at hl 0 rfl) ?_
  refine lv_if_ge (tgt := 9) hx hb dX6_size_1 (by decide) (fun hc => ?_) (fun hc => ?_)
  · have h := h.1 hc
    refine lv_iload_n hx hb dX6_size_9 rfl (lv_at hl 0 rfl) ?_
    exact giret hx hb hr hlocks hK hP hS h dX6_size_10
  · have h := h.2 hc
    refine lv_iload_n hx hb dX6_size_4 rfl (lv_at hl 0 rfl) ?_
    refine lv_ineg hx hb dX6_size_5 ?_
    refine lv_goto (tgt := 10) hx hb dX6_size_6 (by decide) ?_
    exact giret hx hb hr hlocks hK hP hS h dX6_size_10
set_option maxRecDepth 100000 in
set_option maxHeartbeats 4000000 in
theorem c_X6_findShift (l : Launch) (D : va_G) (cI cZ : ClassId) (adr : Nat → Nat) (A : Nat → Prop) (hD : ∀ u, va_D A (mw adr cI cZ u)) (p1 : Int32) (u : US) (post : US → Prop) (h : wp_X6_findShift p1 u post) : gMv l yX6_findShift wsX6_findShift 3 D cI cZ (mw adr cI cZ) A [.ref (adr 0), .int p1] u post := by
  refine Met.ofW (cc := cX6_findShift) (maxL := 9) (ret := none) (by decide) rfl ?_
  intro p e s m args below meth c s₁ B hml hv
  obtain ⟨rfl, hP, hK⟩ := hv
  have hx := B.exec
  have hb := B.bytes
  have hr := B.returns
  have hts := atoms_spec (ws := wsX6_findShift) B.pre
  have hown : s.vm.findClass RX6 = some m.cls := findClass_of_methodNamed B.named
  have hlocks := B.notSynchronized
  have hinX6 : ∀ w ∈ wsX60, w ∈ wsX6_findShift := by decide +kernel
  have hS : va_S A s.heap s.heap [] := va_S.rf
  have L116 : ∀ (k31 : Int32 → Int32 → Int32 → Int32 → Int32 → Int32 → US → Prop) (hk31 : ∀ (x1 : Int32) (x2 : Int32) (x3 : Int32) (x4 : Int32) (x5 : Int32) (x6 : Int32) (u : US) (H : Heap) (locs : List Loc) (ls : Array Slot), lv_has ls 9 [(0, .ref (adr 0)), (1, .int x1), (2, .int x2), (3, .int x3), (4, .int x4), (5, .int x5), (6, .int x6)] → va_P D vwCl (mw adr cI cZ u) H → va_S A s.heap H locs → k31 x1 x2 x3 x4 x5 x6 u → gWv p l e wsX6_findShift 3 s m [.ref (adr 0), .int p1] below meth c D cI cZ (mw adr cI cZ) A post H locs (F0 m 31 ls [])), ∀ (x1 : Int32) (x5 : Int32) (x6 : Int32) (u : US) (H : Heap) (locs : List Loc) (ls : Array Slot), lv_has ls 9 [(0, .ref (adr 0)), (1, .int x1), (5, .int x5), (6, .int x6)] → va_P D vwCl (mw adr cI cZ u) H → va_S A s.heap H locs → wp_X6_findShift_116 k31 post x1 x5 x6 u → gWv p l e wsX6_findShift 3 s m [.ref (adr 0), .int p1] below meth c D cI cZ (mw adr cI cZ) A post H locs (F0 m 116 ls []) := by
    intro k31 hk31 x1 x5 x6 u H locs ls hl hP hS h
    refine lv_iconst (v := (1 : Int32)) hx hb dX6_findShift_116 (by decide) ?_
    refine lv_istore_n (lv' := [(2, .int (1 : Int32)), (0, .ref (adr 0)), (1, .int x1), (5, .int x5), (6, .int x6)]) hx hb dX6_findShift_117 rfl hl (by decide) rfl (fun ls hl => ?_)
    refine lv_aload_n hx hb dX6_findShift_118 rfl (lv_at hl 1 rfl) ?_
    refine mwg_0_22 (v := (u.1 22)) hx hb hts hinX6 hown hK hP (hts (.fieldLink RX6 96 "FilmBenchModel" "missAbove" "I") (by decide +kernel)) dX6_findShift_119 rfl ?_
    refine lv_istore_n (lv' := [(3, .int (u.1 22)), (2, .int (1 : Int32)), (0, .ref (adr 0)), (1, .int x1), (5, .int x5), (6, .int x6)]) hx hb dX6_findShift_122 rfl hl (by decide) rfl (fun ls hl => ?_)
    refine lv_aload_n hx hb dX6_findShift_123 rfl (lv_at hl 2 rfl) ?_
    refine mwg_0_23 (v := (u.1 23)) hx hb hts hinX6 hown hK hP (hts (.fieldLink RX6 99 "FilmBenchModel" "missBelow" "I") (by decide +kernel)) dX6_findShift_124 rfl ?_
    refine lv_istore (lv' := [(4, .int (u.1 23)), (3, .int (u.1 22)), (2, .int (1 : Int32)), (0, .ref (adr 0)), (1, .int x1), (5, .int x5), (6, .int x6)]) hx hb dX6_findShift_127 hl (by decide) rfl (fun ls hl => ?_)
    refine lv_aload_n hx hb dX6_findShift_129 rfl (lv_at hl 3 rfl) ?_
    refine lv_iload hx hb dX6_findShift_130 (lv_at hl 6 rfl) ?_
    refine mwp_0_24 (v := x6) hx hb hts hinX6 hown hK hP (hD _) hS (hts (.fieldLink RX6 109 "FilmBenchModel" "shiftX" "I") (by decide +kernel)) dX6_findShift_132 (fun H locs hP hS => ?_)
    refine lv_aload_n hx hb dX6_findShift_135 rfl (lv_at hl 3 rfl) ?_
    refine lv_iload hx hb dX6_findShift_136 (lv_at hl 5 rfl) ?_
    refine mwp_0_25 (v := x5) hx hb hts hinX6 hown hK hP (hD _) hS (hts (.fieldLink RX6 112 "FilmBenchModel" "shiftY" "I") (by decide +kernel)) dX6_findShift_138 (fun H locs hP hS => ?_)
    refine lv_iinc (v := (x6 + 1)) (lv' := [(6, .int (x6 + 1)), (4, .int (u.1 23)), (3, .int (u.1 22)), (2, .int (1 : Int32)), (0, .ref (adr 0)), (1, .int x1), (5, .int x5)]) hx hb dX6_findShift_141 hl (k := 6) rfl (congrArg (HAdd.hAdd _) (show Int32.ofInt (1) = (1 : Int32) by decide)) (by decide) rfl (fun ls hl => ?_)
    refine lv_goto (tgt := 31) hx hb dX6_findShift_144 (by decide) ?_
    exact hk31 x1 (1 : Int32) (u.1 22) (u.1 23) x5 (x6 + 1) (si (si u 24 x6) 25 x5) _ _ _ (lv_sub hl [4, 5, 3, 2, 1, 6, 0] rfl) hP hS h
  have L31 : ∀ (k21 : Int32 → Int32 → Int32 → Int32 → Int32 → US → Prop) (hk21 : ∀ (x1 : Int32) (x2 : Int32) (x3 : Int32) (x4 : Int32) (x5 : Int32) (u : US) (H : Heap) (locs : List Loc) (ls : Array Slot), lv_has ls 9 [(0, .ref (adr 0)), (1, .int x1), (2, .int x2), (3, .int x3), (4, .int x4), (5, .int x5)] → va_P D vwCl (mw adr cI cZ u) H → va_S A s.heap H locs → k21 x1 x2 x3 x4 x5 u → gWv p l e wsX6_findShift 3 s m [.ref (adr 0), .int p1] below meth c D cI cZ (mw adr cI cZ) A post H locs (F0 m 21 ls [])), ∀ (n : Nat), ∀ (x1 : Int32) (x2 : Int32) (x3 : Int32) (x4 : Int32) (x5 : Int32) (x6 : Int32) (u : US) (H : Heap) (locs : List Loc) (ls : Array Slot), lv_has ls 9 [(0, .ref (adr 0)), (1, .int x1), (2, .int x2), (3, .int x3), (4, .int x4), (5, .int x5), (6, .int x6)] → va_P D vwCl (mw adr cI cZ u) H → va_S A s.heap H locs → wp_X6_findShift_31 k21 post n x1 x2 x3 x4 x5 x6 u → gWv p l e wsX6_findShift 3 s m [.ref (adr 0), .int p1] below meth c D cI cZ (mw adr cI cZ) A post H locs (F0 m 31 ls []) := by
    intro k21 hk21 n
    induction n with
    | zero => intro x1 x2 x3 x4 x5 x6 u H locs ls hl hP hS h; exact False.elim h
    | succ n ih =>
      intro x1 x2 x3 x4 x5 x6 u H locs ls hl hP hS h
      refine lv_iload hx hb dX6_findShift_31 (lv_at hl 6 rfl) ?_
      refine lv_iconst (v := (2 : Int32)) hx hb dX6_findShift_33 (by decide) ?_
      refine lv_icmp_gt (tgt := 147) hx hb dX6_findShift_34 (by decide) (fun hc => ?_) (fun hc => ?_)
      · have h := h.1 hc
        refine lv_iinc (v := (x5 + 1)) (lv' := [(5, .int (x5 + 1)), (0, .ref (adr 0)), (1, .int x1), (2, .int x2), (3, .int x3), (4, .int x4), (6, .int x6)]) hx hb dX6_findShift_147 hl (k := 5) rfl (congrArg (HAdd.hAdd _) (show Int32.ofInt (1) = (1 : Int32) by decide)) (by decide) rfl (fun ls hl => ?_)
        refine lv_goto (tgt := 21) hx hb dX6_findShift_150 (by decide) ?_
        exact hk21 x1 x2 x3 x4 (x5 + 1) u _ _ _ (lv_sub hl [1, 2, 3, 4, 5, 0] rfl) hP hS h
      · have h := h.2 hc
        refine lv_aload_n hx hb dX6_findShift_37 rfl (lv_at hl 0 rfl) ?_
        refine lv_iload_n hx hb dX6_findShift_38 rfl (lv_at hl 1 rfl) ?_
        refine lv_iload hx hb dX6_findShift_39 (lv_at hl 6 rfl) ?_
        refine lv_iload hx hb dX6_findShift_41 (lv_at hl 5 rfl) ?_
        refine gcallVi (As := [.int x1, .int x6, .int x5]) (rest := []) ⟨hx, hb, hml, hown, hts⟩ (c_X6_findMiss l D cI cZ adr A hD x1 x6 x5 u _ h) (cwV 3 hts gX6_findShift_X6_findMiss rfl rfl rfl (by decide +kernel) ⟨Nat.le_of_ble_eq_true rfl, Nat.le_of_ble_eq_true rfl⟩) (va_recv hK hP (ci := 6) (q0 := 0) rfl rfl) hK hP hS rfl hl.1 rfl (Nat.le_of_ble_eq_true rfl) dX6_findShift_43 ⟨Nat.le_refl _, Nat.le_refl _⟩ (fun r43 u43 H locs h hP hS => ?_)
        refine lv_if_ne (tgt := 52) hx hb dX6_findShift_46 (by decide) (fun hc => ?_) (fun hc => ?_)
        · have h := h.2 hc
          refine lv_aload_n hx hb dX6_findShift_52 rfl (lv_at hl 0 rfl) ?_
          refine mwg_0_22 (v := (u43.1 22)) hx hb hts hinX6 hown hK hP (hts (.fieldLink RX6 96 "FilmBenchModel" "missAbove" "I") (by decide +kernel)) dX6_findShift_53 rfl ?_
          refine lv_iload hx hb dX6_findShift_56 (lv_at hl 4 rfl) ?_
          refine lv_imul hx hb dX6_findShift_58 ?_
          refine lv_iload_n hx hb dX6_findShift_59 rfl (lv_at hl 3 rfl) ?_
          refine lv_aload_n hx hb dX6_findShift_60 rfl (lv_at hl 0 rfl) ?_
          refine mwg_0_23 (v := (u43.1 23)) hx hb hts hinX6 hown hK hP (hts (.fieldLink RX6 99 "FilmBenchModel" "missBelow" "I") (by decide +kernel)) dX6_findShift_61 rfl ?_
          refine lv_imul hx hb dX6_findShift_64 ?_
          refine lv_isub hx hb dX6_findShift_65 ?_
          refine lv_istore (lv' := [(7, .int (((u43.1 22) * x4) - (x3 * (u43.1 23)))), (0, .ref (adr 0)), (1, .int x1), (2, .int x2), (3, .int x3), (4, .int x4), (5, .int x5), (6, .int x6)]) hx hb dX6_findShift_66 hl (by decide) rfl (fun ls hl => ?_)
          refine lv_iload hx hb dX6_findShift_68 (lv_at hl 7 rfl) ?_
          refine gcallSi (As := [.int x6]) (rest := []) ⟨hx, hb, hml, hown, hts⟩ (c_X6_size l D cI cZ adr A hD x6 u43 _ h) (va_cwS 1 hts gX6_findShift_X6_size rfl rfl rfl (by decide +kernel) ⟨Nat.le_of_ble_eq_true rfl, Nat.le_of_ble_eq_true rfl⟩) hK hP hS rfl hl.1 rfl (Nat.le_of_ble_eq_true rfl) dX6_findShift_70 ⟨Nat.le_refl _, Nat.le_refl _⟩ (fun r70 u70 H locs h hP hS => ?_)
          refine lv_iload hx hb dX6_findShift_73 (lv_at hl 6 rfl) ?_
          refine gcallSi (As := [.int x5]) (rest := [.int r70]) ⟨hx, hb, hml, hown, hts⟩ (c_X6_size l D cI cZ adr A hD x5 u70 _ h) (va_cwS 1 hts gX6_findShift_X6_size rfl rfl rfl (by decide +kernel) ⟨Nat.le_of_ble_eq_true rfl, Nat.le_of_ble_eq_true rfl⟩) hK hP hS rfl hl.1 rfl (Nat.le_of_ble_eq_true rfl) dX6_findShift_75 ⟨Nat.le_refl _, Nat.le_refl _⟩ (fun r75 u75 H locs h hP hS => ?_)
          refine lv_iadd hx hb dX6_findShift_78 ?_
          refine lv_aload_n hx hb dX6_findShift_79 rfl (lv_at hl 1 rfl) ?_
          refine mwg_0_24 (v := (u75.1 24)) hx hb hts hinX6 hown hK hP (hts (.fieldLink RX6 109 "FilmBenchModel" "shiftX" "I") (by decide +kernel)) dX6_findShift_80 rfl ?_
          refine gcallSi (As := [.int (u75.1 24)]) (rest := [.int (r70 + r75)]) ⟨hx, hb, hml, hown, hts⟩ (c_X6_size l D cI cZ adr A hD (u75.1 24) u75 _ h) (va_cwS 1 hts gX6_findShift_X6_size rfl rfl rfl (by decide +kernel) ⟨Nat.le_of_ble_eq_true rfl, Nat.le_of_ble_eq_true rfl⟩) hK hP hS rfl hl.1 rfl (Nat.le_of_ble_eq_true rfl) dX6_findShift_83 ⟨Nat.le_refl _, Nat.le_refl _⟩ (fun r83 u83 H locs h hP hS => ?_)
          refine lv_isub hx hb dX6_findShift_86 ?_
          refine lv_aload_n hx hb dX6_findShift_87 rfl (lv_at hl 1 rfl) ?_
          refine mwg_0_25 (v := (u83.1 25)) hx hb hts hinX6 hown hK hP (hts (.fieldLink RX6 112 "FilmBenchModel" "shiftY" "I") (by decide +kernel)) dX6_findShift_88 rfl ?_
          refine gcallSi (As := [.int (u83.1 25)]) (rest := [.int ((r70 + r75) - r83)]) ⟨hx, hb, hml, hown, hts⟩ (c_X6_size l D cI cZ adr A hD (u83.1 25) u83 _ h) (va_cwS 1 hts gX6_findShift_X6_size rfl rfl rfl (by decide +kernel) ⟨Nat.le_of_ble_eq_true rfl, Nat.le_of_ble_eq_true rfl⟩) hK hP hS rfl hl.1 rfl (Nat.le_of_ble_eq_true rfl) dX6_findShift_91 ⟨Nat.le_refl _, Nat.le_refl _⟩ (fun r91 u91 H locs h hP hS => ?_)
          refine lv_isub hx hb dX6_findShift_94 ?_
          refine lv_istore (lv' := [(8, .int (((r70 + r75) - r83) - r91)), (7, .int (((u43.1 22) * x4) - (x3 * (u43.1 23)))), (0, .ref (adr 0)), (1, .int x1), (2, .int x2), (3, .int x3), (4, .int x4), (5, .int x5), (6, .int x6)]) hx hb dX6_findShift_95 hl (by decide) rfl (fun ls hl => ?_)
          refine lv_iload_n hx hb dX6_findShift_97 rfl (lv_at hl 4 rfl) ?_
          refine lv_if_eq (tgt := 116) hx hb dX6_findShift_98 (by decide) (fun hc => ?_) (fun hc => ?_)
          · have h := h.1 hc
            exact L116 _ ih x1 x5 x6 u91 _ _ _ (lv_sub hl [2, 3, 7, 8] rfl) hP hS h
          · have h := h.2 hc
            refine lv_iload hx hb dX6_findShift_101 (lv_at hl 1 rfl) ?_
            refine lv_if_lt (tgt := 116) hx hb dX6_findShift_103 (by decide) (fun hc => ?_) (fun hc => ?_)
            · have h := h.1 hc
              exact L116 _ ih x1 x5 x6 u91 _ _ _ (lv_sub hl [2, 3, 7, 8] rfl) hP hS h
            · have h := h.2 hc
              refine lv_iload hx hb dX6_findShift_106 (lv_at hl 1 rfl) ?_
              refine lv_if_ne (tgt := 141) hx hb dX6_findShift_108 (by decide) (fun hc => ?_) (fun hc => ?_)
              · have h := h.2 hc
                refine lv_iinc (v := (x6 + 1)) (lv' := [(6, .int (x6 + 1)), (8, .int (((r70 + r75) - r83) - r91)), (7, .int (((u43.1 22) * x4) - (x3 * (u43.1 23)))), (0, .ref (adr 0)), (1, .int x1), (2, .int x2), (3, .int x3), (4, .int x4), (5, .int x5)]) hx hb dX6_findShift_141 hl (k := 8) rfl (congrArg (HAdd.hAdd _) (show Int32.ofInt (1) = (1 : Int32) by decide)) (by decide) rfl (fun ls hl => ?_)
                refine lv_goto (tgt := 31) hx hb dX6_findShift_144 (by decide) ?_
                exact ih x1 x2 x3 x4 x5 (x6 + 1) u91 _ _ _ (lv_sub hl [3, 4, 5, 6, 7, 8, 0] rfl) hP hS h
              · have h := h.1 hc
                refine lv_iload hx hb dX6_findShift_111 (lv_at hl 0 rfl) ?_
                refine lv_if_ge (tgt := 141) hx hb dX6_findShift_113 (by decide) (fun hc => ?_) (fun hc => ?_)
                · have h := h.1 hc
                  refine lv_iinc (v := (x6 + 1)) (lv' := [(6, .int (x6 + 1)), (8, .int (((r70 + r75) - r83) - r91)), (7, .int (((u43.1 22) * x4) - (x3 * (u43.1 23)))), (0, .ref (adr 0)), (1, .int x1), (2, .int x2), (3, .int x3), (4, .int x4), (5, .int x5)]) hx hb dX6_findShift_141 hl (k := 8) rfl (congrArg (HAdd.hAdd _) (show Int32.ofInt (1) = (1 : Int32) by decide)) (by decide) rfl (fun ls hl => ?_)
                  refine lv_goto (tgt := 31) hx hb dX6_findShift_144 (by decide) ?_
                  exact ih x1 x2 x3 x4 x5 (x6 + 1) u91 _ _ _ (lv_sub hl [3, 4, 5, 6, 7, 8, 0] rfl) hP hS h
                · have h := h.2 hc
                  exact L116 _ ih x1 x5 x6 u91 _ _ _ (lv_sub hl [2, 3, 7, 8] rfl) hP hS h
        · have h := h.1 hc
          refine lv_goto (tgt := 141) hx hb dX6_findShift_49 (by decide) ?_
          refine lv_iinc (v := (x6 + 1)) (lv' := [(6, .int (x6 + 1)), (0, .ref (adr 0)), (1, .int x1), (2, .int x2), (3, .int x3), (4, .int x4), (5, .int x5)]) hx hb dX6_findShift_141 hl (k := 6) rfl (congrArg (HAdd.hAdd _) (show Int32.ofInt (1) = (1 : Int32) by decide)) (by decide) rfl (fun ls hl => ?_)
          refine lv_goto (tgt := 31) hx hb dX6_findShift_144 (by decide) ?_
          exact ih x1 x2 x3 x4 x5 (x6 + 1) u43 _ _ _ (lv_sub hl [1, 2, 3, 4, 5, 6, 0] rfl) hP hS h
  have L21 : ∀ (n : Nat), ∀ (x1 : Int32) (x2 : Int32) (x3 : Int32) (x4 : Int32) (x5 : Int32) (u : US) (H : Heap) (locs : List Loc) (ls : Array Slot), lv_has ls 9 [(0, .ref (adr 0)), (1, .int x1), (2, .int x2), (3, .int x3), (4, .int x4), (5, .int x5)] → va_P D vwCl (mw adr cI cZ u) H → va_S A s.heap H locs → wp_X6_findShift_21  post n x1 x2 x3 x4 x5 u → gWv p l e wsX6_findShift 3 s m [.ref (adr 0), .int p1] below meth c D cI cZ (mw adr cI cZ) A post H locs (F0 m 21 ls []) := by
    intro  n
    induction n with
    | zero => intro x1 x2 x3 x4 x5 u H locs ls hl hP hS h; exact False.elim h
    | succ n ih =>
      intro x1 x2 x3 x4 x5 u H locs ls hl hP hS h
      refine lv_iload hx hb dX6_findShift_21 (lv_at hl 5 rfl) ?_
      refine lv_iconst (v := (2 : Int32)) hx hb dX6_findShift_23 (by decide) ?_
      refine lv_icmp_gt (tgt := 153) hx hb dX6_findShift_24 (by decide) (fun hc => ?_) (fun hc => ?_)
      · have h := h.1 hc
        exact gvret hx hb hr hlocks hK hP hS h dX6_findShift_153
      · have h := h.2 hc
        refine lv_bipush (v := (-2 : Int32)) hx hb dX6_findShift_27 (by decide) ?_
        refine lv_istore (lv' := [(6, .int (-2 : Int32)), (0, .ref (adr 0)), (1, .int x1), (2, .int x2), (3, .int x3), (4, .int x4), (5, .int x5)]) hx hb dX6_findShift_29 hl (by decide) rfl (fun ls hl => ?_)
        obtain ⟨n, h⟩ := h
        exact L31 _ ih n x1 x2 x3 x4 x5 (-2 : Int32) u _ _ _ (lv_sub hl [1, 2, 3, 4, 5, 6, 0] rfl) hP hS h
  have hl := lv_entry ([.ref (adr 0), .int p1]) (n := 9) (Nat.le_of_ble_eq_true rfl)
  rw [lg_entry_eq]
  generalize (lg_sl ([.ref (adr 0), .int p1]) ++ List.replicate (9 - (lg_sl ([.ref (adr 0), .int p1])).length) Slot.unset).toArray = ls at hl ⊢
  replace hl : lv_has ls 9 [(0, .ref (adr 0)), (1, .int p1)] := hl
  refine lv_aload_n hx hb dX6_findShift_0 rfl (lv_at hl 0 rfl) ?_
  refine lv_iconst (v := (0 : Int32)) hx hb dX6_findShift_1 (by decide) ?_
  refine mwp_0_24 (v := (0 : Int32)) hx hb hts hinX6 hown hK hP (hD _) hS (hts (.fieldLink RX6 109 "FilmBenchModel" "shiftX" "I") (by decide +kernel)) dX6_findShift_2 (fun H locs hP hS => ?_)
  refine lv_aload_n hx hb dX6_findShift_5 rfl (lv_at hl 0 rfl) ?_
  refine lv_iconst (v := (0 : Int32)) hx hb dX6_findShift_6 (by decide) ?_
  refine mwp_0_25 (v := (0 : Int32)) hx hb hts hinX6 hown hK hP (hD _) hS (hts (.fieldLink RX6 112 "FilmBenchModel" "shiftY" "I") (by decide +kernel)) dX6_findShift_7 (fun H locs hP hS => ?_)
  refine lv_iconst (v := (0 : Int32)) hx hb dX6_findShift_10 (by decide) ?_
  refine lv_istore_n (lv' := [(2, .int (0 : Int32)), (0, .ref (adr 0)), (1, .int p1)]) hx hb dX6_findShift_11 rfl hl (by decide) rfl (fun ls hl => ?_)
  refine lv_iconst (v := (0 : Int32)) hx hb dX6_findShift_12 (by decide) ?_
  refine lv_istore_n (lv' := [(3, .int (0 : Int32)), (2, .int (0 : Int32)), (0, .ref (adr 0)), (1, .int p1)]) hx hb dX6_findShift_13 rfl hl (by decide) rfl (fun ls hl => ?_)
  refine lv_iconst (v := (1 : Int32)) hx hb dX6_findShift_14 (by decide) ?_
  refine lv_istore (lv' := [(4, .int (1 : Int32)), (3, .int (0 : Int32)), (2, .int (0 : Int32)), (0, .ref (adr 0)), (1, .int p1)]) hx hb dX6_findShift_15 hl (by decide) rfl (fun ls hl => ?_)
  refine lv_bipush (v := (-2 : Int32)) hx hb dX6_findShift_17 (by decide) ?_
  refine lv_istore (lv' := [(5, .int (-2 : Int32)), (4, .int (1 : Int32)), (3, .int (0 : Int32)), (2, .int (0 : Int32)), (0, .ref (adr 0)), (1, .int p1)]) hx hb dX6_findShift_19 hl (by decide) rfl (fun ls hl => ?_)
  obtain ⟨n, h⟩ := h
  exact L21  n p1 (0 : Int32) (0 : Int32) (1 : Int32) (-2 : Int32) (si (si u 24 (0 : Int32)) 25 (0 : Int32)) _ _ _ (lv_sub hl [4, 5, 3, 2, 1, 0] rfl) hP hS h
set_option maxRecDepth 100000 in
set_option maxHeartbeats 4000000 in
theorem c_X6_shift (l : Launch) (D : va_G) (cI cZ : ClassId) (adr : Nat → Nat) (A : Nat → Prop) (hD : ∀ u, va_D A (mw adr cI cZ u)) (p1 : Int32) (p2 : Int32) (u : US) (post : Int32 → US → Prop) (h : wp_X6_shift p1 p2 u post) : gMi l yX6_shift wsX6_shift 4 D cI cZ (mw adr cI cZ) A [.ref (adr 0), .int p1, .int p2] u post := by
  refine Met.ofW (cc := cX6_shift) (maxL := 3) (ret := (some .int)) (by decide) rfl ?_
  intro p e s m args below meth c s₁ B hml hv
  obtain ⟨rfl, hP, hK⟩ := hv
  have hx := B.exec
  have hb := B.bytes
  have hr := B.returns
  have hts := atoms_spec (ws := wsX6_shift) B.pre
  have hown : s.vm.findClass RX6 = some m.cls := findClass_of_methodNamed B.named
  have hlocks := B.notSynchronized
  have hinX6 : ∀ w ∈ wsX60, w ∈ wsX6_shift := by decide +kernel
  have hS : va_S A s.heap s.heap [] := va_S.rf
  have hl := lv_entry ([.ref (adr 0), .int p1, .int p2]) (n := 3) (Nat.le_of_ble_eq_true rfl)
  rw [lg_entry_eq]
  generalize (lg_sl ([.ref (adr 0), .int p1, .int p2]) ++ List.replicate (3 - (lg_sl ([.ref (adr 0), .int p1, .int p2])).length) Slot.unset).toArray = ls at hl ⊢
  replace hl : lv_has ls 3 [(0, .ref (adr 0)), (1, .int p1), (2, .int p2)] := hl
  refine lv_aload_n hx hb dX6_shift_0 rfl (lv_at hl 0 rfl) ?_
  refine lv_iload_n hx hb dX6_shift_1 rfl (lv_at hl 1 rfl) ?_
  refine gcallVi (As := [.int p1]) (rest := []) ⟨hx, hb, hml, hown, hts⟩ (c_X6_isFrame l D cI cZ adr A hD p1 u _ h) (cwV 1 hts gX6_shift_X6_isFrame rfl rfl rfl (by decide +kernel) ⟨Nat.le_of_ble_eq_true rfl, Nat.le_of_ble_eq_true rfl⟩) (va_recv hK hP (ci := 6) (q0 := 0) rfl rfl) hK hP hS rfl hl.1 rfl (Nat.le_of_ble_eq_true rfl) dX6_shift_2 ⟨Nat.le_refl _, Nat.le_refl _⟩ (fun r2 u2 H locs h hP hS => ?_)
  refine lv_if_eq (tgt := 21) hx hb dX6_shift_5 (by decide) (fun hc => ?_) (fun hc => ?_)
  · have h := h.1 hc
    refine lv_sipush (v := (-1000 : Int32)) hx hb dX6_shift_21 (by decide) ?_
    exact giret hx hb hr hlocks hK hP hS h dX6_shift_24
  · have h := h.2 hc
    refine lv_iload_n hx hb dX6_shift_8 rfl (lv_at hl 1 rfl) ?_
    refine lv_if_eq (tgt := 21) hx hb dX6_shift_9 (by decide) (fun hc => ?_) (fun hc => ?_)
    · have h := h.1 hc
      refine lv_sipush (v := (-1000 : Int32)) hx hb dX6_shift_21 (by decide) ?_
      exact giret hx hb hr hlocks hK hP hS h dX6_shift_24
    · have h := h.2 hc
      refine lv_iload_n hx hb dX6_shift_12 rfl (lv_at hl 2 rfl) ?_
      refine lv_iconst (v := (0 : Int32)) hx hb dX6_shift_13 (by decide) ?_
      refine lv_iconst (v := (1 : Int32)) hx hb dX6_shift_14 (by decide) ?_
      refine gcallSi (As := [.int p2, .int (0 : Int32), .int (1 : Int32)]) (rest := []) ⟨hx, hb, hml, hown, hts⟩ (c_X6_in l D cI cZ adr A hD p2 (0 : Int32) (1 : Int32) u2 _ h) (va_cwS 3 hts gX6_shift_X6_in rfl rfl rfl (by decide +kernel) ⟨Nat.le_of_ble_eq_true rfl, Nat.le_of_ble_eq_true rfl⟩) hK hP hS rfl hl.1 rfl (Nat.le_of_ble_eq_true rfl) dX6_shift_15 ⟨Nat.le_refl _, Nat.le_refl _⟩ (fun r15 u15 H locs h hP hS => ?_)
      refine lv_if_ne (tgt := 25) hx hb dX6_shift_18 (by decide) (fun hc => ?_) (fun hc => ?_)
      · have h := h.2 hc
        refine lv_aload_n hx hb dX6_shift_25 rfl (lv_at hl 0 rfl) ?_
        refine lv_iload_n hx hb dX6_shift_26 rfl (lv_at hl 1 rfl) ?_
        refine gcallVv (As := [.int p1]) (rest := []) ⟨hx, hb, hml, hown, hts⟩ (c_X6_findShift l D cI cZ adr A hD p1 u15 _ h) (cwV 1 hts gX6_shift_X6_findShift rfl rfl rfl (by decide +kernel) ⟨Nat.le_of_ble_eq_true rfl, Nat.le_of_ble_eq_true rfl⟩) (va_recv hK hP (ci := 6) (q0 := 0) rfl rfl) hK hP hS rfl hl.1 rfl (Nat.le_of_ble_eq_true rfl) dX6_shift_27 ⟨Nat.le_refl _, Nat.le_refl _⟩ (fun u27 H locs h hP hS => ?_)
        refine lv_iload_n hx hb dX6_shift_30 rfl (lv_at hl 2 rfl) ?_
        refine lv_if_ne (tgt := 41) hx hb dX6_shift_31 (by decide) (fun hc => ?_) (fun hc => ?_)
        · have h := h.2 hc
          refine lv_aload_n hx hb dX6_shift_41 rfl (lv_at hl 0 rfl) ?_
          refine mwg_0_25 (v := (u27.1 25)) hx hb hts hinX6 hown hK hP (hts (.fieldLink RX6 112 "FilmBenchModel" "shiftY" "I") (by decide +kernel)) dX6_shift_42 rfl ?_
          exact giret hx hb hr hlocks hK hP hS h dX6_shift_45
        · have h := h.1 hc
          refine lv_aload_n hx hb dX6_shift_34 rfl (lv_at hl 0 rfl) ?_
          refine mwg_0_24 (v := (u27.1 24)) hx hb hts hinX6 hown hK hP (hts (.fieldLink RX6 109 "FilmBenchModel" "shiftX" "I") (by decide +kernel)) dX6_shift_35 rfl ?_
          refine lv_goto (tgt := 45) hx hb dX6_shift_38 (by decide) ?_
          exact giret hx hb hr hlocks hK hP hS h dX6_shift_45
      · have h := h.1 hc
        refine lv_sipush (v := (-1000 : Int32)) hx hb dX6_shift_21 (by decide) ?_
        exact giret hx hb hr hlocks hK hP hS h dX6_shift_24
set_option maxRecDepth 100000 in
set_option maxHeartbeats 4000000 in
theorem c_X6_driftOf (l : Launch) (D : va_G) (cI cZ : ClassId) (adr : Nat → Nat) (A : Nat → Prop) (hD : ∀ u, va_D A (mw adr cI cZ u)) (p1 : Int32) (p2 : Int32) (u : US) (post : Int32 → US → Prop) (h : wp_X6_driftOf p1 p2 u post) : gMi l yX6_driftOf wsX6_driftOf 4 D cI cZ (mw adr cI cZ) A [.ref (adr 0), .int p1, .int p2] u post := by
  refine Met.ofW (cc := cX6_driftOf) (maxL := 5) (ret := (some .int)) (by decide) rfl ?_
  intro p e s m args below meth c s₁ B hml hv
  obtain ⟨rfl, hP, hK⟩ := hv
  have hx := B.exec
  have hb := B.bytes
  have hr := B.returns
  have hts := atoms_spec (ws := wsX6_driftOf) B.pre
  have hown : s.vm.findClass RX6 = some m.cls := findClass_of_methodNamed B.named
  have hlocks := B.notSynchronized
  have hinX6 : ∀ w ∈ wsX60, w ∈ wsX6_driftOf := by decide +kernel
  have hS : va_S A s.heap s.heap [] := va_S.rf
  have L5 : ∀ (n : Nat), ∀ (x1 : Int32) (x2 : Int32) (x3 : Int32) (x4 : Int32) (u : US) (H : Heap) (locs : List Loc) (ls : Array Slot), lv_has ls 5 [(0, .ref (adr 0)), (1, .int x1), (2, .int x2), (3, .int x3), (4, .int x4)] → va_P D vwCl (mw adr cI cZ u) H → va_S A s.heap H locs → wp_X6_driftOf_5  post n x1 x2 x3 x4 u → gWi p l e wsX6_driftOf 4 s m [.ref (adr 0), .int p1, .int p2] below meth c D cI cZ (mw adr cI cZ) A post H locs (F0 m 5 ls []) := by
    intro  n
    induction n with
    | zero => intro x1 x2 x3 x4 u H locs ls hl hP hS h; exact False.elim h
    | succ n ih =>
      intro x1 x2 x3 x4 u H locs ls hl hP hS h
      refine lv_iload hx hb dX6_driftOf_5 (lv_at hl 4 rfl) ?_
      refine lv_iload_n hx hb dX6_driftOf_7 rfl (lv_at hl 1 rfl) ?_
      refine lv_icmp_gt (tgt := 41) hx hb dX6_driftOf_8 (by decide) (fun hc => ?_) (fun hc => ?_)
      · have h := h.1 hc
        refine lv_iload_n hx hb dX6_driftOf_41 rfl (lv_at hl 3 rfl) ?_
        exact giret hx hb hr hlocks hK hP hS h dX6_driftOf_42
      · have h := h.2 hc
        refine lv_aload_n hx hb dX6_driftOf_11 rfl (lv_at hl 0 rfl) ?_
        refine lv_iload hx hb dX6_driftOf_12 (lv_at hl 4 rfl) ?_
        refine gcallVv (As := [.int x4]) (rest := []) ⟨hx, hb, hml, hown, hts⟩ (c_X6_findShift l D cI cZ adr A hD x4 u _ h) (cwV 1 hts gX6_driftOf_X6_findShift rfl rfl rfl (by decide +kernel) ⟨Nat.le_of_ble_eq_true rfl, Nat.le_of_ble_eq_true rfl⟩) (va_recv hK hP (ci := 6) (q0 := 0) rfl rfl) hK hP hS rfl hl.1 rfl (Nat.le_of_ble_eq_true rfl) dX6_driftOf_14 ⟨Nat.le_refl _, Nat.le_refl _⟩ (fun u14 H locs h hP hS => ?_)
        refine lv_iload_n hx hb dX6_driftOf_17 rfl (lv_at hl 3 rfl) ?_
        refine lv_iload_n hx hb dX6_driftOf_18 rfl (lv_at hl 2 rfl) ?_
        refine lv_if_ne (tgt := 29) hx hb dX6_driftOf_19 (by decide) (fun hc => ?_) (fun hc => ?_)
        · have h := h.2 hc
          refine lv_aload_n hx hb dX6_driftOf_29 rfl (lv_at hl 0 rfl) ?_
          refine mwg_0_25 (v := (u14.1 25)) hx hb hts hinX6 hown hK hP (hts (.fieldLink RX6 112 "FilmBenchModel" "shiftY" "I") (by decide +kernel)) dX6_driftOf_30 rfl ?_
          refine lv_iadd hx hb dX6_driftOf_33 ?_
          refine lv_istore_n (lv' := [(3, .int (x3 + (u14.1 25))), (0, .ref (adr 0)), (1, .int x1), (2, .int x2), (4, .int x4)]) hx hb dX6_driftOf_34 rfl hl (by decide) rfl (fun ls hl => ?_)
          refine lv_iinc (v := (x4 + 1)) (lv' := [(4, .int (x4 + 1)), (3, .int (x3 + (u14.1 25))), (0, .ref (adr 0)), (1, .int x1), (2, .int x2)]) hx hb dX6_driftOf_35 hl (k := 4) rfl (congrArg (HAdd.hAdd _) (show Int32.ofInt (1) = (1 : Int32) by decide)) (by decide) rfl (fun ls hl => ?_)
          refine lv_goto (tgt := 5) hx hb dX6_driftOf_38 (by decide) ?_
          exact ih x1 x2 (x3 + (u14.1 25)) (x4 + 1) u14 _ _ _ (lv_sub hl [2, 3, 4, 1, 0] rfl) hP hS h
        · have h := h.1 hc
          refine lv_aload_n hx hb dX6_driftOf_22 rfl (lv_at hl 0 rfl) ?_
          refine mwg_0_24 (v := (u14.1 24)) hx hb hts hinX6 hown hK hP (hts (.fieldLink RX6 109 "FilmBenchModel" "shiftX" "I") (by decide +kernel)) dX6_driftOf_23 rfl ?_
          refine lv_goto (tgt := 33) hx hb dX6_driftOf_26 (by decide) ?_
          refine lv_iadd hx hb dX6_driftOf_33 ?_
          refine lv_istore_n (lv' := [(3, .int (x3 + (u14.1 24))), (0, .ref (adr 0)), (1, .int x1), (2, .int x2), (4, .int x4)]) hx hb dX6_driftOf_34 rfl hl (by decide) rfl (fun ls hl => ?_)
          refine lv_iinc (v := (x4 + 1)) (lv' := [(4, .int (x4 + 1)), (3, .int (x3 + (u14.1 24))), (0, .ref (adr 0)), (1, .int x1), (2, .int x2)]) hx hb dX6_driftOf_35 hl (k := 4) rfl (congrArg (HAdd.hAdd _) (show Int32.ofInt (1) = (1 : Int32) by decide)) (by decide) rfl (fun ls hl => ?_)
          refine lv_goto (tgt := 5) hx hb dX6_driftOf_38 (by decide) ?_
          exact ih x1 x2 (x3 + (u14.1 24)) (x4 + 1) u14 _ _ _ (lv_sub hl [2, 3, 4, 1, 0] rfl) hP hS h
  have hl := lv_entry ([.ref (adr 0), .int p1, .int p2]) (n := 5) (Nat.le_of_ble_eq_true rfl)
  rw [lg_entry_eq]
  generalize (lg_sl ([.ref (adr 0), .int p1, .int p2]) ++ List.replicate (5 - (lg_sl ([.ref (adr 0), .int p1, .int p2])).length) Slot.unset).toArray = ls at hl ⊢
  replace hl : lv_has ls 5 [(0, .ref (adr 0)), (1, .int p1), (2, .int p2)] := hl
  refine lv_iconst (v := (0 : Int32)) hx hb dX6_driftOf_0 (by decide) ?_
  refine lv_istore_n (lv' := [(3, .int (0 : Int32)), (0, .ref (adr 0)), (1, .int p1), (2, .int p2)]) hx hb dX6_driftOf_1 rfl hl (by decide) rfl (fun ls hl => ?_)
  refine lv_iconst (v := (1 : Int32)) hx hb dX6_driftOf_2 (by decide) ?_
  refine lv_istore (lv' := [(4, .int (1 : Int32)), (3, .int (0 : Int32)), (0, .ref (adr 0)), (1, .int p1), (2, .int p2)]) hx hb dX6_driftOf_3 hl (by decide) rfl (fun ls hl => ?_)
  obtain ⟨n, h⟩ := h
  exact L5  n p1 p2 (0 : Int32) (1 : Int32) u _ _ _ (lv_sub hl [2, 3, 4, 1, 0] rfl) hP hS h
