set_option maxRecDepth 100000 in
set_option maxHeartbeats 4000000 in
theorem c_X5_bends (l : Launch) (D : va_G) (cI cZ : ClassId) (adr : Nat → Nat) (A : Nat → Prop) (hD : ∀ u, va_D A (fw adr cI cZ u)) (p1 : Int32) (p2 : Int32) (u : US) (post : Int32 → US → Prop) (h : wp_X5_bends p1 p2 u post) : gMi l yX5_bends wsX5_bends 6 D cI cZ (fw adr cI cZ) A [.ref (adr 0), .int p1, .int p2] u post := by
  refine Met.ofW (cc := cX5_bends) (maxL := 3) (ret := (some .int)) (by decide) rfl ?_
  intro p e s m args below meth c s₁ B hml hv
  obtain ⟨rfl, hP, hK⟩ := hv
  have hx := B.exec
  have hb := B.bytes
  have hr := B.returns
  have hts := atoms_spec (ws := wsX5_bends) B.pre
  have hown : s.vm.findClass RX5 = some m.cls := findClass_of_methodNamed B.named
  have hlocks := B.notSynchronized
  have hinX5 : ∀ w ∈ wsX50, w ∈ wsX5_bends := by decide +kernel
  have hS : va_S A s.heap s.heap [] := va_S.rf
  have hl := lv_entry ([.ref (adr 0), .int p1, .int p2]) (n := 3) (Nat.le_of_ble_eq_true rfl)
  rw [lg_entry_eq]
  generalize (lg_sl ([.ref (adr 0), .int p1, .int p2]) ++ List.replicate (3 - (lg_sl ([.ref (adr 0), .int p1, .int p2])).length) Slot.unset).toArray = ls at hl ⊢
  replace hl : lv_has ls 3 [(0, .ref (adr 0)), (1, .int p1), (2, .int p2)] := hl
  refine lv_iload_n hx hb dX5_bends_0 rfl (lv_at hl 1 rfl) ?_
  refine lv_iconst (v := (0 : Int32)) hx hb dX5_bends_1 (by decide) ?_
  refine lv_iconst (v := (1 : Int32)) hx hb dX5_bends_2 (by decide) ?_
  refine gcallSi (As := [.int p1, .int (0 : Int32), .int (1 : Int32)]) (rest := []) ⟨hx, hb, hml, hown, hts⟩ (c_X5_isWithin l D cI cZ adr A hD p1 (0 : Int32) (1 : Int32) u _ h) (va_cwS 3 hts gX5_bends_X5_isWithin rfl rfl rfl (by decide +kernel) ⟨Nat.le_of_ble_eq_true rfl, Nat.le_of_ble_eq_true rfl⟩) hK hP hS rfl hl.1 rfl (Nat.le_of_ble_eq_true rfl) dX5_bends_3 ⟨Nat.le_refl _, Nat.le_refl _⟩ (fun r3 u3 H locs h hP hS => ?_)
  refine lv_if_eq (tgt := 18) hx hb dX5_bends_6 (by decide) (fun hc => ?_) (fun hc => ?_)
  · have h := h.1 hc
    refine lv_iconst (v := (-1 : Int32)) hx hb dX5_bends_18 (by decide) ?_
    exact giret hx hb hr hlocks hK hP hS h dX5_bends_19
  · have h := h.2 hc
    refine lv_iload_n hx hb dX5_bends_9 rfl (lv_at hl 2 rfl) ?_
    refine lv_iconst (v := (0 : Int32)) hx hb dX5_bends_10 (by decide) ?_
    refine lv_iconst (v := (1 : Int32)) hx hb dX5_bends_11 (by decide) ?_
    refine gcallSi (As := [.int p2, .int (0 : Int32), .int (1 : Int32)]) (rest := []) ⟨hx, hb, hml, hown, hts⟩ (c_X5_isWithin l D cI cZ adr A hD p2 (0 : Int32) (1 : Int32) u3 _ h) (va_cwS 3 hts gX5_bends_X5_isWithin rfl rfl rfl (by decide +kernel) ⟨Nat.le_of_ble_eq_true rfl, Nat.le_of_ble_eq_true rfl⟩) hK hP hS rfl hl.1 rfl (Nat.le_of_ble_eq_true rfl) dX5_bends_12 ⟨Nat.le_refl _, Nat.le_refl _⟩ (fun r12 u12 H locs h hP hS => ?_)
    refine lv_if_ne (tgt := 20) hx hb dX5_bends_15 (by decide) (fun hc => ?_) (fun hc => ?_)
    · have h := h.2 hc
      refine lv_aload_n hx hb dX5_bends_20 rfl (lv_at hl 0 rfl) ?_
      refine lv_iload_n hx hb dX5_bends_21 rfl (lv_at hl 1 rfl) ?_
      refine gcallVv (As := [.int p1]) (rest := []) ⟨hx, hb, hml, hown, hts⟩ (c_X5_findPath l D cI cZ adr A hD p1 u12 _ h) (cwV 1 hts gX5_bends_X5_findPath rfl rfl rfl (by decide +kernel) ⟨Nat.le_of_ble_eq_true rfl, Nat.le_of_ble_eq_true rfl⟩) (va_recv hK hP (ci := 5) (q0 := 0) rfl rfl) hK hP hS rfl hl.1 rfl (Nat.le_of_ble_eq_true rfl) dX5_bends_22 ⟨Nat.le_refl _, Nat.le_refl _⟩ (fun u22 H locs h hP hS => ?_)
      refine lv_iload_n hx hb dX5_bends_25 rfl (lv_at hl 2 rfl) ?_
      refine lv_if_ne (tgt := 39) hx hb dX5_bends_26 (by decide) (fun hc => ?_) (fun hc => ?_)
      · have h := h.2 hc
        refine lv_aload_n hx hb dX5_bends_39 rfl (lv_at hl 0 rfl) ?_
        refine fwg_0_4 hx hb hts hinX5 hown hK hP (hts (.fieldLink RX5 48 "FilmBench" "steady" "LFilmBench$Steady;") (by decide +kernel)) dX5_bends_40 ?_
        refine gcallVi (As := []) (rest := []) ⟨hx, hb, hml, hown, hts⟩ (c_X4_sumOfStrays l D cI cZ adr A hD u22 _ h) (cwV 0 hts gX5_bends_X4_sumOfStrays rfl rfl rfl (by decide +kernel) ⟨Nat.le_of_ble_eq_true rfl, Nat.le_of_ble_eq_true rfl⟩) (va_recv hK hP (ci := 4) (q0 := 11) rfl rfl) hK hP hS rfl hl.1 rfl (Nat.le_of_ble_eq_true rfl) dX5_bends_43 ⟨Nat.le_refl _, Nat.le_refl _⟩ (fun r43 u43 H locs h hP hS => ?_)
        exact giret hx hb hr hlocks hK hP hS h dX5_bends_46
      · have h := h.1 hc
        refine lv_aload_n hx hb dX5_bends_29 rfl (lv_at hl 0 rfl) ?_
        refine fwg_0_4 hx hb hts hinX5 hown hK hP (hts (.fieldLink RX5 48 "FilmBench" "steady" "LFilmBench$Steady;") (by decide +kernel)) dX5_bends_30 ?_
        refine gcallVi (As := []) (rest := []) ⟨hx, hb, hml, hown, hts⟩ (c_X4_sumOfBends l D cI cZ adr A hD u22 _ h) (cwV 0 hts gX5_bends_X4_sumOfBends rfl rfl rfl (by decide +kernel) ⟨Nat.le_of_ble_eq_true rfl, Nat.le_of_ble_eq_true rfl⟩) (va_recv hK hP (ci := 4) (q0 := 11) rfl rfl) hK hP hS rfl hl.1 rfl (Nat.le_of_ble_eq_true rfl) dX5_bends_33 ⟨Nat.le_refl _, Nat.le_refl _⟩ (fun r33 u33 H locs h hP hS => ?_)
        refine lv_goto (tgt := 46) hx hb dX5_bends_36 (by decide) ?_
        exact giret hx hb hr hlocks hK hP hS h dX5_bends_46
    · have h := h.1 hc
      refine lv_iconst (v := (-1 : Int32)) hx hb dX5_bends_18 (by decide) ?_
      exact giret hx hb hr hlocks hK hP hS h dX5_bends_19
set_option maxRecDepth 100000 in
set_option maxHeartbeats 4000000 in
theorem c_X2_isDust (l : Launch) (D : va_G) (cI cZ : ClassId) (adr : Nat → Nat) (A : Nat → Prop) (hD : ∀ u, va_D A (fw adr cI cZ u)) (p1 : Int32) (p2 : Int32) (p3 : Int32) (u : US) (post : Int32 → US → Prop) (h : wp_X2_isDust p1 p2 p3 u post) : gMi l yX2_isDust wsX2_isDust 2 D cI cZ (fw adr cI cZ) A [.ref (adr 15), .int p1, .int p2, .int p3] u post := by
  refine Met.ofW (cc := cX2_isDust) (maxL := 6) (ret := (some .boolean)) (by decide) rfl ?_
  intro p e s m args below meth c s₁ B hml hv
  obtain ⟨rfl, hP, hK⟩ := hv
  have hx := B.exec
  have hb := B.bytes
  have hr := B.returns
  have hts := atoms_spec (ws := wsX2_isDust) B.pre
  have hown : s.vm.findClass RX2 = some m.cls := findClass_of_methodNamed B.named
  have hlocks := B.notSynchronized
  have hinX2 : ∀ w ∈ wsX20, w ∈ wsX2_isDust := by decide +kernel
  have hS : va_S A s.heap s.heap [] := va_S.rf
  have hl := lv_entry ([.ref (adr 15), .int p1, .int p2, .int p3]) (n := 6) (Nat.le_of_ble_eq_true rfl)
  rw [lg_entry_eq]
  generalize (lg_sl ([.ref (adr 15), .int p1, .int p2, .int p3]) ++ List.replicate (6 - (lg_sl ([.ref (adr 15), .int p1, .int p2, .int p3])).length) Slot.unset).toArray = ls at hl ⊢
  replace hl : lv_has ls 6 [(0, .ref (adr 15)), (1, .int p1), (2, .int p2), (3, .int p3)] := hl
  refine lv_aload_n hx hb dX2_isDust_0 rfl (lv_at hl 0 rfl) ?_
  refine fwg_15_0 hx hb hts hinX2 hown hK hP (hts (.fieldLink RX2 9 "FilmBench$Sheet" "film" "LFilmBench$Reel;") (by decide +kernel)) dX2_isDust_1 ?_
  refine lv_iload_n hx hb dX2_isDust_4 rfl (lv_at hl 2 rfl) ?_
  refine lv_iconst (v := (1 : Int32)) hx hb dX2_isDust_5 (by decide) ?_
  refine lv_isub hx hb dX2_isDust_6 ?_
  refine lv_iload_n hx hb dX2_isDust_7 rfl (lv_at hl 3 rfl) ?_
  refine gcallVi (As := [.int (p2 - (1 : Int32)), .int p3]) (rest := []) ⟨hx, hb, hml, hown, hts⟩ (c_X1_greyAt l D cI cZ adr A hD (p2 - (1 : Int32)) p3 u _ h) (cwV 2 hts gX2_isDust_X1_greyAt rfl rfl rfl (by decide +kernel) ⟨Nat.le_of_ble_eq_true rfl, Nat.le_of_ble_eq_true rfl⟩) (va_recv hK hP (ci := 1) (q0 := 1) rfl rfl) hK hP hS rfl hl.1 rfl (Nat.le_of_ble_eq_true rfl) dX2_isDust_8 ⟨Nat.le_refl _, Nat.le_refl _⟩ (fun r8 u8 H locs h hP hS => ?_)
  refine lv_istore (lv' := [(4, .int r8), (0, .ref (adr 15)), (1, .int p1), (2, .int p2), (3, .int p3)]) hx hb dX2_isDust_11 hl (by decide) rfl (fun ls hl => ?_)
  refine lv_aload_n hx hb dX2_isDust_13 rfl (lv_at hl 1 rfl) ?_
  refine fwg_15_0 hx hb hts hinX2 hown hK hP (hts (.fieldLink RX2 9 "FilmBench$Sheet" "film" "LFilmBench$Reel;") (by decide +kernel)) dX2_isDust_14 ?_
  refine lv_iload_n hx hb dX2_isDust_17 rfl (lv_at hl 3 rfl) ?_
  refine lv_iconst (v := (1 : Int32)) hx hb dX2_isDust_18 (by decide) ?_
  refine lv_iadd hx hb dX2_isDust_19 ?_
  refine lv_iload_n hx hb dX2_isDust_20 rfl (lv_at hl 4 rfl) ?_
  refine gcallVi (As := [.int (p2 + (1 : Int32)), .int p3]) (rest := []) ⟨hx, hb, hml, hown, hts⟩ (c_X1_greyAt l D cI cZ adr A hD (p2 + (1 : Int32)) p3 u8 _ h) (cwV 2 hts gX2_isDust_X1_greyAt rfl rfl rfl (by decide +kernel) ⟨Nat.le_of_ble_eq_true rfl, Nat.le_of_ble_eq_true rfl⟩) (va_recv hK hP (ci := 1) (q0 := 1) rfl rfl) hK hP hS rfl hl.1 rfl (Nat.le_of_ble_eq_true rfl) dX2_isDust_21 ⟨Nat.le_refl _, Nat.le_refl _⟩ (fun r21 u21 H locs h hP hS => ?_)
  refine lv_istore (lv' := [(5, .int r21), (4, .int r8), (0, .ref (adr 15)), (1, .int p1), (2, .int p2), (3, .int p3)]) hx hb dX2_isDust_24 hl (by decide) rfl (fun ls hl => ?_)
  refine lv_iload_n hx hb dX2_isDust_26 rfl (lv_at hl 3 rfl) ?_
  refine lv_iconst (v := (-1 : Int32)) hx hb dX2_isDust_27 (by decide) ?_
  refine lv_icmp_eq (tgt := 43) hx hb dX2_isDust_28 (by decide) (fun hc => ?_) (fun hc => ?_)
  · have h := h.1 hc
    refine lv_iconst (v := (0 : Int32)) hx hb dX2_isDust_43 (by decide) ?_
    exact gzret hx hb hr hlocks hK hP hS rfl h dX2_isDust_44
  · have h := h.2 hc
    refine lv_iload hx hb dX2_isDust_31 (lv_at hl 1 rfl) ?_
    refine lv_iconst (v := (-1 : Int32)) hx hb dX2_isDust_33 (by decide) ?_
    refine lv_icmp_eq (tgt := 43) hx hb dX2_isDust_34 (by decide) (fun hc => ?_) (fun hc => ?_)
    · have h := h.1 hc
      refine lv_iconst (v := (0 : Int32)) hx hb dX2_isDust_43 (by decide) ?_
      exact gzret hx hb hr hlocks hK hP hS rfl h dX2_isDust_44
    · have h := h.2 hc
      refine lv_iload hx hb dX2_isDust_37 (lv_at hl 0 rfl) ?_
      refine lv_iconst (v := (-1 : Int32)) hx hb dX2_isDust_39 (by decide) ?_
      refine lv_icmp_ne (tgt := 45) hx hb dX2_isDust_40 (by decide) (fun hc => ?_) (fun hc => ?_)
      · have h := h.2 hc
        refine lv_iload hx hb dX2_isDust_45 (lv_at hl 1 rfl) ?_
        refine lv_iload hx hb dX2_isDust_47 (lv_at hl 0 rfl) ?_
        refine lv_isub hx hb dX2_isDust_49 ?_
        refine gabs hx hb (hml.trans hl.1.symm) (own := RX2) hown hts (by decide +kernel) (Nat.le_of_ble_eq_true rfl) (Nat.le_of_ble_eq_true rfl) (Nat.zero_le _) (Nat.zero_le _) dX2_isDust_50 ?_
        refine lv_aload_n hx hb dX2_isDust_53 rfl (lv_at hl 2 rfl) ?_
        refine fwg_15_2 hx hb hts hinX2 hown hK hP (hts (.fieldLink RX2 19 "FilmBench$Sheet" "rules" "[I") (by decide +kernel)) dX2_isDust_54 ?_
        refine lv_iconst (v := (1 : Int32)) hx hb dX2_isDust_57 (by decide) ?_
        refine fwl_9 (v := ((u21.2 9) (1 : Int32).toNatClampNeg)) hx hb hK hP (by unfold vp_in; decide) dX2_isDust_58 rfl ?_
        refine lv_icmp_gt (tgt := 98) hx hb dX2_isDust_59 (by decide) (fun hc => ?_) (fun hc => ?_)
        · have h := h.1 hc
          refine lv_iconst (v := (0 : Int32)) hx hb dX2_isDust_98 (by decide) ?_
          exact gzret hx hb hr hlocks hK hP hS rfl h dX2_isDust_99
        · have h := h.2 hc
          refine lv_iload_n hx hb dX2_isDust_62 rfl (lv_at hl 3 rfl) ?_
          refine lv_iload hx hb dX2_isDust_63 (lv_at hl 1 rfl) ?_
          refine lv_isub hx hb dX2_isDust_65 ?_
          refine gabs hx hb (hml.trans hl.1.symm) (own := RX2) hown hts (by decide +kernel) (Nat.le_of_ble_eq_true rfl) (Nat.le_of_ble_eq_true rfl) (Nat.zero_le _) (Nat.zero_le _) dX2_isDust_66 ?_
          refine lv_aload_n hx hb dX2_isDust_69 rfl (lv_at hl 2 rfl) ?_
          refine fwg_15_2 hx hb hts hinX2 hown hK hP (hts (.fieldLink RX2 19 "FilmBench$Sheet" "rules" "[I") (by decide +kernel)) dX2_isDust_70 ?_
          refine lv_iconst (v := (2 : Int32)) hx hb dX2_isDust_73 (by decide) ?_
          refine fwl_9 (v := ((u21.2 9) (2 : Int32).toNatClampNeg)) hx hb hK hP (by unfold vp_in; decide) dX2_isDust_74 rfl ?_
          refine lv_icmp_le (tgt := 98) hx hb dX2_isDust_75 (by decide) (fun hc => ?_) (fun hc => ?_)
          · have h := h.1 hc
            refine lv_iconst (v := (0 : Int32)) hx hb dX2_isDust_98 (by decide) ?_
            exact gzret hx hb hr hlocks hK hP hS rfl h dX2_isDust_99
          · have h := h.2 hc
            refine lv_iload_n hx hb dX2_isDust_78 rfl (lv_at hl 3 rfl) ?_
            refine lv_iload hx hb dX2_isDust_79 (lv_at hl 0 rfl) ?_
            refine lv_isub hx hb dX2_isDust_81 ?_
            refine gabs hx hb (hml.trans hl.1.symm) (own := RX2) hown hts (by decide +kernel) (Nat.le_of_ble_eq_true rfl) (Nat.le_of_ble_eq_true rfl) (Nat.zero_le _) (Nat.zero_le _) dX2_isDust_82 ?_
            refine lv_aload_n hx hb dX2_isDust_85 rfl (lv_at hl 2 rfl) ?_
            refine fwg_15_2 hx hb hts hinX2 hown hK hP (hts (.fieldLink RX2 19 "FilmBench$Sheet" "rules" "[I") (by decide +kernel)) dX2_isDust_86 ?_
            refine lv_iconst (v := (2 : Int32)) hx hb dX2_isDust_89 (by decide) ?_
            refine fwl_9 (v := ((u21.2 9) (2 : Int32).toNatClampNeg)) hx hb hK hP (by unfold vp_in; decide) dX2_isDust_90 rfl ?_
            refine lv_icmp_le (tgt := 98) hx hb dX2_isDust_91 (by decide) (fun hc => ?_) (fun hc => ?_)
            · have h := h.1 hc
              refine lv_iconst (v := (0 : Int32)) hx hb dX2_isDust_98 (by decide) ?_
              exact gzret hx hb hr hlocks hK hP hS rfl h dX2_isDust_99
            · have h := h.2 hc
              refine lv_iconst (v := (1 : Int32)) hx hb dX2_isDust_94 (by decide) ?_
              refine lv_goto (tgt := 99) hx hb dX2_isDust_95 (by decide) ?_
              exact gzret hx hb hr hlocks hK hP hS rfl h dX2_isDust_99
      · have h := h.1 hc
        refine lv_iconst (v := (0 : Int32)) hx hb dX2_isDust_43 (by decide) ?_
        exact gzret hx hb hr hlocks hK hP hS rfl h dX2_isDust_44
set_option maxRecDepth 100000 in
set_option maxHeartbeats 4000000 in
theorem c_X5_dust (l : Launch) (D : va_G) (cI cZ : ClassId) (adr : Nat → Nat) (A : Nat → Prop) (hD : ∀ u, va_D A (fw adr cI cZ u)) (p1 : Int32) (u : US) (post : Int32 → US → Prop) (h : wp_X5_dust p1 u post) : gMi l yX5_dust wsX5_dust 3 D cI cZ (fw adr cI cZ) A [.ref (adr 0), .int p1] u post := by
  refine Met.ofW (cc := cX5_dust) (maxL := 4) (ret := (some .int)) (by decide) rfl ?_
  intro p e s m args below meth c s₁ B hml hv
  obtain ⟨rfl, hP, hK⟩ := hv
  have hx := B.exec
  have hb := B.bytes
  have hr := B.returns
  have hts := atoms_spec (ws := wsX5_dust) B.pre
  have hown : s.vm.findClass RX5 = some m.cls := findClass_of_methodNamed B.named
  have hlocks := B.notSynchronized
  have hinX1 : ∀ w ∈ wsX10, w ∈ wsX5_dust := by decide +kernel
  have hinX5 : ∀ w ∈ wsX50, w ∈ wsX5_dust := by decide +kernel
  have hS : va_S A s.heap s.heap [] := va_S.rf
  have L17 : ∀ (n : Nat), ∀ (x1 : Int32) (x2 : Int32) (x3 : Int32) (u : US) (H : Heap) (locs : List Loc) (ls : Array Slot), lv_has ls 4 [(0, .ref (adr 0)), (1, .int x1), (2, .int x2), (3, .int x3)] → va_P D vwCl (fw adr cI cZ u) H → va_S A s.heap H locs → wp_X5_dust_17  post n x1 x2 x3 u → gWi p l e wsX5_dust 3 s m [.ref (adr 0), .int p1] below meth c D cI cZ (fw adr cI cZ) A post H locs (F0 m 17 ls []) := by
    intro  n
    induction n with
    | zero => intro x1 x2 x3 u H locs ls hl hP hS h; exact False.elim h
    | succ n ih =>
      intro x1 x2 x3 u H locs ls hl hP hS h
      refine lv_iload_n hx hb dX5_dust_17 rfl (lv_at hl 3 rfl) ?_
      refine lv_aload_n hx hb dX5_dust_18 rfl (lv_at hl 0 rfl) ?_
      refine fwg_0_0 hx hb hts hinX5 hown hK hP (hts (.fieldLink RX5 12 "FilmBench" "film" "LFilmBench$Reel;") (by decide +kernel)) dX5_dust_19 ?_
      refine fwg_1_2 (v := (u.1 3)) hx hb hts hinX1 hown hK hP (hts (.fieldLink RX5 83 "FilmBench$Reel" "squares" "I") (by decide +kernel)) dX5_dust_22 rfl ?_
      refine lv_icmp_ge (tgt := 58) hx hb dX5_dust_25 (by decide) (fun hc => ?_) (fun hc => ?_)
      · have h := h.1 hc
        refine lv_iload_n hx hb dX5_dust_58 rfl (lv_at hl 2 rfl) ?_
        exact giret hx hb hr hlocks hK hP hS h dX5_dust_59
      · have h := h.2 hc
        refine lv_aload_n hx hb dX5_dust_28 rfl (lv_at hl 0 rfl) ?_
        refine fwg_0_5 hx hb hts hinX5 hown hK hP (hts (.fieldLink RX5 57 "FilmBench" "sheet" "LFilmBench$Sheet;") (by decide +kernel)) dX5_dust_29 ?_
        refine lv_aload_n hx hb dX5_dust_32 rfl (lv_at hl 0 rfl) ?_
        refine fwg_0_0 hx hb hts hinX5 hown hK hP (hts (.fieldLink RX5 12 "FilmBench" "film" "LFilmBench$Reel;") (by decide +kernel)) dX5_dust_33 ?_
        refine lv_iload_n hx hb dX5_dust_36 rfl (lv_at hl 1 rfl) ?_
        refine lv_iload_n hx hb dX5_dust_37 rfl (lv_at hl 3 rfl) ?_
        refine gcallVi (As := [.int x1, .int x3]) (rest := [.ref (adr 15)]) ⟨hx, hb, hml, hown, hts⟩ (c_X1_greyAt l D cI cZ adr A hD x1 x3 u _ h) (cwV 2 hts gX5_dust_X1_greyAt rfl rfl rfl (by decide +kernel) ⟨Nat.le_of_ble_eq_true rfl, Nat.le_of_ble_eq_true rfl⟩) (va_recv hK hP (ci := 1) (q0 := 1) rfl rfl) hK hP hS rfl hl.1 rfl (Nat.le_of_ble_eq_true rfl) dX5_dust_38 ⟨Nat.le_refl _, Nat.le_refl _⟩ (fun r38 u38 H locs h hP hS => ?_)
        refine lv_iload_n hx hb dX5_dust_41 rfl (lv_at hl 1 rfl) ?_
        refine lv_iload_n hx hb dX5_dust_42 rfl (lv_at hl 3 rfl) ?_
        refine gcallVi (As := [.int r38, .int x1, .int x3]) (rest := []) ⟨hx, hb, hml, hown, hts⟩ (c_X2_isDust l D cI cZ adr A hD r38 x1 x3 u38 _ h) (cwV 3 hts gX5_dust_X2_isDust rfl rfl rfl (by decide +kernel) ⟨Nat.le_of_ble_eq_true rfl, Nat.le_of_ble_eq_true rfl⟩) (va_recv hK hP (ci := 2) (q0 := 15) rfl rfl) hK hP hS rfl hl.1 rfl (Nat.le_of_ble_eq_true rfl) dX5_dust_43 ⟨Nat.le_refl _, Nat.le_refl _⟩ (fun r43 u43 H locs h hP hS => ?_)
        refine lv_if_eq (tgt := 52) hx hb dX5_dust_46 (by decide) (fun hc => ?_) (fun hc => ?_)
        · have h := h.1 hc
          refine lv_iinc (v := (x3 + 1)) (lv' := [(3, .int (x3 + 1)), (0, .ref (adr 0)), (1, .int x1), (2, .int x2)]) hx hb dX5_dust_52 hl (k := 3) rfl (congrArg (HAdd.hAdd _) (show Int32.ofInt (1) = (1 : Int32) by decide)) (by decide) rfl (fun ls hl => ?_)
          refine lv_goto (tgt := 17) hx hb dX5_dust_55 (by decide) ?_
          exact ih x1 x2 (x3 + 1) u43 _ _ _ (lv_sub hl [1, 2, 3, 0] rfl) hP hS h
        · have h := h.2 hc
          refine lv_iinc (v := (x2 + 1)) (lv' := [(2, .int (x2 + 1)), (0, .ref (adr 0)), (1, .int x1), (3, .int x3)]) hx hb dX5_dust_49 hl (k := 2) rfl (congrArg (HAdd.hAdd _) (show Int32.ofInt (1) = (1 : Int32) by decide)) (by decide) rfl (fun ls hl => ?_)
          refine lv_iinc (v := (x3 + 1)) (lv' := [(3, .int (x3 + 1)), (2, .int (x2 + 1)), (0, .ref (adr 0)), (1, .int x1)]) hx hb dX5_dust_52 hl (k := 3) rfl (congrArg (HAdd.hAdd _) (show Int32.ofInt (1) = (1 : Int32) by decide)) (by decide) rfl (fun ls hl => ?_)
          refine lv_goto (tgt := 17) hx hb dX5_dust_55 (by decide) ?_
          exact ih x1 (x2 + 1) (x3 + 1) u43 _ _ _ (lv_sub hl [2, 3, 1, 0] rfl) hP hS h
  have hl := lv_entry ([.ref (adr 0), .int p1]) (n := 4) (Nat.le_of_ble_eq_true rfl)
  rw [lg_entry_eq]
  generalize (lg_sl ([.ref (adr 0), .int p1]) ++ List.replicate (4 - (lg_sl ([.ref (adr 0), .int p1])).length) Slot.unset).toArray = ls at hl ⊢
  replace hl : lv_has ls 4 [(0, .ref (adr 0)), (1, .int p1)] := hl
  refine lv_aload_n hx hb dX5_dust_0 rfl (lv_at hl 0 rfl) ?_
  refine fwg_0_0 hx hb hts hinX5 hown hK hP (hts (.fieldLink RX5 12 "FilmBench" "film" "LFilmBench$Reel;") (by decide +kernel)) dX5_dust_1 ?_
  refine lv_iload_n hx hb dX5_dust_4 rfl (lv_at hl 1 rfl) ?_
  refine gcallVi (As := [.int p1]) (rest := []) ⟨hx, hb, hml, hown, hts⟩ (c_X1_hasFrame l D cI cZ adr A hD p1 u _ h) (cwV 1 hts gX5_dust_X1_hasFrame rfl rfl rfl (by decide +kernel) ⟨Nat.le_of_ble_eq_true rfl, Nat.le_of_ble_eq_true rfl⟩) (va_recv hK hP (ci := 1) (q0 := 1) rfl rfl) hK hP hS rfl hl.1 rfl (Nat.le_of_ble_eq_true rfl) dX5_dust_5 ⟨Nat.le_refl _, Nat.le_refl _⟩ (fun r5 u5 H locs h hP hS => ?_)
  refine lv_if_ne (tgt := 13) hx hb dX5_dust_8 (by decide) (fun hc => ?_) (fun hc => ?_)
  · have h := h.2 hc
    refine lv_iconst (v := (0 : Int32)) hx hb dX5_dust_13 (by decide) ?_
    refine lv_istore_n (lv' := [(2, .int (0 : Int32)), (0, .ref (adr 0)), (1, .int p1)]) hx hb dX5_dust_14 rfl hl (by decide) rfl (fun ls hl => ?_)
    refine lv_iconst (v := (0 : Int32)) hx hb dX5_dust_15 (by decide) ?_
    refine lv_istore_n (lv' := [(3, .int (0 : Int32)), (2, .int (0 : Int32)), (0, .ref (adr 0)), (1, .int p1)]) hx hb dX5_dust_16 rfl hl (by decide) rfl (fun ls hl => ?_)
    obtain ⟨n, h⟩ := h
    exact L17  n p1 (0 : Int32) (0 : Int32) u5 _ _ _ (lv_sub hl [2, 3, 1, 0] rfl) hP hS h
  · have h := h.1 hc
    refine lv_iconst (v := (-1 : Int32)) hx hb dX5_dust_11 (by decide) ?_
    exact giret hx hb hr hlocks hK hP hS h dX5_dust_12
set_option maxRecDepth 100000 in
set_option maxHeartbeats 4000000 in
theorem c_X0_add (l : Launch) (D : va_G) (cI cZ : ClassId) (adr : Nat → Nat) (A : Nat → Prop) (hD : ∀ u, va_D A (fw adr cI cZ u)) (p1 : Int32) (p2 : Int32) (p3 : Int32) (p4 : Int32) (u : US) (post : Int32 → US → Prop) (h : wp_X0_add p1 p2 p3 p4 u post) : gMi l yX0_add wsX0_add 0 D cI cZ (fw adr cI cZ) A [.ref (adr 3), .int p1, .int p2, .int p3, .int p4] u post := by
  refine Met.ofW (cc := cX0_add) (maxL := 6) (ret := (some .int)) (by decide) rfl ?_
  intro p e s m args below meth c s₁ B hml hv
  obtain ⟨rfl, hP, hK⟩ := hv
  have hx := B.exec
  have hb := B.bytes
  have hr := B.returns
  have hts := atoms_spec (ws := wsX0_add) B.pre
  have hown : s.vm.findClass RX0 = some m.cls := findClass_of_methodNamed B.named
  have hlocks := B.notSynchronized
  have hinX0 : ∀ w ∈ wsX00, w ∈ wsX0_add := by decide +kernel
  have hS : va_S A s.heap s.heap [] := va_S.rf
  have hl := lv_entry ([.ref (adr 3), .int p1, .int p2, .int p3, .int p4]) (n := 6) (Nat.le_of_ble_eq_true rfl)
  rw [lg_entry_eq]
  generalize (lg_sl ([.ref (adr 3), .int p1, .int p2, .int p3, .int p4]) ++ List.replicate (6 - (lg_sl ([.ref (adr 3), .int p1, .int p2, .int p3, .int p4])).length) Slot.unset).toArray = ls at hl ⊢
  replace hl : lv_has ls 6 [(0, .ref (adr 3)), (1, .int p1), (2, .int p2), (3, .int p3), (4, .int p4)] := hl
  refine lv_aload_n hx hb dX0_add_0 rfl (lv_at hl 0 rfl) ?_
  refine fwg_3_0 (v := (u.1 5)) hx hb hts hinX0 hown hK hP (hts (.fieldLink RX0 9 "FilmBench$Layers" "count" "I") (by decide +kernel)) dX0_add_1 rfl ?_
  refine lv_istore (lv' := [(5, .int (u.1 5)), (0, .ref (adr 3)), (1, .int p1), (2, .int p2), (3, .int p3), (4, .int p4)]) hx hb dX0_add_4 hl (by decide) rfl (fun ls hl => ?_)
  refine lv_aload_n hx hb dX0_add_6 rfl (lv_at hl 1 rfl) ?_
  refine lv_dup hx hb dX0_add_7 rfl ?_
  refine fwg_3_0 (v := (u.1 5)) hx hb hts hinX0 hown hK hP (hts (.fieldLink RX0 9 "FilmBench$Layers" "count" "I") (by decide +kernel)) dX0_add_8 rfl ?_
  refine lv_iconst (v := (1 : Int32)) hx hb dX0_add_11 (by decide) ?_
  refine lv_iadd hx hb dX0_add_12 ?_
  refine fwp_3_0 (v := ((u.1 5) + (1 : Int32))) hx hb hts hinX0 hown hK hP (hD _) hS (hts (.fieldLink RX0 9 "FilmBench$Layers" "count" "I") (by decide +kernel)) dX0_add_13 (fun H locs hP hS => ?_)
  refine lv_aload_n hx hb dX0_add_16 rfl (lv_at hl 1 rfl) ?_
  refine fwg_3_1 hx hb hts hinX0 hown hK hP (hts (.fieldLink RX0 15 "FilmBench$Layers" "kinds" "[I") (by decide +kernel)) dX0_add_17 ?_
  refine lv_iload hx hb dX0_add_20 (lv_at hl 0 rfl) ?_
  refine lv_iload_n hx hb dX0_add_22 rfl (lv_at hl 2 rfl) ?_
  refine fws_4 hx hb hK hP (hD _) hS h.1 dX0_add_23 (fun H locs hP hS => ?_)
  have h := h.2
  refine lv_aload_n hx hb dX0_add_24 rfl (lv_at hl 1 rfl) ?_
  refine fwg_3_2 hx hb hts hinX0 hown hK hP (hts (.fieldLink RX0 19 "FilmBench$Layers" "owners" "[I") (by decide +kernel)) dX0_add_25 ?_
  refine lv_iload hx hb dX0_add_28 (lv_at hl 0 rfl) ?_
  refine lv_iload_n hx hb dX0_add_30 rfl (lv_at hl 3 rfl) ?_
  refine fws_5 hx hb hK hP (hD _) hS h.1 dX0_add_31 (fun H locs hP hS => ?_)
  have h := h.2
  refine lv_aload_n hx hb dX0_add_32 rfl (lv_at hl 1 rfl) ?_
  refine fwg_3_3 hx hb hts hinX0 hown hK hP (hts (.fieldLink RX0 22 "FilmBench$Layers" "as" "[I") (by decide +kernel)) dX0_add_33 ?_
  refine lv_iload hx hb dX0_add_36 (lv_at hl 0 rfl) ?_
  refine lv_iload_n hx hb dX0_add_38 rfl (lv_at hl 4 rfl) ?_
  refine fws_6 hx hb hK hP (hD _) hS h.1 dX0_add_39 (fun H locs hP hS => ?_)
  have h := h.2
  refine lv_aload_n hx hb dX0_add_40 rfl (lv_at hl 1 rfl) ?_
  refine fwg_3_4 hx hb hts hinX0 hown hK hP (hts (.fieldLink RX0 25 "FilmBench$Layers" "bs" "[I") (by decide +kernel)) dX0_add_41 ?_
  refine lv_iload hx hb dX0_add_44 (lv_at hl 0 rfl) ?_
  refine lv_iload hx hb dX0_add_46 (lv_at hl 5 rfl) ?_
  refine fws_7 hx hb hK hP (hD _) hS h.1 dX0_add_48 (fun H locs hP hS => ?_)
  have h := h.2
  refine lv_aload_n hx hb dX0_add_49 rfl (lv_at hl 1 rfl) ?_
  refine fwg_3_5 hx hb hts hinX0 hown hK hP (hts (.fieldLink RX0 28 "FilmBench$Layers" "ons" "[Z") (by decide +kernel)) dX0_add_50 ?_
  refine lv_iload hx hb dX0_add_53 (lv_at hl 0 rfl) ?_
  refine lv_iconst (v := (1 : Int32)) hx hb dX0_add_55 (by decide) ?_
  refine fws_8 hx hb hK hP (hD _) hS h.1 dX0_add_56 (fun H locs hP hS => ?_)
  have h := h.2
  refine lv_iload hx hb dX0_add_57 (lv_at hl 0 rfl) ?_
  exact giret hx hb hr hlocks hK hP hS h dX0_add_59
set_option maxRecDepth 100000 in
set_option maxHeartbeats 4000000 in
theorem c_X5_layer (l : Launch) (D : va_G) (cI cZ : ClassId) (adr : Nat → Nat) (A : Nat → Prop) (hD : ∀ u, va_D A (fw adr cI cZ u)) (p1 : Int32) (p2 : Int32) (p3 : Int32) (p4 : Int32) (u : US) (post : Int32 → US → Prop) (h : wp_X5_layer p1 p2 p3 p4 u post) : gMi l yX5_layer wsX5_layer 1 D cI cZ (fw adr cI cZ) A [.ref (adr 0), .int p1, .int p2, .int p3, .int p4] u post := by
  refine Met.ofW (cc := cX5_layer) (maxL := 5) (ret := (some .int)) (by decide) rfl ?_
  intro p e s m args below meth c s₁ B hml hv
  obtain ⟨rfl, hP, hK⟩ := hv
  have hx := B.exec
  have hb := B.bytes
  have hr := B.returns
  have hts := atoms_spec (ws := wsX5_layer) B.pre
  have hown : s.vm.findClass RX5 = some m.cls := findClass_of_methodNamed B.named
  have hlocks := B.notSynchronized
  have hinX0 : ∀ w ∈ wsX00, w ∈ wsX5_layer := by decide +kernel
  have hinX5 : ∀ w ∈ wsX50, w ∈ wsX5_layer := by decide +kernel
  have hS : va_S A s.heap s.heap [] := va_S.rf
  have L120 : ∀ (s0 : Int32) (s1 : Int32) (s2 : Int32) (s3 : Int32) (u : US) (H : Heap) (locs : List Loc) (ls : Array Slot), lv_has ls 5 [] → va_P D vwCl (fw adr cI cZ u) H → va_S A s.heap H locs → wp_X5_layer_120  post s0 s1 s2 s3 u → gWi p l e wsX5_layer 1 s m [.ref (adr 0), .int p1, .int p2, .int p3, .int p4] below meth c D cI cZ (fw adr cI cZ) A post H locs (F0 m 120 ls [.int s0, .int s1, .int s2, .int s3, .ref (adr 3)]) := by
    intro  s0 s1 s2 s3 u H locs ls hl hP hS h
    refine gcallVi (As := [.int s3, .int s2, .int s1, .int s0]) (rest := []) ⟨hx, hb, hml, hown, hts⟩ (c_X0_add l D cI cZ adr A hD s3 s2 s1 s0 u _ h) (cwV 4 hts gX5_layer_X0_add rfl rfl rfl (by decide +kernel) ⟨Nat.le_of_ble_eq_true rfl, Nat.le_of_ble_eq_true rfl⟩) (va_recv hK hP (ci := 0) (q0 := 3) rfl rfl) hK hP hS rfl hl.1 rfl (Nat.le_of_ble_eq_true rfl) dX5_layer_120 ⟨Nat.le_refl _, Nat.le_refl _⟩ (fun r120 u120 H locs h hP hS => ?_)
    exact giret hx hb hr hlocks hK hP hS h dX5_layer_123
  have L109 : ∀ (s0 : Int32) (s1 : Int32) (s2 : Int32) (x1 : Int32) (x4 : Int32) (u : US) (H : Heap) (locs : List Loc) (ls : Array Slot), lv_has ls 5 [(1, .int x1), (4, .int x4)] → va_P D vwCl (fw adr cI cZ u) H → va_S A s.heap H locs → wp_X5_layer_109  post s0 s1 s2 x1 x4 u → gWi p l e wsX5_layer 1 s m [.ref (adr 0), .int p1, .int p2, .int p3, .int p4] below meth c D cI cZ (fw adr cI cZ) A post H locs (F0 m 109 ls [.int s0, .int s1, .int s2, .ref (adr 3)]) := by
    intro  s0 s1 s2 x1 x4 u H locs ls hl hP hS h
    refine lv_iload_n hx hb dX5_layer_109 rfl (lv_at hl 0 rfl) ?_
    refine lv_iconst (v := (3 : Int32)) hx hb dX5_layer_110 (by decide) ?_
    refine lv_icmp_ne (tgt := 119) hx hb dX5_layer_111 (by decide) (fun hc => ?_) (fun hc => ?_)
    · have h := h.2 hc
      refine lv_iconst (v := (0 : Int32)) hx hb dX5_layer_119 (by decide) ?_
      exact L120  (0 : Int32) s0 s1 s2 u _ _ _ (lv_sub hl [] rfl) hP hS h
    · have h := h.1 hc
      refine lv_iload hx hb dX5_layer_114 (lv_at hl 1 rfl) ?_
      refine lv_goto (tgt := 120) hx hb dX5_layer_116 (by decide) ?_
      exact L120  x4 s0 s1 s2 u _ _ _ (lv_sub hl [] rfl) hP hS h
  have L104 : ∀ (s0 : Int32) (s1 : Int32) (x1 : Int32) (x3 : Int32) (x4 : Int32) (u : US) (H : Heap) (locs : List Loc) (ls : Array Slot), lv_has ls 5 [(1, .int x1), (3, .int x3), (4, .int x4)] → va_P D vwCl (fw adr cI cZ u) H → va_S A s.heap H locs → wp_X5_layer_104  post s0 s1 x1 x3 x4 u → gWi p l e wsX5_layer 1 s m [.ref (adr 0), .int p1, .int p2, .int p3, .int p4] below meth c D cI cZ (fw adr cI cZ) A post H locs (F0 m 104 ls [.int s0, .int s1, .ref (adr 3)]) := by
    intro  s0 s1 x1 x3 x4 u H locs ls hl hP hS h
    refine lv_iload_n hx hb dX5_layer_104 rfl (lv_at hl 1 rfl) ?_
    refine lv_goto (tgt := 109) hx hb dX5_layer_105 (by decide) ?_
    exact L109  x3 s0 s1 x1 x4 u _ _ _ (lv_sub hl [0, 2] rfl) hP hS h
  have L73 : ∀ (x1 : Int32) (x2 : Int32) (x3 : Int32) (x4 : Int32) (u : US) (H : Heap) (locs : List Loc) (ls : Array Slot), lv_has ls 5 [(0, .ref (adr 0)), (1, .int x1), (2, .int x2), (3, .int x3), (4, .int x4)] → va_P D vwCl (fw adr cI cZ u) H → va_S A s.heap H locs → wp_X5_layer_73  post x1 x2 x3 x4 u → gWi p l e wsX5_layer 1 s m [.ref (adr 0), .int p1, .int p2, .int p3, .int p4] below meth c D cI cZ (fw adr cI cZ) A post H locs (F0 m 73 ls []) := by
    intro  x1 x2 x3 x4 u H locs ls hl hP hS h
    refine lv_aload_n hx hb dX5_layer_73 rfl (lv_at hl 0 rfl) ?_
    refine fwg_0_1 hx hb hts hinX5 hown hK hP (hts (.fieldLink RX5 19 "FilmBench" "layers" "LFilmBench$Layers;") (by decide +kernel)) dX5_layer_74 ?_
    refine fwg_3_0 (v := (u.1 5)) hx hb hts hinX0 hown hK hP (hts (.fieldLink RX5 79 "FilmBench$Layers" "count" "I") (by decide +kernel)) dX5_layer_77 rfl ?_
    refine lv_bipush (v := (12 : Int32)) hx hb dX5_layer_80 (by decide) ?_
    refine lv_icmp_lt (tgt := 88) hx hb dX5_layer_82 (by decide) (fun hc => ?_) (fun hc => ?_)
    · have h := h.1 hc
      refine lv_aload_n hx hb dX5_layer_88 rfl (lv_at hl 0 rfl) ?_
      refine fwg_0_1 hx hb hts hinX5 hown hK hP (hts (.fieldLink RX5 19 "FilmBench" "layers" "LFilmBench$Layers;") (by decide +kernel)) dX5_layer_89 ?_
      refine lv_iload_n hx hb dX5_layer_92 rfl (lv_at hl 1 rfl) ?_
      refine lv_iload_n hx hb dX5_layer_93 rfl (lv_at hl 2 rfl) ?_
      refine lv_iload_n hx hb dX5_layer_94 rfl (lv_at hl 1 rfl) ?_
      refine lv_iconst (v := (1 : Int32)) hx hb dX5_layer_95 (by decide) ?_
      refine lv_icmp_eq (tgt := 104) hx hb dX5_layer_96 (by decide) (fun hc => ?_) (fun hc => ?_)
      · have h := h.1 hc
        exact L104  x2 x1 x1 x3 x4 u _ _ _ (lv_sub hl [1, 3, 4] rfl) hP hS h
      · have h := h.2 hc
        refine lv_iload_n hx hb dX5_layer_99 rfl (lv_at hl 1 rfl) ?_
        refine lv_iconst (v := (3 : Int32)) hx hb dX5_layer_100 (by decide) ?_
        refine lv_icmp_ne (tgt := 108) hx hb dX5_layer_101 (by decide) (fun hc => ?_) (fun hc => ?_)
        · have h := h.2 hc
          refine lv_iconst (v := (0 : Int32)) hx hb dX5_layer_108 (by decide) ?_
          exact L109  (0 : Int32) x2 x1 x1 x4 u _ _ _ (lv_sub hl [1, 4] rfl) hP hS h
        · have h := h.1 hc
          exact L104  x2 x1 x1 x3 x4 u _ _ _ (lv_sub hl [1, 3, 4] rfl) hP hS h
    · have h := h.2 hc
      refine lv_bipush (v := (-2 : Int32)) hx hb dX5_layer_85 (by decide) ?_
      exact giret hx hb hr hlocks hK hP hS h dX5_layer_87
  have L45 : ∀ (x1 : Int32) (x2 : Int32) (x3 : Int32) (x4 : Int32) (u : US) (H : Heap) (locs : List Loc) (ls : Array Slot), lv_has ls 5 [(0, .ref (adr 0)), (1, .int x1), (2, .int x2), (3, .int x3), (4, .int x4)] → va_P D vwCl (fw adr cI cZ u) H → va_S A s.heap H locs → wp_X5_layer_45  post x1 x2 x3 x4 u → gWi p l e wsX5_layer 1 s m [.ref (adr 0), .int p1, .int p2, .int p3, .int p4] below meth c D cI cZ (fw adr cI cZ) A post H locs (F0 m 45 ls []) := by
    intro  x1 x2 x3 x4 u H locs ls hl hP hS h
    refine lv_iload_n hx hb dX5_layer_45 rfl (lv_at hl 1 rfl) ?_
    refine lv_iconst (v := (3 : Int32)) hx hb dX5_layer_46 (by decide) ?_
    refine lv_icmp_ne (tgt := 73) hx hb dX5_layer_47 (by decide) (fun hc => ?_) (fun hc => ?_)
    · have h := h.2 hc
      exact L73  x1 x2 x3 x4 u _ _ _ (lv_sub hl [0, 1, 2, 3, 4] rfl) hP hS h
    · have h := h.1 hc
      refine lv_iload_n hx hb dX5_layer_50 rfl (lv_at hl 3 rfl) ?_
      refine lv_bipush (v := (-3 : Int32)) hx hb dX5_layer_51 (by decide) ?_
      refine lv_iconst (v := (3 : Int32)) hx hb dX5_layer_53 (by decide) ?_
      refine gcallSi (As := [.int x3, .int (-3 : Int32), .int (3 : Int32)]) (rest := []) ⟨hx, hb, hml, hown, hts⟩ (c_X5_isWithin l D cI cZ adr A hD x3 (-3 : Int32) (3 : Int32) u _ h) (va_cwS 3 hts gX5_layer_X5_isWithin rfl rfl rfl (by decide +kernel) ⟨Nat.le_of_ble_eq_true rfl, Nat.le_of_ble_eq_true rfl⟩) hK hP hS rfl hl.1 rfl (Nat.le_of_ble_eq_true rfl) dX5_layer_54 ⟨Nat.le_refl _, Nat.le_refl _⟩ (fun r54 u54 H locs h hP hS => ?_)
      refine lv_if_eq (tgt := 71) hx hb dX5_layer_57 (by decide) (fun hc => ?_) (fun hc => ?_)
      · have h := h.1 hc
        refine lv_iconst (v := (-1 : Int32)) hx hb dX5_layer_71 (by decide) ?_
        exact giret hx hb hr hlocks hK hP hS h dX5_layer_72
      · have h := h.2 hc
        refine lv_iload hx hb dX5_layer_60 (lv_at hl 4 rfl) ?_
        refine lv_bipush (v := (-3 : Int32)) hx hb dX5_layer_62 (by decide) ?_
        refine lv_iconst (v := (3 : Int32)) hx hb dX5_layer_64 (by decide) ?_
        refine gcallSi (As := [.int x4, .int (-3 : Int32), .int (3 : Int32)]) (rest := []) ⟨hx, hb, hml, hown, hts⟩ (c_X5_isWithin l D cI cZ adr A hD x4 (-3 : Int32) (3 : Int32) u54 _ h) (va_cwS 3 hts gX5_layer_X5_isWithin rfl rfl rfl (by decide +kernel) ⟨Nat.le_of_ble_eq_true rfl, Nat.le_of_ble_eq_true rfl⟩) hK hP hS rfl hl.1 rfl (Nat.le_of_ble_eq_true rfl) dX5_layer_65 ⟨Nat.le_refl _, Nat.le_refl _⟩ (fun r65 u65 H locs h hP hS => ?_)
        refine lv_if_ne (tgt := 73) hx hb dX5_layer_68 (by decide) (fun hc => ?_) (fun hc => ?_)
        · have h := h.2 hc
          exact L73  x1 x2 x3 x4 u65 _ _ _ (lv_sub hl [0, 1, 2, 3, 4] rfl) hP hS h
        · have h := h.1 hc
          refine lv_iconst (v := (-1 : Int32)) hx hb dX5_layer_71 (by decide) ?_
          exact giret hx hb hr hlocks hK hP hS h dX5_layer_72
  have hl := lv_entry ([.ref (adr 0), .int p1, .int p2, .int p3, .int p4]) (n := 5) (Nat.le_of_ble_eq_true rfl)
  rw [lg_entry_eq]
  generalize (lg_sl ([.ref (adr 0), .int p1, .int p2, .int p3, .int p4]) ++ List.replicate (5 - (lg_sl ([.ref (adr 0), .int p1, .int p2, .int p3, .int p4])).length) Slot.unset).toArray = ls at hl ⊢
  replace hl : lv_has ls 5 [(0, .ref (adr 0)), (1, .int p1), (2, .int p2), (3, .int p3), (4, .int p4)] := hl
  refine lv_iload_n hx hb dX5_layer_0 rfl (lv_at hl 1 rfl) ?_
  refine lv_iconst (v := (0 : Int32)) hx hb dX5_layer_1 (by decide) ?_
  refine lv_iconst (v := (3 : Int32)) hx hb dX5_layer_2 (by decide) ?_
  refine gcallSi (As := [.int p1, .int (0 : Int32), .int (3 : Int32)]) (rest := []) ⟨hx, hb, hml, hown, hts⟩ (c_X5_isWithin l D cI cZ adr A hD p1 (0 : Int32) (3 : Int32) u _ h) (va_cwS 3 hts gX5_layer_X5_isWithin rfl rfl rfl (by decide +kernel) ⟨Nat.le_of_ble_eq_true rfl, Nat.le_of_ble_eq_true rfl⟩) hK hP hS rfl hl.1 rfl (Nat.le_of_ble_eq_true rfl) dX5_layer_3 ⟨Nat.le_refl _, Nat.le_refl _⟩ (fun r3 u3 H locs h hP hS => ?_)
  refine lv_if_eq (tgt := 20) hx hb dX5_layer_6 (by decide) (fun hc => ?_) (fun hc => ?_)
  · have h := h.1 hc
    refine lv_iconst (v := (-1 : Int32)) hx hb dX5_layer_20 (by decide) ?_
    exact giret hx hb hr hlocks hK hP hS h dX5_layer_21
  · have h := h.2 hc
    refine lv_aload_n hx hb dX5_layer_9 rfl (lv_at hl 0 rfl) ?_
    refine fwg_0_0 hx hb hts hinX5 hown hK hP (hts (.fieldLink RX5 12 "FilmBench" "film" "LFilmBench$Reel;") (by decide +kernel)) dX5_layer_10 ?_
    refine lv_iload_n hx hb dX5_layer_13 rfl (lv_at hl 2 rfl) ?_
    refine gcallVi (As := [.int p2]) (rest := []) ⟨hx, hb, hml, hown, hts⟩ (c_X1_hasFrame l D cI cZ adr A hD p2 u3 _ h) (cwV 1 hts gX5_layer_X1_hasFrame rfl rfl rfl (by decide +kernel) ⟨Nat.le_of_ble_eq_true rfl, Nat.le_of_ble_eq_true rfl⟩) (va_recv hK hP (ci := 1) (q0 := 1) rfl rfl) hK hP hS rfl hl.1 rfl (Nat.le_of_ble_eq_true rfl) dX5_layer_14 ⟨Nat.le_refl _, Nat.le_refl _⟩ (fun r14 u14 H locs h hP hS => ?_)
    refine lv_if_ne (tgt := 22) hx hb dX5_layer_17 (by decide) (fun hc => ?_) (fun hc => ?_)
    · have h := h.2 hc
      refine lv_iload_n hx hb dX5_layer_22 rfl (lv_at hl 1 rfl) ?_
      refine lv_iconst (v := (1 : Int32)) hx hb dX5_layer_23 (by decide) ?_
      refine lv_icmp_ne (tgt := 45) hx hb dX5_layer_24 (by decide) (fun hc => ?_) (fun hc => ?_)
      · have h := h.2 hc
        exact L45  p1 p2 p3 p4 u14 _ _ _ (lv_sub hl [0, 1, 2, 3, 4] rfl) hP hS h
      · have h := h.1 hc
        refine lv_aload_n hx hb dX5_layer_27 rfl (lv_at hl 0 rfl) ?_
        refine fwg_0_0 hx hb hts hinX5 hown hK hP (hts (.fieldLink RX5 12 "FilmBench" "film" "LFilmBench$Reel;") (by decide +kernel)) dX5_layer_28 ?_
        refine lv_iload_n hx hb dX5_layer_31 rfl (lv_at hl 3 rfl) ?_
        refine gcallVi (As := [.int p3]) (rest := []) ⟨hx, hb, hml, hown, hts⟩ (c_X1_hasFrame l D cI cZ adr A hD p3 u14 _ h) (cwV 1 hts gX5_layer_X1_hasFrame rfl rfl rfl (by decide +kernel) ⟨Nat.le_of_ble_eq_true rfl, Nat.le_of_ble_eq_true rfl⟩) (va_recv hK hP (ci := 1) (q0 := 1) rfl rfl) hK hP hS rfl hl.1 rfl (Nat.le_of_ble_eq_true rfl) dX5_layer_32 ⟨Nat.le_refl _, Nat.le_refl _⟩ (fun r32 u32 H locs h hP hS => ?_)
        refine lv_if_eq (tgt := 43) hx hb dX5_layer_35 (by decide) (fun hc => ?_) (fun hc => ?_)
        · have h := h.1 hc
          refine lv_iconst (v := (-1 : Int32)) hx hb dX5_layer_43 (by decide) ?_
          exact giret hx hb hr hlocks hK hP hS h dX5_layer_44
        · have h := h.2 hc
          refine lv_iload_n hx hb dX5_layer_38 rfl (lv_at hl 3 rfl) ?_
          refine lv_iload_n hx hb dX5_layer_39 rfl (lv_at hl 2 rfl) ?_
          refine lv_icmp_ne (tgt := 45) hx hb dX5_layer_40 (by decide) (fun hc => ?_) (fun hc => ?_)
          · have h := h.2 hc
            exact L45  p1 p2 p3 p4 u32 _ _ _ (lv_sub hl [0, 1, 2, 3, 4] rfl) hP hS h
          · have h := h.1 hc
            refine lv_iconst (v := (-1 : Int32)) hx hb dX5_layer_43 (by decide) ?_
            exact giret hx hb hr hlocks hK hP hS h dX5_layer_44
    · have h := h.1 hc
      refine lv_iconst (v := (-1 : Int32)) hx hb dX5_layer_20 (by decide) ?_
      exact giret hx hb hr hlocks hK hP hS h dX5_layer_21
set_option maxRecDepth 100000 in
set_option maxHeartbeats 4000000 in
theorem c_X0_has (l : Launch) (D : va_G) (cI cZ : ClassId) (adr : Nat → Nat) (A : Nat → Prop) (hD : ∀ u, va_D A (fw adr cI cZ u)) (p1 : Int32) (u : US) (post : Int32 → US → Prop) (h : wp_X0_has p1 u post) : gMi l yX0_has wsX0_has 0 D cI cZ (fw adr cI cZ) A [.ref (adr 3), .int p1] u post := by
  refine Met.ofW (cc := cX0_has) (maxL := 2) (ret := (some .boolean)) (by decide) rfl ?_
  intro p e s m args below meth c s₁ B hml hv
  obtain ⟨rfl, hP, hK⟩ := hv
  have hx := B.exec
  have hb := B.bytes
  have hr := B.returns
  have hts := atoms_spec (ws := wsX0_has) B.pre
  have hown : s.vm.findClass RX0 = some m.cls := findClass_of_methodNamed B.named
  have hlocks := B.notSynchronized
  have hinX0 : ∀ w ∈ wsX00, w ∈ wsX0_has := by decide +kernel
  have hS : va_S A s.heap s.heap [] := va_S.rf
  have hl := lv_entry ([.ref (adr 3), .int p1]) (n := 2) (Nat.le_of_ble_eq_true rfl)
  rw [lg_entry_eq]
  generalize (lg_sl ([.ref (adr 3), .int p1]) ++ List.replicate (2 - (lg_sl ([.ref (adr 3), .int p1])).length) Slot.unset).toArray = ls at hl ⊢
  replace hl : lv_has ls 2 [(0, .ref (adr 3)), (1, .int p1)] := hl
  refine lv_iload_n hx hb dX0_has_0 rfl (lv_at hl 1 rfl) ?_
  refine lv_if_lt (tgt := 16) hx hb dX0_has_1 (by decide) (fun hc => ?_) (fun hc => ?_)
  · have h := h.1 hc
    refine lv_iconst (v := (0 : Int32)) hx hb dX0_has_16 (by decide) ?_
    exact gzret hx hb hr hlocks hK hP hS rfl h dX0_has_17
  · have h := h.2 hc
    refine lv_iload_n hx hb dX0_has_4 rfl (lv_at hl 1 rfl) ?_
    refine lv_aload_n hx hb dX0_has_5 rfl (lv_at hl 0 rfl) ?_
    refine fwg_3_0 (v := (u.1 5)) hx hb hts hinX0 hown hK hP (hts (.fieldLink RX0 9 "FilmBench$Layers" "count" "I") (by decide +kernel)) dX0_has_6 rfl ?_
    refine lv_icmp_ge (tgt := 16) hx hb dX0_has_9 (by decide) (fun hc => ?_) (fun hc => ?_)
    · have h := h.1 hc
      refine lv_iconst (v := (0 : Int32)) hx hb dX0_has_16 (by decide) ?_
      exact gzret hx hb hr hlocks hK hP hS rfl h dX0_has_17
    · have h := h.2 hc
      refine lv_iconst (v := (1 : Int32)) hx hb dX0_has_12 (by decide) ?_
      refine lv_goto (tgt := 17) hx hb dX0_has_13 (by decide) ?_
      exact gzret hx hb hr hlocks hK hP hS rfl h dX0_has_17
set_option maxRecDepth 100000 in
set_option maxHeartbeats 4000000 in
theorem c_X5_on (l : Launch) (D : va_G) (cI cZ : ClassId) (adr : Nat → Nat) (A : Nat → Prop) (hD : ∀ u, va_D A (fw adr cI cZ u)) (p1 : Int32) (p2 : Int32) (u : US) (post : Int32 → US → Prop) (h : wp_X5_on p1 p2 u post) : gMi l yX5_on wsX5_on 1 D cI cZ (fw adr cI cZ) A [.ref (adr 0), .int p1, .int p2] u post := by
  refine Met.ofW (cc := cX5_on) (maxL := 4) (ret := (some .int)) (by decide) rfl ?_
  intro p e s m args below meth c s₁ B hml hv
  obtain ⟨rfl, hP, hK⟩ := hv
  have hx := B.exec
  have hb := B.bytes
  have hr := B.returns
  have hts := atoms_spec (ws := wsX5_on) B.pre
  have hown : s.vm.findClass RX5 = some m.cls := findClass_of_methodNamed B.named
  have hlocks := B.notSynchronized
  have hinX0 : ∀ w ∈ wsX00, w ∈ wsX5_on := by decide +kernel
  have hinX5 : ∀ w ∈ wsX50, w ∈ wsX5_on := by decide +kernel
  have hS : va_S A s.heap s.heap [] := va_S.rf
  have L31 : ∀ (s0 : Int32) (x1 : Int32) (x2 : Int32) (u : US) (H : Heap) (locs : List Loc) (ls : Array Slot), lv_has ls 4 [(0, .ref (adr 0)), (1, .int x1), (2, .int x2)] → va_P D vwCl (fw adr cI cZ u) H → va_S A s.heap H locs → wp_X5_on_31  post s0 x1 x2 u → gWi p l e wsX5_on 1 s m [.ref (adr 0), .int p1, .int p2] below meth c D cI cZ (fw adr cI cZ) A post H locs (F0 m 31 ls [.int s0]) := by
    intro  s0 x1 x2 u H locs ls hl hP hS h
    refine lv_istore_n (lv' := [(3, .int s0), (0, .ref (adr 0)), (1, .int x1), (2, .int x2)]) hx hb dX5_on_31 rfl hl (by decide) rfl (fun ls hl => ?_)
    refine lv_aload_n hx hb dX5_on_32 rfl (lv_at hl 1 rfl) ?_
    refine fwg_0_1 hx hb hts hinX5 hown hK hP (hts (.fieldLink RX5 19 "FilmBench" "layers" "LFilmBench$Layers;") (by decide +kernel)) dX5_on_33 ?_
    refine fwg_3_5 hx hb hts hinX0 hown hK hP (hts (.fieldLink RX5 171 "FilmBench$Layers" "ons" "[Z") (by decide +kernel)) dX5_on_36 ?_
    refine lv_iload_n hx hb dX5_on_39 rfl (lv_at hl 2 rfl) ?_
    refine lv_iload_n hx hb dX5_on_40 rfl (lv_at hl 3 rfl) ?_
    refine fws_8 hx hb hK hP (hD _) hS h.1 dX5_on_41 (fun H locs hP hS => ?_)
    have h := h.2
    refine lv_iload_n hx hb dX5_on_42 rfl (lv_at hl 0 rfl) ?_
    refine lv_if_eq (tgt := 50) hx hb dX5_on_43 (by decide) (fun hc => ?_) (fun hc => ?_)
    · have h := h.1 hc
      refine lv_iconst (v := (0 : Int32)) hx hb dX5_on_50 (by decide) ?_
      exact giret hx hb hr hlocks hK hP hS h dX5_on_51
    · have h := h.2 hc
      refine lv_iconst (v := (1 : Int32)) hx hb dX5_on_46 (by decide) ?_
      refine lv_goto (tgt := 51) hx hb dX5_on_47 (by decide) ?_
      exact giret hx hb hr hlocks hK hP hS h dX5_on_51
  have hl := lv_entry ([.ref (adr 0), .int p1, .int p2]) (n := 4) (Nat.le_of_ble_eq_true rfl)
  rw [lg_entry_eq]
  generalize (lg_sl ([.ref (adr 0), .int p1, .int p2]) ++ List.replicate (4 - (lg_sl ([.ref (adr 0), .int p1, .int p2])).length) Slot.unset).toArray = ls at hl ⊢
  replace hl : lv_has ls 4 [(0, .ref (adr 0)), (1, .int p1), (2, .int p2)] := hl
  refine lv_aload_n hx hb dX5_on_0 rfl (lv_at hl 0 rfl) ?_
  refine fwg_0_1 hx hb hts hinX5 hown hK hP (hts (.fieldLink RX5 19 "FilmBench" "layers" "LFilmBench$Layers;") (by decide +kernel)) dX5_on_1 ?_
  refine lv_iload_n hx hb dX5_on_4 rfl (lv_at hl 1 rfl) ?_
  refine gcallVi (As := [.int p1]) (rest := []) ⟨hx, hb, hml, hown, hts⟩ (c_X0_has l D cI cZ adr A hD p1 u _ h) (cwV 1 hts gX5_on_X0_has rfl rfl rfl (by decide +kernel) ⟨Nat.le_of_ble_eq_true rfl, Nat.le_of_ble_eq_true rfl⟩) (va_recv hK hP (ci := 0) (q0 := 3) rfl rfl) hK hP hS rfl hl.1 rfl (Nat.le_of_ble_eq_true rfl) dX5_on_5 ⟨Nat.le_refl _, Nat.le_refl _⟩ (fun r5 u5 H locs h hP hS => ?_)
  refine lv_if_ne (tgt := 13) hx hb dX5_on_8 (by decide) (fun hc => ?_) (fun hc => ?_)
  · have h := h.2 hc
    refine lv_aload_n hx hb dX5_on_13 rfl (lv_at hl 0 rfl) ?_
    refine fwg_0_1 hx hb hts hinX5 hown hK hP (hts (.fieldLink RX5 19 "FilmBench" "layers" "LFilmBench$Layers;") (by decide +kernel)) dX5_on_14 ?_
    refine fwg_3_5 hx hb hts hinX0 hown hK hP (hts (.fieldLink RX5 171 "FilmBench$Layers" "ons" "[Z") (by decide +kernel)) dX5_on_17 ?_
    refine lv_iload_n hx hb dX5_on_20 rfl (lv_at hl 1 rfl) ?_
    refine fwl_8 (v := ((u5.2 8) p1.toNatClampNeg)) hx hb hK hP h.1 dX5_on_21 rfl ?_
    have h := h.2
    refine lv_iload_n hx hb dX5_on_22 rfl (lv_at hl 2 rfl) ?_
    refine lv_icmp_eq (tgt := 30) hx hb dX5_on_23 (by decide) (fun hc => ?_) (fun hc => ?_)
    · have h := h.1 hc
      refine lv_iconst (v := (0 : Int32)) hx hb dX5_on_30 (by decide) ?_
      exact L31  (0 : Int32) p1 p2 u5 _ _ _ (lv_sub hl [0, 1, 2] rfl) hP hS h
    · have h := h.2 hc
      refine lv_iconst (v := (1 : Int32)) hx hb dX5_on_26 (by decide) ?_
      refine lv_goto (tgt := 31) hx hb dX5_on_27 (by decide) ?_
      exact L31  (1 : Int32) p1 p2 u5 _ _ _ (lv_sub hl [0, 1, 2] rfl) hP hS h
  · have h := h.1 hc
    refine lv_iconst (v := (-1 : Int32)) hx hb dX5_on_11 (by decide) ?_
    exact giret hx hb hr hlocks hK hP hS h dX5_on_12
set_option maxRecDepth 100000 in
set_option maxHeartbeats 4000000 in
theorem c_X5_peel (l : Launch) (D : va_G) (cI cZ : ClassId) (adr : Nat → Nat) (A : Nat → Prop) (hD : ∀ u, va_D A (fw adr cI cZ u))  (u : US) (post : Int32 → US → Prop) (h : wp_X5_peel  u post) : gMi l yX5_peel wsX5_peel 0 D cI cZ (fw adr cI cZ) A [.ref (adr 0)] u post := by
  refine Met.ofW (cc := cX5_peel) (maxL := 1) (ret := (some .int)) (by decide) rfl ?_
  intro p e s m args below meth c s₁ B hml hv
  obtain ⟨rfl, hP, hK⟩ := hv
  have hx := B.exec
  have hb := B.bytes
  have hr := B.returns
  have hts := atoms_spec (ws := wsX5_peel) B.pre
  have hown : s.vm.findClass RX5 = some m.cls := findClass_of_methodNamed B.named
  have hlocks := B.notSynchronized
  have hinX0 : ∀ w ∈ wsX00, w ∈ wsX5_peel := by decide +kernel
  have hinX5 : ∀ w ∈ wsX50, w ∈ wsX5_peel := by decide +kernel
  have hS : va_S A s.heap s.heap [] := va_S.rf
  have hl := lv_entry ([.ref (adr 0)]) (n := 1) (Nat.le_of_ble_eq_true rfl)
  rw [lg_entry_eq]
  generalize (lg_sl ([.ref (adr 0)]) ++ List.replicate (1 - (lg_sl ([.ref (adr 0)])).length) Slot.unset).toArray = ls at hl ⊢
  replace hl : lv_has ls 1 [(0, .ref (adr 0))] := hl
  refine lv_aload_n hx hb dX5_peel_0 rfl (lv_at hl 0 rfl) ?_
  refine fwg_0_1 hx hb hts hinX5 hown hK hP (hts (.fieldLink RX5 19 "FilmBench" "layers" "LFilmBench$Layers;") (by decide +kernel)) dX5_peel_1 ?_
  refine fwg_3_0 (v := (u.1 5)) hx hb hts hinX0 hown hK hP (hts (.fieldLink RX5 79 "FilmBench$Layers" "count" "I") (by decide +kernel)) dX5_peel_4 rfl ?_
  refine lv_if_gt (tgt := 13) hx hb dX5_peel_7 (by decide) (fun hc => ?_) (fun hc => ?_)
  · have h := h.1 hc
    refine lv_aload_n hx hb dX5_peel_13 rfl (lv_at hl 0 rfl) ?_
    refine fwg_0_1 hx hb hts hinX5 hown hK hP (hts (.fieldLink RX5 19 "FilmBench" "layers" "LFilmBench$Layers;") (by decide +kernel)) dX5_peel_14 ?_
    refine lv_dup hx hb dX5_peel_17 rfl ?_
    refine fwg_3_0 (v := (u.1 5)) hx hb hts hinX0 hown hK hP (hts (.fieldLink RX5 79 "FilmBench$Layers" "count" "I") (by decide +kernel)) dX5_peel_18 rfl ?_
    refine lv_iconst (v := (1 : Int32)) hx hb dX5_peel_21 (by decide) ?_
    refine lv_isub hx hb dX5_peel_22 ?_
    refine fwp_3_0 (v := ((u.1 5) - (1 : Int32))) hx hb hts hinX0 hown hK hP (hD _) hS (hts (.fieldLink RX5 79 "FilmBench$Layers" "count" "I") (by decide +kernel)) dX5_peel_23 (fun H locs hP hS => ?_)
    refine lv_aload_n hx hb dX5_peel_26 rfl (lv_at hl 0 rfl) ?_
    refine fwg_0_1 hx hb hts hinX5 hown hK hP (hts (.fieldLink RX5 19 "FilmBench" "layers" "LFilmBench$Layers;") (by decide +kernel)) dX5_peel_27 ?_
    refine fwg_3_0 (v := ((u.1 5) - (1 : Int32))) hx hb hts hinX0 hown hK hP (hts (.fieldLink RX5 79 "FilmBench$Layers" "count" "I") (by decide +kernel)) dX5_peel_30 rfl ?_
    exact giret hx hb hr hlocks hK hP hS h dX5_peel_33
  · have h := h.2 hc
    refine lv_bipush (v := (-3 : Int32)) hx hb dX5_peel_10 (by decide) ?_
    exact giret hx hb hr hlocks hK hP hS h dX5_peel_12
set_option maxRecDepth 100000 in
set_option maxHeartbeats 4000000 in
theorem c_X2_cleanDust (l : Launch) (D : va_G) (cI cZ : ClassId) (adr : Nat → Nat) (A : Nat → Prop) (hD : ∀ u, va_D A (fw adr cI cZ u)) (p1 : Int32) (u : US) (post : US → Prop) (h : wp_X2_cleanDust p1 u post) : gMv l yX2_cleanDust wsX2_cleanDust 3 D cI cZ (fw adr cI cZ) A [.ref (adr 15), .int p1] u post := by
  refine Met.ofW (cc := cX2_cleanDust) (maxL := 3) (ret := none) (by decide) rfl ?_
  intro p e s m args below meth c s₁ B hml hv
  obtain ⟨rfl, hP, hK⟩ := hv
  have hx := B.exec
  have hb := B.bytes
  have hr := B.returns
  have hts := atoms_spec (ws := wsX2_cleanDust) B.pre
  have hown : s.vm.findClass RX2 = some m.cls := findClass_of_methodNamed B.named
  have hlocks := B.notSynchronized
  have hinX1 : ∀ w ∈ wsX10, w ∈ wsX2_cleanDust := by decide +kernel
  have hinX2 : ∀ w ∈ wsX20, w ∈ wsX2_cleanDust := by decide +kernel
  have hS : va_S A s.heap s.heap [] := va_S.rf
  have L2 : ∀ (n : Nat), ∀ (x1 : Int32) (x2 : Int32) (u : US) (H : Heap) (locs : List Loc) (ls : Array Slot), lv_has ls 3 [(0, .ref (adr 15)), (1, .int x1), (2, .int x2)] → va_P D vwCl (fw adr cI cZ u) H → va_S A s.heap H locs → wp_X2_cleanDust_2  post n x1 x2 u → gWv p l e wsX2_cleanDust 3 s m [.ref (adr 15), .int p1] below meth c D cI cZ (fw adr cI cZ) A post H locs (F0 m 2 ls []) := by
    intro  n
    induction n with
    | zero => intro x1 x2 u H locs ls hl hP hS h; exact False.elim h
    | succ n ih =>
      intro x1 x2 u H locs ls hl hP hS h
      refine lv_iload_n hx hb dX2_cleanDust_2 rfl (lv_at hl 2 rfl) ?_
      refine lv_aload_n hx hb dX2_cleanDust_3 rfl (lv_at hl 0 rfl) ?_
      refine fwg_15_0 hx hb hts hinX2 hown hK hP (hts (.fieldLink RX2 9 "FilmBench$Sheet" "film" "LFilmBench$Reel;") (by decide +kernel)) dX2_cleanDust_4 ?_
      refine fwg_1_2 (v := (u.1 3)) hx hb hts hinX1 hown hK hP (hts (.fieldLink RX2 32 "FilmBench$Reel" "squares" "I") (by decide +kernel)) dX2_cleanDust_7 rfl ?_
      refine lv_icmp_ge (tgt := 65) hx hb dX2_cleanDust_10 (by decide) (fun hc => ?_) (fun hc => ?_)
      · have h := h.1 hc
        exact gvret hx hb hr hlocks hK hP hS h dX2_cleanDust_65
      · have h := h.2 hc
        refine lv_aload_n hx hb dX2_cleanDust_13 rfl (lv_at hl 0 rfl) ?_
        refine lv_aload_n hx hb dX2_cleanDust_14 rfl (lv_at hl 0 rfl) ?_
        refine fwg_15_4 hx hb hts hinX2 hown hK hP (hts (.fieldLink RX2 26 "FilmBench$Sheet" "before" "[I") (by decide +kernel)) dX2_cleanDust_15 ?_
        refine lv_iload_n hx hb dX2_cleanDust_18 rfl (lv_at hl 2 rfl) ?_
        refine fwl_17 (v := ((u.2 17) x2.toNatClampNeg)) hx hb hK hP h.1 dX2_cleanDust_19 rfl ?_
        have h := h.2
        refine lv_iload_n hx hb dX2_cleanDust_20 rfl (lv_at hl 1 rfl) ?_
        refine lv_iload_n hx hb dX2_cleanDust_21 rfl (lv_at hl 2 rfl) ?_
        refine gcallVi (As := [.int ((u.2 17) x2.toNatClampNeg), .int x1, .int x2]) (rest := []) ⟨hx, hb, hml, hown, hts⟩ (c_X2_isDust l D cI cZ adr A hD ((u.2 17) x2.toNatClampNeg) x1 x2 u _ h) (cwV 3 hts gX2_cleanDust_X2_isDust rfl rfl rfl (by decide +kernel) ⟨Nat.le_of_ble_eq_true rfl, Nat.le_of_ble_eq_true rfl⟩) (va_recv hK hP (ci := 2) (q0 := 15) rfl rfl) hK hP hS rfl hl.1 rfl (Nat.le_of_ble_eq_true rfl) dX2_cleanDust_22 ⟨Nat.le_refl _, Nat.le_refl _⟩ (fun r22 u22 H locs h hP hS => ?_)
        refine lv_if_eq (tgt := 59) hx hb dX2_cleanDust_25 (by decide) (fun hc => ?_) (fun hc => ?_)
        · have h := h.1 hc
          refine lv_iinc (v := (x2 + 1)) (lv' := [(2, .int (x2 + 1)), (0, .ref (adr 15)), (1, .int x1)]) hx hb dX2_cleanDust_59 hl (k := 2) rfl (congrArg (HAdd.hAdd _) (show Int32.ofInt (1) = (1 : Int32) by decide)) (by decide) rfl (fun ls hl => ?_)
          refine lv_goto (tgt := 2) hx hb dX2_cleanDust_62 (by decide) ?_
          exact ih x1 (x2 + 1) u22 _ _ _ (lv_sub hl [1, 2, 0] rfl) hP hS h
        · have h := h.2 hc
          refine lv_aload_n hx hb dX2_cleanDust_28 rfl (lv_at hl 0 rfl) ?_
          refine fwg_15_3 hx hb hts hinX2 hown hK hP (hts (.fieldLink RX2 23 "FilmBench$Sheet" "now" "[I") (by decide +kernel)) dX2_cleanDust_29 ?_
          refine lv_iload_n hx hb dX2_cleanDust_32 rfl (lv_at hl 2 rfl) ?_
          refine lv_aload_n hx hb dX2_cleanDust_33 rfl (lv_at hl 0 rfl) ?_
          refine fwg_15_0 hx hb hts hinX2 hown hK hP (hts (.fieldLink RX2 9 "FilmBench$Sheet" "film" "LFilmBench$Reel;") (by decide +kernel)) dX2_cleanDust_34 ?_
          refine lv_iload_n hx hb dX2_cleanDust_37 rfl (lv_at hl 1 rfl) ?_
          refine lv_iconst (v := (1 : Int32)) hx hb dX2_cleanDust_38 (by decide) ?_
          refine lv_isub hx hb dX2_cleanDust_39 ?_
          refine lv_iload_n hx hb dX2_cleanDust_40 rfl (lv_at hl 2 rfl) ?_
          refine gcallVi (As := [.int (x1 - (1 : Int32)), .int x2]) (rest := [.int x2, .ref (adr 16)]) ⟨hx, hb, hml, hown, hts⟩ (c_X1_greyAt l D cI cZ adr A hD (x1 - (1 : Int32)) x2 u22 _ h) (cwV 2 hts gX2_cleanDust_X1_greyAt rfl rfl rfl (by decide +kernel) ⟨Nat.le_of_ble_eq_true rfl, Nat.le_of_ble_eq_true rfl⟩) (va_recv hK hP (ci := 1) (q0 := 1) rfl rfl) hK hP hS rfl hl.1 rfl (Nat.le_of_ble_eq_true rfl) dX2_cleanDust_41 ⟨Nat.le_refl _, Nat.le_refl _⟩ (fun r41 u41 H locs h hP hS => ?_)
          refine lv_aload_n hx hb dX2_cleanDust_44 rfl (lv_at hl 0 rfl) ?_
          refine fwg_15_0 hx hb hts hinX2 hown hK hP (hts (.fieldLink RX2 9 "FilmBench$Sheet" "film" "LFilmBench$Reel;") (by decide +kernel)) dX2_cleanDust_45 ?_
          refine lv_iload_n hx hb dX2_cleanDust_48 rfl (lv_at hl 1 rfl) ?_
          refine lv_iconst (v := (1 : Int32)) hx hb dX2_cleanDust_49 (by decide) ?_
          refine lv_iadd hx hb dX2_cleanDust_50 ?_
          refine lv_iload_n hx hb dX2_cleanDust_51 rfl (lv_at hl 2 rfl) ?_
          refine gcallVi (As := [.int (x1 + (1 : Int32)), .int x2]) (rest := [.int r41, .int x2, .ref (adr 16)]) ⟨hx, hb, hml, hown, hts⟩ (c_X1_greyAt l D cI cZ adr A hD (x1 + (1 : Int32)) x2 u41 _ h) (cwV 2 hts gX2_cleanDust_X1_greyAt rfl rfl rfl (by decide +kernel) ⟨Nat.le_of_ble_eq_true rfl, Nat.le_of_ble_eq_true rfl⟩) (va_recv hK hP (ci := 1) (q0 := 1) rfl rfl) hK hP hS rfl hl.1 rfl (Nat.le_of_ble_eq_true rfl) dX2_cleanDust_52 ⟨Nat.le_refl _, Nat.le_refl _⟩ (fun r52 u52 H locs h hP hS => ?_)
          refine lv_iadd hx hb dX2_cleanDust_55 ?_
          refine lv_iconst (v := (2 : Int32)) hx hb dX2_cleanDust_56 (by decide) ?_
          refine lv_idiv hx hb dX2_cleanDust_57 (by decide) ?_
          refine fws_16 hx hb hK hP (hD _) hS h.1 dX2_cleanDust_58 (fun H locs hP hS => ?_)
          have h := h.2
          refine lv_iinc (v := (x2 + 1)) (lv' := [(2, .int (x2 + 1)), (0, .ref (adr 15)), (1, .int x1)]) hx hb dX2_cleanDust_59 hl (k := 2) rfl (congrArg (HAdd.hAdd _) (show Int32.ofInt (1) = (1 : Int32) by decide)) (by decide) rfl (fun ls hl => ?_)
          refine lv_goto (tgt := 2) hx hb dX2_cleanDust_62 (by decide) ?_
          exact ih x1 (x2 + 1) (sA u52 16 (upd (u52.2 16) x2.toNatClampNeg ((r41 + r52) / (2 : Int32)))) _ _ _ (lv_sub hl [1, 2, 0] rfl) hP hS h
  have hl := lv_entry ([.ref (adr 15), .int p1]) (n := 3) (Nat.le_of_ble_eq_true rfl)
  rw [lg_entry_eq]
  generalize (lg_sl ([.ref (adr 15), .int p1]) ++ List.replicate (3 - (lg_sl ([.ref (adr 15), .int p1])).length) Slot.unset).toArray = ls at hl ⊢
  replace hl : lv_has ls 3 [(0, .ref (adr 15)), (1, .int p1)] := hl
  refine lv_iconst (v := (0 : Int32)) hx hb dX2_cleanDust_0 (by decide) ?_
  refine lv_istore_n (lv' := [(2, .int (0 : Int32)), (0, .ref (adr 15)), (1, .int p1)]) hx hb dX2_cleanDust_1 rfl hl (by decide) rfl (fun ls hl => ?_)
  obtain ⟨n, h⟩ := h
  exact L2  n p1 (0 : Int32) u _ _ _ (lv_sub hl [1, 2, 0] rfl) hP hS h
