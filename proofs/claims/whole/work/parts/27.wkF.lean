set_option maxRecDepth 100000 in
set_option maxHeartbeats 4000000 in
theorem c_X2_countUnlikeRaw (l : Launch) (D : va_G) (cI cZ : ClassId) (adr : Nat → Nat) (A : Nat → Prop) (hD : ∀ u, va_D A (fw adr cI cZ u)) (p1 : Int32) (u : US) (post : Int32 → US → Prop) (h : wp_X2_countUnlikeRaw p1 u post) : gMi l yX2_countUnlikeRaw wsX2_countUnlikeRaw 2 D cI cZ (fw adr cI cZ) A [.ref (adr 15), .int p1] u post := by
  refine Met.ofW (cc := cX2_countUnlikeRaw) (maxL := 4) (ret := (some .int)) (by decide) rfl ?_
  intro p e s m args below meth c s₁ B hml hv
  obtain ⟨rfl, hP, hK⟩ := hv
  have hx := B.exec
  have hb := B.bytes
  have hr := B.returns
  have hts := atoms_spec (ws := wsX2_countUnlikeRaw) B.pre
  have hown : s.vm.findClass RX2 = some m.cls := findClass_of_methodNamed B.named
  have hlocks := B.notSynchronized
  have hinX1 : ∀ w ∈ wsX10, w ∈ wsX2_countUnlikeRaw := by decide +kernel
  have hinX2 : ∀ w ∈ wsX20, w ∈ wsX2_countUnlikeRaw := by decide +kernel
  have hS : va_S A s.heap s.heap [] := va_S.rf
  have L4 : ∀ (n : Nat), ∀ (x1 : Int32) (x2 : Int32) (x3 : Int32) (u : US) (H : Heap) (locs : List Loc) (ls : Array Slot), lv_has ls 4 [(0, .ref (adr 15)), (1, .int x1), (2, .int x2), (3, .int x3)] → va_P D vwCl (fw adr cI cZ u) H → va_S A s.heap H locs → wp_X2_countUnlikeRaw_4  post n x1 x2 x3 u → gWi p l e wsX2_countUnlikeRaw 2 s m [.ref (adr 15), .int p1] below meth c D cI cZ (fw adr cI cZ) A post H locs (F0 m 4 ls []) := by
    intro  n
    induction n with
    | zero => intro x1 x2 x3 u H locs ls hl hP hS h; exact False.elim h
    | succ n ih =>
      intro x1 x2 x3 u H locs ls hl hP hS h
      refine lv_iload_n hx hb dX2_countUnlikeRaw_4 rfl (lv_at hl 3 rfl) ?_
      refine lv_aload_n hx hb dX2_countUnlikeRaw_5 rfl (lv_at hl 0 rfl) ?_
      refine fwg_15_0 hx hb hts hinX2 hown hK hP (hts (.fieldLink RX2 9 "FilmBench$Sheet" "film" "LFilmBench$Reel;") (by decide +kernel)) dX2_countUnlikeRaw_6 ?_
      refine fwg_1_2 (v := (u.1 3)) hx hb hts hinX1 hown hK hP (hts (.fieldLink RX2 32 "FilmBench$Reel" "squares" "I") (by decide +kernel)) dX2_countUnlikeRaw_9 rfl ?_
      refine lv_icmp_ge (tgt := 42) hx hb dX2_countUnlikeRaw_12 (by decide) (fun hc => ?_) (fun hc => ?_)
      · have h := h.1 hc
        refine lv_iload_n hx hb dX2_countUnlikeRaw_42 rfl (lv_at hl 2 rfl) ?_
        exact giret hx hb hr hlocks hK hP hS h dX2_countUnlikeRaw_43
      · have h := h.2 hc
        refine lv_aload_n hx hb dX2_countUnlikeRaw_15 rfl (lv_at hl 0 rfl) ?_
        refine fwg_15_3 hx hb hts hinX2 hown hK hP (hts (.fieldLink RX2 23 "FilmBench$Sheet" "now" "[I") (by decide +kernel)) dX2_countUnlikeRaw_16 ?_
        refine lv_iload_n hx hb dX2_countUnlikeRaw_19 rfl (lv_at hl 3 rfl) ?_
        refine fwl_16 (v := ((u.2 16) x3.toNatClampNeg)) hx hb hK hP h.1 dX2_countUnlikeRaw_20 rfl ?_
        have h := h.2
        refine lv_aload_n hx hb dX2_countUnlikeRaw_21 rfl (lv_at hl 0 rfl) ?_
        refine fwg_15_0 hx hb hts hinX2 hown hK hP (hts (.fieldLink RX2 9 "FilmBench$Sheet" "film" "LFilmBench$Reel;") (by decide +kernel)) dX2_countUnlikeRaw_22 ?_
        refine lv_iload_n hx hb dX2_countUnlikeRaw_25 rfl (lv_at hl 1 rfl) ?_
        refine lv_iload_n hx hb dX2_countUnlikeRaw_26 rfl (lv_at hl 3 rfl) ?_
        refine gcallVi (As := [.int x1, .int x3]) (rest := [.int ((u.2 16) x3.toNatClampNeg)]) ⟨hx, hb, hml, hown, hts⟩ (c_X1_greyAt l D cI cZ adr A hD x1 x3 u _ h) (cwV 2 hts gX2_countUnlikeRaw_X1_greyAt rfl rfl rfl (by decide +kernel) ⟨Nat.le_of_ble_eq_true rfl, Nat.le_of_ble_eq_true rfl⟩) (va_recv hK hP (ci := 1) (q0 := 1) rfl rfl) hK hP hS rfl hl.1 rfl (Nat.le_of_ble_eq_true rfl) dX2_countUnlikeRaw_27 ⟨Nat.le_refl _, Nat.le_refl _⟩ (fun r27 u27 H locs h hP hS => ?_)
        refine lv_icmp_eq (tgt := 36) hx hb dX2_countUnlikeRaw_30 (by decide) (fun hc => ?_) (fun hc => ?_)
        · have h := h.1 hc
          refine lv_iinc (v := (x3 + 1)) (lv' := [(3, .int (x3 + 1)), (0, .ref (adr 15)), (1, .int x1), (2, .int x2)]) hx hb dX2_countUnlikeRaw_36 hl (k := 3) rfl (congrArg (HAdd.hAdd _) (show Int32.ofInt (1) = (1 : Int32) by decide)) (by decide) rfl (fun ls hl => ?_)
          refine lv_goto (tgt := 4) hx hb dX2_countUnlikeRaw_39 (by decide) ?_
          exact ih x1 x2 (x3 + 1) u27 _ _ _ (lv_sub hl [1, 2, 3, 0] rfl) hP hS h
        · have h := h.2 hc
          refine lv_iinc (v := (x2 + 1)) (lv' := [(2, .int (x2 + 1)), (0, .ref (adr 15)), (1, .int x1), (3, .int x3)]) hx hb dX2_countUnlikeRaw_33 hl (k := 2) rfl (congrArg (HAdd.hAdd _) (show Int32.ofInt (1) = (1 : Int32) by decide)) (by decide) rfl (fun ls hl => ?_)
          refine lv_iinc (v := (x3 + 1)) (lv' := [(3, .int (x3 + 1)), (2, .int (x2 + 1)), (0, .ref (adr 15)), (1, .int x1)]) hx hb dX2_countUnlikeRaw_36 hl (k := 3) rfl (congrArg (HAdd.hAdd _) (show Int32.ofInt (1) = (1 : Int32) by decide)) (by decide) rfl (fun ls hl => ?_)
          refine lv_goto (tgt := 4) hx hb dX2_countUnlikeRaw_39 (by decide) ?_
          exact ih x1 (x2 + 1) (x3 + 1) u27 _ _ _ (lv_sub hl [2, 3, 1, 0] rfl) hP hS h
  have hl := lv_entry ([.ref (adr 15), .int p1]) (n := 4) (Nat.le_of_ble_eq_true rfl)
  rw [lg_entry_eq]
  generalize (lg_sl ([.ref (adr 15), .int p1]) ++ List.replicate (4 - (lg_sl ([.ref (adr 15), .int p1])).length) Slot.unset).toArray = ls at hl ⊢
  replace hl : lv_has ls 4 [(0, .ref (adr 15)), (1, .int p1)] := hl
  refine lv_iconst (v := (0 : Int32)) hx hb dX2_countUnlikeRaw_0 (by decide) ?_
  refine lv_istore_n (lv' := [(2, .int (0 : Int32)), (0, .ref (adr 15)), (1, .int p1)]) hx hb dX2_countUnlikeRaw_1 rfl hl (by decide) rfl (fun ls hl => ?_)
  refine lv_iconst (v := (0 : Int32)) hx hb dX2_countUnlikeRaw_2 (by decide) ?_
  refine lv_istore_n (lv' := [(3, .int (0 : Int32)), (2, .int (0 : Int32)), (0, .ref (adr 15)), (1, .int p1)]) hx hb dX2_countUnlikeRaw_3 rfl hl (by decide) rfl (fun ls hl => ?_)
  obtain ⟨n, h⟩ := h
  exact L4  n p1 (0 : Int32) (0 : Int32) u _ _ _ (lv_sub hl [2, 3, 1, 0] rfl) hP hS h
set_option maxRecDepth 100000 in
set_option maxHeartbeats 4000000 in
theorem c_X5_told (l : Launch) (D : va_G) (cI cZ : ClassId) (adr : Nat → Nat) (A : Nat → Prop) (hD : ∀ u, va_D A (fw adr cI cZ u)) (p1 : Int32) (p2 : Int32) (u : US) (post : Int32 → US → Prop) (h : wp_X5_told p1 p2 u post) : gMi l yX5_told wsX5_told 6 D cI cZ (fw adr cI cZ) A [.ref (adr 0), .int p1, .int p2] u post := by
  refine Met.ofW (cc := cX5_told) (maxL := 3) (ret := (some .int)) (by decide) rfl ?_
  intro p e s m args below meth c s₁ B hml hv
  obtain ⟨rfl, hP, hK⟩ := hv
  have hx := B.exec
  have hb := B.bytes
  have hr := B.returns
  have hts := atoms_spec (ws := wsX5_told) B.pre
  have hown : s.vm.findClass RX5 = some m.cls := findClass_of_methodNamed B.named
  have hlocks := B.notSynchronized
  have hinX0 : ∀ w ∈ wsX00, w ∈ wsX5_told := by decide +kernel
  have hinX1 : ∀ w ∈ wsX10, w ∈ wsX5_told := by decide +kernel
  have hinX5 : ∀ w ∈ wsX50, w ∈ wsX5_told := by decide +kernel
  have hS : va_S A s.heap s.heap [] := va_S.rf
  have hl := lv_entry ([.ref (adr 0), .int p1, .int p2]) (n := 3) (Nat.le_of_ble_eq_true rfl)
  rw [lg_entry_eq]
  generalize (lg_sl ([.ref (adr 0), .int p1, .int p2]) ++ List.replicate (3 - (lg_sl ([.ref (adr 0), .int p1, .int p2])).length) Slot.unset).toArray = ls at hl ⊢
  replace hl : lv_has ls 3 [(0, .ref (adr 0)), (1, .int p1), (2, .int p2)] := hl
  refine lv_aload_n hx hb dX5_told_0 rfl (lv_at hl 0 rfl) ?_
  refine fwg_0_0 hx hb hts hinX5 hown hK hP (hts (.fieldLink RX5 12 "FilmBench" "film" "LFilmBench$Reel;") (by decide +kernel)) dX5_told_1 ?_
  refine lv_iload_n hx hb dX5_told_4 rfl (lv_at hl 1 rfl) ?_
  refine gcallVi (As := [.int p1]) (rest := []) ⟨hx, hb, hml, hown, hts⟩ (c_X1_hasFrame l D cI cZ adr A hD p1 u _ h) (cwV 1 hts gX5_told_X1_hasFrame rfl rfl rfl (by decide +kernel) ⟨Nat.le_of_ble_eq_true rfl, Nat.le_of_ble_eq_true rfl⟩) (va_recv hK hP (ci := 1) (q0 := 1) rfl rfl) hK hP hS rfl hl.1 rfl (Nat.le_of_ble_eq_true rfl) dX5_told_5 ⟨Nat.le_refl _, Nat.le_refl _⟩ (fun r5 u5 H locs h hP hS => ?_)
  refine lv_if_eq (tgt := 20) hx hb dX5_told_8 (by decide) (fun hc => ?_) (fun hc => ?_)
  · have h := h.1 hc
    refine lv_iconst (v := (-1 : Int32)) hx hb dX5_told_20 (by decide) ?_
    exact giret hx hb hr hlocks hK hP hS h dX5_told_21
  · have h := h.2 hc
    refine lv_iload_n hx hb dX5_told_11 rfl (lv_at hl 2 rfl) ?_
    refine lv_iconst (v := (0 : Int32)) hx hb dX5_told_12 (by decide) ?_
    refine lv_iconst (v := (4 : Int32)) hx hb dX5_told_13 (by decide) ?_
    refine gcallSi (As := [.int p2, .int (0 : Int32), .int (4 : Int32)]) (rest := []) ⟨hx, hb, hml, hown, hts⟩ (c_X5_isWithin l D cI cZ adr A hD p2 (0 : Int32) (4 : Int32) u5 _ h) (va_cwS 3 hts gX5_told_X5_isWithin rfl rfl rfl (by decide +kernel) ⟨Nat.le_of_ble_eq_true rfl, Nat.le_of_ble_eq_true rfl⟩) hK hP hS rfl hl.1 rfl (Nat.le_of_ble_eq_true rfl) dX5_told_14 ⟨Nat.le_refl _, Nat.le_refl _⟩ (fun r14 u14 H locs h hP hS => ?_)
    refine lv_if_ne (tgt := 22) hx hb dX5_told_17 (by decide) (fun hc => ?_) (fun hc => ?_)
    · have h := h.2 hc
      refine lv_aload_n hx hb dX5_told_22 rfl (lv_at hl 0 rfl) ?_
      refine fwg_0_5 hx hb hts hinX5 hown hK hP (hts (.fieldLink RX5 57 "FilmBench" "sheet" "LFilmBench$Sheet;") (by decide +kernel)) dX5_told_23 ?_
      refine lv_iload_n hx hb dX5_told_26 rfl (lv_at hl 1 rfl) ?_
      refine lv_aload_n hx hb dX5_told_27 rfl (lv_at hl 0 rfl) ?_
      refine fwg_0_1 hx hb hts hinX5 hown hK hP (hts (.fieldLink RX5 19 "FilmBench" "layers" "LFilmBench$Layers;") (by decide +kernel)) dX5_told_28 ?_
      refine fwg_3_0 (v := (u14.1 5)) hx hb hts hinX0 hown hK hP (hts (.fieldLink RX5 79 "FilmBench$Layers" "count" "I") (by decide +kernel)) dX5_told_31 rfl ?_
      refine gcallVv (As := [.int p1, .int (u14.1 5)]) (rest := []) ⟨hx, hb, hml, hown, hts⟩ (c_X2_make l D cI cZ adr A hD p1 (u14.1 5) u14 _ h) (cwV 2 hts gX5_told_X2_make rfl rfl rfl (by decide +kernel) ⟨Nat.le_of_ble_eq_true rfl, Nat.le_of_ble_eq_true rfl⟩) (va_recv hK hP (ci := 2) (q0 := 15) rfl rfl) hK hP hS rfl hl.1 rfl (Nat.le_of_ble_eq_true rfl) dX5_told_34 ⟨Nat.le_refl _, Nat.le_refl _⟩ (fun u34 H locs h hP hS => ?_)
      refine lv_iload_n hx hb dX5_told_37 rfl (lv_at hl 2 rfl) ?_
      by_cases hc : p2.toInt < 0 ∨ 3 < p2.toInt
      · refine lv_tableOut (tgt := 144) hx hb dX5_told_38 hc (by decide) ?_
        have h := h.1 hc
        refine lv_aload_n hx hb dX5_told_144 rfl (lv_at hl 0 rfl) ?_
        refine fwg_0_5 hx hb hts hinX5 hown hK hP (hts (.fieldLink RX5 57 "FilmBench" "sheet" "LFilmBench$Sheet;") (by decide +kernel)) dX5_told_145 ?_
        refine lv_iload_n hx hb dX5_told_148 rfl (lv_at hl 1 rfl) ?_
        refine gcallVi (As := [.int p1]) (rest := []) ⟨hx, hb, hml, hown, hts⟩ (c_X2_countUnlikeRaw l D cI cZ adr A hD p1 u34 _ h) (cwV 1 hts gX5_told_X2_countUnlikeRaw rfl rfl rfl (by decide +kernel) ⟨Nat.le_of_ble_eq_true rfl, Nat.le_of_ble_eq_true rfl⟩) (va_recv hK hP (ci := 2) (q0 := 15) rfl rfl) hK hP hS rfl hl.1 rfl (Nat.le_of_ble_eq_true rfl) dX5_told_149 ⟨Nat.le_refl _, Nat.le_refl _⟩ (fun r149 u149 H locs h hP hS => ?_)
        exact giret hx hb hr hlocks hK hP hS h dX5_told_152
      · have hv : p2.toInt = 0 ∨ p2.toInt = 1 ∨ p2.toInt = 2 ∨ p2.toInt = 3 := by omega
        rcases hv with hv | hv | hv | hv
        · refine lv_tableIn (off := 30) (tgt := 68) hx hb dX5_told_38 (by omega) (by omega) (by rw [hv]; rfl) (by decide) ?_
          have h := h.2.1 hv
          refine lv_aload_n hx hb dX5_told_68 rfl (lv_at hl 0 rfl) ?_
          refine fwg_0_5 hx hb hts hinX5 hown hK hP (hts (.fieldLink RX5 57 "FilmBench" "sheet" "LFilmBench$Sheet;") (by decide +kernel)) dX5_told_69 ?_
          refine gcallVi (As := []) (rest := []) ⟨hx, hb, hml, hown, hts⟩ (c_X2_countLost l D cI cZ adr A hD u34 _ h) (cwV 0 hts gX5_told_X2_countLost rfl rfl rfl (by decide +kernel) ⟨Nat.le_of_ble_eq_true rfl, Nat.le_of_ble_eq_true rfl⟩) (va_recv hK hP (ci := 2) (q0 := 15) rfl rfl) hK hP hS rfl hl.1 rfl (Nat.le_of_ble_eq_true rfl) dX5_told_72 ⟨Nat.le_refl _, Nat.le_refl _⟩ (fun r72 u72 H locs h hP hS => ?_)
          exact giret hx hb hr hlocks hK hP hS h dX5_told_75
        · refine lv_tableIn (off := 38) (tgt := 76) hx hb dX5_told_38 (by omega) (by omega) (by rw [hv]; rfl) (by decide) ?_
          have h := h.2.2.1 hv
          refine lv_aload_n hx hb dX5_told_76 rfl (lv_at hl 0 rfl) ?_
          refine fwg_0_5 hx hb hts hinX5 hown hK hP (hts (.fieldLink RX5 57 "FilmBench" "sheet" "LFilmBench$Sheet;") (by decide +kernel)) dX5_told_77 ?_
          refine gcallVi (As := []) (rest := []) ⟨hx, hb, hml, hown, hts⟩ (c_X2_sumOfGreys l D cI cZ adr A hD u34 _ h) (cwV 0 hts gX5_told_X2_sumOfGreys rfl rfl rfl (by decide +kernel) ⟨Nat.le_of_ble_eq_true rfl, Nat.le_of_ble_eq_true rfl⟩) (va_recv hK hP (ci := 2) (q0 := 15) rfl rfl) hK hP hS rfl hl.1 rfl (Nat.le_of_ble_eq_true rfl) dX5_told_80 ⟨Nat.le_refl _, Nat.le_refl _⟩ (fun r80 u80 H locs h hP hS => ?_)
          exact giret hx hb hr hlocks hK hP hS h dX5_told_83
        · refine lv_tableIn (off := 46) (tgt := 84) hx hb dX5_told_38 (by omega) (by omega) (by rw [hv]; rfl) (by decide) ?_
          have h := h.2.2.2.1 hv
          refine lv_aload_n hx hb dX5_told_84 rfl (lv_at hl 0 rfl) ?_
          refine fwg_0_5 hx hb hts hinX5 hown hK hP (hts (.fieldLink RX5 57 "FilmBench" "sheet" "LFilmBench$Sheet;") (by decide +kernel)) dX5_told_85 ?_
          refine gcallVi (As := []) (rest := []) ⟨hx, hb, hml, hown, hts⟩ (c_X2_countLost l D cI cZ adr A hD u34 _ h) (cwV 0 hts gX5_told_X2_countLost rfl rfl rfl (by decide +kernel) ⟨Nat.le_of_ble_eq_true rfl, Nat.le_of_ble_eq_true rfl⟩) (va_recv hK hP (ci := 2) (q0 := 15) rfl rfl) hK hP hS rfl hl.1 rfl (Nat.le_of_ble_eq_true rfl) dX5_told_88 ⟨Nat.le_refl _, Nat.le_refl _⟩ (fun r88 u88 H locs h hP hS => ?_)
          refine lv_aload_n hx hb dX5_told_91 rfl (lv_at hl 0 rfl) ?_
          refine fwg_0_0 hx hb hts hinX5 hown hK hP (hts (.fieldLink RX5 12 "FilmBench" "film" "LFilmBench$Reel;") (by decide +kernel)) dX5_told_92 ?_
          refine fwg_1_2 (v := (u88.1 3)) hx hb hts hinX1 hown hK hP (hts (.fieldLink RX5 83 "FilmBench$Reel" "squares" "I") (by decide +kernel)) dX5_told_95 rfl ?_
          refine lv_icmp_ne (tgt := 106) hx hb dX5_told_98 (by decide) (fun hc => ?_) (fun hc => ?_)
          · have h := h.2 hc
            refine lv_aload_n hx hb dX5_told_106 rfl (lv_at hl 0 rfl) ?_
            refine fwg_0_5 hx hb hts hinX5 hown hK hP (hts (.fieldLink RX5 57 "FilmBench" "sheet" "LFilmBench$Sheet;") (by decide +kernel)) dX5_told_107 ?_
            refine gcallVi (As := []) (rest := []) ⟨hx, hb, hml, hown, hts⟩ (c_X2_leastGrey l D cI cZ adr A hD u88 _ h) (cwV 0 hts gX5_told_X2_leastGrey rfl rfl rfl (by decide +kernel) ⟨Nat.le_of_ble_eq_true rfl, Nat.le_of_ble_eq_true rfl⟩) (va_recv hK hP (ci := 2) (q0 := 15) rfl rfl) hK hP hS rfl hl.1 rfl (Nat.le_of_ble_eq_true rfl) dX5_told_110 ⟨Nat.le_refl _, Nat.le_refl _⟩ (fun r110 u110 H locs h hP hS => ?_)
            exact giret hx hb hr hlocks hK hP hS h dX5_told_113
          · have h := h.1 hc
            refine lv_bipush (v := (-3 : Int32)) hx hb dX5_told_101 (by decide) ?_
            refine lv_goto (tgt := 113) hx hb dX5_told_103 (by decide) ?_
            exact giret hx hb hr hlocks hK hP hS h dX5_told_113
        · refine lv_tableIn (off := 76) (tgt := 114) hx hb dX5_told_38 (by omega) (by omega) (by rw [hv]; rfl) (by decide) ?_
          have h := h.2.2.2.2 hv
          refine lv_aload_n hx hb dX5_told_114 rfl (lv_at hl 0 rfl) ?_
          refine fwg_0_5 hx hb hts hinX5 hown hK hP (hts (.fieldLink RX5 57 "FilmBench" "sheet" "LFilmBench$Sheet;") (by decide +kernel)) dX5_told_115 ?_
          refine gcallVi (As := []) (rest := []) ⟨hx, hb, hml, hown, hts⟩ (c_X2_countLost l D cI cZ adr A hD u34 _ h) (cwV 0 hts gX5_told_X2_countLost rfl rfl rfl (by decide +kernel) ⟨Nat.le_of_ble_eq_true rfl, Nat.le_of_ble_eq_true rfl⟩) (va_recv hK hP (ci := 2) (q0 := 15) rfl rfl) hK hP hS rfl hl.1 rfl (Nat.le_of_ble_eq_true rfl) dX5_told_118 ⟨Nat.le_refl _, Nat.le_refl _⟩ (fun r118 u118 H locs h hP hS => ?_)
          refine lv_aload_n hx hb dX5_told_121 rfl (lv_at hl 0 rfl) ?_
          refine fwg_0_0 hx hb hts hinX5 hown hK hP (hts (.fieldLink RX5 12 "FilmBench" "film" "LFilmBench$Reel;") (by decide +kernel)) dX5_told_122 ?_
          refine fwg_1_2 (v := (u118.1 3)) hx hb hts hinX1 hown hK hP (hts (.fieldLink RX5 83 "FilmBench$Reel" "squares" "I") (by decide +kernel)) dX5_told_125 rfl ?_
          refine lv_icmp_ne (tgt := 136) hx hb dX5_told_128 (by decide) (fun hc => ?_) (fun hc => ?_)
          · have h := h.2 hc
            refine lv_aload_n hx hb dX5_told_136 rfl (lv_at hl 0 rfl) ?_
            refine fwg_0_5 hx hb hts hinX5 hown hK hP (hts (.fieldLink RX5 57 "FilmBench" "sheet" "LFilmBench$Sheet;") (by decide +kernel)) dX5_told_137 ?_
            refine gcallVi (As := []) (rest := []) ⟨hx, hb, hml, hown, hts⟩ (c_X2_greatestGrey l D cI cZ adr A hD u118 _ h) (cwV 0 hts gX5_told_X2_greatestGrey rfl rfl rfl (by decide +kernel) ⟨Nat.le_of_ble_eq_true rfl, Nat.le_of_ble_eq_true rfl⟩) (va_recv hK hP (ci := 2) (q0 := 15) rfl rfl) hK hP hS rfl hl.1 rfl (Nat.le_of_ble_eq_true rfl) dX5_told_140 ⟨Nat.le_refl _, Nat.le_refl _⟩ (fun r140 u140 H locs h hP hS => ?_)
            exact giret hx hb hr hlocks hK hP hS h dX5_told_143
          · have h := h.1 hc
            refine lv_bipush (v := (-3 : Int32)) hx hb dX5_told_131 (by decide) ?_
            refine lv_goto (tgt := 143) hx hb dX5_told_133 (by decide) ?_
            exact giret hx hb hr hlocks hK hP hS h dX5_told_143
    · have h := h.1 hc
      refine lv_iconst (v := (-1 : Int32)) hx hb dX5_told_20 (by decide) ?_
      exact giret hx hb hr hlocks hK hP hS h dX5_told_21
set_option maxRecDepth 100000 in
set_option maxHeartbeats 4000000 in
theorem c_X0_countOn (l : Launch) (D : va_G) (cI cZ : ClassId) (adr : Nat → Nat) (A : Nat → Prop) (hD : ∀ u, va_D A (fw adr cI cZ u))  (u : US) (post : Int32 → US → Prop) (h : wp_X0_countOn  u post) : gMi l yX0_countOn wsX0_countOn 0 D cI cZ (fw adr cI cZ) A [.ref (adr 3)] u post := by
  refine Met.ofW (cc := cX0_countOn) (maxL := 3) (ret := (some .int)) (by decide) rfl ?_
  intro p e s m args below meth c s₁ B hml hv
  obtain ⟨rfl, hP, hK⟩ := hv
  have hx := B.exec
  have hb := B.bytes
  have hr := B.returns
  have hts := atoms_spec (ws := wsX0_countOn) B.pre
  have hown : s.vm.findClass RX0 = some m.cls := findClass_of_methodNamed B.named
  have hlocks := B.notSynchronized
  have hinX0 : ∀ w ∈ wsX00, w ∈ wsX0_countOn := by decide +kernel
  have hS : va_S A s.heap s.heap [] := va_S.rf
  have L4 : ∀ (n : Nat), ∀ (x1 : Int32) (x2 : Int32) (u : US) (H : Heap) (locs : List Loc) (ls : Array Slot), lv_has ls 3 [(0, .ref (adr 3)), (1, .int x1), (2, .int x2)] → va_P D vwCl (fw adr cI cZ u) H → va_S A s.heap H locs → wp_X0_countOn_4  post n x1 x2 u → gWi p l e wsX0_countOn 0 s m [.ref (adr 3)] below meth c D cI cZ (fw adr cI cZ) A post H locs (F0 m 4 ls []) := by
    intro  n
    induction n with
    | zero => intro x1 x2 u H locs ls hl hP hS h; exact False.elim h
    | succ n ih =>
      intro x1 x2 u H locs ls hl hP hS h
      refine lv_iload_n hx hb dX0_countOn_4 rfl (lv_at hl 2 rfl) ?_
      refine lv_aload_n hx hb dX0_countOn_5 rfl (lv_at hl 0 rfl) ?_
      refine fwg_3_0 (v := (u.1 5)) hx hb hts hinX0 hown hK hP (hts (.fieldLink RX0 9 "FilmBench$Layers" "count" "I") (by decide +kernel)) dX0_countOn_6 rfl ?_
      refine lv_icmp_ge (tgt := 30) hx hb dX0_countOn_9 (by decide) (fun hc => ?_) (fun hc => ?_)
      · have h := h.1 hc
        refine lv_iload_n hx hb dX0_countOn_30 rfl (lv_at hl 1 rfl) ?_
        exact giret hx hb hr hlocks hK hP hS h dX0_countOn_31
      · have h := h.2 hc
        refine lv_aload_n hx hb dX0_countOn_12 rfl (lv_at hl 0 rfl) ?_
        refine fwg_3_5 hx hb hts hinX0 hown hK hP (hts (.fieldLink RX0 28 "FilmBench$Layers" "ons" "[Z") (by decide +kernel)) dX0_countOn_13 ?_
        refine lv_iload_n hx hb dX0_countOn_16 rfl (lv_at hl 2 rfl) ?_
        refine fwl_8 (v := ((u.2 8) x2.toNatClampNeg)) hx hb hK hP h.1 dX0_countOn_17 rfl ?_
        have h := h.2
        refine lv_if_eq (tgt := 24) hx hb dX0_countOn_18 (by decide) (fun hc => ?_) (fun hc => ?_)
        · have h := h.1 hc
          refine lv_iinc (v := (x2 + 1)) (lv' := [(2, .int (x2 + 1)), (0, .ref (adr 3)), (1, .int x1)]) hx hb dX0_countOn_24 hl (k := 2) rfl (congrArg (HAdd.hAdd _) (show Int32.ofInt (1) = (1 : Int32) by decide)) (by decide) rfl (fun ls hl => ?_)
          refine lv_goto (tgt := 4) hx hb dX0_countOn_27 (by decide) ?_
          exact ih x1 (x2 + 1) u _ _ _ (lv_sub hl [1, 2, 0] rfl) hP hS h
        · have h := h.2 hc
          refine lv_iinc (v := (x1 + 1)) (lv' := [(1, .int (x1 + 1)), (0, .ref (adr 3)), (2, .int x2)]) hx hb dX0_countOn_21 hl (k := 1) rfl (congrArg (HAdd.hAdd _) (show Int32.ofInt (1) = (1 : Int32) by decide)) (by decide) rfl (fun ls hl => ?_)
          refine lv_iinc (v := (x2 + 1)) (lv' := [(2, .int (x2 + 1)), (1, .int (x1 + 1)), (0, .ref (adr 3))]) hx hb dX0_countOn_24 hl (k := 2) rfl (congrArg (HAdd.hAdd _) (show Int32.ofInt (1) = (1 : Int32) by decide)) (by decide) rfl (fun ls hl => ?_)
          refine lv_goto (tgt := 4) hx hb dX0_countOn_27 (by decide) ?_
          exact ih (x1 + 1) (x2 + 1) u _ _ _ (lv_sub hl [2, 1, 0] rfl) hP hS h
  have hl := lv_entry ([.ref (adr 3)]) (n := 3) (Nat.le_of_ble_eq_true rfl)
  rw [lg_entry_eq]
  generalize (lg_sl ([.ref (adr 3)]) ++ List.replicate (3 - (lg_sl ([.ref (adr 3)])).length) Slot.unset).toArray = ls at hl ⊢
  replace hl : lv_has ls 3 [(0, .ref (adr 3))] := hl
  refine lv_iconst (v := (0 : Int32)) hx hb dX0_countOn_0 (by decide) ?_
  refine lv_istore_n (lv' := [(1, .int (0 : Int32)), (0, .ref (adr 3))]) hx hb dX0_countOn_1 rfl hl (by decide) rfl (fun ls hl => ?_)
  refine lv_iconst (v := (0 : Int32)) hx hb dX0_countOn_2 (by decide) ?_
  refine lv_istore_n (lv' := [(2, .int (0 : Int32)), (1, .int (0 : Int32)), (0, .ref (adr 3))]) hx hb dX0_countOn_3 rfl hl (by decide) rfl (fun ls hl => ?_)
  obtain ⟨n, h⟩ := h
  exact L4  n (0 : Int32) (0 : Int32) u _ _ _ (lv_sub hl [2, 1, 0] rfl) hP hS h
set_option maxRecDepth 100000 in
set_option maxHeartbeats 4000000 in
theorem c_X1_countLost (l : Launch) (D : va_G) (cI cZ : ClassId) (adr : Nat → Nat) (A : Nat → Prop) (hD : ∀ u, va_D A (fw adr cI cZ u))  (u : US) (post : Int32 → US → Prop) (h : wp_X1_countLost  u post) : gMi l yX1_countLost wsX1_countLost 2 D cI cZ (fw adr cI cZ) A [.ref (adr 1)] u post := by
  refine Met.ofW (cc := cX1_countLost) (maxL := 4) (ret := (some .int)) (by decide) rfl ?_
  intro p e s m args below meth c s₁ B hml hv
  obtain ⟨rfl, hP, hK⟩ := hv
  have hx := B.exec
  have hb := B.bytes
  have hr := B.returns
  have hts := atoms_spec (ws := wsX1_countLost) B.pre
  have hown : s.vm.findClass RX1 = some m.cls := findClass_of_methodNamed B.named
  have hlocks := B.notSynchronized
  have hinX1 : ∀ w ∈ wsX10, w ∈ wsX1_countLost := by decide +kernel
  have hS : va_S A s.heap s.heap [] := va_S.rf
  have L14 : ∀ (k4 : Int32 → Int32 → US → Prop) (hk4 : ∀ (x1 : Int32) (x2 : Int32) (u : US) (H : Heap) (locs : List Loc) (ls : Array Slot), lv_has ls 4 [(0, .ref (adr 1)), (1, .int x1), (2, .int x2)] → va_P D vwCl (fw adr cI cZ u) H → va_S A s.heap H locs → k4 x1 x2 u → gWi p l e wsX1_countLost 2 s m [.ref (adr 1)] below meth c D cI cZ (fw adr cI cZ) A post H locs (F0 m 4 ls [])), ∀ (n : Nat), ∀ (x1 : Int32) (x2 : Int32) (x3 : Int32) (u : US) (H : Heap) (locs : List Loc) (ls : Array Slot), lv_has ls 4 [(0, .ref (adr 1)), (1, .int x1), (2, .int x2), (3, .int x3)] → va_P D vwCl (fw adr cI cZ u) H → va_S A s.heap H locs → wp_X1_countLost_14 k4 post n x1 x2 x3 u → gWi p l e wsX1_countLost 2 s m [.ref (adr 1)] below meth c D cI cZ (fw adr cI cZ) A post H locs (F0 m 14 ls []) := by
    intro k4 hk4 n
    induction n with
    | zero => intro x1 x2 x3 u H locs ls hl hP hS h; exact False.elim h
    | succ n ih =>
      intro x1 x2 x3 u H locs ls hl hP hS h
      refine lv_iload_n hx hb dX1_countLost_14 rfl (lv_at hl 3 rfl) ?_
      refine lv_aload_n hx hb dX1_countLost_15 rfl (lv_at hl 0 rfl) ?_
      refine fwg_1_2 (v := (u.1 3)) hx hb hts hinX1 hown hK hP (hts (.fieldLink RX1 22 "FilmBench$Reel" "squares" "I") (by decide +kernel)) dX1_countLost_16 rfl ?_
      refine lv_icmp_ge (tgt := 41) hx hb dX1_countLost_19 (by decide) (fun hc => ?_) (fun hc => ?_)
      · have h := h.1 hc
        refine lv_iinc (v := (x2 + 1)) (lv' := [(2, .int (x2 + 1)), (0, .ref (adr 1)), (1, .int x1), (3, .int x3)]) hx hb dX1_countLost_41 hl (k := 2) rfl (congrArg (HAdd.hAdd _) (show Int32.ofInt (1) = (1 : Int32) by decide)) (by decide) rfl (fun ls hl => ?_)
        refine lv_goto (tgt := 4) hx hb dX1_countLost_44 (by decide) ?_
        exact hk4 x1 (x2 + 1) u _ _ _ (lv_sub hl [1, 2, 0] rfl) hP hS h
      · have h := h.2 hc
        refine lv_aload_n hx hb dX1_countLost_22 rfl (lv_at hl 0 rfl) ?_
        refine lv_iload_n hx hb dX1_countLost_23 rfl (lv_at hl 2 rfl) ?_
        refine lv_iload_n hx hb dX1_countLost_24 rfl (lv_at hl 3 rfl) ?_
        refine gcallVi (As := [.int x2, .int x3]) (rest := []) ⟨hx, hb, hml, hown, hts⟩ (c_X1_greyAt l D cI cZ adr A hD x2 x3 u _ h) (cwV 2 hts gX1_countLost_X1_greyAt rfl rfl rfl (by decide +kernel) ⟨Nat.le_of_ble_eq_true rfl, Nat.le_of_ble_eq_true rfl⟩) (va_recv hK hP (ci := 1) (q0 := 1) rfl rfl) hK hP hS rfl hl.1 rfl (Nat.le_of_ble_eq_true rfl) dX1_countLost_25 ⟨Nat.le_refl _, Nat.le_refl _⟩ (fun r25 u25 H locs h hP hS => ?_)
        refine lv_iconst (v := (-1 : Int32)) hx hb dX1_countLost_28 (by decide) ?_
        refine lv_icmp_ne (tgt := 35) hx hb dX1_countLost_29 (by decide) (fun hc => ?_) (fun hc => ?_)
        · have h := h.2 hc
          refine lv_iinc (v := (x3 + 1)) (lv' := [(3, .int (x3 + 1)), (0, .ref (adr 1)), (1, .int x1), (2, .int x2)]) hx hb dX1_countLost_35 hl (k := 3) rfl (congrArg (HAdd.hAdd _) (show Int32.ofInt (1) = (1 : Int32) by decide)) (by decide) rfl (fun ls hl => ?_)
          refine lv_goto (tgt := 14) hx hb dX1_countLost_38 (by decide) ?_
          exact ih x1 x2 (x3 + 1) u25 _ _ _ (lv_sub hl [1, 2, 3, 0] rfl) hP hS h
        · have h := h.1 hc
          refine lv_iinc (v := (x1 + 1)) (lv' := [(1, .int (x1 + 1)), (0, .ref (adr 1)), (2, .int x2), (3, .int x3)]) hx hb dX1_countLost_32 hl (k := 1) rfl (congrArg (HAdd.hAdd _) (show Int32.ofInt (1) = (1 : Int32) by decide)) (by decide) rfl (fun ls hl => ?_)
          refine lv_iinc (v := (x3 + 1)) (lv' := [(3, .int (x3 + 1)), (1, .int (x1 + 1)), (0, .ref (adr 1)), (2, .int x2)]) hx hb dX1_countLost_35 hl (k := 3) rfl (congrArg (HAdd.hAdd _) (show Int32.ofInt (1) = (1 : Int32) by decide)) (by decide) rfl (fun ls hl => ?_)
          refine lv_goto (tgt := 14) hx hb dX1_countLost_38 (by decide) ?_
          exact ih (x1 + 1) x2 (x3 + 1) u25 _ _ _ (lv_sub hl [2, 1, 3, 0] rfl) hP hS h
  have L4 : ∀ (n : Nat), ∀ (x1 : Int32) (x2 : Int32) (u : US) (H : Heap) (locs : List Loc) (ls : Array Slot), lv_has ls 4 [(0, .ref (adr 1)), (1, .int x1), (2, .int x2)] → va_P D vwCl (fw adr cI cZ u) H → va_S A s.heap H locs → wp_X1_countLost_4  post n x1 x2 u → gWi p l e wsX1_countLost 2 s m [.ref (adr 1)] below meth c D cI cZ (fw adr cI cZ) A post H locs (F0 m 4 ls []) := by
    intro  n
    induction n with
    | zero => intro x1 x2 u H locs ls hl hP hS h; exact False.elim h
    | succ n ih =>
      intro x1 x2 u H locs ls hl hP hS h
      refine lv_iload_n hx hb dX1_countLost_4 rfl (lv_at hl 2 rfl) ?_
      refine lv_aload_n hx hb dX1_countLost_5 rfl (lv_at hl 0 rfl) ?_
      refine fwg_1_3 (v := (u.1 4)) hx hb hts hinX1 hown hK hP (hts (.fieldLink RX1 25 "FilmBench$Reel" "frames" "I") (by decide +kernel)) dX1_countLost_6 rfl ?_
      refine lv_icmp_ge (tgt := 47) hx hb dX1_countLost_9 (by decide) (fun hc => ?_) (fun hc => ?_)
      · have h := h.1 hc
        refine lv_iload_n hx hb dX1_countLost_47 rfl (lv_at hl 1 rfl) ?_
        exact giret hx hb hr hlocks hK hP hS h dX1_countLost_48
      · have h := h.2 hc
        refine lv_iconst (v := (0 : Int32)) hx hb dX1_countLost_12 (by decide) ?_
        refine lv_istore_n (lv' := [(3, .int (0 : Int32)), (0, .ref (adr 1)), (1, .int x1), (2, .int x2)]) hx hb dX1_countLost_13 rfl hl (by decide) rfl (fun ls hl => ?_)
        obtain ⟨n, h⟩ := h
        exact L14 _ ih n x1 x2 (0 : Int32) u _ _ _ (lv_sub hl [1, 2, 3, 0] rfl) hP hS h
  have hl := lv_entry ([.ref (adr 1)]) (n := 4) (Nat.le_of_ble_eq_true rfl)
  rw [lg_entry_eq]
  generalize (lg_sl ([.ref (adr 1)]) ++ List.replicate (4 - (lg_sl ([.ref (adr 1)])).length) Slot.unset).toArray = ls at hl ⊢
  replace hl : lv_has ls 4 [(0, .ref (adr 1))] := hl
  refine lv_iconst (v := (0 : Int32)) hx hb dX1_countLost_0 (by decide) ?_
  refine lv_istore_n (lv' := [(1, .int (0 : Int32)), (0, .ref (adr 1))]) hx hb dX1_countLost_1 rfl hl (by decide) rfl (fun ls hl => ?_)
  refine lv_iconst (v := (0 : Int32)) hx hb dX1_countLost_2 (by decide) ?_
  refine lv_istore_n (lv' := [(2, .int (0 : Int32)), (1, .int (0 : Int32)), (0, .ref (adr 1))]) hx hb dX1_countLost_3 rfl hl (by decide) rfl (fun ls hl => ?_)
  obtain ⟨n, h⟩ := h
  exact L4  n (0 : Int32) (0 : Int32) u _ _ _ (lv_sub hl [2, 1, 0] rfl) hP hS h
set_option maxRecDepth 100000 in
set_option maxHeartbeats 4000000 in
theorem c_X5_many (l : Launch) (D : va_G) (cI cZ : ClassId) (adr : Nat → Nat) (A : Nat → Prop) (hD : ∀ u, va_D A (fw adr cI cZ u)) (p1 : Int32) (u : US) (post : Int32 → US → Prop) (h : wp_X5_many p1 u post) : gMi l yX5_many wsX5_many 3 D cI cZ (fw adr cI cZ) A [.ref (adr 0), .int p1] u post := by
  refine Met.ofW (cc := cX5_many) (maxL := 2) (ret := (some .int)) (by decide) rfl ?_
  intro p e s m args below meth c s₁ B hml hv
  obtain ⟨rfl, hP, hK⟩ := hv
  have hx := B.exec
  have hb := B.bytes
  have hr := B.returns
  have hts := atoms_spec (ws := wsX5_many) B.pre
  have hown : s.vm.findClass RX5 = some m.cls := findClass_of_methodNamed B.named
  have hlocks := B.notSynchronized
  have hinX0 : ∀ w ∈ wsX00, w ∈ wsX5_many := by decide +kernel
  have hinX1 : ∀ w ∈ wsX10, w ∈ wsX5_many := by decide +kernel
  have hinX5 : ∀ w ∈ wsX50, w ∈ wsX5_many := by decide +kernel
  have hS : va_S A s.heap s.heap [] := va_S.rf
  have hl := lv_entry ([.ref (adr 0), .int p1]) (n := 2) (Nat.le_of_ble_eq_true rfl)
  rw [lg_entry_eq]
  generalize (lg_sl ([.ref (adr 0), .int p1]) ++ List.replicate (2 - (lg_sl ([.ref (adr 0), .int p1])).length) Slot.unset).toArray = ls at hl ⊢
  replace hl : lv_has ls 2 [(0, .ref (adr 0)), (1, .int p1)] := hl
  refine lv_iload_n hx hb dX5_many_0 rfl (lv_at hl 1 rfl) ?_
  by_cases hc : p1.toInt < 0 ∨ 8 < p1.toInt
  · refine lv_tableOut (tgt := 121) hx hb dX5_many_1 hc (by decide) ?_
    have h := h.1 hc
    refine lv_iconst (v := (-1 : Int32)) hx hb dX5_many_121 (by decide) ?_
    exact giret hx hb hr hlocks hK hP hS h dX5_many_122
  · have hv : p1.toInt = 0 ∨ p1.toInt = 1 ∨ p1.toInt = 2 ∨ p1.toInt = 3 ∨ p1.toInt = 4 ∨ p1.toInt = 5 ∨ p1.toInt = 6 ∨ p1.toInt = 7 ∨ p1.toInt = 8 := by omega
    rcases hv with hv | hv | hv | hv | hv | hv | hv | hv | hv
    · refine lv_tableIn (off := 51) (tgt := 52) hx hb dX5_many_1 (by omega) (by omega) (by rw [hv]; rfl) (by decide) ?_
      have h := h.2.1 hv
      refine lv_aload_n hx hb dX5_many_52 rfl (lv_at hl 0 rfl) ?_
      refine fwg_0_0 hx hb hts hinX5 hown hK hP (hts (.fieldLink RX5 12 "FilmBench" "film" "LFilmBench$Reel;") (by decide +kernel)) dX5_many_53 ?_
      refine fwg_1_0 (v := (u.1 1)) hx hb hts hinX1 hown hK hP (hts (.fieldLink RX5 210 "FilmBench$Reel" "high" "I") (by decide +kernel)) dX5_many_56 rfl ?_
      exact giret hx hb hr hlocks hK hP hS h dX5_many_59
    · refine lv_tableIn (off := 59) (tgt := 60) hx hb dX5_many_1 (by omega) (by omega) (by rw [hv]; rfl) (by decide) ?_
      have h := h.2.2.1 hv
      refine lv_aload_n hx hb dX5_many_60 rfl (lv_at hl 0 rfl) ?_
      refine fwg_0_0 hx hb hts hinX5 hown hK hP (hts (.fieldLink RX5 12 "FilmBench" "film" "LFilmBench$Reel;") (by decide +kernel)) dX5_many_61 ?_
      refine fwg_1_1 (v := (u.1 2)) hx hb hts hinX1 hown hK hP (hts (.fieldLink RX5 116 "FilmBench$Reel" "wide" "I") (by decide +kernel)) dX5_many_64 rfl ?_
      exact giret hx hb hr hlocks hK hP hS h dX5_many_67
    · refine lv_tableIn (off := 67) (tgt := 68) hx hb dX5_many_1 (by omega) (by omega) (by rw [hv]; rfl) (by decide) ?_
      have h := h.2.2.2.1 hv
      refine lv_aload_n hx hb dX5_many_68 rfl (lv_at hl 0 rfl) ?_
      refine fwg_0_0 hx hb hts hinX5 hown hK hP (hts (.fieldLink RX5 12 "FilmBench" "film" "LFilmBench$Reel;") (by decide +kernel)) dX5_many_69 ?_
      refine fwg_1_3 (v := (u.1 4)) hx hb hts hinX1 hown hK hP (hts (.fieldLink RX5 86 "FilmBench$Reel" "frames" "I") (by decide +kernel)) dX5_many_72 rfl ?_
      exact giret hx hb hr hlocks hK hP hS h dX5_many_75
    · refine lv_tableIn (off := 75) (tgt := 76) hx hb dX5_many_1 (by omega) (by omega) (by rw [hv]; rfl) (by decide) ?_
      have h := h.2.2.2.2.1 hv
      refine lv_aload_n hx hb dX5_many_76 rfl (lv_at hl 0 rfl) ?_
      refine fwg_0_1 hx hb hts hinX5 hown hK hP (hts (.fieldLink RX5 19 "FilmBench" "layers" "LFilmBench$Layers;") (by decide +kernel)) dX5_many_77 ?_
      refine fwg_3_0 (v := (u.1 5)) hx hb hts hinX0 hown hK hP (hts (.fieldLink RX5 79 "FilmBench$Layers" "count" "I") (by decide +kernel)) dX5_many_80 rfl ?_
      exact giret hx hb hr hlocks hK hP hS h dX5_many_83
    · refine lv_tableIn (off := 83) (tgt := 84) hx hb dX5_many_1 (by omega) (by omega) (by rw [hv]; rfl) (by decide) ?_
      have h := h.2.2.2.2.2.1 hv
      refine lv_aload_n hx hb dX5_many_84 rfl (lv_at hl 0 rfl) ?_
      refine fwg_0_1 hx hb hts hinX5 hown hK hP (hts (.fieldLink RX5 19 "FilmBench" "layers" "LFilmBench$Layers;") (by decide +kernel)) dX5_many_85 ?_
      refine gcallVi (As := []) (rest := []) ⟨hx, hb, hml, hown, hts⟩ (c_X0_countOn l D cI cZ adr A hD u _ h) (cwV 0 hts gX5_many_X0_countOn rfl rfl rfl (by decide +kernel) ⟨Nat.le_of_ble_eq_true rfl, Nat.le_of_ble_eq_true rfl⟩) (va_recv hK hP (ci := 0) (q0 := 3) rfl rfl) hK hP hS rfl hl.1 rfl (Nat.le_of_ble_eq_true rfl) dX5_many_88 ⟨Nat.le_refl _, Nat.le_refl _⟩ (fun r88 u88 H locs h hP hS => ?_)
      exact giret hx hb hr hlocks hK hP hS h dX5_many_91
    · refine lv_tableIn (off := 91) (tgt := 92) hx hb dX5_many_1 (by omega) (by omega) (by rw [hv]; rfl) (by decide) ?_
      have h := h.2.2.2.2.2.2.1 hv
      refine lv_aload_n hx hb dX5_many_92 rfl (lv_at hl 0 rfl) ?_
      refine fwg_0_0 hx hb hts hinX5 hown hK hP (hts (.fieldLink RX5 12 "FilmBench" "film" "LFilmBench$Reel;") (by decide +kernel)) dX5_many_93 ?_
      refine gcallVi (As := []) (rest := []) ⟨hx, hb, hml, hown, hts⟩ (c_X1_countLost l D cI cZ adr A hD u _ h) (cwV 0 hts gX5_many_X1_countLost rfl rfl rfl (by decide +kernel) ⟨Nat.le_of_ble_eq_true rfl, Nat.le_of_ble_eq_true rfl⟩) (va_recv hK hP (ci := 1) (q0 := 1) rfl rfl) hK hP hS rfl hl.1 rfl (Nat.le_of_ble_eq_true rfl) dX5_many_96 ⟨Nat.le_refl _, Nat.le_refl _⟩ (fun r96 u96 H locs h hP hS => ?_)
      exact giret hx hb hr hlocks hK hP hS h dX5_many_99
    · refine lv_tableIn (off := 99) (tgt := 100) hx hb dX5_many_1 (by omega) (by omega) (by rw [hv]; rfl) (by decide) ?_
      have h := h.2.2.2.2.2.2.2.1 hv
      refine lv_aload_n hx hb dX5_many_100 rfl (lv_at hl 0 rfl) ?_
      refine fwg_0_2 hx hb hts hinX5 hown hK hP (hts (.fieldLink RX5 23 "FilmBench" "rules" "[I") (by decide +kernel)) dX5_many_101 ?_
      refine lv_iconst (v := (0 : Int32)) hx hb dX5_many_104 (by decide) ?_
      refine fwl_9 (v := ((u.2 9) (0 : Int32).toNatClampNeg)) hx hb hK hP (by unfold vp_in; decide) dX5_many_105 rfl ?_
      exact giret hx hb hr hlocks hK hP hS h dX5_many_106
    · refine lv_tableIn (off := 106) (tgt := 107) hx hb dX5_many_1 (by omega) (by omega) (by rw [hv]; rfl) (by decide) ?_
      have h := h.2.2.2.2.2.2.2.2.1 hv
      refine lv_aload_n hx hb dX5_many_107 rfl (lv_at hl 0 rfl) ?_
      refine fwg_0_2 hx hb hts hinX5 hown hK hP (hts (.fieldLink RX5 23 "FilmBench" "rules" "[I") (by decide +kernel)) dX5_many_108 ?_
      refine lv_iconst (v := (1 : Int32)) hx hb dX5_many_111 (by decide) ?_
      refine fwl_9 (v := ((u.2 9) (1 : Int32).toNatClampNeg)) hx hb hK hP (by unfold vp_in; decide) dX5_many_112 rfl ?_
      exact giret hx hb hr hlocks hK hP hS h dX5_many_113
    · refine lv_tableIn (off := 113) (tgt := 114) hx hb dX5_many_1 (by omega) (by omega) (by rw [hv]; rfl) (by decide) ?_
      have h := h.2.2.2.2.2.2.2.2.2 hv
      refine lv_aload_n hx hb dX5_many_114 rfl (lv_at hl 0 rfl) ?_
      refine fwg_0_2 hx hb hts hinX5 hown hK hP (hts (.fieldLink RX5 23 "FilmBench" "rules" "[I") (by decide +kernel)) dX5_many_115 ?_
      refine lv_iconst (v := (2 : Int32)) hx hb dX5_many_118 (by decide) ?_
      refine fwl_9 (v := ((u.2 9) (2 : Int32).toNatClampNeg)) hx hb hK hP (by unfold vp_in; decide) dX5_many_119 rfl ?_
      exact giret hx hb hr hlocks hK hP hS h dX5_many_120
set_option maxRecDepth 100000 in
set_option maxHeartbeats 4000000 in
theorem c_X1_copyFrom_19 (l : Launch) (D : va_G) (cI cZ : ClassId) (adr : Nat → Nat) (A : Nat → Prop) (hD : ∀ u, va_D A (fw adr cI cZ u))  (u : US) (post : US → Prop) (h : wp_X1_copyFrom_19  u post) : gMv l yX1_copyFrom wsX1_copyFrom 1 D cI cZ (fw adr cI cZ) A [.ref (adr 19), .ref (adr 1)] u post := by
  refine Met.ofW (cc := cX1_copyFrom) (maxL := 2) (ret := none) (by decide) rfl ?_
  intro p e s m args below meth c s₁ B hml hv
  obtain ⟨rfl, hP, hK⟩ := hv
  have hx := B.exec
  have hb := B.bytes
  have hr := B.returns
  have hts := atoms_spec (ws := wsX1_copyFrom) B.pre
  have hown : s.vm.findClass RX1 = some m.cls := findClass_of_methodNamed B.named
  have hlocks := B.notSynchronized
  have hinX1 : ∀ w ∈ wsX10, w ∈ wsX1_copyFrom := by decide +kernel
  have hS : va_S A s.heap s.heap [] := va_S.rf
  have hl := lv_entry ([.ref (adr 19), .ref (adr 1)]) (n := 2) (Nat.le_of_ble_eq_true rfl)
  rw [lg_entry_eq]
  generalize (lg_sl ([.ref (adr 19), .ref (adr 1)]) ++ List.replicate (2 - (lg_sl ([.ref (adr 19), .ref (adr 1)])).length) Slot.unset).toArray = ls at hl ⊢
  replace hl : lv_has ls 2 [(0, .ref (adr 19)), (1, .ref (adr 1))] := hl
  refine lv_aload_n hx hb dX1_copyFrom_0 rfl (lv_at hl 0 rfl) ?_
  refine lv_aload_n hx hb dX1_copyFrom_1 rfl (lv_at hl 1 rfl) ?_
  refine fwg_1_0 (v := (u.1 1)) hx hb hts hinX1 hown hK hP (hts (.fieldLink RX1 15 "FilmBench$Reel" "high" "I") (by decide +kernel)) dX1_copyFrom_2 rfl ?_
  refine fwp_19_0 (v := (u.1 1)) hx hb hts hinX1 hown hK hP (hD _) hS (hts (.fieldLink RX1 15 "FilmBench$Reel" "high" "I") (by decide +kernel)) dX1_copyFrom_5 (fun H locs hP hS => ?_)
  refine lv_aload_n hx hb dX1_copyFrom_8 rfl (lv_at hl 0 rfl) ?_
  refine lv_aload_n hx hb dX1_copyFrom_9 rfl (lv_at hl 1 rfl) ?_
  refine fwg_1_1 (v := (u.1 2)) hx hb hts hinX1 hown hK hP (hts (.fieldLink RX1 19 "FilmBench$Reel" "wide" "I") (by decide +kernel)) dX1_copyFrom_10 rfl ?_
  refine fwp_19_1 (v := (u.1 2)) hx hb hts hinX1 hown hK hP (hD _) hS (hts (.fieldLink RX1 19 "FilmBench$Reel" "wide" "I") (by decide +kernel)) dX1_copyFrom_13 (fun H locs hP hS => ?_)
  refine lv_aload_n hx hb dX1_copyFrom_16 rfl (lv_at hl 0 rfl) ?_
  refine lv_aload_n hx hb dX1_copyFrom_17 rfl (lv_at hl 1 rfl) ?_
  refine fwg_1_2 (v := (u.1 3)) hx hb hts hinX1 hown hK hP (hts (.fieldLink RX1 22 "FilmBench$Reel" "squares" "I") (by decide +kernel)) dX1_copyFrom_18 rfl ?_
  refine fwp_19_2 (v := (u.1 3)) hx hb hts hinX1 hown hK hP (hD _) hS (hts (.fieldLink RX1 22 "FilmBench$Reel" "squares" "I") (by decide +kernel)) dX1_copyFrom_21 (fun H locs hP hS => ?_)
  refine lv_aload_n hx hb dX1_copyFrom_24 rfl (lv_at hl 0 rfl) ?_
  refine lv_aload_n hx hb dX1_copyFrom_25 rfl (lv_at hl 1 rfl) ?_
  refine fwg_1_3 (v := (u.1 4)) hx hb hts hinX1 hown hK hP (hts (.fieldLink RX1 25 "FilmBench$Reel" "frames" "I") (by decide +kernel)) dX1_copyFrom_26 rfl ?_
  refine fwp_19_3 (v := (u.1 4)) hx hb hts hinX1 hown hK hP (hD _) hS (hts (.fieldLink RX1 25 "FilmBench$Reel" "frames" "I") (by decide +kernel)) dX1_copyFrom_29 (fun H locs hP hS => ?_)
  refine lv_aload_n hx hb dX1_copyFrom_32 rfl (lv_at hl 1 rfl) ?_
  refine fwg_1_4 hx hb hts hinX1 hown hK hP (hts (.fieldLink RX1 9 "FilmBench$Reel" "greys" "[I") (by decide +kernel)) dX1_copyFrom_33 ?_
  refine lv_iconst (v := (0 : Int32)) hx hb dX1_copyFrom_36 (by decide) ?_
  refine lv_aload_n hx hb dX1_copyFrom_37 rfl (lv_at hl 0 rfl) ?_
  refine fwg_19_4 hx hb hts hinX1 hown hK hP (hts (.fieldLink RX1 9 "FilmBench$Reel" "greys" "[I") (by decide +kernel)) dX1_copyFrom_38 ?_
  refine lv_iconst (v := (0 : Int32)) hx hb dX1_copyFrom_41 (by decide) ?_
  refine lv_sipush (v := (360 : Int32)) hx hb dX1_copyFrom_42 (by decide) ?_
  refine gcopy hx hb (hml.trans hl.1.symm) (own := RX1) hown hts (by decide +kernel) hK hP (hD _) hS 2 20 (a0 := adr 2) (a1 := adr 20) (n0 := 360) (n1 := 360) rfl rfl (by unfold gcpOk; decide) (Nat.le_of_ble_eq_true rfl) (Nat.le_of_ble_eq_true rfl) dX1_copyFrom_45 (fun H locs hP hS => ?_)
  replace hP : va_P D vwCl (fw adr cI cZ (sA (si (si (si (si u 15 (u.1 1)) 16 (u.1 2)) 17 (u.1 3)) 18 (u.1 4)) 20 (gcp (u.2 2) (u.2 20) (0 : Int32) (0 : Int32) (360 : Int32)))) H := hP
  exact gvret hx hb hr hlocks hK hP hS h dX1_copyFrom_48
set_option maxRecDepth 100000 in
set_option maxHeartbeats 4000000 in
theorem c_X1_copyFrom_1 (l : Launch) (D : va_G) (cI cZ : ClassId) (adr : Nat → Nat) (A : Nat → Prop) (hD : ∀ u, va_D A (fw adr cI cZ u))  (u : US) (post : US → Prop) (h : wp_X1_copyFrom_1  u post) : gMv l yX1_copyFrom wsX1_copyFrom 1 D cI cZ (fw adr cI cZ) A [.ref (adr 1), .ref (adr 19)] u post := by
  refine Met.ofW (cc := cX1_copyFrom) (maxL := 2) (ret := none) (by decide) rfl ?_
  intro p e s m args below meth c s₁ B hml hv
  obtain ⟨rfl, hP, hK⟩ := hv
  have hx := B.exec
  have hb := B.bytes
  have hr := B.returns
  have hts := atoms_spec (ws := wsX1_copyFrom) B.pre
  have hown : s.vm.findClass RX1 = some m.cls := findClass_of_methodNamed B.named
  have hlocks := B.notSynchronized
  have hinX1 : ∀ w ∈ wsX10, w ∈ wsX1_copyFrom := by decide +kernel
  have hS : va_S A s.heap s.heap [] := va_S.rf
  have hl := lv_entry ([.ref (adr 1), .ref (adr 19)]) (n := 2) (Nat.le_of_ble_eq_true rfl)
  rw [lg_entry_eq]
  generalize (lg_sl ([.ref (adr 1), .ref (adr 19)]) ++ List.replicate (2 - (lg_sl ([.ref (adr 1), .ref (adr 19)])).length) Slot.unset).toArray = ls at hl ⊢
  replace hl : lv_has ls 2 [(0, .ref (adr 1)), (1, .ref (adr 19))] := hl
  refine lv_aload_n hx hb dX1_copyFrom_0 rfl (lv_at hl 0 rfl) ?_
  refine lv_aload_n hx hb dX1_copyFrom_1 rfl (lv_at hl 1 rfl) ?_
  refine fwg_19_0 (v := (u.1 15)) hx hb hts hinX1 hown hK hP (hts (.fieldLink RX1 15 "FilmBench$Reel" "high" "I") (by decide +kernel)) dX1_copyFrom_2 rfl ?_
  refine fwp_1_0 (v := (u.1 15)) hx hb hts hinX1 hown hK hP (hD _) hS (hts (.fieldLink RX1 15 "FilmBench$Reel" "high" "I") (by decide +kernel)) dX1_copyFrom_5 (fun H locs hP hS => ?_)
  refine lv_aload_n hx hb dX1_copyFrom_8 rfl (lv_at hl 0 rfl) ?_
  refine lv_aload_n hx hb dX1_copyFrom_9 rfl (lv_at hl 1 rfl) ?_
  refine fwg_19_1 (v := (u.1 16)) hx hb hts hinX1 hown hK hP (hts (.fieldLink RX1 19 "FilmBench$Reel" "wide" "I") (by decide +kernel)) dX1_copyFrom_10 rfl ?_
  refine fwp_1_1 (v := (u.1 16)) hx hb hts hinX1 hown hK hP (hD _) hS (hts (.fieldLink RX1 19 "FilmBench$Reel" "wide" "I") (by decide +kernel)) dX1_copyFrom_13 (fun H locs hP hS => ?_)
  refine lv_aload_n hx hb dX1_copyFrom_16 rfl (lv_at hl 0 rfl) ?_
  refine lv_aload_n hx hb dX1_copyFrom_17 rfl (lv_at hl 1 rfl) ?_
  refine fwg_19_2 (v := (u.1 17)) hx hb hts hinX1 hown hK hP (hts (.fieldLink RX1 22 "FilmBench$Reel" "squares" "I") (by decide +kernel)) dX1_copyFrom_18 rfl ?_
  refine fwp_1_2 (v := (u.1 17)) hx hb hts hinX1 hown hK hP (hD _) hS (hts (.fieldLink RX1 22 "FilmBench$Reel" "squares" "I") (by decide +kernel)) dX1_copyFrom_21 (fun H locs hP hS => ?_)
  refine lv_aload_n hx hb dX1_copyFrom_24 rfl (lv_at hl 0 rfl) ?_
  refine lv_aload_n hx hb dX1_copyFrom_25 rfl (lv_at hl 1 rfl) ?_
  refine fwg_19_3 (v := (u.1 18)) hx hb hts hinX1 hown hK hP (hts (.fieldLink RX1 25 "FilmBench$Reel" "frames" "I") (by decide +kernel)) dX1_copyFrom_26 rfl ?_
  refine fwp_1_3 (v := (u.1 18)) hx hb hts hinX1 hown hK hP (hD _) hS (hts (.fieldLink RX1 25 "FilmBench$Reel" "frames" "I") (by decide +kernel)) dX1_copyFrom_29 (fun H locs hP hS => ?_)
  refine lv_aload_n hx hb dX1_copyFrom_32 rfl (lv_at hl 1 rfl) ?_
  refine fwg_19_4 hx hb hts hinX1 hown hK hP (hts (.fieldLink RX1 9 "FilmBench$Reel" "greys" "[I") (by decide +kernel)) dX1_copyFrom_33 ?_
  refine lv_iconst (v := (0 : Int32)) hx hb dX1_copyFrom_36 (by decide) ?_
  refine lv_aload_n hx hb dX1_copyFrom_37 rfl (lv_at hl 0 rfl) ?_
  refine fwg_1_4 hx hb hts hinX1 hown hK hP (hts (.fieldLink RX1 9 "FilmBench$Reel" "greys" "[I") (by decide +kernel)) dX1_copyFrom_38 ?_
  refine lv_iconst (v := (0 : Int32)) hx hb dX1_copyFrom_41 (by decide) ?_
  refine lv_sipush (v := (360 : Int32)) hx hb dX1_copyFrom_42 (by decide) ?_
  refine gcopy hx hb (hml.trans hl.1.symm) (own := RX1) hown hts (by decide +kernel) hK hP (hD _) hS 20 2 (a0 := adr 20) (a1 := adr 2) (n0 := 360) (n1 := 360) rfl rfl (by unfold gcpOk; decide) (Nat.le_of_ble_eq_true rfl) (Nat.le_of_ble_eq_true rfl) dX1_copyFrom_45 (fun H locs hP hS => ?_)
  replace hP : va_P D vwCl (fw adr cI cZ (sA (si (si (si (si u 1 (u.1 15)) 2 (u.1 16)) 3 (u.1 17)) 4 (u.1 18)) 2 (gcp (u.2 20) (u.2 2) (0 : Int32) (0 : Int32) (360 : Int32)))) H := hP
  exact gvret hx hb hr hlocks hK hP hS h dX1_copyFrom_48
set_option maxRecDepth 100000 in
set_option maxHeartbeats 4000000 in
theorem c_X0_copyFrom_21 (l : Launch) (D : va_G) (cI cZ : ClassId) (adr : Nat → Nat) (A : Nat → Prop) (hD : ∀ u, va_D A (fw adr cI cZ u))  (u : US) (post : US → Prop) (h : wp_X0_copyFrom_21  u post) : gMv l yX0_copyFrom wsX0_copyFrom 0 D cI cZ (fw adr cI cZ) A [.ref (adr 21), .ref (adr 3)] u post := by
  refine Met.ofW (cc := cX0_copyFrom) (maxL := 3) (ret := none) (by decide) rfl ?_
  intro p e s m args below meth c s₁ B hml hv
  obtain ⟨rfl, hP, hK⟩ := hv
  have hx := B.exec
  have hb := B.bytes
  have hr := B.returns
  have hts := atoms_spec (ws := wsX0_copyFrom) B.pre
  have hown : s.vm.findClass RX0 = some m.cls := findClass_of_methodNamed B.named
  have hlocks := B.notSynchronized
  have hinX0 : ∀ w ∈ wsX00, w ∈ wsX0_copyFrom := by decide +kernel
  have hS : va_S A s.heap s.heap [] := va_S.rf
  have L10 : ∀ (n : Nat), ∀ (x2 : Int32) (u : US) (H : Heap) (locs : List Loc) (ls : Array Slot), lv_has ls 3 [(0, .ref (adr 21)), (1, .ref (adr 3)), (2, .int x2)] → va_P D vwCl (fw adr cI cZ u) H → va_S A s.heap H locs → wp_X0_copyFrom_21_10  post n x2 u → gWv p l e wsX0_copyFrom 0 s m [.ref (adr 21), .ref (adr 3)] below meth c D cI cZ (fw adr cI cZ) A post H locs (F0 m 10 ls []) := by
    intro  n
    induction n with
    | zero => intro x2 u H locs ls hl hP hS h; exact False.elim h
    | succ n ih =>
      intro x2 u H locs ls hl hP hS h
      refine lv_iload_n hx hb dX0_copyFrom_10 rfl (lv_at hl 2 rfl) ?_
      refine lv_bipush (v := (12 : Int32)) hx hb dX0_copyFrom_11 (by decide) ?_
      refine lv_icmp_ge (tgt := 82) hx hb dX0_copyFrom_13 (by decide) (fun hc => ?_) (fun hc => ?_)
      · have h := h.1 hc
        exact gvret hx hb hr hlocks hK hP hS h dX0_copyFrom_82
      · have h := h.2 hc
        refine lv_aload_n hx hb dX0_copyFrom_16 rfl (lv_at hl 0 rfl) ?_
        refine fwg_21_1 hx hb hts hinX0 hown hK hP (hts (.fieldLink RX0 15 "FilmBench$Layers" "kinds" "[I") (by decide +kernel)) dX0_copyFrom_17 ?_
        refine lv_iload_n hx hb dX0_copyFrom_20 rfl (lv_at hl 2 rfl) ?_
        refine lv_aload_n hx hb dX0_copyFrom_21 rfl (lv_at hl 1 rfl) ?_
        refine fwg_3_1 hx hb hts hinX0 hown hK hP (hts (.fieldLink RX0 15 "FilmBench$Layers" "kinds" "[I") (by decide +kernel)) dX0_copyFrom_22 ?_
        refine lv_iload_n hx hb dX0_copyFrom_25 rfl (lv_at hl 2 rfl) ?_
        refine fwl_4 (v := ((u.2 4) x2.toNatClampNeg)) hx hb hK hP h.1 dX0_copyFrom_26 rfl ?_
        have h := h.2
        refine fws_22 hx hb hK hP (hD _) hS h.1 dX0_copyFrom_27 (fun H locs hP hS => ?_)
        have h := h.2
        refine lv_aload_n hx hb dX0_copyFrom_28 rfl (lv_at hl 0 rfl) ?_
        refine fwg_21_2 hx hb hts hinX0 hown hK hP (hts (.fieldLink RX0 19 "FilmBench$Layers" "owners" "[I") (by decide +kernel)) dX0_copyFrom_29 ?_
        refine lv_iload_n hx hb dX0_copyFrom_32 rfl (lv_at hl 2 rfl) ?_
        refine lv_aload_n hx hb dX0_copyFrom_33 rfl (lv_at hl 1 rfl) ?_
        refine fwg_3_2 hx hb hts hinX0 hown hK hP (hts (.fieldLink RX0 19 "FilmBench$Layers" "owners" "[I") (by decide +kernel)) dX0_copyFrom_34 ?_
        refine lv_iload_n hx hb dX0_copyFrom_37 rfl (lv_at hl 2 rfl) ?_
        refine fwl_5 (v := ((u.2 5) x2.toNatClampNeg)) hx hb hK hP h.1 dX0_copyFrom_38 rfl ?_
        have h := h.2
        refine fws_23 hx hb hK hP (hD _) hS h.1 dX0_copyFrom_39 (fun H locs hP hS => ?_)
        have h := h.2
        refine lv_aload_n hx hb dX0_copyFrom_40 rfl (lv_at hl 0 rfl) ?_
        refine fwg_21_3 hx hb hts hinX0 hown hK hP (hts (.fieldLink RX0 22 "FilmBench$Layers" "as" "[I") (by decide +kernel)) dX0_copyFrom_41 ?_
        refine lv_iload_n hx hb dX0_copyFrom_44 rfl (lv_at hl 2 rfl) ?_
        refine lv_aload_n hx hb dX0_copyFrom_45 rfl (lv_at hl 1 rfl) ?_
        refine fwg_3_3 hx hb hts hinX0 hown hK hP (hts (.fieldLink RX0 22 "FilmBench$Layers" "as" "[I") (by decide +kernel)) dX0_copyFrom_46 ?_
        refine lv_iload_n hx hb dX0_copyFrom_49 rfl (lv_at hl 2 rfl) ?_
        refine fwl_6 (v := ((u.2 6) x2.toNatClampNeg)) hx hb hK hP h.1 dX0_copyFrom_50 rfl ?_
        have h := h.2
        refine fws_24 hx hb hK hP (hD _) hS h.1 dX0_copyFrom_51 (fun H locs hP hS => ?_)
        have h := h.2
        refine lv_aload_n hx hb dX0_copyFrom_52 rfl (lv_at hl 0 rfl) ?_
        refine fwg_21_4 hx hb hts hinX0 hown hK hP (hts (.fieldLink RX0 25 "FilmBench$Layers" "bs" "[I") (by decide +kernel)) dX0_copyFrom_53 ?_
        refine lv_iload_n hx hb dX0_copyFrom_56 rfl (lv_at hl 2 rfl) ?_
        refine lv_aload_n hx hb dX0_copyFrom_57 rfl (lv_at hl 1 rfl) ?_
        refine fwg_3_4 hx hb hts hinX0 hown hK hP (hts (.fieldLink RX0 25 "FilmBench$Layers" "bs" "[I") (by decide +kernel)) dX0_copyFrom_58 ?_
        refine lv_iload_n hx hb dX0_copyFrom_61 rfl (lv_at hl 2 rfl) ?_
        refine fwl_7 (v := ((u.2 7) x2.toNatClampNeg)) hx hb hK hP h.1 dX0_copyFrom_62 rfl ?_
        have h := h.2
        refine fws_25 hx hb hK hP (hD _) hS h.1 dX0_copyFrom_63 (fun H locs hP hS => ?_)
        have h := h.2
        refine lv_aload_n hx hb dX0_copyFrom_64 rfl (lv_at hl 0 rfl) ?_
        refine fwg_21_5 hx hb hts hinX0 hown hK hP (hts (.fieldLink RX0 28 "FilmBench$Layers" "ons" "[Z") (by decide +kernel)) dX0_copyFrom_65 ?_
        refine lv_iload_n hx hb dX0_copyFrom_68 rfl (lv_at hl 2 rfl) ?_
        refine lv_aload_n hx hb dX0_copyFrom_69 rfl (lv_at hl 1 rfl) ?_
        refine fwg_3_5 hx hb hts hinX0 hown hK hP (hts (.fieldLink RX0 28 "FilmBench$Layers" "ons" "[Z") (by decide +kernel)) dX0_copyFrom_70 ?_
        refine lv_iload_n hx hb dX0_copyFrom_73 rfl (lv_at hl 2 rfl) ?_
        refine fwl_8 (v := ((u.2 8) x2.toNatClampNeg)) hx hb hK hP h.1 dX0_copyFrom_74 rfl ?_
        have h := h.2
        refine fws_26 hx hb hK hP (hD _) hS h.1 dX0_copyFrom_75 (fun H locs hP hS => ?_)
        have h := h.2
        refine lv_iinc (v := (x2 + 1)) (lv' := [(2, .int (x2 + 1)), (0, .ref (adr 21)), (1, .ref (adr 3))]) hx hb dX0_copyFrom_76 hl (k := 2) rfl (congrArg (HAdd.hAdd _) (show Int32.ofInt (1) = (1 : Int32) by decide)) (by decide) rfl (fun ls hl => ?_)
        refine lv_goto (tgt := 10) hx hb dX0_copyFrom_79 (by decide) ?_
        exact ih (x2 + 1) (sA (sA (sA (sA (sA u 22 (upd (u.2 22) x2.toNatClampNeg ((u.2 4) x2.toNatClampNeg))) 23 (upd (u.2 23) x2.toNatClampNeg ((u.2 5) x2.toNatClampNeg))) 24 (upd (u.2 24) x2.toNatClampNeg ((u.2 6) x2.toNatClampNeg))) 25 (upd (u.2 25) x2.toNatClampNeg ((u.2 7) x2.toNatClampNeg))) 26 (upd (u.2 26) x2.toNatClampNeg (vp_nar .boolean ((u.2 8) x2.toNatClampNeg)))) _ _ _ (lv_sub hl [1, 2, 0] rfl) hP hS h
  have hl := lv_entry ([.ref (adr 21), .ref (adr 3)]) (n := 3) (Nat.le_of_ble_eq_true rfl)
  rw [lg_entry_eq]
  generalize (lg_sl ([.ref (adr 21), .ref (adr 3)]) ++ List.replicate (3 - (lg_sl ([.ref (adr 21), .ref (adr 3)])).length) Slot.unset).toArray = ls at hl ⊢
  replace hl : lv_has ls 3 [(0, .ref (adr 21)), (1, .ref (adr 3))] := hl
  refine lv_aload_n hx hb dX0_copyFrom_0 rfl (lv_at hl 0 rfl) ?_
  refine lv_aload_n hx hb dX0_copyFrom_1 rfl (lv_at hl 1 rfl) ?_
  refine fwg_3_0 (v := (u.1 5)) hx hb hts hinX0 hown hK hP (hts (.fieldLink RX0 9 "FilmBench$Layers" "count" "I") (by decide +kernel)) dX0_copyFrom_2 rfl ?_
  refine fwp_21_0 (v := (u.1 5)) hx hb hts hinX0 hown hK hP (hD _) hS (hts (.fieldLink RX0 9 "FilmBench$Layers" "count" "I") (by decide +kernel)) dX0_copyFrom_5 (fun H locs hP hS => ?_)
  refine lv_iconst (v := (0 : Int32)) hx hb dX0_copyFrom_8 (by decide) ?_
  refine lv_istore_n (lv' := [(2, .int (0 : Int32)), (0, .ref (adr 21)), (1, .ref (adr 3))]) hx hb dX0_copyFrom_9 rfl hl (by decide) rfl (fun ls hl => ?_)
  obtain ⟨n, h⟩ := h
  exact L10  n (0 : Int32) (si u 19 (u.1 5)) _ _ _ (lv_sub hl [1, 2, 0] rfl) hP hS h
