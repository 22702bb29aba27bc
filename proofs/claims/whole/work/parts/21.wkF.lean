set_option maxRecDepth 100000 in
set_option maxHeartbeats 4000000 in
theorem c_X5_row (l : Launch) (D : va_G) (cI cZ : ClassId) (adr : Nat → Nat) (A : Nat → Prop) (hD : ∀ u, va_D A (fw adr cI cZ u)) (p1 : Int32) (p2 : Int32) (p3 : Int64) (u : US) (post : Int32 → US → Prop) (h : wp_X5_row p1 p2 p3 u post) : gMi l yX5_row wsX5_row 2 D cI cZ (fw adr cI cZ) A [.ref (adr 0), .int p1, .int p2, .long p3] u post := by
  refine Met.ofW (cc := cX5_row) (maxL := 9) (ret := (some .int)) (by decide) rfl ?_
  intro p e s m args below meth c s₁ B hml hv
  obtain ⟨rfl, hP, hK⟩ := hv
  have hx := B.exec
  have hb := B.bytes
  have hr := B.returns
  have hts := atoms_spec (ws := wsX5_row) B.pre
  have hown : s.vm.findClass RX5 = some m.cls := findClass_of_methodNamed B.named
  have hlocks := B.notSynchronized
  have hinX1 : ∀ w ∈ wsX10, w ∈ wsX5_row := by decide +kernel
  have hinX5 : ∀ w ∈ wsX50, w ∈ wsX5_row := by decide +kernel
  have hS : va_S A s.heap s.heap [] := va_S.rf
  have L69 : ∀ (k31 : Int32 → Int32 → Int64 → Int32 → Int32 → US → Prop) (hk31 : ∀ (x1 : Int32) (x2 : Int32) (x3 : Int64) (x5 : Int32) (x6 : Int32) (u : US) (H : Heap) (locs : List Loc) (ls : Array Slot), lv_has ls 9 [(0, .ref (adr 0)), (1, .int x1), (2, .int x2), (3, .long x3), (5, .int x5), (6, .int x6)] → va_P D vwCl (fw adr cI cZ u) H → va_S A s.heap H locs → k31 x1 x2 x3 x5 x6 u → gWi p l e wsX5_row 2 s m [.ref (adr 0), .int p1, .int p2, .long p3] below meth c D cI cZ (fw adr cI cZ) A post H locs (F0 m 31 ls [])), ∀ (s0 : Int32) (x1 : Int32) (x2 : Int32) (x3 : Int64) (x5 : Int32) (x6 : Int32) (u : US) (H : Heap) (locs : List Loc) (ls : Array Slot), lv_has ls 9 [(0, .ref (adr 0)), (1, .int x1), (2, .int x2), (3, .long x3), (5, .int x5), (6, .int x6)] → va_P D vwCl (fw adr cI cZ u) H → va_S A s.heap H locs → wp_X5_row_69 k31 post s0 x1 x2 x3 x5 x6 u → gWi p l e wsX5_row 2 s m [.ref (adr 0), .int p1, .int p2, .long p3] below meth c D cI cZ (fw adr cI cZ) A post H locs (F0 m 69 ls [.int s0]) := by
    intro k31 hk31 s0 x1 x2 x3 x5 x6 u H locs ls hl hP hS h
    refine lv_istore (lv' := [(8, .int s0), (0, .ref (adr 0)), (1, .int x1), (2, .int x2), (3, .long x3), (5, .int x5), (6, .int x6)]) hx hb dX5_row_69 hl (by decide) rfl (fun ls hl => ?_)
    refine lv_aload_n hx hb dX5_row_71 rfl (lv_at hl 1 rfl) ?_
    refine fwg_0_0 hx hb hts hinX5 hown hK hP (hts (.fieldLink RX5 12 "FilmBench" "film" "LFilmBench$Reel;") (by decide +kernel)) dX5_row_72 ?_
    refine lv_iload_n hx hb dX5_row_75 rfl (lv_at hl 2 rfl) ?_
    refine lv_aload_n hx hb dX5_row_76 rfl (lv_at hl 1 rfl) ?_
    refine fwg_0_0 hx hb hts hinX5 hown hK hP (hts (.fieldLink RX5 12 "FilmBench" "film" "LFilmBench$Reel;") (by decide +kernel)) dX5_row_77 ?_
    refine lv_iload_n hx hb dX5_row_80 rfl (lv_at hl 3 rfl) ?_
    refine lv_iload hx hb dX5_row_81 (lv_at hl 6 rfl) ?_
    refine gcallVi (As := [.int x2, .int x6]) (rest := [.int x1, .ref (adr 1)]) ⟨hx, hb, hml, hown, hts⟩ (c_X1_placeOf l D cI cZ adr A hD x2 x6 u _ h) (cwV 2 hts gX5_row_X1_placeOf rfl rfl rfl (by decide +kernel) ⟨Nat.le_of_ble_eq_true rfl, Nat.le_of_ble_eq_true rfl⟩) (va_recv hK hP (ci := 1) (q0 := 1) rfl rfl) hK hP hS rfl hl.1 rfl (Nat.le_of_ble_eq_true rfl) dX5_row_83 ⟨Nat.le_refl _, Nat.le_refl _⟩ (fun r83 u83 H locs h hP hS => ?_)
    refine lv_iload hx hb dX5_row_86 (lv_at hl 0 rfl) ?_
    refine gcallVv (As := [.int x1, .int r83, .int s0]) (rest := []) ⟨hx, hb, hml, hown, hts⟩ (c_X1_setGrey l D cI cZ adr A hD x1 r83 s0 u83 _ h) (cwV 3 hts gX5_row_X1_setGrey rfl rfl rfl (by decide +kernel) ⟨Nat.le_of_ble_eq_true rfl, Nat.le_of_ble_eq_true rfl⟩) (va_recv hK hP (ci := 1) (q0 := 1) rfl rfl) hK hP hS rfl hl.1 rfl (Nat.le_of_ble_eq_true rfl) dX5_row_88 ⟨Nat.le_refl _, Nat.le_refl _⟩ (fun u88 H locs h hP hS => ?_)
    refine lv_iload hx hb dX5_row_91 (lv_at hl 0 rfl) ?_
    refine lv_iconst (v := (-1 : Int32)) hx hb dX5_row_93 (by decide) ?_
    refine lv_icmp_eq (tgt := 100) hx hb dX5_row_94 (by decide) (fun hc => ?_) (fun hc => ?_)
    · have h := h.1 hc
      refine lv_iinc (v := (x6 + 1)) (lv' := [(6, .int (x6 + 1)), (8, .int s0), (0, .ref (adr 0)), (1, .int x1), (2, .int x2), (3, .long x3), (5, .int x5)]) hx hb dX5_row_100 hl (k := 6) rfl (congrArg (HAdd.hAdd _) (show Int32.ofInt (1) = (1 : Int32) by decide)) (by decide) rfl (fun ls hl => ?_)
      refine lv_goto (tgt := 31) hx hb dX5_row_103 (by decide) ?_
      exact hk31 x1 x2 x3 x5 (x6 + 1) u88 _ _ _ (lv_sub hl [2, 3, 4, 5, 6, 0] rfl) hP hS h
    · have h := h.2 hc
      refine lv_iinc (v := (x5 + 1)) (lv' := [(5, .int (x5 + 1)), (8, .int s0), (0, .ref (adr 0)), (1, .int x1), (2, .int x2), (3, .long x3), (6, .int x6)]) hx hb dX5_row_97 hl (k := 5) rfl (congrArg (HAdd.hAdd _) (show Int32.ofInt (1) = (1 : Int32) by decide)) (by decide) rfl (fun ls hl => ?_)
      refine lv_iinc (v := (x6 + 1)) (lv' := [(6, .int (x6 + 1)), (5, .int (x5 + 1)), (8, .int s0), (0, .ref (adr 0)), (1, .int x1), (2, .int x2), (3, .long x3)]) hx hb dX5_row_100 hl (k := 6) rfl (congrArg (HAdd.hAdd _) (show Int32.ofInt (1) = (1 : Int32) by decide)) (by decide) rfl (fun ls hl => ?_)
      refine lv_goto (tgt := 31) hx hb dX5_row_103 (by decide) ?_
      exact hk31 x1 x2 x3 (x5 + 1) (x6 + 1) u88 _ _ _ (lv_sub hl [3, 4, 5, 6, 1, 0] rfl) hP hS h
  have L31 : ∀ (n : Nat), ∀ (x1 : Int32) (x2 : Int32) (x3 : Int64) (x5 : Int32) (x6 : Int32) (u : US) (H : Heap) (locs : List Loc) (ls : Array Slot), lv_has ls 9 [(0, .ref (adr 0)), (1, .int x1), (2, .int x2), (3, .long x3), (5, .int x5), (6, .int x6)] → va_P D vwCl (fw adr cI cZ u) H → va_S A s.heap H locs → wp_X5_row_31  post n x1 x2 x3 x5 x6 u → gWi p l e wsX5_row 2 s m [.ref (adr 0), .int p1, .int p2, .long p3] below meth c D cI cZ (fw adr cI cZ) A post H locs (F0 m 31 ls []) := by
    intro  n
    induction n with
    | zero => intro x1 x2 x3 x5 x6 u H locs ls hl hP hS h; exact False.elim h
    | succ n ih =>
      intro x1 x2 x3 x5 x6 u H locs ls hl hP hS h
      refine lv_iload hx hb dX5_row_31 (lv_at hl 5 rfl) ?_
      refine lv_aload_n hx hb dX5_row_33 rfl (lv_at hl 0 rfl) ?_
      refine fwg_0_0 hx hb hts hinX5 hown hK hP (hts (.fieldLink RX5 12 "FilmBench" "film" "LFilmBench$Reel;") (by decide +kernel)) dX5_row_34 ?_
      refine fwg_1_1 (v := (u.1 2)) hx hb hts hinX1 hown hK hP (hts (.fieldLink RX5 116 "FilmBench$Reel" "wide" "I") (by decide +kernel)) dX5_row_37 rfl ?_
      refine lv_icmp_ge (tgt := 106) hx hb dX5_row_40 (by decide) (fun hc => ?_) (fun hc => ?_)
      · have h := h.1 hc
        refine lv_iload hx hb dX5_row_106 (lv_at hl 4 rfl) ?_
        exact giret hx hb hr hlocks hK hP hS h dX5_row_108
      · have h := h.2 hc
        refine lv_lload_n hx hb dX5_row_43 rfl (lv_at hl 3 rfl) ?_
        refine lv_bipush (v := (7 : Int32)) hx hb dX5_row_44 (by decide) ?_
        refine lv_iload hx hb dX5_row_46 (lv_at hl 5 rfl) ?_
        refine lv_imul hx hb dX5_row_48 ?_
        refine lv_lushr hx hb dX5_row_49 rfl ?_
        refine lv_l2i hx hb dX5_row_50 rfl ?_
        refine lv_bipush (v := (127 : Int32)) hx hb dX5_row_51 (by decide) ?_
        refine lv_iand hx hb dX5_row_53 ?_
        refine lv_istore (lv' := [(7, .int (((x3.toUInt64 >>> (((7 : Int32) * x6).toInt64.toUInt64 &&& Int64.toUInt64 63)).toInt64).toInt32 &&& (127 : Int32))), (0, .ref (adr 0)), (1, .int x1), (2, .int x2), (3, .long x3), (5, .int x5), (6, .int x6)]) hx hb dX5_row_54 hl (by decide) rfl (fun ls hl => ?_)
        refine lv_iload hx hb dX5_row_56 (lv_at hl 0 rfl) ?_
        refine lv_bipush (v := (63 : Int32)) hx hb dX5_row_58 (by decide) ?_
        refine lv_icmp_le (tgt := 67) hx hb dX5_row_60 (by decide) (fun hc => ?_) (fun hc => ?_)
        · have h := h.1 hc
          refine lv_iload hx hb dX5_row_67 (lv_at hl 0 rfl) ?_
          exact L69 _ ih (((x3.toUInt64 >>> (((7 : Int32) * x6).toInt64.toUInt64 &&& Int64.toUInt64 63)).toInt64).toInt32 &&& (127 : Int32)) x1 x2 x3 x5 x6 u _ _ _ (lv_sub hl [1, 2, 3, 4, 5, 6] rfl) hP hS h
        · have h := h.2 hc
          refine lv_iconst (v := (-1 : Int32)) hx hb dX5_row_63 (by decide) ?_
          refine lv_goto (tgt := 69) hx hb dX5_row_64 (by decide) ?_
          exact L69 _ ih (-1 : Int32) x1 x2 x3 x5 x6 u _ _ _ (lv_sub hl [1, 2, 3, 4, 5, 6] rfl) hP hS h
  have hl := lv_entry ([.ref (adr 0), .int p1, .int p2, .long p3]) (n := 9) (Nat.le_of_ble_eq_true rfl)
  rw [lg_entry_eq]
  generalize (lg_sl ([.ref (adr 0), .int p1, .int p2, .long p3]) ++ List.replicate (9 - (lg_sl ([.ref (adr 0), .int p1, .int p2, .long p3])).length) Slot.unset).toArray = ls at hl ⊢
  replace hl : lv_has ls 9 [(0, .ref (adr 0)), (1, .int p1), (2, .int p2), (3, .long p3)] := hl
  refine lv_aload_n hx hb dX5_row_0 rfl (lv_at hl 0 rfl) ?_
  refine fwg_0_0 hx hb hts hinX5 hown hK hP (hts (.fieldLink RX5 12 "FilmBench" "film" "LFilmBench$Reel;") (by decide +kernel)) dX5_row_1 ?_
  refine lv_iload_n hx hb dX5_row_4 rfl (lv_at hl 1 rfl) ?_
  refine gcallVi (As := [.int p1]) (rest := []) ⟨hx, hb, hml, hown, hts⟩ (c_X1_hasFrame l D cI cZ adr A hD p1 u _ h) (cwV 1 hts gX5_row_X1_hasFrame rfl rfl rfl (by decide +kernel) ⟨Nat.le_of_ble_eq_true rfl, Nat.le_of_ble_eq_true rfl⟩) (va_recv hK hP (ci := 1) (q0 := 1) rfl rfl) hK hP hS rfl hl.1 rfl (Nat.le_of_ble_eq_true rfl) dX5_row_5 ⟨Nat.le_refl _, Nat.le_refl _⟩ (fun r5 u5 H locs h hP hS => ?_)
  refine lv_if_eq (tgt := 23) hx hb dX5_row_8 (by decide) (fun hc => ?_) (fun hc => ?_)
  · have h := h.1 hc
    refine lv_iconst (v := (-1 : Int32)) hx hb dX5_row_23 (by decide) ?_
    exact giret hx hb hr hlocks hK hP hS h dX5_row_24
  · have h := h.2 hc
    refine lv_aload_n hx hb dX5_row_11 rfl (lv_at hl 0 rfl) ?_
    refine fwg_0_0 hx hb hts hinX5 hown hK hP (hts (.fieldLink RX5 12 "FilmBench" "film" "LFilmBench$Reel;") (by decide +kernel)) dX5_row_12 ?_
    refine lv_iload_n hx hb dX5_row_15 rfl (lv_at hl 2 rfl) ?_
    refine lv_iconst (v := (0 : Int32)) hx hb dX5_row_16 (by decide) ?_
    refine gcallVi (As := [.int p2, .int (0 : Int32)]) (rest := []) ⟨hx, hb, hml, hown, hts⟩ (c_X1_placeOf l D cI cZ adr A hD p2 (0 : Int32) u5 _ h) (cwV 2 hts gX5_row_X1_placeOf rfl rfl rfl (by decide +kernel) ⟨Nat.le_of_ble_eq_true rfl, Nat.le_of_ble_eq_true rfl⟩) (va_recv hK hP (ci := 1) (q0 := 1) rfl rfl) hK hP hS rfl hl.1 rfl (Nat.le_of_ble_eq_true rfl) dX5_row_17 ⟨Nat.le_refl _, Nat.le_refl _⟩ (fun r17 u17 H locs h hP hS => ?_)
    refine lv_if_ge (tgt := 25) hx hb dX5_row_20 (by decide) (fun hc => ?_) (fun hc => ?_)
    · have h := h.1 hc
      refine lv_iconst (v := (0 : Int32)) hx hb dX5_row_25 (by decide) ?_
      refine lv_istore (lv' := [(5, .int (0 : Int32)), (0, .ref (adr 0)), (1, .int p1), (2, .int p2), (3, .long p3)]) hx hb dX5_row_26 hl (by decide) rfl (fun ls hl => ?_)
      refine lv_iconst (v := (0 : Int32)) hx hb dX5_row_28 (by decide) ?_
      refine lv_istore (lv' := [(6, .int (0 : Int32)), (5, .int (0 : Int32)), (0, .ref (adr 0)), (1, .int p1), (2, .int p2), (3, .long p3)]) hx hb dX5_row_29 hl (by decide) rfl (fun ls hl => ?_)
      obtain ⟨n, h⟩ := h
      exact L31  n p1 p2 p3 (0 : Int32) (0 : Int32) u17 _ _ _ (lv_sub hl [2, 3, 4, 5, 1, 0] rfl) hP hS h
    · have h := h.2 hc
      refine lv_iconst (v := (-1 : Int32)) hx hb dX5_row_23 (by decide) ?_
      exact giret hx hb hr hlocks hK hP hS h dX5_row_24
set_option maxRecDepth 100000 in
set_option maxHeartbeats 4000000 in
theorem c_X5_raw (l : Launch) (D : va_G) (cI cZ : ClassId) (adr : Nat → Nat) (A : Nat → Prop) (hD : ∀ u, va_D A (fw adr cI cZ u)) (p1 : Int32) (p2 : Int32) (p3 : Int32) (u : US) (post : Int32 → US → Prop) (h : wp_X5_raw p1 p2 p3 u post) : gMi l yX5_raw wsX5_raw 2 D cI cZ (fw adr cI cZ) A [.ref (adr 0), .int p1, .int p2, .int p3] u post := by
  refine Met.ofW (cc := cX5_raw) (maxL := 5) (ret := (some .int)) (by decide) rfl ?_
  intro p e s m args below meth c s₁ B hml hv
  obtain ⟨rfl, hP, hK⟩ := hv
  have hx := B.exec
  have hb := B.bytes
  have hr := B.returns
  have hts := atoms_spec (ws := wsX5_raw) B.pre
  have hown : s.vm.findClass RX5 = some m.cls := findClass_of_methodNamed B.named
  have hlocks := B.notSynchronized
  have hinX5 : ∀ w ∈ wsX50, w ∈ wsX5_raw := by decide +kernel
  have hS : va_S A s.heap s.heap [] := va_S.rf
  have hl := lv_entry ([.ref (adr 0), .int p1, .int p2, .int p3]) (n := 5) (Nat.le_of_ble_eq_true rfl)
  rw [lg_entry_eq]
  generalize (lg_sl ([.ref (adr 0), .int p1, .int p2, .int p3]) ++ List.replicate (5 - (lg_sl ([.ref (adr 0), .int p1, .int p2, .int p3])).length) Slot.unset).toArray = ls at hl ⊢
  replace hl : lv_has ls 5 [(0, .ref (adr 0)), (1, .int p1), (2, .int p2), (3, .int p3)] := hl
  refine lv_aload_n hx hb dX5_raw_0 rfl (lv_at hl 0 rfl) ?_
  refine fwg_0_0 hx hb hts hinX5 hown hK hP (hts (.fieldLink RX5 12 "FilmBench" "film" "LFilmBench$Reel;") (by decide +kernel)) dX5_raw_1 ?_
  refine lv_iload_n hx hb dX5_raw_4 rfl (lv_at hl 2 rfl) ?_
  refine lv_iload_n hx hb dX5_raw_5 rfl (lv_at hl 3 rfl) ?_
  refine gcallVi (As := [.int p2, .int p3]) (rest := []) ⟨hx, hb, hml, hown, hts⟩ (c_X1_placeOf l D cI cZ adr A hD p2 p3 u _ h) (cwV 2 hts gX5_raw_X1_placeOf rfl rfl rfl (by decide +kernel) ⟨Nat.le_of_ble_eq_true rfl, Nat.le_of_ble_eq_true rfl⟩) (va_recv hK hP (ci := 1) (q0 := 1) rfl rfl) hK hP hS rfl hl.1 rfl (Nat.le_of_ble_eq_true rfl) dX5_raw_6 ⟨Nat.le_refl _, Nat.le_refl _⟩ (fun r6 u6 H locs h hP hS => ?_)
  refine lv_istore (lv' := [(4, .int r6), (0, .ref (adr 0)), (1, .int p1), (2, .int p2), (3, .int p3)]) hx hb dX5_raw_9 hl (by decide) rfl (fun ls hl => ?_)
  refine lv_aload_n hx hb dX5_raw_11 rfl (lv_at hl 1 rfl) ?_
  refine fwg_0_0 hx hb hts hinX5 hown hK hP (hts (.fieldLink RX5 12 "FilmBench" "film" "LFilmBench$Reel;") (by decide +kernel)) dX5_raw_12 ?_
  refine lv_iload_n hx hb dX5_raw_15 rfl (lv_at hl 2 rfl) ?_
  refine gcallVi (As := [.int p1]) (rest := []) ⟨hx, hb, hml, hown, hts⟩ (c_X1_hasFrame l D cI cZ adr A hD p1 u6 _ h) (cwV 1 hts gX5_raw_X1_hasFrame rfl rfl rfl (by decide +kernel) ⟨Nat.le_of_ble_eq_true rfl, Nat.le_of_ble_eq_true rfl⟩) (va_recv hK hP (ci := 1) (q0 := 1) rfl rfl) hK hP hS rfl hl.1 rfl (Nat.le_of_ble_eq_true rfl) dX5_raw_16 ⟨Nat.le_refl _, Nat.le_refl _⟩ (fun r16 u16 H locs h hP hS => ?_)
  refine lv_if_eq (tgt := 27) hx hb dX5_raw_19 (by decide) (fun hc => ?_) (fun hc => ?_)
  · have h := h.1 hc
    refine lv_sipush (v := (-1000 : Int32)) hx hb dX5_raw_27 (by decide) ?_
    exact giret hx hb hr hlocks hK hP hS h dX5_raw_30
  · have h := h.2 hc
    refine lv_iload hx hb dX5_raw_22 (lv_at hl 0 rfl) ?_
    refine lv_if_ge (tgt := 31) hx hb dX5_raw_24 (by decide) (fun hc => ?_) (fun hc => ?_)
    · have h := h.1 hc
      refine lv_aload_n hx hb dX5_raw_31 rfl (lv_at hl 1 rfl) ?_
      refine fwg_0_0 hx hb hts hinX5 hown hK hP (hts (.fieldLink RX5 12 "FilmBench" "film" "LFilmBench$Reel;") (by decide +kernel)) dX5_raw_32 ?_
      refine lv_iload_n hx hb dX5_raw_35 rfl (lv_at hl 2 rfl) ?_
      refine lv_iload hx hb dX5_raw_36 (lv_at hl 0 rfl) ?_
      refine gcallVi (As := [.int p1, .int r6]) (rest := []) ⟨hx, hb, hml, hown, hts⟩ (c_X1_greyAt l D cI cZ adr A hD p1 r6 u16 _ h) (cwV 2 hts gX5_raw_X1_greyAt rfl rfl rfl (by decide +kernel) ⟨Nat.le_of_ble_eq_true rfl, Nat.le_of_ble_eq_true rfl⟩) (va_recv hK hP (ci := 1) (q0 := 1) rfl rfl) hK hP hS rfl hl.1 rfl (Nat.le_of_ble_eq_true rfl) dX5_raw_38 ⟨Nat.le_refl _, Nat.le_refl _⟩ (fun r38 u38 H locs h hP hS => ?_)
      exact giret hx hb hr hlocks hK hP hS h dX5_raw_41
    · have h := h.2 hc
      refine lv_sipush (v := (-1000 : Int32)) hx hb dX5_raw_27 (by decide) ?_
      exact giret hx hb hr hlocks hK hP hS h dX5_raw_30
set_option maxRecDepth 100000 in
set_option maxHeartbeats 4000000 in
theorem c_X5_rule (l : Launch) (D : va_G) (cI cZ : ClassId) (adr : Nat → Nat) (A : Nat → Prop) (hD : ∀ u, va_D A (fw adr cI cZ u)) (p1 : Int32) (p2 : Int32) (t1 t2 : Nat) (u : US) (post : Int32 → US → Prop) (h : wp_X5_rule p1 p2 u post) : Met l yX5_rule wsX5_rule (rmL 1) (va_Pc [.ref (adr 0), .int p1, .int p2] (fun U => gP D cI cZ (fw adr cI cZ) u U ∧ gRules t1 t2 A U)) (va_Qi post (gP D cI cZ (fw adr cI cZ)) A) 0 0 A := by
  refine Met.ofW (cc := cX5_rule) (maxL := 4) (ret := (some .int)) (by decide) rfl ?_
  intro p e s m args below meth c s₁ B hml hv
  obtain ⟨rfl, ⟨hP, hK⟩, hZ1, hT1, hZ2, hT2⟩ := hv
  have hx := B.exec
  have hb := B.bytes
  have hr := B.returns
  have hts := atoms_spec (ws := wsX5_rule) B.pre
  have hown : s.vm.findClass RX5 = some m.cls := findClass_of_methodNamed B.named
  have hlocks := B.notSynchronized
  have hinX5 : ∀ w ∈ wsX50, w ∈ wsX5_rule := by decide +kernel
  have hS : va_S A s.heap s.heap [] := va_S.rf
  have hl := lv_entry ([.ref (adr 0), .int p1, .int p2]) (n := 4) (Nat.le_of_ble_eq_true rfl)
  rw [lg_entry_eq]
  generalize (lg_sl ([.ref (adr 0), .int p1, .int p2]) ++ List.replicate (4 - (lg_sl ([.ref (adr 0), .int p1, .int p2])).length) Slot.unset).toArray = ls at hl ⊢
  replace hl : lv_has ls 4 [(0, .ref (adr 0)), (1, .int p1), (2, .int p2)] := hl
  refine lv_iload_n hx hb dX5_rule_0 rfl (lv_at hl 1 rfl) ?_
  refine lv_iconst (v := (0 : Int32)) hx hb dX5_rule_1 (by decide) ?_
  refine lv_iconst (v := (2 : Int32)) hx hb dX5_rule_2 (by decide) ?_
  refine gcallSi (As := [.int p1, .int (0 : Int32), .int (2 : Int32)]) (rest := []) ⟨hx, hb, hml, hown, hts⟩ (c_X5_isWithin l D cI cZ adr A hD p1 (0 : Int32) (2 : Int32) u _ h) (va_cwS 3 hts gX5_rule_X5_isWithin rfl rfl rfl (by decide +kernel) ⟨Nat.le_of_ble_eq_true rfl, Nat.le_of_ble_eq_true rfl⟩) hK hP hS rfl hl.1 rfl (Nat.le_of_ble_eq_true rfl) dX5_rule_3 ⟨Nat.le_refl _, Nat.le_refl _⟩ (fun r3 u3 H locs h hP hS => ?_)
  refine lv_if_eq (tgt := 26) hx hb dX5_rule_6 (by decide) (fun hc => ?_) (fun hc => ?_)
  · have h := h.1 hc
    refine lv_iconst (v := (-1 : Int32)) hx hb dX5_rule_26 (by decide) ?_
    exact giret hx hb hr hlocks hK hP hS h dX5_rule_27
  · have h := h.2 hc
    refine lv_iload_n hx hb dX5_rule_9 rfl (lv_at hl 2 rfl) ?_
    refine va_gets hx hb hZ1 hS hown (hts (.fieldLink RX5 119 "FilmBench" "LEAST_RULES" "[I") (by decide +kernel)) (fun _ h => h) dX5_rule_10 ?_
    refine lv_iload_n hx hb dX5_rule_13 rfl (lv_at hl 1 rfl) ?_
    refine va_ti (v := .int (tbR1 p1.toNatClampNeg)) hx hb hT1 hS h.1 rfl dX5_rule_14 ?_
    have h := h.2
    refine va_gets hx hb hZ2 hS hown (hts (.fieldLink RX5 122 "FilmBench" "MOST_RULES" "[I") (by decide +kernel)) (fun _ h => h) dX5_rule_15 ?_
    refine lv_iload_n hx hb dX5_rule_18 rfl (lv_at hl 1 rfl) ?_
    refine va_ti (v := .int (tbR2 p1.toNatClampNeg)) hx hb hT2 hS h.1 rfl dX5_rule_19 ?_
    have h := h.2
    refine gcallSi (As := [.int p2, .int (tbR1 p1.toNatClampNeg), .int (tbR2 p1.toNatClampNeg)]) (rest := []) ⟨hx, hb, hml, hown, hts⟩ (c_X5_isWithin l D cI cZ adr A hD p2 (tbR1 p1.toNatClampNeg) (tbR2 p1.toNatClampNeg) u3 _ h) (va_cwS 3 hts gX5_rule_X5_isWithin rfl rfl rfl (by decide +kernel) ⟨Nat.le_of_ble_eq_true rfl, Nat.le_of_ble_eq_true rfl⟩) hK hP hS rfl hl.1 rfl (Nat.le_of_ble_eq_true rfl) dX5_rule_20 ⟨Nat.le_refl _, Nat.le_refl _⟩ (fun r20 u20 H locs h hP hS => ?_)
    refine lv_if_ne (tgt := 28) hx hb dX5_rule_23 (by decide) (fun hc => ?_) (fun hc => ?_)
    · have h := h.2 hc
      refine lv_aload_n hx hb dX5_rule_28 rfl (lv_at hl 0 rfl) ?_
      refine fwg_0_2 hx hb hts hinX5 hown hK hP (hts (.fieldLink RX5 23 "FilmBench" "rules" "[I") (by decide +kernel)) dX5_rule_29 ?_
      refine lv_iload_n hx hb dX5_rule_32 rfl (lv_at hl 1 rfl) ?_
      refine fwl_9 (v := ((u20.2 9) p1.toNatClampNeg)) hx hb hK hP h.1 dX5_rule_33 rfl ?_
      have h := h.2
      refine lv_istore_n (lv' := [(3, .int ((u20.2 9) p1.toNatClampNeg)), (0, .ref (adr 0)), (1, .int p1), (2, .int p2)]) hx hb dX5_rule_34 rfl hl (by decide) rfl (fun ls hl => ?_)
      refine lv_aload_n hx hb dX5_rule_35 rfl (lv_at hl 1 rfl) ?_
      refine fwg_0_2 hx hb hts hinX5 hown hK hP (hts (.fieldLink RX5 23 "FilmBench" "rules" "[I") (by decide +kernel)) dX5_rule_36 ?_
      refine lv_iload_n hx hb dX5_rule_39 rfl (lv_at hl 2 rfl) ?_
      refine lv_iload_n hx hb dX5_rule_40 rfl (lv_at hl 3 rfl) ?_
      refine fws_9 hx hb hK hP (hD _) hS h.1 dX5_rule_41 (fun H locs hP hS => ?_)
      have h := h.2
      refine lv_iload_n hx hb dX5_rule_42 rfl (lv_at hl 0 rfl) ?_
      exact giret hx hb hr hlocks hK hP hS h dX5_rule_43
    · have h := h.1 hc
      refine lv_iconst (v := (-1 : Int32)) hx hb dX5_rule_26 (by decide) ?_
      exact giret hx hb hr hlocks hK hP hS h dX5_rule_27
set_option maxRecDepth 100000 in
set_option maxHeartbeats 4000000 in
theorem c_X3_measure (l : Launch) (D : va_G) (cI cZ : ClassId) (adr : Nat → Nat) (A : Nat → Prop) (hD : ∀ u, va_D A (fw adr cI cZ u)) (p1 : Int32) (p2 : Int32) (p3 : Int32) (u : US) (post : US → Prop) (h : wp_X3_measure p1 p2 p3 u post) : gMv l yX3_measure wsX3_measure 2 D cI cZ (fw adr cI cZ) A [.ref (adr 10), .int p1, .int p2, .int p3] u post := by
  refine Met.ofW (cc := cX3_measure) (maxL := 10) (ret := none) (by decide) rfl ?_
  intro p e s m args below meth c s₁ B hml hv
  obtain ⟨rfl, hP, hK⟩ := hv
  have hx := B.exec
  have hb := B.bytes
  have hr := B.returns
  have hts := atoms_spec (ws := wsX3_measure) B.pre
  have hown : s.vm.findClass RX3 = some m.cls := findClass_of_methodNamed B.named
  have hlocks := B.notSynchronized
  have hinX1 : ∀ w ∈ wsX10, w ∈ wsX3_measure := by decide +kernel
  have hinX3 : ∀ w ∈ wsX30, w ∈ wsX3_measure := by decide +kernel
  have hS : va_S A s.heap s.heap [] := va_S.rf
  have L75 : ∀ (k60 : Int32 → Int32 → Int32 → Int32 → Int32 → Int32 → US → Prop) (hk60 : ∀ (x1 : Int32) (x2 : Int32) (x3 : Int32) (x4 : Int32) (x5 : Int32) (x6 : Int32) (u : US) (H : Heap) (locs : List Loc) (ls : Array Slot), lv_has ls 10 [(0, .ref (adr 10)), (1, .int x1), (2, .int x2), (3, .int x3), (4, .int x4), (5, .int x5), (6, .int x6)] → va_P D vwCl (fw adr cI cZ u) H → va_S A s.heap H locs → k60 x1 x2 x3 x4 x5 x6 u → gWv p l e wsX3_measure 2 s m [.ref (adr 10), .int p1, .int p2, .int p3] below meth c D cI cZ (fw adr cI cZ) A post H locs (F0 m 60 ls [])), ∀ (n : Nat), ∀ (x1 : Int32) (x2 : Int32) (x3 : Int32) (x4 : Int32) (x5 : Int32) (x6 : Int32) (x7 : Int32) (u : US) (H : Heap) (locs : List Loc) (ls : Array Slot), lv_has ls 10 [(0, .ref (adr 10)), (1, .int x1), (2, .int x2), (3, .int x3), (4, .int x4), (5, .int x5), (6, .int x6), (7, .int x7)] → va_P D vwCl (fw adr cI cZ u) H → va_S A s.heap H locs → wp_X3_measure_75 k60 post n x1 x2 x3 x4 x5 x6 x7 u → gWv p l e wsX3_measure 2 s m [.ref (adr 10), .int p1, .int p2, .int p3] below meth c D cI cZ (fw adr cI cZ) A post H locs (F0 m 75 ls []) := by
    intro k60 hk60 n
    induction n with
    | zero => intro x1 x2 x3 x4 x5 x6 x7 u H locs ls hl hP hS h; exact False.elim h
    | succ n ih =>
      intro x1 x2 x3 x4 x5 x6 x7 u H locs ls hl hP hS h
      refine lv_iload hx hb dX3_measure_75 (lv_at hl 7 rfl) ?_
      refine lv_iload hx hb dX3_measure_77 (lv_at hl 5 rfl) ?_
      refine lv_icmp_ge (tgt := 175) hx hb dX3_measure_79 (by decide) (fun hc => ?_) (fun hc => ?_)
      · have h := h.1 hc
        refine lv_iinc (v := (x6 + 1)) (lv' := [(6, .int (x6 + 1)), (0, .ref (adr 10)), (1, .int x1), (2, .int x2), (3, .int x3), (4, .int x4), (5, .int x5), (7, .int x7)]) hx hb dX3_measure_175 hl (k := 6) rfl (congrArg (HAdd.hAdd _) (show Int32.ofInt (1) = (1 : Int32) by decide)) (by decide) rfl (fun ls hl => ?_)
        refine lv_goto (tgt := 60) hx hb dX3_measure_178 (by decide) ?_
        exact hk60 x1 x2 x3 x4 x5 (x6 + 1) u _ _ _ (lv_sub hl [1, 2, 3, 4, 5, 6, 0] rfl) hP hS h
      · have h := h.2 hc
        refine lv_aload_n hx hb dX3_measure_82 rfl (lv_at hl 0 rfl) ?_
        refine fwg_10_0 hx hb hts hinX3 hown hK hP (hts (.fieldLink RX3 9 "FilmBench$Shifts" "film" "LFilmBench$Reel;") (by decide +kernel)) dX3_measure_83 ?_
        refine lv_iload_n hx hb dX3_measure_86 rfl (lv_at hl 1 rfl) ?_
        refine lv_iconst (v := (1 : Int32)) hx hb dX3_measure_87 (by decide) ?_
        refine lv_isub hx hb dX3_measure_88 ?_
        refine lv_aload_n hx hb dX3_measure_89 rfl (lv_at hl 0 rfl) ?_
        refine fwg_10_0 hx hb hts hinX3 hown hK hP (hts (.fieldLink RX3 9 "FilmBench$Shifts" "film" "LFilmBench$Reel;") (by decide +kernel)) dX3_measure_90 ?_
        refine lv_iload hx hb dX3_measure_93 (lv_at hl 6 rfl) ?_
        refine lv_iload hx hb dX3_measure_95 (lv_at hl 7 rfl) ?_
        refine gcallVi (As := [.int x6, .int x7]) (rest := [.int (x1 - (1 : Int32)), .ref (adr 1)]) ⟨hx, hb, hml, hown, hts⟩ (c_X1_placeOf l D cI cZ adr A hD x6 x7 u _ h) (cwV 2 hts gX3_measure_X1_placeOf rfl rfl rfl (by decide +kernel) ⟨Nat.le_of_ble_eq_true rfl, Nat.le_of_ble_eq_true rfl⟩) (va_recv hK hP (ci := 1) (q0 := 1) rfl rfl) hK hP hS rfl hl.1 rfl (Nat.le_of_ble_eq_true rfl) dX3_measure_97 ⟨Nat.le_refl _, Nat.le_refl _⟩ (fun r97 u97 H locs h hP hS => ?_)
        refine gcallVi (As := [.int (x1 - (1 : Int32)), .int r97]) (rest := []) ⟨hx, hb, hml, hown, hts⟩ (c_X1_greyAt l D cI cZ adr A hD (x1 - (1 : Int32)) r97 u97 _ h) (cwV 2 hts gX3_measure_X1_greyAt rfl rfl rfl (by decide +kernel) ⟨Nat.le_of_ble_eq_true rfl, Nat.le_of_ble_eq_true rfl⟩) (va_recv hK hP (ci := 1) (q0 := 1) rfl rfl) hK hP hS rfl hl.1 rfl (Nat.le_of_ble_eq_true rfl) dX3_measure_100 ⟨Nat.le_refl _, Nat.le_refl _⟩ (fun r100 u100 H locs h hP hS => ?_)
        refine lv_istore (lv' := [(8, .int r100), (0, .ref (adr 10)), (1, .int x1), (2, .int x2), (3, .int x3), (4, .int x4), (5, .int x5), (6, .int x6), (7, .int x7)]) hx hb dX3_measure_103 hl (by decide) rfl (fun ls hl => ?_)
        refine lv_aload_n hx hb dX3_measure_105 rfl (lv_at hl 1 rfl) ?_
        refine fwg_10_0 hx hb hts hinX3 hown hK hP (hts (.fieldLink RX3 9 "FilmBench$Shifts" "film" "LFilmBench$Reel;") (by decide +kernel)) dX3_measure_106 ?_
        refine lv_iload_n hx hb dX3_measure_109 rfl (lv_at hl 2 rfl) ?_
        refine lv_aload_n hx hb dX3_measure_110 rfl (lv_at hl 1 rfl) ?_
        refine fwg_10_0 hx hb hts hinX3 hown hK hP (hts (.fieldLink RX3 9 "FilmBench$Shifts" "film" "LFilmBench$Reel;") (by decide +kernel)) dX3_measure_111 ?_
        refine lv_iload hx hb dX3_measure_114 (lv_at hl 7 rfl) ?_
        refine lv_iload_n hx hb dX3_measure_116 rfl (lv_at hl 4 rfl) ?_
        refine lv_iadd hx hb dX3_measure_117 ?_
        refine lv_iload hx hb dX3_measure_118 (lv_at hl 8 rfl) ?_
        refine lv_iload_n hx hb dX3_measure_120 rfl (lv_at hl 3 rfl) ?_
        refine lv_iadd hx hb dX3_measure_121 ?_
        refine gcallVi (As := [.int (x6 + x3), .int (x7 + x2)]) (rest := [.int x1, .ref (adr 1)]) ⟨hx, hb, hml, hown, hts⟩ (c_X1_placeOf l D cI cZ adr A hD (x6 + x3) (x7 + x2) u100 _ h) (cwV 2 hts gX3_measure_X1_placeOf rfl rfl rfl (by decide +kernel) ⟨Nat.le_of_ble_eq_true rfl, Nat.le_of_ble_eq_true rfl⟩) (va_recv hK hP (ci := 1) (q0 := 1) rfl rfl) hK hP hS rfl hl.1 rfl (Nat.le_of_ble_eq_true rfl) dX3_measure_122 ⟨Nat.le_refl _, Nat.le_refl _⟩ (fun r122 u122 H locs h hP hS => ?_)
        refine gcallVi (As := [.int x1, .int r122]) (rest := []) ⟨hx, hb, hml, hown, hts⟩ (c_X1_greyAt l D cI cZ adr A hD x1 r122 u122 _ h) (cwV 2 hts gX3_measure_X1_greyAt rfl rfl rfl (by decide +kernel) ⟨Nat.le_of_ble_eq_true rfl, Nat.le_of_ble_eq_true rfl⟩) (va_recv hK hP (ci := 1) (q0 := 1) rfl rfl) hK hP hS rfl hl.1 rfl (Nat.le_of_ble_eq_true rfl) dX3_measure_125 ⟨Nat.le_refl _, Nat.le_refl _⟩ (fun r125 u125 H locs h hP hS => ?_)
        refine lv_istore (lv' := [(9, .int r125), (8, .int r100), (0, .ref (adr 10)), (1, .int x1), (2, .int x2), (3, .int x3), (4, .int x4), (5, .int x5), (6, .int x6), (7, .int x7)]) hx hb dX3_measure_128 hl (by decide) rfl (fun ls hl => ?_)
        refine lv_iload hx hb dX3_measure_130 (lv_at hl 1 rfl) ?_
        refine lv_iconst (v := (-1 : Int32)) hx hb dX3_measure_132 (by decide) ?_
        refine lv_icmp_eq (tgt := 169) hx hb dX3_measure_133 (by decide) (fun hc => ?_) (fun hc => ?_)
        · have h := h.1 hc
          refine lv_iinc (v := (x7 + 1)) (lv' := [(7, .int (x7 + 1)), (9, .int r125), (8, .int r100), (0, .ref (adr 10)), (1, .int x1), (2, .int x2), (3, .int x3), (4, .int x4), (5, .int x5), (6, .int x6)]) hx hb dX3_measure_169 hl (k := 9) rfl (congrArg (HAdd.hAdd _) (show Int32.ofInt (1) = (1 : Int32) by decide)) (by decide) rfl (fun ls hl => ?_)
          refine lv_goto (tgt := 75) hx hb dX3_measure_172 (by decide) ?_
          exact ih x1 x2 x3 x4 x5 x6 (x7 + 1) u125 _ _ _ (lv_sub hl [3, 4, 5, 6, 7, 8, 9, 0] rfl) hP hS h
        · have h := h.2 hc
          refine lv_iload hx hb dX3_measure_136 (lv_at hl 0 rfl) ?_
          refine lv_iconst (v := (-1 : Int32)) hx hb dX3_measure_138 (by decide) ?_
          refine lv_icmp_eq (tgt := 169) hx hb dX3_measure_139 (by decide) (fun hc => ?_) (fun hc => ?_)
          · have h := h.1 hc
            refine lv_iinc (v := (x7 + 1)) (lv' := [(7, .int (x7 + 1)), (9, .int r125), (8, .int r100), (0, .ref (adr 10)), (1, .int x1), (2, .int x2), (3, .int x3), (4, .int x4), (5, .int x5), (6, .int x6)]) hx hb dX3_measure_169 hl (k := 9) rfl (congrArg (HAdd.hAdd _) (show Int32.ofInt (1) = (1 : Int32) by decide)) (by decide) rfl (fun ls hl => ?_)
            refine lv_goto (tgt := 75) hx hb dX3_measure_172 (by decide) ?_
            exact ih x1 x2 x3 x4 x5 x6 (x7 + 1) u125 _ _ _ (lv_sub hl [3, 4, 5, 6, 7, 8, 9, 0] rfl) hP hS h
          · have h := h.2 hc
            refine lv_aload_n hx hb dX3_measure_142 rfl (lv_at hl 2 rfl) ?_
            refine lv_dup hx hb dX3_measure_143 rfl ?_
            refine fwg_10_1 (v := (u125.1 6)) hx hb hts hinX3 hown hK hP (hts (.fieldLink RX3 15 "FilmBench$Shifts" "sum" "I") (by decide +kernel)) dX3_measure_144 rfl ?_
            refine lv_iload hx hb dX3_measure_147 (lv_at hl 0 rfl) ?_
            refine lv_iload hx hb dX3_measure_149 (lv_at hl 1 rfl) ?_
            refine lv_isub hx hb dX3_measure_151 ?_
            refine gabs hx hb (hml.trans hl.1.symm) (own := RX3) hown hts (by decide +kernel) (Nat.le_of_ble_eq_true rfl) (Nat.le_of_ble_eq_true rfl) (Nat.zero_le _) (Nat.zero_le _) dX3_measure_152 ?_
            refine lv_iadd hx hb dX3_measure_155 ?_
            refine fwp_10_1 (v := ((u125.1 6) + (jabs (r125 - r100)))) hx hb hts hinX3 hown hK hP (hD _) hS (hts (.fieldLink RX3 15 "FilmBench$Shifts" "sum" "I") (by decide +kernel)) dX3_measure_156 (fun H locs hP hS => ?_)
            refine lv_aload_n hx hb dX3_measure_159 rfl (lv_at hl 2 rfl) ?_
            refine lv_dup hx hb dX3_measure_160 rfl ?_
            refine fwg_10_2 (v := (u125.1 7)) hx hb hts hinX3 hown hK hP (hts (.fieldLink RX3 19 "FilmBench$Shifts" "pairs" "I") (by decide +kernel)) dX3_measure_161 rfl ?_
            refine lv_iconst (v := (1 : Int32)) hx hb dX3_measure_164 (by decide) ?_
            refine lv_iadd hx hb dX3_measure_165 ?_
            refine fwp_10_2 (v := ((u125.1 7) + (1 : Int32))) hx hb hts hinX3 hown hK hP (hD _) hS (hts (.fieldLink RX3 19 "FilmBench$Shifts" "pairs" "I") (by decide +kernel)) dX3_measure_166 (fun H locs hP hS => ?_)
            refine lv_iinc (v := (x7 + 1)) (lv' := [(7, .int (x7 + 1)), (9, .int r125), (8, .int r100), (0, .ref (adr 10)), (1, .int x1), (2, .int x2), (3, .int x3), (4, .int x4), (5, .int x5), (6, .int x6)]) hx hb dX3_measure_169 hl (k := 9) rfl (congrArg (HAdd.hAdd _) (show Int32.ofInt (1) = (1 : Int32) by decide)) (by decide) rfl (fun ls hl => ?_)
            refine lv_goto (tgt := 75) hx hb dX3_measure_172 (by decide) ?_
            exact ih x1 x2 x3 x4 x5 x6 (x7 + 1) (si (si u125 6 ((u125.1 6) + (jabs (r125 - r100)))) 7 ((u125.1 7) + (1 : Int32))) _ _ _ (lv_sub hl [3, 4, 5, 6, 7, 8, 9, 0] rfl) hP hS h
  have L60 : ∀ (n : Nat), ∀ (x1 : Int32) (x2 : Int32) (x3 : Int32) (x4 : Int32) (x5 : Int32) (x6 : Int32) (u : US) (H : Heap) (locs : List Loc) (ls : Array Slot), lv_has ls 10 [(0, .ref (adr 10)), (1, .int x1), (2, .int x2), (3, .int x3), (4, .int x4), (5, .int x5), (6, .int x6)] → va_P D vwCl (fw adr cI cZ u) H → va_S A s.heap H locs → wp_X3_measure_60  post n x1 x2 x3 x4 x5 x6 u → gWv p l e wsX3_measure 2 s m [.ref (adr 10), .int p1, .int p2, .int p3] below meth c D cI cZ (fw adr cI cZ) A post H locs (F0 m 60 ls []) := by
    intro  n
    induction n with
    | zero => intro x1 x2 x3 x4 x5 x6 u H locs ls hl hP hS h; exact False.elim h
    | succ n ih =>
      intro x1 x2 x3 x4 x5 x6 u H locs ls hl hP hS h
      refine lv_iload hx hb dX3_measure_60 (lv_at hl 6 rfl) ?_
      refine lv_iload hx hb dX3_measure_62 (lv_at hl 4 rfl) ?_
      refine lv_icmp_ge (tgt := 181) hx hb dX3_measure_64 (by decide) (fun hc => ?_) (fun hc => ?_)
      · have h := h.1 hc
        exact gvret hx hb hr hlocks hK hP hS h dX3_measure_181
      · have h := h.2 hc
        refine lv_iconst (v := (0 : Int32)) hx hb dX3_measure_67 (by decide) ?_
        refine lv_iload_n hx hb dX3_measure_68 rfl (lv_at hl 2 rfl) ?_
        refine lv_ineg hx hb dX3_measure_69 ?_
        refine gmax hx hb (hml.trans hl.1.symm) (own := RX3) hown hts (by decide +kernel) (Nat.le_of_ble_eq_true rfl) (Nat.le_of_ble_eq_true rfl) (Nat.zero_le _) (Nat.zero_le _) dX3_measure_70 ?_
        refine lv_istore (lv' := [(7, .int (jmax (0 : Int32) (-x2))), (0, .ref (adr 10)), (1, .int x1), (2, .int x2), (3, .int x3), (4, .int x4), (5, .int x5), (6, .int x6)]) hx hb dX3_measure_73 hl (by decide) rfl (fun ls hl => ?_)
        obtain ⟨n, h⟩ := h
        exact L75 _ ih n x1 x2 x3 x4 x5 x6 (jmax (0 : Int32) (-x2)) u _ _ _ (lv_sub hl [1, 2, 3, 4, 5, 6, 7, 0] rfl) hP hS h
  have hl := lv_entry ([.ref (adr 10), .int p1, .int p2, .int p3]) (n := 10) (Nat.le_of_ble_eq_true rfl)
  rw [lg_entry_eq]
  generalize (lg_sl ([.ref (adr 10), .int p1, .int p2, .int p3]) ++ List.replicate (10 - (lg_sl ([.ref (adr 10), .int p1, .int p2, .int p3])).length) Slot.unset).toArray = ls at hl ⊢
  replace hl : lv_has ls 10 [(0, .ref (adr 10)), (1, .int p1), (2, .int p2), (3, .int p3)] := hl
  refine lv_aload_n hx hb dX3_measure_0 rfl (lv_at hl 0 rfl) ?_
  refine lv_iconst (v := (0 : Int32)) hx hb dX3_measure_1 (by decide) ?_
  refine fwp_10_1 (v := (0 : Int32)) hx hb hts hinX3 hown hK hP (hD _) hS (hts (.fieldLink RX3 15 "FilmBench$Shifts" "sum" "I") (by decide +kernel)) dX3_measure_2 (fun H locs hP hS => ?_)
  refine lv_aload_n hx hb dX3_measure_5 rfl (lv_at hl 0 rfl) ?_
  refine lv_iconst (v := (0 : Int32)) hx hb dX3_measure_6 (by decide) ?_
  refine fwp_10_2 (v := (0 : Int32)) hx hb hts hinX3 hown hK hP (hD _) hS (hts (.fieldLink RX3 19 "FilmBench$Shifts" "pairs" "I") (by decide +kernel)) dX3_measure_7 (fun H locs hP hS => ?_)
  refine lv_aload_n hx hb dX3_measure_10 rfl (lv_at hl 0 rfl) ?_
  refine fwg_10_0 hx hb hts hinX3 hown hK hP (hts (.fieldLink RX3 9 "FilmBench$Shifts" "film" "LFilmBench$Reel;") (by decide +kernel)) dX3_measure_11 ?_
  refine fwg_1_0 (v := (u.1 1)) hx hb hts hinX1 hown hK hP (hts (.fieldLink RX3 22 "FilmBench$Reel" "high" "I") (by decide +kernel)) dX3_measure_14 rfl ?_
  refine lv_aload_n hx hb dX3_measure_17 rfl (lv_at hl 0 rfl) ?_
  refine fwg_10_0 hx hb hts hinX3 hown hK hP (hts (.fieldLink RX3 9 "FilmBench$Shifts" "film" "LFilmBench$Reel;") (by decide +kernel)) dX3_measure_18 ?_
  refine fwg_1_0 (v := (u.1 1)) hx hb hts hinX1 hown hK hP (hts (.fieldLink RX3 22 "FilmBench$Reel" "high" "I") (by decide +kernel)) dX3_measure_21 rfl ?_
  refine lv_iload_n hx hb dX3_measure_24 rfl (lv_at hl 3 rfl) ?_
  refine lv_isub hx hb dX3_measure_25 ?_
  refine gmin hx hb (hml.trans hl.1.symm) (own := RX3) hown hts (by decide +kernel) (Nat.le_of_ble_eq_true rfl) (Nat.le_of_ble_eq_true rfl) (Nat.zero_le _) (Nat.zero_le _) dX3_measure_26 ?_
  refine lv_istore (lv' := [(4, .int (jmin (u.1 1) ((u.1 1) - p3))), (0, .ref (adr 10)), (1, .int p1), (2, .int p2), (3, .int p3)]) hx hb dX3_measure_29 hl (by decide) rfl (fun ls hl => ?_)
  refine lv_aload_n hx hb dX3_measure_31 rfl (lv_at hl 1 rfl) ?_
  refine fwg_10_0 hx hb hts hinX3 hown hK hP (hts (.fieldLink RX3 9 "FilmBench$Shifts" "film" "LFilmBench$Reel;") (by decide +kernel)) dX3_measure_32 ?_
  refine fwg_1_1 (v := (u.1 2)) hx hb hts hinX1 hown hK hP (hts (.fieldLink RX3 33 "FilmBench$Reel" "wide" "I") (by decide +kernel)) dX3_measure_35 rfl ?_
  refine lv_aload_n hx hb dX3_measure_38 rfl (lv_at hl 1 rfl) ?_
  refine fwg_10_0 hx hb hts hinX3 hown hK hP (hts (.fieldLink RX3 9 "FilmBench$Shifts" "film" "LFilmBench$Reel;") (by decide +kernel)) dX3_measure_39 ?_
  refine fwg_1_1 (v := (u.1 2)) hx hb hts hinX1 hown hK hP (hts (.fieldLink RX3 33 "FilmBench$Reel" "wide" "I") (by decide +kernel)) dX3_measure_42 rfl ?_
  refine lv_iload_n hx hb dX3_measure_45 rfl (lv_at hl 3 rfl) ?_
  refine lv_isub hx hb dX3_measure_46 ?_
  refine gmin hx hb (hml.trans hl.1.symm) (own := RX3) hown hts (by decide +kernel) (Nat.le_of_ble_eq_true rfl) (Nat.le_of_ble_eq_true rfl) (Nat.zero_le _) (Nat.zero_le _) dX3_measure_47 ?_
  refine lv_istore (lv' := [(5, .int (jmin (u.1 2) ((u.1 2) - p2))), (4, .int (jmin (u.1 1) ((u.1 1) - p3))), (0, .ref (adr 10)), (1, .int p1), (2, .int p2), (3, .int p3)]) hx hb dX3_measure_50 hl (by decide) rfl (fun ls hl => ?_)
  refine lv_iconst (v := (0 : Int32)) hx hb dX3_measure_52 (by decide) ?_
  refine lv_iload_n hx hb dX3_measure_53 rfl (lv_at hl 5 rfl) ?_
  refine lv_ineg hx hb dX3_measure_54 ?_
  refine gmax hx hb (hml.trans hl.1.symm) (own := RX3) hown hts (by decide +kernel) (Nat.le_of_ble_eq_true rfl) (Nat.le_of_ble_eq_true rfl) (Nat.zero_le _) (Nat.zero_le _) dX3_measure_55 ?_
  refine lv_istore (lv' := [(6, .int (jmax (0 : Int32) (-p3))), (5, .int (jmin (u.1 2) ((u.1 2) - p2))), (4, .int (jmin (u.1 1) ((u.1 1) - p3))), (0, .ref (adr 10)), (1, .int p1), (2, .int p2), (3, .int p3)]) hx hb dX3_measure_58 hl (by decide) rfl (fun ls hl => ?_)
  obtain ⟨n, h⟩ := h
  exact L60  n p1 p2 p3 (jmin (u.1 1) ((u.1 1) - p3)) (jmin (u.1 2) ((u.1 2) - p2)) (jmax (0 : Int32) (-p3)) (si (si u 6 (0 : Int32)) 7 (0 : Int32)) _ _ _ (lv_sub hl [3, 4, 5, 6, 2, 1, 0] rfl) hP hS h
set_option maxRecDepth 100000 in
set_option maxHeartbeats 4000000 in
theorem c_X3_isEnough (l : Launch) (D : va_G) (cI cZ : ClassId) (adr : Nat → Nat) (A : Nat → Prop) (hD : ∀ u, va_D A (fw adr cI cZ u))  (u : US) (post : Int32 → US → Prop) (h : wp_X3_isEnough  u post) : gMi l yX3_isEnough wsX3_isEnough 0 D cI cZ (fw adr cI cZ) A [.ref (adr 10)] u post := by
  refine Met.ofW (cc := cX3_isEnough) (maxL := 1) (ret := (some .boolean)) (by decide) rfl ?_
  intro p e s m args below meth c s₁ B hml hv
  obtain ⟨rfl, hP, hK⟩ := hv
  have hx := B.exec
  have hb := B.bytes
  have hr := B.returns
  have hts := atoms_spec (ws := wsX3_isEnough) B.pre
  have hown : s.vm.findClass RX3 = some m.cls := findClass_of_methodNamed B.named
  have hlocks := B.notSynchronized
  have hinX1 : ∀ w ∈ wsX10, w ∈ wsX3_isEnough := by decide +kernel
  have hinX3 : ∀ w ∈ wsX30, w ∈ wsX3_isEnough := by decide +kernel
  have hS : va_S A s.heap s.heap [] := va_S.rf
  have hl := lv_entry ([.ref (adr 10)]) (n := 1) (Nat.le_of_ble_eq_true rfl)
  rw [lg_entry_eq]
  generalize (lg_sl ([.ref (adr 10)]) ++ List.replicate (1 - (lg_sl ([.ref (adr 10)])).length) Slot.unset).toArray = ls at hl ⊢
  replace hl : lv_has ls 1 [(0, .ref (adr 10))] := hl
  refine lv_iconst (v := (4 : Int32)) hx hb dX3_isEnough_0 (by decide) ?_
  refine lv_aload_n hx hb dX3_isEnough_1 rfl (lv_at hl 0 rfl) ?_
  refine fwg_10_2 (v := (u.1 7)) hx hb hts hinX3 hown hK hP (hts (.fieldLink RX3 19 "FilmBench$Shifts" "pairs" "I") (by decide +kernel)) dX3_isEnough_2 rfl ?_
  refine lv_imul hx hb dX3_isEnough_5 ?_
  refine lv_aload_n hx hb dX3_isEnough_6 rfl (lv_at hl 0 rfl) ?_
  refine fwg_10_0 hx hb hts hinX3 hown hK hP (hts (.fieldLink RX3 9 "FilmBench$Shifts" "film" "LFilmBench$Reel;") (by decide +kernel)) dX3_isEnough_7 ?_
  refine fwg_1_2 (v := (u.1 3)) hx hb hts hinX1 hown hK hP (hts (.fieldLink RX3 49 "FilmBench$Reel" "squares" "I") (by decide +kernel)) dX3_isEnough_10 rfl ?_
  refine lv_icmp_lt (tgt := 20) hx hb dX3_isEnough_13 (by decide) (fun hc => ?_) (fun hc => ?_)
  · have h := h.1 hc
    refine lv_iconst (v := (0 : Int32)) hx hb dX3_isEnough_20 (by decide) ?_
    exact gzret hx hb hr hlocks hK hP hS rfl h dX3_isEnough_21
  · have h := h.2 hc
    refine lv_iconst (v := (1 : Int32)) hx hb dX3_isEnough_16 (by decide) ?_
    refine lv_goto (tgt := 21) hx hb dX3_isEnough_17 (by decide) ?_
    exact gzret hx hb hr hlocks hK hP hS rfl h dX3_isEnough_21
set_option maxRecDepth 100000 in
set_option maxHeartbeats 4000000 in
theorem c_X5_commonDivisor (l : Launch) (D : va_G) (cI cZ : ClassId) (adr : Nat → Nat) (A : Nat → Prop) (hD : ∀ u, va_D A (fw adr cI cZ u)) (p0 : Int32) (p1 : Int32) (u : US) (post : Int32 → US → Prop) (h : wp_X5_commonDivisor p0 p1 u post) : gMi l yX5_commonDivisor wsX5_commonDivisor 0 D cI cZ (fw adr cI cZ) A [.int p0, .int p1] u post := by
  refine Met.ofW (cc := cX5_commonDivisor) (maxL := 6) (ret := (some .int)) (by decide) rfl ?_
  intro p e s m args below meth c s₁ B hml hv
  obtain ⟨rfl, hP, hK⟩ := hv
  have hx := B.exec
  have hb := B.bytes
  have hr := B.returns
  have hts := atoms_spec (ws := wsX5_commonDivisor) B.pre
  have hown : s.vm.findClass RX5 = some m.cls := findClass_of_methodNamed B.named
  have hlocks := B.notSynchronized
  have hS : va_S A s.heap s.heap [] := va_S.rf
  have L7 : ∀ (n : Nat), ∀ (x2 : Int32) (x3 : Int32) (x4 : Int32) (u : US) (H : Heap) (locs : List Loc) (ls : Array Slot), lv_has ls 6 [(2, .int x2), (3, .int x3), (4, .int x4)] → va_P D vwCl (fw adr cI cZ u) H → va_S A s.heap H locs → wp_X5_commonDivisor_7  post n x2 x3 x4 u → gWi p l e wsX5_commonDivisor 0 s m [.int p0, .int p1] below meth c D cI cZ (fw adr cI cZ) A post H locs (F0 m 7 ls []) := by
    intro  n
    induction n with
    | zero => intro x2 x3 x4 u H locs ls hl hP hS h; exact False.elim h
    | succ n ih =>
      intro x2 x3 x4 u H locs ls hl hP hS h
      refine lv_iload hx hb dX5_commonDivisor_7 (lv_at hl 2 rfl) ?_
      refine lv_bipush (v := (100 : Int32)) hx hb dX5_commonDivisor_9 (by decide) ?_
      refine lv_icmp_ge (tgt := 34) hx hb dX5_commonDivisor_11 (by decide) (fun hc => ?_) (fun hc => ?_)
      · have h := h.1 hc
        refine lv_iload_n hx hb dX5_commonDivisor_34 rfl (lv_at hl 0 rfl) ?_
        exact giret hx hb hr hlocks hK hP hS h dX5_commonDivisor_35
      · have h := h.2 hc
        refine lv_iload_n hx hb dX5_commonDivisor_14 rfl (lv_at hl 1 rfl) ?_
        refine lv_if_eq (tgt := 34) hx hb dX5_commonDivisor_15 (by decide) (fun hc => ?_) (fun hc => ?_)
        · have h := h.1 hc
          refine lv_iload_n hx hb dX5_commonDivisor_34 rfl (lv_at hl 0 rfl) ?_
          exact giret hx hb hr hlocks hK hP hS h dX5_commonDivisor_35
        · have h := h.2 hc
          refine lv_iload_n hx hb dX5_commonDivisor_18 rfl (lv_at hl 0 rfl) ?_
          refine lv_iload_n hx hb dX5_commonDivisor_19 rfl (lv_at hl 1 rfl) ?_
          refine lv_irem hx hb dX5_commonDivisor_20 h.1 ?_
          have h := h.2
          refine lv_istore (lv' := [(5, .int (x2 - x2 / x3 * x3)), (2, .int x2), (3, .int x3), (4, .int x4)]) hx hb dX5_commonDivisor_21 hl (by decide) rfl (fun ls hl => ?_)
          refine lv_iload_n hx hb dX5_commonDivisor_23 rfl (lv_at hl 2 rfl) ?_
          refine lv_istore_n (lv' := [(2, .int x3), (5, .int (x2 - x2 / x3 * x3)), (3, .int x3), (4, .int x4)]) hx hb dX5_commonDivisor_24 rfl hl (by decide) rfl (fun ls hl => ?_)
          refine lv_iload hx hb dX5_commonDivisor_25 (lv_at hl 1 rfl) ?_
          refine lv_istore_n (lv' := [(3, .int (x2 - x2 / x3 * x3)), (2, .int x3), (5, .int (x2 - x2 / x3 * x3)), (4, .int x4)]) hx hb dX5_commonDivisor_27 rfl hl (by decide) rfl (fun ls hl => ?_)
          refine lv_iinc (v := (x4 + 1)) (lv' := [(4, .int (x4 + 1)), (3, .int (x2 - x2 / x3 * x3)), (2, .int x3), (5, .int (x2 - x2 / x3 * x3))]) hx hb dX5_commonDivisor_28 hl (k := 3) rfl (congrArg (HAdd.hAdd _) (show Int32.ofInt (1) = (1 : Int32) by decide)) (by decide) rfl (fun ls hl => ?_)
          refine lv_goto (tgt := 7) hx hb dX5_commonDivisor_31 (by decide) ?_
          exact ih x3 (x2 - x2 / x3 * x3) (x4 + 1) u _ _ _ (lv_sub hl [2, 1, 0] rfl) hP hS h
  have hl := lv_entry ([.int p0, .int p1]) (n := 6) (Nat.le_of_ble_eq_true rfl)
  rw [lg_entry_eq]
  generalize (lg_sl ([.int p0, .int p1]) ++ List.replicate (6 - (lg_sl ([.int p0, .int p1])).length) Slot.unset).toArray = ls at hl ⊢
  replace hl : lv_has ls 6 [(0, .int p0), (1, .int p1)] := hl
  refine lv_iload_n hx hb dX5_commonDivisor_0 rfl (lv_at hl 0 rfl) ?_
  refine lv_istore_n (lv' := [(2, .int p0), (0, .int p0), (1, .int p1)]) hx hb dX5_commonDivisor_1 rfl hl (by decide) rfl (fun ls hl => ?_)
  refine lv_iload_n hx hb dX5_commonDivisor_2 rfl (lv_at hl 2 rfl) ?_
  refine lv_istore_n (lv' := [(3, .int p1), (2, .int p0), (0, .int p0), (1, .int p1)]) hx hb dX5_commonDivisor_3 rfl hl (by decide) rfl (fun ls hl => ?_)
  refine lv_iconst (v := (0 : Int32)) hx hb dX5_commonDivisor_4 (by decide) ?_
  refine lv_istore (lv' := [(4, .int (0 : Int32)), (3, .int p1), (2, .int p0), (0, .int p0), (1, .int p1)]) hx hb dX5_commonDivisor_5 hl (by decide) rfl (fun ls hl => ?_)
  obtain ⟨n, h⟩ := h
  exact L7  n p0 p1 (0 : Int32) u _ _ _ (lv_sub hl [2, 1, 0] rfl) hP hS h
set_option maxRecDepth 100000 in
set_option maxHeartbeats 4000000 in
theorem c_X5_miss (l : Launch) (D : va_G) (cI cZ : ClassId) (adr : Nat → Nat) (A : Nat → Prop) (hD : ∀ u, va_D A (fw adr cI cZ u)) (p1 : Int32) (p2 : Int32) (p3 : Int32) (p4 : Int32) (u : US) (post : Int32 → US → Prop) (h : wp_X5_miss p1 p2 p3 p4 u post) : gMi l yX5_miss wsX5_miss 3 D cI cZ (fw adr cI cZ) A [.ref (adr 0), .int p1, .int p2, .int p3, .int p4] u post := by
  refine Met.ofW (cc := cX5_miss) (maxL := 6) (ret := (some .int)) (by decide) rfl ?_
  intro p e s m args below meth c s₁ B hml hv
  obtain ⟨rfl, hP, hK⟩ := hv
  have hx := B.exec
  have hb := B.bytes
  have hr := B.returns
  have hts := atoms_spec (ws := wsX5_miss) B.pre
  have hown : s.vm.findClass RX5 = some m.cls := findClass_of_methodNamed B.named
  have hlocks := B.notSynchronized
  have hinX3 : ∀ w ∈ wsX30, w ∈ wsX5_miss := by decide +kernel
  have hinX5 : ∀ w ∈ wsX50, w ∈ wsX5_miss := by decide +kernel
  have hS : va_S A s.heap s.heap [] := va_S.rf
  have hl := lv_entry ([.ref (adr 0), .int p1, .int p2, .int p3, .int p4]) (n := 6) (Nat.le_of_ble_eq_true rfl)
  rw [lg_entry_eq]
  generalize (lg_sl ([.ref (adr 0), .int p1, .int p2, .int p3, .int p4]) ++ List.replicate (6 - (lg_sl ([.ref (adr 0), .int p1, .int p2, .int p3, .int p4])).length) Slot.unset).toArray = ls at hl ⊢
  replace hl : lv_has ls 6 [(0, .ref (adr 0)), (1, .int p1), (2, .int p2), (3, .int p3), (4, .int p4)] := hl
  refine lv_aload_n hx hb dX5_miss_0 rfl (lv_at hl 0 rfl) ?_
  refine fwg_0_0 hx hb hts hinX5 hown hK hP (hts (.fieldLink RX5 12 "FilmBench" "film" "LFilmBench$Reel;") (by decide +kernel)) dX5_miss_1 ?_
  refine lv_iload_n hx hb dX5_miss_4 rfl (lv_at hl 1 rfl) ?_
  refine gcallVi (As := [.int p1]) (rest := []) ⟨hx, hb, hml, hown, hts⟩ (c_X1_hasFrame l D cI cZ adr A hD p1 u _ h) (cwV 1 hts gX5_miss_X1_hasFrame rfl rfl rfl (by decide +kernel) ⟨Nat.le_of_ble_eq_true rfl, Nat.le_of_ble_eq_true rfl⟩) (va_recv hK hP (ci := 1) (q0 := 1) rfl rfl) hK hP hS rfl hl.1 rfl (Nat.le_of_ble_eq_true rfl) dX5_miss_5 ⟨Nat.le_refl _, Nat.le_refl _⟩ (fun r5 u5 H locs h hP hS => ?_)
  refine lv_if_eq (tgt := 45) hx hb dX5_miss_8 (by decide) (fun hc => ?_) (fun hc => ?_)
  · have h := h.1 hc
    refine lv_iconst (v := (-1 : Int32)) hx hb dX5_miss_45 (by decide) ?_
    exact giret hx hb hr hlocks hK hP hS h dX5_miss_46
  · have h := h.2 hc
    refine lv_iload_n hx hb dX5_miss_11 rfl (lv_at hl 1 rfl) ?_
    refine lv_if_eq (tgt := 45) hx hb dX5_miss_12 (by decide) (fun hc => ?_) (fun hc => ?_)
    · have h := h.1 hc
      refine lv_iconst (v := (-1 : Int32)) hx hb dX5_miss_45 (by decide) ?_
      exact giret hx hb hr hlocks hK hP hS h dX5_miss_46
    · have h := h.2 hc
      refine lv_iload hx hb dX5_miss_15 (lv_at hl 4 rfl) ?_
      refine lv_iconst (v := (0 : Int32)) hx hb dX5_miss_17 (by decide) ?_
      refine lv_iconst (v := (1 : Int32)) hx hb dX5_miss_18 (by decide) ?_
      refine gcallSi (As := [.int p4, .int (0 : Int32), .int (1 : Int32)]) (rest := []) ⟨hx, hb, hml, hown, hts⟩ (c_X5_isWithin l D cI cZ adr A hD p4 (0 : Int32) (1 : Int32) u5 _ h) (va_cwS 3 hts gX5_miss_X5_isWithin rfl rfl rfl (by decide +kernel) ⟨Nat.le_of_ble_eq_true rfl, Nat.le_of_ble_eq_true rfl⟩) hK hP hS rfl hl.1 rfl (Nat.le_of_ble_eq_true rfl) dX5_miss_19 ⟨Nat.le_refl _, Nat.le_refl _⟩ (fun r19 u19 H locs h hP hS => ?_)
      refine lv_if_eq (tgt := 45) hx hb dX5_miss_22 (by decide) (fun hc => ?_) (fun hc => ?_)
      · have h := h.1 hc
        refine lv_iconst (v := (-1 : Int32)) hx hb dX5_miss_45 (by decide) ?_
        exact giret hx hb hr hlocks hK hP hS h dX5_miss_46
      · have h := h.2 hc
        refine lv_iload_n hx hb dX5_miss_25 rfl (lv_at hl 2 rfl) ?_
        refine lv_bipush (v := (-2 : Int32)) hx hb dX5_miss_26 (by decide) ?_
        refine lv_iconst (v := (2 : Int32)) hx hb dX5_miss_28 (by decide) ?_
        refine gcallSi (As := [.int p2, .int (-2 : Int32), .int (2 : Int32)]) (rest := []) ⟨hx, hb, hml, hown, hts⟩ (c_X5_isWithin l D cI cZ adr A hD p2 (-2 : Int32) (2 : Int32) u19 _ h) (va_cwS 3 hts gX5_miss_X5_isWithin rfl rfl rfl (by decide +kernel) ⟨Nat.le_of_ble_eq_true rfl, Nat.le_of_ble_eq_true rfl⟩) hK hP hS rfl hl.1 rfl (Nat.le_of_ble_eq_true rfl) dX5_miss_29 ⟨Nat.le_refl _, Nat.le_refl _⟩ (fun r29 u29 H locs h hP hS => ?_)
        refine lv_if_eq (tgt := 45) hx hb dX5_miss_32 (by decide) (fun hc => ?_) (fun hc => ?_)
        · have h := h.1 hc
          refine lv_iconst (v := (-1 : Int32)) hx hb dX5_miss_45 (by decide) ?_
          exact giret hx hb hr hlocks hK hP hS h dX5_miss_46
        · have h := h.2 hc
          refine lv_iload_n hx hb dX5_miss_35 rfl (lv_at hl 3 rfl) ?_
          refine lv_bipush (v := (-2 : Int32)) hx hb dX5_miss_36 (by decide) ?_
          refine lv_iconst (v := (2 : Int32)) hx hb dX5_miss_38 (by decide) ?_
          refine gcallSi (As := [.int p3, .int (-2 : Int32), .int (2 : Int32)]) (rest := []) ⟨hx, hb, hml, hown, hts⟩ (c_X5_isWithin l D cI cZ adr A hD p3 (-2 : Int32) (2 : Int32) u29 _ h) (va_cwS 3 hts gX5_miss_X5_isWithin rfl rfl rfl (by decide +kernel) ⟨Nat.le_of_ble_eq_true rfl, Nat.le_of_ble_eq_true rfl⟩) hK hP hS rfl hl.1 rfl (Nat.le_of_ble_eq_true rfl) dX5_miss_39 ⟨Nat.le_refl _, Nat.le_refl _⟩ (fun r39 u39 H locs h hP hS => ?_)
          refine lv_if_ne (tgt := 47) hx hb dX5_miss_42 (by decide) (fun hc => ?_) (fun hc => ?_)
          · have h := h.2 hc
            refine lv_aload_n hx hb dX5_miss_47 rfl (lv_at hl 0 rfl) ?_
            refine fwg_0_3 hx hb hts hinX5 hown hK hP (hts (.fieldLink RX5 41 "FilmBench" "shifts" "LFilmBench$Shifts;") (by decide +kernel)) dX5_miss_48 ?_
            refine lv_iload_n hx hb dX5_miss_51 rfl (lv_at hl 1 rfl) ?_
            refine lv_iload_n hx hb dX5_miss_52 rfl (lv_at hl 2 rfl) ?_
            refine lv_iload_n hx hb dX5_miss_53 rfl (lv_at hl 3 rfl) ?_
            refine gcallVv (As := [.int p1, .int p2, .int p3]) (rest := []) ⟨hx, hb, hml, hown, hts⟩ (c_X3_measure l D cI cZ adr A hD p1 p2 p3 u39 _ h) (cwV 3 hts gX5_miss_X3_measure rfl rfl rfl (by decide +kernel) ⟨Nat.le_of_ble_eq_true rfl, Nat.le_of_ble_eq_true rfl⟩) (va_recv hK hP (ci := 3) (q0 := 10) rfl rfl) hK hP hS rfl hl.1 rfl (Nat.le_of_ble_eq_true rfl) dX5_miss_54 ⟨Nat.le_refl _, Nat.le_refl _⟩ (fun u54 H locs h hP hS => ?_)
            refine lv_aload_n hx hb dX5_miss_57 rfl (lv_at hl 0 rfl) ?_
            refine fwg_0_3 hx hb hts hinX5 hown hK hP (hts (.fieldLink RX5 41 "FilmBench" "shifts" "LFilmBench$Shifts;") (by decide +kernel)) dX5_miss_58 ?_
            refine gcallVi (As := []) (rest := []) ⟨hx, hb, hml, hown, hts⟩ (c_X3_isEnough l D cI cZ adr A hD u54 _ h) (cwV 0 hts gX5_miss_X3_isEnough rfl rfl rfl (by decide +kernel) ⟨Nat.le_of_ble_eq_true rfl, Nat.le_of_ble_eq_true rfl⟩) (va_recv hK hP (ci := 3) (q0 := 10) rfl rfl) hK hP hS rfl hl.1 rfl (Nat.le_of_ble_eq_true rfl) dX5_miss_61 ⟨Nat.le_refl _, Nat.le_refl _⟩ (fun r61 u61 H locs h hP hS => ?_)
            refine lv_if_ne (tgt := 70) hx hb dX5_miss_64 (by decide) (fun hc => ?_) (fun hc => ?_)
            · have h := h.2 hc
              refine lv_aload_n hx hb dX5_miss_70 rfl (lv_at hl 0 rfl) ?_
              refine fwg_0_3 hx hb hts hinX5 hown hK hP (hts (.fieldLink RX5 41 "FilmBench" "shifts" "LFilmBench$Shifts;") (by decide +kernel)) dX5_miss_71 ?_
              refine fwg_10_1 (v := (u61.1 6)) hx hb hts hinX3 hown hK hP (hts (.fieldLink RX5 132 "FilmBench$Shifts" "sum" "I") (by decide +kernel)) dX5_miss_74 rfl ?_
              refine lv_aload_n hx hb dX5_miss_77 rfl (lv_at hl 0 rfl) ?_
              refine fwg_0_3 hx hb hts hinX5 hown hK hP (hts (.fieldLink RX5 41 "FilmBench" "shifts" "LFilmBench$Shifts;") (by decide +kernel)) dX5_miss_78 ?_
              refine fwg_10_2 (v := (u61.1 7)) hx hb hts hinX3 hown hK hP (hts (.fieldLink RX5 135 "FilmBench$Shifts" "pairs" "I") (by decide +kernel)) dX5_miss_81 rfl ?_
              refine gcallSi (As := [.int (u61.1 6), .int (u61.1 7)]) (rest := []) ⟨hx, hb, hml, hown, hts⟩ (c_X5_commonDivisor l D cI cZ adr A hD (u61.1 6) (u61.1 7) u61 _ h) (va_cwS 2 hts gX5_miss_X5_commonDivisor rfl rfl rfl (by decide +kernel) ⟨Nat.le_of_ble_eq_true rfl, Nat.le_of_ble_eq_true rfl⟩) hK hP hS rfl hl.1 rfl (Nat.le_of_ble_eq_true rfl) dX5_miss_84 ⟨Nat.le_refl _, Nat.le_refl _⟩ (fun r84 u84 H locs h hP hS => ?_)
              refine lv_istore (lv' := [(5, .int r84), (0, .ref (adr 0)), (1, .int p1), (2, .int p2), (3, .int p3), (4, .int p4)]) hx hb dX5_miss_87 hl (by decide) rfl (fun ls hl => ?_)
              refine lv_iload hx hb dX5_miss_89 (lv_at hl 0 rfl) ?_
              refine lv_iconst (v := (1 : Int32)) hx hb dX5_miss_91 (by decide) ?_
              refine lv_icmp_ge (tgt := 98) hx hb dX5_miss_92 (by decide) (fun hc => ?_) (fun hc => ?_)
              · have h := h.1 hc
                refine lv_iload hx hb dX5_miss_98 (lv_at hl 5 rfl) ?_
                refine lv_if_ne (tgt := 113) hx hb dX5_miss_100 (by decide) (fun hc => ?_) (fun hc => ?_)
                · have h := h.2 hc
                  refine lv_aload_n hx hb dX5_miss_113 rfl (lv_at hl 1 rfl) ?_
                  refine fwg_0_3 hx hb hts hinX5 hown hK hP (hts (.fieldLink RX5 41 "FilmBench" "shifts" "LFilmBench$Shifts;") (by decide +kernel)) dX5_miss_114 ?_
                  refine fwg_10_2 (v := (u84.1 7)) hx hb hts hinX3 hown hK hP (hts (.fieldLink RX5 135 "FilmBench$Shifts" "pairs" "I") (by decide +kernel)) dX5_miss_117 rfl ?_
                  refine lv_iload hx hb dX5_miss_120 (lv_at hl 0 rfl) ?_
                  refine lv_idiv hx hb dX5_miss_122 h.1 ?_
                  have h := h.2
                  exact giret hx hb hr hlocks hK hP hS h dX5_miss_123
                · have h := h.1 hc
                  refine lv_aload_n hx hb dX5_miss_103 rfl (lv_at hl 1 rfl) ?_
                  refine fwg_0_3 hx hb hts hinX5 hown hK hP (hts (.fieldLink RX5 41 "FilmBench" "shifts" "LFilmBench$Shifts;") (by decide +kernel)) dX5_miss_104 ?_
                  refine fwg_10_1 (v := (u84.1 6)) hx hb hts hinX3 hown hK hP (hts (.fieldLink RX5 132 "FilmBench$Shifts" "sum" "I") (by decide +kernel)) dX5_miss_107 rfl ?_
                  refine lv_goto (tgt := 120) hx hb dX5_miss_110 (by decide) ?_
                  refine lv_iload hx hb dX5_miss_120 (lv_at hl 0 rfl) ?_
                  refine lv_idiv hx hb dX5_miss_122 h.1 ?_
                  have h := h.2
                  exact giret hx hb hr hlocks hK hP hS h dX5_miss_123
              · have h := h.2 hc
                refine lv_bipush (v := (-3 : Int32)) hx hb dX5_miss_95 (by decide) ?_
                exact giret hx hb hr hlocks hK hP hS h dX5_miss_97
            · have h := h.1 hc
              refine lv_bipush (v := (-3 : Int32)) hx hb dX5_miss_67 (by decide) ?_
              exact giret hx hb hr hlocks hK hP hS h dX5_miss_69
          · have h := h.1 hc
            refine lv_iconst (v := (-1 : Int32)) hx hb dX5_miss_45 (by decide) ?_
            exact giret hx hb hr hlocks hK hP hS h dX5_miss_46
