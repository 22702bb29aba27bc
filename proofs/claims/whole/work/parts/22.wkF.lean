set_option maxRecDepth 100000 in
set_option maxHeartbeats 4000000 in
theorem c_X3_isBetter (l : Launch) (D : va_G) (cI cZ : ClassId) (adr : Nat → Nat) (A : Nat → Prop) (hD : ∀ u, va_D A (fw adr cI cZ u)) (p1 : Int32) (p2 : Int32) (u : US) (post : Int32 → US → Prop) (h : wp_X3_isBetter p1 p2 u post) : gMi l yX3_isBetter wsX3_isBetter 1 D cI cZ (fw adr cI cZ) A [.ref (adr 10), .int p1, .int p2] u post := by
  refine Met.ofW (cc := cX3_isBetter) (maxL := 5) (ret := (some .boolean)) (by decide) rfl ?_
  intro p e s m args below meth c s₁ B hml hv
  obtain ⟨rfl, hP, hK⟩ := hv
  have hx := B.exec
  have hb := B.bytes
  have hr := B.returns
  have hts := atoms_spec (ws := wsX3_isBetter) B.pre
  have hown : s.vm.findClass RX3 = some m.cls := findClass_of_methodNamed B.named
  have hlocks := B.notSynchronized
  have hinX3 : ∀ w ∈ wsX30, w ∈ wsX3_isBetter := by decide +kernel
  have hS : va_S A s.heap s.heap [] := va_S.rf
  have hl := lv_entry ([.ref (adr 10), .int p1, .int p2]) (n := 5) (Nat.le_of_ble_eq_true rfl)
  rw [lg_entry_eq]
  generalize (lg_sl ([.ref (adr 10), .int p1, .int p2]) ++ List.replicate (5 - (lg_sl ([.ref (adr 10), .int p1, .int p2])).length) Slot.unset).toArray = ls at hl ⊢
  replace hl : lv_has ls 5 [(0, .ref (adr 10)), (1, .int p1), (2, .int p2)] := hl
  refine lv_aload_n hx hb dX3_isBetter_0 rfl (lv_at hl 0 rfl) ?_
  refine fwg_10_6 (v := (u.1 11)) hx hb hts hinX3 hown hK hP (hts (.fieldLink RX3 58 "FilmBench$Shifts" "bestPairs" "I") (by decide +kernel)) dX3_isBetter_1 rfl ?_
  refine lv_if_ne (tgt := 9) hx hb dX3_isBetter_4 (by decide) (fun hc => ?_) (fun hc => ?_)
  · have h := h.2 hc
    refine lv_aload_n hx hb dX3_isBetter_9 rfl (lv_at hl 0 rfl) ?_
    refine fwg_10_1 (v := (u.1 6)) hx hb hts hinX3 hown hK hP (hts (.fieldLink RX3 15 "FilmBench$Shifts" "sum" "I") (by decide +kernel)) dX3_isBetter_10 rfl ?_
    refine lv_aload_n hx hb dX3_isBetter_13 rfl (lv_at hl 0 rfl) ?_
    refine fwg_10_6 (v := (u.1 11)) hx hb hts hinX3 hown hK hP (hts (.fieldLink RX3 58 "FilmBench$Shifts" "bestPairs" "I") (by decide +kernel)) dX3_isBetter_14 rfl ?_
    refine lv_imul hx hb dX3_isBetter_17 ?_
    refine lv_istore_n (lv' := [(3, .int ((u.1 6) * (u.1 11))), (0, .ref (adr 10)), (1, .int p1), (2, .int p2)]) hx hb dX3_isBetter_18 rfl hl (by decide) rfl (fun ls hl => ?_)
    refine lv_aload_n hx hb dX3_isBetter_19 rfl (lv_at hl 1 rfl) ?_
    refine fwg_10_5 (v := (u.1 10)) hx hb hts hinX3 hown hK hP (hts (.fieldLink RX3 73 "FilmBench$Shifts" "bestSum" "I") (by decide +kernel)) dX3_isBetter_20 rfl ?_
    refine lv_aload_n hx hb dX3_isBetter_23 rfl (lv_at hl 1 rfl) ?_
    refine fwg_10_2 (v := (u.1 7)) hx hb hts hinX3 hown hK hP (hts (.fieldLink RX3 19 "FilmBench$Shifts" "pairs" "I") (by decide +kernel)) dX3_isBetter_24 rfl ?_
    refine lv_imul hx hb dX3_isBetter_27 ?_
    refine lv_istore (lv' := [(4, .int ((u.1 10) * (u.1 7))), (3, .int ((u.1 6) * (u.1 11))), (0, .ref (adr 10)), (1, .int p1), (2, .int p2)]) hx hb dX3_isBetter_28 hl (by decide) rfl (fun ls hl => ?_)
    refine lv_iload_n hx hb dX3_isBetter_30 rfl (lv_at hl 1 rfl) ?_
    refine lv_iload hx hb dX3_isBetter_31 (lv_at hl 0 rfl) ?_
    refine lv_icmp_eq (tgt := 48) hx hb dX3_isBetter_33 (by decide) (fun hc => ?_) (fun hc => ?_)
    · have h := h.1 hc
      refine lv_iload_n hx hb dX3_isBetter_48 rfl (lv_at hl 3 rfl) ?_
      refine gabs hx hb (hml.trans hl.1.symm) (own := RX3) hown hts (by decide +kernel) (Nat.le_of_ble_eq_true rfl) (Nat.le_of_ble_eq_true rfl) (Nat.zero_le _) (Nat.zero_le _) dX3_isBetter_49 ?_
      refine lv_iload_n hx hb dX3_isBetter_52 rfl (lv_at hl 4 rfl) ?_
      refine gabs hx hb (hml.trans hl.1.symm) (own := RX3) hown hts (by decide +kernel) (Nat.le_of_ble_eq_true rfl) (Nat.le_of_ble_eq_true rfl) (Nat.zero_le _) (Nat.zero_le _) dX3_isBetter_53 ?_
      refine lv_iadd hx hb dX3_isBetter_56 ?_
      refine lv_aload_n hx hb dX3_isBetter_57 rfl (lv_at hl 2 rfl) ?_
      refine fwg_10_3 (v := (u.1 8)) hx hb hts hinX3 hown hK hP (hts (.fieldLink RX3 52 "FilmBench$Shifts" "bestX" "I") (by decide +kernel)) dX3_isBetter_58 rfl ?_
      refine gabs hx hb (hml.trans hl.1.symm) (own := RX3) hown hts (by decide +kernel) (Nat.le_of_ble_eq_true rfl) (Nat.le_of_ble_eq_true rfl) (Nat.zero_le _) (Nat.zero_le _) dX3_isBetter_61 ?_
      refine lv_aload_n hx hb dX3_isBetter_64 rfl (lv_at hl 2 rfl) ?_
      refine fwg_10_4 (v := (u.1 9)) hx hb hts hinX3 hown hK hP (hts (.fieldLink RX3 55 "FilmBench$Shifts" "bestY" "I") (by decide +kernel)) dX3_isBetter_65 rfl ?_
      refine gabs hx hb (hml.trans hl.1.symm) (own := RX3) hown hts (by decide +kernel) (Nat.le_of_ble_eq_true rfl) (Nat.le_of_ble_eq_true rfl) (Nat.zero_le _) (Nat.zero_le _) dX3_isBetter_68 ?_
      refine lv_iadd hx hb dX3_isBetter_71 ?_
      refine lv_icmp_ge (tgt := 79) hx hb dX3_isBetter_72 (by decide) (fun hc => ?_) (fun hc => ?_)
      · have h := h.1 hc
        refine lv_iconst (v := (0 : Int32)) hx hb dX3_isBetter_79 (by decide) ?_
        exact gzret hx hb hr hlocks hK hP hS rfl h dX3_isBetter_80
      · have h := h.2 hc
        refine lv_iconst (v := (1 : Int32)) hx hb dX3_isBetter_75 (by decide) ?_
        refine lv_goto (tgt := 80) hx hb dX3_isBetter_76 (by decide) ?_
        exact gzret hx hb hr hlocks hK hP hS rfl h dX3_isBetter_80
    · have h := h.2 hc
      refine lv_iload_n hx hb dX3_isBetter_36 rfl (lv_at hl 1 rfl) ?_
      refine lv_iload hx hb dX3_isBetter_37 (lv_at hl 0 rfl) ?_
      refine lv_icmp_ge (tgt := 46) hx hb dX3_isBetter_39 (by decide) (fun hc => ?_) (fun hc => ?_)
      · have h := h.1 hc
        refine lv_iconst (v := (0 : Int32)) hx hb dX3_isBetter_46 (by decide) ?_
        exact gzret hx hb hr hlocks hK hP hS rfl h dX3_isBetter_47
      · have h := h.2 hc
        refine lv_iconst (v := (1 : Int32)) hx hb dX3_isBetter_42 (by decide) ?_
        refine lv_goto (tgt := 47) hx hb dX3_isBetter_43 (by decide) ?_
        exact gzret hx hb hr hlocks hK hP hS rfl h dX3_isBetter_47
  · have h := h.1 hc
    refine lv_iconst (v := (1 : Int32)) hx hb dX3_isBetter_7 (by decide) ?_
    exact gzret hx hb hr hlocks hK hP hS rfl h dX3_isBetter_8
set_option maxRecDepth 100000 in
set_option maxHeartbeats 4000000 in
theorem c_X3_find (l : Launch) (D : va_G) (cI cZ : ClassId) (adr : Nat → Nat) (A : Nat → Prop) (hD : ∀ u, va_D A (fw adr cI cZ u)) (p1 : Int32) (u : US) (post : US → Prop) (h : wp_X3_find p1 u post) : gMv l yX3_find wsX3_find 3 D cI cZ (fw adr cI cZ) A [.ref (adr 10), .int p1] u post := by
  refine Met.ofW (cc := cX3_find) (maxL := 4) (ret := none) (by decide) rfl ?_
  intro p e s m args below meth c s₁ B hml hv
  obtain ⟨rfl, hP, hK⟩ := hv
  have hx := B.exec
  have hb := B.bytes
  have hr := B.returns
  have hts := atoms_spec (ws := wsX3_find) B.pre
  have hown : s.vm.findClass RX3 = some m.cls := findClass_of_methodNamed B.named
  have hlocks := B.notSynchronized
  have hinX3 : ∀ w ∈ wsX30, w ∈ wsX3_find := by decide +kernel
  have hS : va_S A s.heap s.heap [] := va_S.rf
  have L26 : ∀ (k18 : Int32 → Int32 → US → Prop) (hk18 : ∀ (x1 : Int32) (x2 : Int32) (u : US) (H : Heap) (locs : List Loc) (ls : Array Slot), lv_has ls 4 [(0, .ref (adr 10)), (1, .int x1), (2, .int x2)] → va_P D vwCl (fw adr cI cZ u) H → va_S A s.heap H locs → k18 x1 x2 u → gWv p l e wsX3_find 3 s m [.ref (adr 10), .int p1] below meth c D cI cZ (fw adr cI cZ) A post H locs (F0 m 18 ls [])), ∀ (n : Nat), ∀ (x1 : Int32) (x2 : Int32) (x3 : Int32) (u : US) (H : Heap) (locs : List Loc) (ls : Array Slot), lv_has ls 4 [(0, .ref (adr 10)), (1, .int x1), (2, .int x2), (3, .int x3)] → va_P D vwCl (fw adr cI cZ u) H → va_S A s.heap H locs → wp_X3_find_26 k18 post n x1 x2 x3 u → gWv p l e wsX3_find 3 s m [.ref (adr 10), .int p1] below meth c D cI cZ (fw adr cI cZ) A post H locs (F0 m 26 ls []) := by
    intro k18 hk18 n
    induction n with
    | zero => intro x1 x2 x3 u H locs ls hl hP hS h; exact False.elim h
    | succ n ih =>
      intro x1 x2 x3 u H locs ls hl hP hS h
      refine lv_iload_n hx hb dX3_find_26 rfl (lv_at hl 3 rfl) ?_
      refine lv_iconst (v := (2 : Int32)) hx hb dX3_find_27 (by decide) ?_
      refine lv_icmp_gt (tgt := 86) hx hb dX3_find_28 (by decide) (fun hc => ?_) (fun hc => ?_)
      · have h := h.1 hc
        refine lv_iinc (v := (x2 + 1)) (lv' := [(2, .int (x2 + 1)), (0, .ref (adr 10)), (1, .int x1), (3, .int x3)]) hx hb dX3_find_86 hl (k := 2) rfl (congrArg (HAdd.hAdd _) (show Int32.ofInt (1) = (1 : Int32) by decide)) (by decide) rfl (fun ls hl => ?_)
        refine lv_goto (tgt := 18) hx hb dX3_find_89 (by decide) ?_
        exact hk18 x1 (x2 + 1) u _ _ _ (lv_sub hl [1, 2, 0] rfl) hP hS h
      · have h := h.2 hc
        refine lv_aload_n hx hb dX3_find_31 rfl (lv_at hl 0 rfl) ?_
        refine lv_iload_n hx hb dX3_find_32 rfl (lv_at hl 1 rfl) ?_
        refine lv_iload_n hx hb dX3_find_33 rfl (lv_at hl 3 rfl) ?_
        refine lv_iload_n hx hb dX3_find_34 rfl (lv_at hl 2 rfl) ?_
        refine gcallVv (As := [.int x1, .int x3, .int x2]) (rest := []) ⟨hx, hb, hml, hown, hts⟩ (c_X3_measure l D cI cZ adr A hD x1 x3 x2 u _ h) (cwV 3 hts gX3_find_X3_measure rfl rfl rfl (by decide +kernel) ⟨Nat.le_of_ble_eq_true rfl, Nat.le_of_ble_eq_true rfl⟩) (va_recv hK hP (ci := 3) (q0 := 10) rfl rfl) hK hP hS rfl hl.1 rfl (Nat.le_of_ble_eq_true rfl) dX3_find_35 ⟨Nat.le_refl _, Nat.le_refl _⟩ (fun u35 H locs h hP hS => ?_)
        refine lv_aload_n hx hb dX3_find_38 rfl (lv_at hl 0 rfl) ?_
        refine gcallVi (As := []) (rest := []) ⟨hx, hb, hml, hown, hts⟩ (c_X3_isEnough l D cI cZ adr A hD u35 _ h) (cwV 0 hts gX3_find_X3_isEnough rfl rfl rfl (by decide +kernel) ⟨Nat.le_of_ble_eq_true rfl, Nat.le_of_ble_eq_true rfl⟩) (va_recv hK hP (ci := 3) (q0 := 10) rfl rfl) hK hP hS rfl hl.1 rfl (Nat.le_of_ble_eq_true rfl) dX3_find_39 ⟨Nat.le_refl _, Nat.le_refl _⟩ (fun r39 u39 H locs h hP hS => ?_)
        refine lv_if_eq (tgt := 80) hx hb dX3_find_42 (by decide) (fun hc => ?_) (fun hc => ?_)
        · have h := h.1 hc
          refine lv_iinc (v := (x3 + 1)) (lv' := [(3, .int (x3 + 1)), (0, .ref (adr 10)), (1, .int x1), (2, .int x2)]) hx hb dX3_find_80 hl (k := 3) rfl (congrArg (HAdd.hAdd _) (show Int32.ofInt (1) = (1 : Int32) by decide)) (by decide) rfl (fun ls hl => ?_)
          refine lv_goto (tgt := 26) hx hb dX3_find_83 (by decide) ?_
          exact ih x1 x2 (x3 + 1) u39 _ _ _ (lv_sub hl [1, 2, 3, 0] rfl) hP hS h
        · have h := h.2 hc
          refine lv_aload_n hx hb dX3_find_45 rfl (lv_at hl 0 rfl) ?_
          refine lv_iload_n hx hb dX3_find_46 rfl (lv_at hl 3 rfl) ?_
          refine lv_iload_n hx hb dX3_find_47 rfl (lv_at hl 2 rfl) ?_
          refine gcallVi (As := [.int x3, .int x2]) (rest := []) ⟨hx, hb, hml, hown, hts⟩ (c_X3_isBetter l D cI cZ adr A hD x3 x2 u39 _ h) (cwV 2 hts gX3_find_X3_isBetter rfl rfl rfl (by decide +kernel) ⟨Nat.le_of_ble_eq_true rfl, Nat.le_of_ble_eq_true rfl⟩) (va_recv hK hP (ci := 3) (q0 := 10) rfl rfl) hK hP hS rfl hl.1 rfl (Nat.le_of_ble_eq_true rfl) dX3_find_48 ⟨Nat.le_refl _, Nat.le_refl _⟩ (fun r48 u48 H locs h hP hS => ?_)
          refine lv_if_eq (tgt := 80) hx hb dX3_find_51 (by decide) (fun hc => ?_) (fun hc => ?_)
          · have h := h.1 hc
            refine lv_iinc (v := (x3 + 1)) (lv' := [(3, .int (x3 + 1)), (0, .ref (adr 10)), (1, .int x1), (2, .int x2)]) hx hb dX3_find_80 hl (k := 3) rfl (congrArg (HAdd.hAdd _) (show Int32.ofInt (1) = (1 : Int32) by decide)) (by decide) rfl (fun ls hl => ?_)
            refine lv_goto (tgt := 26) hx hb dX3_find_83 (by decide) ?_
            exact ih x1 x2 (x3 + 1) u48 _ _ _ (lv_sub hl [1, 2, 3, 0] rfl) hP hS h
          · have h := h.2 hc
            refine lv_aload_n hx hb dX3_find_54 rfl (lv_at hl 0 rfl) ?_
            refine lv_iload_n hx hb dX3_find_55 rfl (lv_at hl 3 rfl) ?_
            refine fwp_10_3 (v := x3) hx hb hts hinX3 hown hK hP (hD _) hS (hts (.fieldLink RX3 52 "FilmBench$Shifts" "bestX" "I") (by decide +kernel)) dX3_find_56 (fun H locs hP hS => ?_)
            refine lv_aload_n hx hb dX3_find_59 rfl (lv_at hl 0 rfl) ?_
            refine lv_iload_n hx hb dX3_find_60 rfl (lv_at hl 2 rfl) ?_
            refine fwp_10_4 (v := x2) hx hb hts hinX3 hown hK hP (hD _) hS (hts (.fieldLink RX3 55 "FilmBench$Shifts" "bestY" "I") (by decide +kernel)) dX3_find_61 (fun H locs hP hS => ?_)
            refine lv_aload_n hx hb dX3_find_64 rfl (lv_at hl 0 rfl) ?_
            refine lv_aload_n hx hb dX3_find_65 rfl (lv_at hl 0 rfl) ?_
            refine fwg_10_1 (v := (u48.1 6)) hx hb hts hinX3 hown hK hP (hts (.fieldLink RX3 15 "FilmBench$Shifts" "sum" "I") (by decide +kernel)) dX3_find_66 rfl ?_
            refine fwp_10_5 (v := (u48.1 6)) hx hb hts hinX3 hown hK hP (hD _) hS (hts (.fieldLink RX3 73 "FilmBench$Shifts" "bestSum" "I") (by decide +kernel)) dX3_find_69 (fun H locs hP hS => ?_)
            refine lv_aload_n hx hb dX3_find_72 rfl (lv_at hl 0 rfl) ?_
            refine lv_aload_n hx hb dX3_find_73 rfl (lv_at hl 0 rfl) ?_
            refine fwg_10_2 (v := (u48.1 7)) hx hb hts hinX3 hown hK hP (hts (.fieldLink RX3 19 "FilmBench$Shifts" "pairs" "I") (by decide +kernel)) dX3_find_74 rfl ?_
            refine fwp_10_6 (v := (u48.1 7)) hx hb hts hinX3 hown hK hP (hD _) hS (hts (.fieldLink RX3 58 "FilmBench$Shifts" "bestPairs" "I") (by decide +kernel)) dX3_find_77 (fun H locs hP hS => ?_)
            refine lv_iinc (v := (x3 + 1)) (lv' := [(3, .int (x3 + 1)), (0, .ref (adr 10)), (1, .int x1), (2, .int x2)]) hx hb dX3_find_80 hl (k := 3) rfl (congrArg (HAdd.hAdd _) (show Int32.ofInt (1) = (1 : Int32) by decide)) (by decide) rfl (fun ls hl => ?_)
            refine lv_goto (tgt := 26) hx hb dX3_find_83 (by decide) ?_
            exact ih x1 x2 (x3 + 1) (si (si (si (si u48 8 x3) 9 x2) 10 (u48.1 6)) 11 (u48.1 7)) _ _ _ (lv_sub hl [1, 2, 3, 0] rfl) hP hS h
  have L18 : ∀ (n : Nat), ∀ (x1 : Int32) (x2 : Int32) (u : US) (H : Heap) (locs : List Loc) (ls : Array Slot), lv_has ls 4 [(0, .ref (adr 10)), (1, .int x1), (2, .int x2)] → va_P D vwCl (fw adr cI cZ u) H → va_S A s.heap H locs → wp_X3_find_18  post n x1 x2 u → gWv p l e wsX3_find 3 s m [.ref (adr 10), .int p1] below meth c D cI cZ (fw adr cI cZ) A post H locs (F0 m 18 ls []) := by
    intro  n
    induction n with
    | zero => intro x1 x2 u H locs ls hl hP hS h; exact False.elim h
    | succ n ih =>
      intro x1 x2 u H locs ls hl hP hS h
      refine lv_iload_n hx hb dX3_find_18 rfl (lv_at hl 2 rfl) ?_
      refine lv_iconst (v := (2 : Int32)) hx hb dX3_find_19 (by decide) ?_
      refine lv_icmp_gt (tgt := 92) hx hb dX3_find_20 (by decide) (fun hc => ?_) (fun hc => ?_)
      · have h := h.1 hc
        exact gvret hx hb hr hlocks hK hP hS h dX3_find_92
      · have h := h.2 hc
        refine lv_bipush (v := (-2 : Int32)) hx hb dX3_find_23 (by decide) ?_
        refine lv_istore_n (lv' := [(3, .int (-2 : Int32)), (0, .ref (adr 10)), (1, .int x1), (2, .int x2)]) hx hb dX3_find_25 rfl hl (by decide) rfl (fun ls hl => ?_)
        obtain ⟨n, h⟩ := h
        exact L26 _ ih n x1 x2 (-2 : Int32) u _ _ _ (lv_sub hl [1, 2, 3, 0] rfl) hP hS h
  have hl := lv_entry ([.ref (adr 10), .int p1]) (n := 4) (Nat.le_of_ble_eq_true rfl)
  rw [lg_entry_eq]
  generalize (lg_sl ([.ref (adr 10), .int p1]) ++ List.replicate (4 - (lg_sl ([.ref (adr 10), .int p1])).length) Slot.unset).toArray = ls at hl ⊢
  replace hl : lv_has ls 4 [(0, .ref (adr 10)), (1, .int p1)] := hl
  refine lv_aload_n hx hb dX3_find_0 rfl (lv_at hl 0 rfl) ?_
  refine lv_iconst (v := (0 : Int32)) hx hb dX3_find_1 (by decide) ?_
  refine fwp_10_3 (v := (0 : Int32)) hx hb hts hinX3 hown hK hP (hD _) hS (hts (.fieldLink RX3 52 "FilmBench$Shifts" "bestX" "I") (by decide +kernel)) dX3_find_2 (fun H locs hP hS => ?_)
  refine lv_aload_n hx hb dX3_find_5 rfl (lv_at hl 0 rfl) ?_
  refine lv_iconst (v := (0 : Int32)) hx hb dX3_find_6 (by decide) ?_
  refine fwp_10_4 (v := (0 : Int32)) hx hb hts hinX3 hown hK hP (hD _) hS (hts (.fieldLink RX3 55 "FilmBench$Shifts" "bestY" "I") (by decide +kernel)) dX3_find_7 (fun H locs hP hS => ?_)
  refine lv_aload_n hx hb dX3_find_10 rfl (lv_at hl 0 rfl) ?_
  refine lv_iconst (v := (0 : Int32)) hx hb dX3_find_11 (by decide) ?_
  refine fwp_10_6 (v := (0 : Int32)) hx hb hts hinX3 hown hK hP (hD _) hS (hts (.fieldLink RX3 58 "FilmBench$Shifts" "bestPairs" "I") (by decide +kernel)) dX3_find_12 (fun H locs hP hS => ?_)
  refine lv_bipush (v := (-2 : Int32)) hx hb dX3_find_15 (by decide) ?_
  refine lv_istore_n (lv' := [(2, .int (-2 : Int32)), (0, .ref (adr 10)), (1, .int p1)]) hx hb dX3_find_17 rfl hl (by decide) rfl (fun ls hl => ?_)
  obtain ⟨n, h⟩ := h
  exact L18  n p1 (-2 : Int32) (si (si (si u 8 (0 : Int32)) 9 (0 : Int32)) 11 (0 : Int32)) _ _ _ (lv_sub hl [1, 2, 0] rfl) hP hS h
set_option maxRecDepth 100000 in
set_option maxHeartbeats 4000000 in
theorem c_X3_along (l : Launch) (D : va_G) (cI cZ : ClassId) (adr : Nat → Nat) (A : Nat → Prop) (hD : ∀ u, va_D A (fw adr cI cZ u)) (p1 : Int32) (u : US) (post : Int32 → US → Prop) (h : wp_X3_along p1 u post) : gMi l yX3_along wsX3_along 0 D cI cZ (fw adr cI cZ) A [.ref (adr 10), .int p1] u post := by
  refine Met.ofW (cc := cX3_along) (maxL := 2) (ret := (some .int)) (by decide) rfl ?_
  intro p e s m args below meth c s₁ B hml hv
  obtain ⟨rfl, hP, hK⟩ := hv
  have hx := B.exec
  have hb := B.bytes
  have hr := B.returns
  have hts := atoms_spec (ws := wsX3_along) B.pre
  have hown : s.vm.findClass RX3 = some m.cls := findClass_of_methodNamed B.named
  have hlocks := B.notSynchronized
  have hinX3 : ∀ w ∈ wsX30, w ∈ wsX3_along := by decide +kernel
  have hS : va_S A s.heap s.heap [] := va_S.rf
  have hl := lv_entry ([.ref (adr 10), .int p1]) (n := 2) (Nat.le_of_ble_eq_true rfl)
  rw [lg_entry_eq]
  generalize (lg_sl ([.ref (adr 10), .int p1]) ++ List.replicate (2 - (lg_sl ([.ref (adr 10), .int p1])).length) Slot.unset).toArray = ls at hl ⊢
  replace hl : lv_has ls 2 [(0, .ref (adr 10)), (1, .int p1)] := hl
  refine lv_iload_n hx hb dX3_along_0 rfl (lv_at hl 1 rfl) ?_
  refine lv_if_ne (tgt := 11) hx hb dX3_along_1 (by decide) (fun hc => ?_) (fun hc => ?_)
  · have h := h.2 hc
    refine lv_aload_n hx hb dX3_along_11 rfl (lv_at hl 0 rfl) ?_
    refine fwg_10_4 (v := (u.1 9)) hx hb hts hinX3 hown hK hP (hts (.fieldLink RX3 55 "FilmBench$Shifts" "bestY" "I") (by decide +kernel)) dX3_along_12 rfl ?_
    exact giret hx hb hr hlocks hK hP hS h dX3_along_15
  · have h := h.1 hc
    refine lv_aload_n hx hb dX3_along_4 rfl (lv_at hl 0 rfl) ?_
    refine fwg_10_3 (v := (u.1 8)) hx hb hts hinX3 hown hK hP (hts (.fieldLink RX3 52 "FilmBench$Shifts" "bestX" "I") (by decide +kernel)) dX3_along_5 rfl ?_
    refine lv_goto (tgt := 15) hx hb dX3_along_8 (by decide) ?_
    exact giret hx hb hr hlocks hK hP hS h dX3_along_15
set_option maxRecDepth 100000 in
set_option maxHeartbeats 4000000 in
theorem c_X5_shift (l : Launch) (D : va_G) (cI cZ : ClassId) (adr : Nat → Nat) (A : Nat → Prop) (hD : ∀ u, va_D A (fw adr cI cZ u)) (p1 : Int32) (p2 : Int32) (u : US) (post : Int32 → US → Prop) (h : wp_X5_shift p1 p2 u post) : gMi l yX5_shift wsX5_shift 4 D cI cZ (fw adr cI cZ) A [.ref (adr 0), .int p1, .int p2] u post := by
  refine Met.ofW (cc := cX5_shift) (maxL := 3) (ret := (some .int)) (by decide) rfl ?_
  intro p e s m args below meth c s₁ B hml hv
  obtain ⟨rfl, hP, hK⟩ := hv
  have hx := B.exec
  have hb := B.bytes
  have hr := B.returns
  have hts := atoms_spec (ws := wsX5_shift) B.pre
  have hown : s.vm.findClass RX5 = some m.cls := findClass_of_methodNamed B.named
  have hlocks := B.notSynchronized
  have hinX5 : ∀ w ∈ wsX50, w ∈ wsX5_shift := by decide +kernel
  have hS : va_S A s.heap s.heap [] := va_S.rf
  have hl := lv_entry ([.ref (adr 0), .int p1, .int p2]) (n := 3) (Nat.le_of_ble_eq_true rfl)
  rw [lg_entry_eq]
  generalize (lg_sl ([.ref (adr 0), .int p1, .int p2]) ++ List.replicate (3 - (lg_sl ([.ref (adr 0), .int p1, .int p2])).length) Slot.unset).toArray = ls at hl ⊢
  replace hl : lv_has ls 3 [(0, .ref (adr 0)), (1, .int p1), (2, .int p2)] := hl
  refine lv_aload_n hx hb dX5_shift_0 rfl (lv_at hl 0 rfl) ?_
  refine fwg_0_0 hx hb hts hinX5 hown hK hP (hts (.fieldLink RX5 12 "FilmBench" "film" "LFilmBench$Reel;") (by decide +kernel)) dX5_shift_1 ?_
  refine lv_iload_n hx hb dX5_shift_4 rfl (lv_at hl 1 rfl) ?_
  refine gcallVi (As := [.int p1]) (rest := []) ⟨hx, hb, hml, hown, hts⟩ (c_X1_hasFrame l D cI cZ adr A hD p1 u _ h) (cwV 1 hts gX5_shift_X1_hasFrame rfl rfl rfl (by decide +kernel) ⟨Nat.le_of_ble_eq_true rfl, Nat.le_of_ble_eq_true rfl⟩) (va_recv hK hP (ci := 1) (q0 := 1) rfl rfl) hK hP hS rfl hl.1 rfl (Nat.le_of_ble_eq_true rfl) dX5_shift_5 ⟨Nat.le_refl _, Nat.le_refl _⟩ (fun r5 u5 H locs h hP hS => ?_)
  refine lv_if_eq (tgt := 24) hx hb dX5_shift_8 (by decide) (fun hc => ?_) (fun hc => ?_)
  · have h := h.1 hc
    refine lv_sipush (v := (-1000 : Int32)) hx hb dX5_shift_24 (by decide) ?_
    exact giret hx hb hr hlocks hK hP hS h dX5_shift_27
  · have h := h.2 hc
    refine lv_iload_n hx hb dX5_shift_11 rfl (lv_at hl 1 rfl) ?_
    refine lv_if_eq (tgt := 24) hx hb dX5_shift_12 (by decide) (fun hc => ?_) (fun hc => ?_)
    · have h := h.1 hc
      refine lv_sipush (v := (-1000 : Int32)) hx hb dX5_shift_24 (by decide) ?_
      exact giret hx hb hr hlocks hK hP hS h dX5_shift_27
    · have h := h.2 hc
      refine lv_iload_n hx hb dX5_shift_15 rfl (lv_at hl 2 rfl) ?_
      refine lv_iconst (v := (0 : Int32)) hx hb dX5_shift_16 (by decide) ?_
      refine lv_iconst (v := (1 : Int32)) hx hb dX5_shift_17 (by decide) ?_
      refine gcallSi (As := [.int p2, .int (0 : Int32), .int (1 : Int32)]) (rest := []) ⟨hx, hb, hml, hown, hts⟩ (c_X5_isWithin l D cI cZ adr A hD p2 (0 : Int32) (1 : Int32) u5 _ h) (va_cwS 3 hts gX5_shift_X5_isWithin rfl rfl rfl (by decide +kernel) ⟨Nat.le_of_ble_eq_true rfl, Nat.le_of_ble_eq_true rfl⟩) hK hP hS rfl hl.1 rfl (Nat.le_of_ble_eq_true rfl) dX5_shift_18 ⟨Nat.le_refl _, Nat.le_refl _⟩ (fun r18 u18 H locs h hP hS => ?_)
      refine lv_if_ne (tgt := 28) hx hb dX5_shift_21 (by decide) (fun hc => ?_) (fun hc => ?_)
      · have h := h.2 hc
        refine lv_aload_n hx hb dX5_shift_28 rfl (lv_at hl 0 rfl) ?_
        refine fwg_0_3 hx hb hts hinX5 hown hK hP (hts (.fieldLink RX5 41 "FilmBench" "shifts" "LFilmBench$Shifts;") (by decide +kernel)) dX5_shift_29 ?_
        refine lv_iload_n hx hb dX5_shift_32 rfl (lv_at hl 1 rfl) ?_
        refine gcallVv (As := [.int p1]) (rest := []) ⟨hx, hb, hml, hown, hts⟩ (c_X3_find l D cI cZ adr A hD p1 u18 _ h) (cwV 1 hts gX5_shift_X3_find rfl rfl rfl (by decide +kernel) ⟨Nat.le_of_ble_eq_true rfl, Nat.le_of_ble_eq_true rfl⟩) (va_recv hK hP (ci := 3) (q0 := 10) rfl rfl) hK hP hS rfl hl.1 rfl (Nat.le_of_ble_eq_true rfl) dX5_shift_33 ⟨Nat.le_refl _, Nat.le_refl _⟩ (fun u33 H locs h hP hS => ?_)
        refine lv_aload_n hx hb dX5_shift_36 rfl (lv_at hl 0 rfl) ?_
        refine fwg_0_3 hx hb hts hinX5 hown hK hP (hts (.fieldLink RX5 41 "FilmBench" "shifts" "LFilmBench$Shifts;") (by decide +kernel)) dX5_shift_37 ?_
        refine lv_iload_n hx hb dX5_shift_40 rfl (lv_at hl 2 rfl) ?_
        refine gcallVi (As := [.int p2]) (rest := []) ⟨hx, hb, hml, hown, hts⟩ (c_X3_along l D cI cZ adr A hD p2 u33 _ h) (cwV 1 hts gX5_shift_X3_along rfl rfl rfl (by decide +kernel) ⟨Nat.le_of_ble_eq_true rfl, Nat.le_of_ble_eq_true rfl⟩) (va_recv hK hP (ci := 3) (q0 := 10) rfl rfl) hK hP hS rfl hl.1 rfl (Nat.le_of_ble_eq_true rfl) dX5_shift_41 ⟨Nat.le_refl _, Nat.le_refl _⟩ (fun r41 u41 H locs h hP hS => ?_)
        exact giret hx hb hr hlocks hK hP hS h dX5_shift_44
      · have h := h.1 hc
        refine lv_sipush (v := (-1000 : Int32)) hx hb dX5_shift_24 (by decide) ?_
        exact giret hx hb hr hlocks hK hP hS h dX5_shift_27
set_option maxRecDepth 100000 in
set_option maxHeartbeats 4000000 in
theorem c_X5_drift (l : Launch) (D : va_G) (cI cZ : ClassId) (adr : Nat → Nat) (A : Nat → Prop) (hD : ∀ u, va_D A (fw adr cI cZ u)) (p1 : Int32) (p2 : Int32) (u : US) (post : Int32 → US → Prop) (h : wp_X5_drift p1 p2 u post) : gMi l yX5_drift wsX5_drift 4 D cI cZ (fw adr cI cZ) A [.ref (adr 0), .int p1, .int p2] u post := by
  refine Met.ofW (cc := cX5_drift) (maxL := 5) (ret := (some .int)) (by decide) rfl ?_
  intro p e s m args below meth c s₁ B hml hv
  obtain ⟨rfl, hP, hK⟩ := hv
  have hx := B.exec
  have hb := B.bytes
  have hr := B.returns
  have hts := atoms_spec (ws := wsX5_drift) B.pre
  have hown : s.vm.findClass RX5 = some m.cls := findClass_of_methodNamed B.named
  have hlocks := B.notSynchronized
  have hinX5 : ∀ w ∈ wsX50, w ∈ wsX5_drift := by decide +kernel
  have hS : va_S A s.heap s.heap [] := va_S.rf
  have L29 : ∀ (n : Nat), ∀ (x1 : Int32) (x2 : Int32) (x3 : Int32) (x4 : Int32) (u : US) (H : Heap) (locs : List Loc) (ls : Array Slot), lv_has ls 5 [(0, .ref (adr 0)), (1, .int x1), (2, .int x2), (3, .int x3), (4, .int x4)] → va_P D vwCl (fw adr cI cZ u) H → va_S A s.heap H locs → wp_X5_drift_29  post n x1 x2 x3 x4 u → gWi p l e wsX5_drift 4 s m [.ref (adr 0), .int p1, .int p2] below meth c D cI cZ (fw adr cI cZ) A post H locs (F0 m 29 ls []) := by
    intro  n
    induction n with
    | zero => intro x1 x2 x3 x4 u H locs ls hl hP hS h; exact False.elim h
    | succ n ih =>
      intro x1 x2 x3 x4 u H locs ls hl hP hS h
      refine lv_iload hx hb dX5_drift_29 (lv_at hl 4 rfl) ?_
      refine lv_iload_n hx hb dX5_drift_31 rfl (lv_at hl 1 rfl) ?_
      refine lv_icmp_gt (tgt := 61) hx hb dX5_drift_32 (by decide) (fun hc => ?_) (fun hc => ?_)
      · have h := h.1 hc
        refine lv_iload_n hx hb dX5_drift_61 rfl (lv_at hl 3 rfl) ?_
        exact giret hx hb hr hlocks hK hP hS h dX5_drift_62
      · have h := h.2 hc
        refine lv_aload_n hx hb dX5_drift_35 rfl (lv_at hl 0 rfl) ?_
        refine fwg_0_3 hx hb hts hinX5 hown hK hP (hts (.fieldLink RX5 41 "FilmBench" "shifts" "LFilmBench$Shifts;") (by decide +kernel)) dX5_drift_36 ?_
        refine lv_iload hx hb dX5_drift_39 (lv_at hl 4 rfl) ?_
        refine gcallVv (As := [.int x4]) (rest := []) ⟨hx, hb, hml, hown, hts⟩ (c_X3_find l D cI cZ adr A hD x4 u _ h) (cwV 1 hts gX5_drift_X3_find rfl rfl rfl (by decide +kernel) ⟨Nat.le_of_ble_eq_true rfl, Nat.le_of_ble_eq_true rfl⟩) (va_recv hK hP (ci := 3) (q0 := 10) rfl rfl) hK hP hS rfl hl.1 rfl (Nat.le_of_ble_eq_true rfl) dX5_drift_41 ⟨Nat.le_refl _, Nat.le_refl _⟩ (fun u41 H locs h hP hS => ?_)
        refine lv_iload_n hx hb dX5_drift_44 rfl (lv_at hl 3 rfl) ?_
        refine lv_aload_n hx hb dX5_drift_45 rfl (lv_at hl 0 rfl) ?_
        refine fwg_0_3 hx hb hts hinX5 hown hK hP (hts (.fieldLink RX5 41 "FilmBench" "shifts" "LFilmBench$Shifts;") (by decide +kernel)) dX5_drift_46 ?_
        refine lv_iload_n hx hb dX5_drift_49 rfl (lv_at hl 2 rfl) ?_
        refine gcallVi (As := [.int x2]) (rest := [.int x3]) ⟨hx, hb, hml, hown, hts⟩ (c_X3_along l D cI cZ adr A hD x2 u41 _ h) (cwV 1 hts gX5_drift_X3_along rfl rfl rfl (by decide +kernel) ⟨Nat.le_of_ble_eq_true rfl, Nat.le_of_ble_eq_true rfl⟩) (va_recv hK hP (ci := 3) (q0 := 10) rfl rfl) hK hP hS rfl hl.1 rfl (Nat.le_of_ble_eq_true rfl) dX5_drift_50 ⟨Nat.le_refl _, Nat.le_refl _⟩ (fun r50 u50 H locs h hP hS => ?_)
        refine lv_iadd hx hb dX5_drift_53 ?_
        refine lv_istore_n (lv' := [(3, .int (x3 + r50)), (0, .ref (adr 0)), (1, .int x1), (2, .int x2), (4, .int x4)]) hx hb dX5_drift_54 rfl hl (by decide) rfl (fun ls hl => ?_)
        refine lv_iinc (v := (x4 + 1)) (lv' := [(4, .int (x4 + 1)), (3, .int (x3 + r50)), (0, .ref (adr 0)), (1, .int x1), (2, .int x2)]) hx hb dX5_drift_55 hl (k := 4) rfl (congrArg (HAdd.hAdd _) (show Int32.ofInt (1) = (1 : Int32) by decide)) (by decide) rfl (fun ls hl => ?_)
        refine lv_goto (tgt := 29) hx hb dX5_drift_58 (by decide) ?_
        exact ih x1 x2 (x3 + r50) (x4 + 1) u50 _ _ _ (lv_sub hl [2, 3, 4, 1, 0] rfl) hP hS h
  have hl := lv_entry ([.ref (adr 0), .int p1, .int p2]) (n := 5) (Nat.le_of_ble_eq_true rfl)
  rw [lg_entry_eq]
  generalize (lg_sl ([.ref (adr 0), .int p1, .int p2]) ++ List.replicate (5 - (lg_sl ([.ref (adr 0), .int p1, .int p2])).length) Slot.unset).toArray = ls at hl ⊢
  replace hl : lv_has ls 5 [(0, .ref (adr 0)), (1, .int p1), (2, .int p2)] := hl
  refine lv_aload_n hx hb dX5_drift_0 rfl (lv_at hl 0 rfl) ?_
  refine fwg_0_0 hx hb hts hinX5 hown hK hP (hts (.fieldLink RX5 12 "FilmBench" "film" "LFilmBench$Reel;") (by decide +kernel)) dX5_drift_1 ?_
  refine lv_iload_n hx hb dX5_drift_4 rfl (lv_at hl 1 rfl) ?_
  refine gcallVi (As := [.int p1]) (rest := []) ⟨hx, hb, hml, hown, hts⟩ (c_X1_hasFrame l D cI cZ adr A hD p1 u _ h) (cwV 1 hts gX5_drift_X1_hasFrame rfl rfl rfl (by decide +kernel) ⟨Nat.le_of_ble_eq_true rfl, Nat.le_of_ble_eq_true rfl⟩) (va_recv hK hP (ci := 1) (q0 := 1) rfl rfl) hK hP hS rfl hl.1 rfl (Nat.le_of_ble_eq_true rfl) dX5_drift_5 ⟨Nat.le_refl _, Nat.le_refl _⟩ (fun r5 u5 H locs h hP hS => ?_)
  refine lv_if_eq (tgt := 20) hx hb dX5_drift_8 (by decide) (fun hc => ?_) (fun hc => ?_)
  · have h := h.1 hc
    refine lv_sipush (v := (-1000 : Int32)) hx hb dX5_drift_20 (by decide) ?_
    exact giret hx hb hr hlocks hK hP hS h dX5_drift_23
  · have h := h.2 hc
    refine lv_iload_n hx hb dX5_drift_11 rfl (lv_at hl 2 rfl) ?_
    refine lv_iconst (v := (0 : Int32)) hx hb dX5_drift_12 (by decide) ?_
    refine lv_iconst (v := (1 : Int32)) hx hb dX5_drift_13 (by decide) ?_
    refine gcallSi (As := [.int p2, .int (0 : Int32), .int (1 : Int32)]) (rest := []) ⟨hx, hb, hml, hown, hts⟩ (c_X5_isWithin l D cI cZ adr A hD p2 (0 : Int32) (1 : Int32) u5 _ h) (va_cwS 3 hts gX5_drift_X5_isWithin rfl rfl rfl (by decide +kernel) ⟨Nat.le_of_ble_eq_true rfl, Nat.le_of_ble_eq_true rfl⟩) hK hP hS rfl hl.1 rfl (Nat.le_of_ble_eq_true rfl) dX5_drift_14 ⟨Nat.le_refl _, Nat.le_refl _⟩ (fun r14 u14 H locs h hP hS => ?_)
    refine lv_if_ne (tgt := 24) hx hb dX5_drift_17 (by decide) (fun hc => ?_) (fun hc => ?_)
    · have h := h.2 hc
      refine lv_iconst (v := (0 : Int32)) hx hb dX5_drift_24 (by decide) ?_
      refine lv_istore_n (lv' := [(3, .int (0 : Int32)), (0, .ref (adr 0)), (1, .int p1), (2, .int p2)]) hx hb dX5_drift_25 rfl hl (by decide) rfl (fun ls hl => ?_)
      refine lv_iconst (v := (1 : Int32)) hx hb dX5_drift_26 (by decide) ?_
      refine lv_istore (lv' := [(4, .int (1 : Int32)), (3, .int (0 : Int32)), (0, .ref (adr 0)), (1, .int p1), (2, .int p2)]) hx hb dX5_drift_27 hl (by decide) rfl (fun ls hl => ?_)
      obtain ⟨n, h⟩ := h
      exact L29  n p1 p2 (0 : Int32) (1 : Int32) u14 _ _ _ (lv_sub hl [2, 3, 4, 1, 0] rfl) hP hS h
    · have h := h.1 hc
      refine lv_sipush (v := (-1000 : Int32)) hx hb dX5_drift_20 (by decide) ?_
      exact giret hx hb hr hlocks hK hP hS h dX5_drift_23
set_option maxRecDepth 100000 in
set_option maxHeartbeats 4000000 in
theorem c_X4_setDrift (l : Launch) (D : va_G) (cI cZ : ClassId) (adr : Nat → Nat) (A : Nat → Prop) (hD : ∀ u, va_D A (fw adr cI cZ u)) (p1 : Int32) (p2 : Int32) (u : US) (post : US → Prop) (h : wp_X4_setDrift p1 p2 u post) : gMv l yX4_setDrift wsX4_setDrift 0 D cI cZ (fw adr cI cZ) A [.ref (adr 11), .int p1, .int p2] u post := by
  refine Met.ofW (cc := cX4_setDrift) (maxL := 3) (ret := none) (by decide) rfl ?_
  intro p e s m args below meth c s₁ B hml hv
  obtain ⟨rfl, hP, hK⟩ := hv
  have hx := B.exec
  have hb := B.bytes
  have hr := B.returns
  have hts := atoms_spec (ws := wsX4_setDrift) B.pre
  have hown : s.vm.findClass RX4 = some m.cls := findClass_of_methodNamed B.named
  have hlocks := B.notSynchronized
  have hinX4 : ∀ w ∈ wsX40, w ∈ wsX4_setDrift := by decide +kernel
  have hS : va_S A s.heap s.heap [] := va_S.rf
  have hl := lv_entry ([.ref (adr 11), .int p1, .int p2]) (n := 3) (Nat.le_of_ble_eq_true rfl)
  rw [lg_entry_eq]
  generalize (lg_sl ([.ref (adr 11), .int p1, .int p2]) ++ List.replicate (3 - (lg_sl ([.ref (adr 11), .int p1, .int p2])).length) Slot.unset).toArray = ls at hl ⊢
  replace hl : lv_has ls 3 [(0, .ref (adr 11)), (1, .int p1), (2, .int p2)] := hl
  refine lv_iload_n hx hb dX4_setDrift_0 rfl (lv_at hl 1 rfl) ?_
  refine lv_if_lt (tgt := 17) hx hb dX4_setDrift_1 (by decide) (fun hc => ?_) (fun hc => ?_)
  · have h := h.1 hc
    exact gvret hx hb hr hlocks hK hP hS h dX4_setDrift_17
  · have h := h.2 hc
    refine lv_iload_n hx hb dX4_setDrift_4 rfl (lv_at hl 1 rfl) ?_
    refine lv_bipush (v := (10 : Int32)) hx hb dX4_setDrift_5 (by decide) ?_
    refine lv_icmp_ge (tgt := 17) hx hb dX4_setDrift_7 (by decide) (fun hc => ?_) (fun hc => ?_)
    · have h := h.1 hc
      exact gvret hx hb hr hlocks hK hP hS h dX4_setDrift_17
    · have h := h.2 hc
      refine lv_aload_n hx hb dX4_setDrift_10 rfl (lv_at hl 0 rfl) ?_
      refine fwg_11_0 hx hb hts hinX4 hown hK hP (hts (.fieldLink RX4 11 "FilmBench$Steady" "drifts" "[I") (by decide +kernel)) dX4_setDrift_11 ?_
      refine lv_iload_n hx hb dX4_setDrift_14 rfl (lv_at hl 1 rfl) ?_
      refine lv_iload_n hx hb dX4_setDrift_15 rfl (lv_at hl 2 rfl) ?_
      refine fws_12 hx hb hK hP (hD _) hS h.1 dX4_setDrift_16 (fun H locs hP hS => ?_)
      have h := h.2
      exact gvret hx hb hr hlocks hK hP hS h dX4_setDrift_17
set_option maxRecDepth 100000 in
set_option maxHeartbeats 4000000 in
theorem c_X4_slotOf (l : Launch) (D : va_G) (cI cZ : ClassId) (adr : Nat → Nat) (A : Nat → Prop) (hD : ∀ u, va_D A (fw adr cI cZ u)) (p0 : Int32) (p1 : Int32) (p2 : Int32) (u : US) (post : Int32 → US → Prop) (h : wp_X4_slotOf p0 p1 p2 u post) : gMi l yX4_slotOf wsX4_slotOf 0 D cI cZ (fw adr cI cZ) A [.int p0, .int p1, .int p2] u post := by
  refine Met.ofW (cc := cX4_slotOf) (maxL := 3) (ret := (some .int)) (by decide) rfl ?_
  intro p e s m args below meth c s₁ B hml hv
  obtain ⟨rfl, hP, hK⟩ := hv
  have hx := B.exec
  have hb := B.bytes
  have hr := B.returns
  have hts := atoms_spec (ws := wsX4_slotOf) B.pre
  have hown : s.vm.findClass RX4 = some m.cls := findClass_of_methodNamed B.named
  have hlocks := B.notSynchronized
  have hS : va_S A s.heap s.heap [] := va_S.rf
  have hl := lv_entry ([.int p0, .int p1, .int p2]) (n := 3) (Nat.le_of_ble_eq_true rfl)
  rw [lg_entry_eq]
  generalize (lg_sl ([.int p0, .int p1, .int p2]) ++ List.replicate (3 - (lg_sl ([.int p0, .int p1, .int p2])).length) Slot.unset).toArray = ls at hl ⊢
  replace hl : lv_has ls 3 [(0, .int p0), (1, .int p1), (2, .int p2)] := hl
  refine lv_iload_n hx hb dX4_slotOf_0 rfl (lv_at hl 0 rfl) ?_
  refine lv_bipush (v := (49 : Int32)) hx hb dX4_slotOf_1 (by decide) ?_
  refine lv_imul hx hb dX4_slotOf_3 ?_
  refine lv_iload_n hx hb dX4_slotOf_4 rfl (lv_at hl 1 rfl) ?_
  refine lv_bipush (v := (7 : Int32)) hx hb dX4_slotOf_5 (by decide) ?_
  refine lv_imul hx hb dX4_slotOf_7 ?_
  refine lv_iadd hx hb dX4_slotOf_8 ?_
  refine lv_iload_n hx hb dX4_slotOf_9 rfl (lv_at hl 2 rfl) ?_
  refine lv_iadd hx hb dX4_slotOf_10 ?_
  exact giret hx hb hr hlocks hK hP hS h dX4_slotOf_11
set_option maxRecDepth 100000 in
set_option maxHeartbeats 4000000 in
theorem c_X4_spotOf (l : Launch) (D : va_G) (cI cZ : ClassId) (adr : Nat → Nat) (A : Nat → Prop) (hD : ∀ u, va_D A (fw adr cI cZ u)) (p1 : Int32) (p2 : Int32) (u : US) (post : Int32 → US → Prop) (h : wp_X4_spotOf p1 p2 u post) : gMi l yX4_spotOf wsX4_spotOf 0 D cI cZ (fw adr cI cZ) A [.ref (adr 11), .int p1, .int p2] u post := by
  refine Met.ofW (cc := cX4_spotOf) (maxL := 3) (ret := (some .int)) (by decide) rfl ?_
  intro p e s m args below meth c s₁ B hml hv
  obtain ⟨rfl, hP, hK⟩ := hv
  have hx := B.exec
  have hb := B.bytes
  have hr := B.returns
  have hts := atoms_spec (ws := wsX4_spotOf) B.pre
  have hown : s.vm.findClass RX4 = some m.cls := findClass_of_methodNamed B.named
  have hlocks := B.notSynchronized
  have hinX4 : ∀ w ∈ wsX40, w ∈ wsX4_spotOf := by decide +kernel
  have hS : va_S A s.heap s.heap [] := va_S.rf
  have hl := lv_entry ([.ref (adr 11), .int p1, .int p2]) (n := 3) (Nat.le_of_ble_eq_true rfl)
  rw [lg_entry_eq]
  generalize (lg_sl ([.ref (adr 11), .int p1, .int p2]) ++ List.replicate (3 - (lg_sl ([.ref (adr 11), .int p1, .int p2])).length) Slot.unset).toArray = ls at hl ⊢
  replace hl : lv_has ls 3 [(0, .ref (adr 11)), (1, .int p1), (2, .int p2)] := hl
  refine lv_aload_n hx hb dX4_spotOf_0 rfl (lv_at hl 0 rfl) ?_
  refine fwg_11_0 hx hb hts hinX4 hown hK hP (hts (.fieldLink RX4 11 "FilmBench$Steady" "drifts" "[I") (by decide +kernel)) dX4_spotOf_1 ?_
  refine lv_iload_n hx hb dX4_spotOf_4 rfl (lv_at hl 1 rfl) ?_
  refine fwl_12 (v := ((u.2 12) p1.toNatClampNeg)) hx hb hK hP h.1 dX4_spotOf_5 rfl ?_
  have h := h.2
  refine lv_iload_n hx hb dX4_spotOf_6 rfl (lv_at hl 2 rfl) ?_
  refine lv_iadd hx hb dX4_spotOf_7 ?_
  refine lv_aload_n hx hb dX4_spotOf_8 rfl (lv_at hl 0 rfl) ?_
  refine fwg_11_4 (v := (u.1 13)) hx hb hts hinX4 hown hK hP (hts (.fieldLink RX4 25 "FilmBench$Steady" "stray" "I") (by decide +kernel)) dX4_spotOf_9 rfl ?_
  refine lv_isub hx hb dX4_spotOf_12 ?_
  exact giret hx hb hr hlocks hK hP hS h dX4_spotOf_13
set_option maxRecDepth 100000 in
set_option maxHeartbeats 4000000 in
theorem c_X4_costThrough (l : Launch) (D : va_G) (cI cZ : ClassId) (adr : Nat → Nat) (A : Nat → Prop) (hD : ∀ u, va_D A (fw adr cI cZ u)) (p1 : Int32) (p2 : Int32) (p3 : Int32) (p4 : Int32) (u : US) (post : Int32 → US → Prop) (h : wp_X4_costThrough p1 p2 p3 p4 u post) : gMi l yX4_costThrough wsX4_costThrough 1 D cI cZ (fw adr cI cZ) A [.ref (adr 11), .int p1, .int p2, .int p3, .int p4] u post := by
  refine Met.ofW (cc := cX4_costThrough) (maxL := 6) (ret := (some .int)) (by decide) rfl ?_
  intro p e s m args below meth c s₁ B hml hv
  obtain ⟨rfl, hP, hK⟩ := hv
  have hx := B.exec
  have hb := B.bytes
  have hr := B.returns
  have hts := atoms_spec (ws := wsX4_costThrough) B.pre
  have hown : s.vm.findClass RX4 = some m.cls := findClass_of_methodNamed B.named
  have hlocks := B.notSynchronized
  have hinX4 : ∀ w ∈ wsX40, w ∈ wsX4_costThrough := by decide +kernel
  have hS : va_S A s.heap s.heap [] := va_S.rf
  have hl := lv_entry ([.ref (adr 11), .int p1, .int p2, .int p3, .int p4]) (n := 6) (Nat.le_of_ble_eq_true rfl)
  rw [lg_entry_eq]
  generalize (lg_sl ([.ref (adr 11), .int p1, .int p2, .int p3, .int p4]) ++ List.replicate (6 - (lg_sl ([.ref (adr 11), .int p1, .int p2, .int p3, .int p4])).length) Slot.unset).toArray = ls at hl ⊢
  replace hl : lv_has ls 6 [(0, .ref (adr 11)), (1, .int p1), (2, .int p2), (3, .int p3), (4, .int p4)] := hl
  refine lv_aload_n hx hb dX4_costThrough_0 rfl (lv_at hl 0 rfl) ?_
  refine lv_iload_n hx hb dX4_costThrough_1 rfl (lv_at hl 1 rfl) ?_
  refine lv_iconst (v := (2 : Int32)) hx hb dX4_costThrough_2 (by decide) ?_
  refine lv_iadd hx hb dX4_costThrough_3 ?_
  refine lv_iload hx hb dX4_costThrough_4 (lv_at hl 4 rfl) ?_
  refine gcallVi (As := [.int (p1 + (2 : Int32)), .int p4]) (rest := []) ⟨hx, hb, hml, hown, hts⟩ (c_X4_spotOf l D cI cZ adr A hD (p1 + (2 : Int32)) p4 u _ h) (cwV 2 hts gX4_costThrough_X4_spotOf rfl rfl rfl (by decide +kernel) ⟨Nat.le_of_ble_eq_true rfl, Nat.le_of_ble_eq_true rfl⟩) (va_recv hK hP (ci := 4) (q0 := 11) rfl rfl) hK hP hS rfl hl.1 rfl (Nat.le_of_ble_eq_true rfl) dX4_costThrough_6 ⟨Nat.le_refl _, Nat.le_refl _⟩ (fun r6 u6 H locs h hP hS => ?_)
  refine lv_iconst (v := (2 : Int32)) hx hb dX4_costThrough_9 (by decide) ?_
  refine lv_aload_n hx hb dX4_costThrough_10 rfl (lv_at hl 0 rfl) ?_
  refine lv_iload_n hx hb dX4_costThrough_11 rfl (lv_at hl 1 rfl) ?_
  refine lv_iconst (v := (1 : Int32)) hx hb dX4_costThrough_12 (by decide) ?_
  refine lv_iadd hx hb dX4_costThrough_13 ?_
  refine lv_iload_n hx hb dX4_costThrough_14 rfl (lv_at hl 3 rfl) ?_
  refine gcallVi (As := [.int (p1 + (1 : Int32)), .int p3]) (rest := [.int (2 : Int32), .int r6]) ⟨hx, hb, hml, hown, hts⟩ (c_X4_spotOf l D cI cZ adr A hD (p1 + (1 : Int32)) p3 u6 _ h) (cwV 2 hts gX4_costThrough_X4_spotOf rfl rfl rfl (by decide +kernel) ⟨Nat.le_of_ble_eq_true rfl, Nat.le_of_ble_eq_true rfl⟩) (va_recv hK hP (ci := 4) (q0 := 11) rfl rfl) hK hP hS rfl hl.1 rfl (Nat.le_of_ble_eq_true rfl) dX4_costThrough_15 ⟨Nat.le_refl _, Nat.le_refl _⟩ (fun r15 u15 H locs h hP hS => ?_)
  refine lv_imul hx hb dX4_costThrough_18 ?_
  refine lv_isub hx hb dX4_costThrough_19 ?_
  refine lv_aload_n hx hb dX4_costThrough_20 rfl (lv_at hl 0 rfl) ?_
  refine lv_iload_n hx hb dX4_costThrough_21 rfl (lv_at hl 1 rfl) ?_
  refine lv_iload_n hx hb dX4_costThrough_22 rfl (lv_at hl 2 rfl) ?_
  refine gcallVi (As := [.int p1, .int p2]) (rest := [.int (r6 - ((2 : Int32) * r15))]) ⟨hx, hb, hml, hown, hts⟩ (c_X4_spotOf l D cI cZ adr A hD p1 p2 u15 _ h) (cwV 2 hts gX4_costThrough_X4_spotOf rfl rfl rfl (by decide +kernel) ⟨Nat.le_of_ble_eq_true rfl, Nat.le_of_ble_eq_true rfl⟩) (va_recv hK hP (ci := 4) (q0 := 11) rfl rfl) hK hP hS rfl hl.1 rfl (Nat.le_of_ble_eq_true rfl) dX4_costThrough_23 ⟨Nat.le_refl _, Nat.le_refl _⟩ (fun r23 u23 H locs h hP hS => ?_)
  refine lv_iadd hx hb dX4_costThrough_26 ?_
  refine gabs hx hb (hml.trans hl.1.symm) (own := RX4) hown hts (by decide +kernel) (Nat.le_of_ble_eq_true rfl) (Nat.le_of_ble_eq_true rfl) (Nat.zero_le _) (Nat.zero_le _) dX4_costThrough_27 ?_
  refine lv_istore (lv' := [(5, .int (jabs ((r6 - ((2 : Int32) * r15)) + r23))), (0, .ref (adr 11)), (1, .int p1), (2, .int p2), (3, .int p3), (4, .int p4)]) hx hb dX4_costThrough_30 hl (by decide) rfl (fun ls hl => ?_)
  refine lv_bipush (v := (100 : Int32)) hx hb dX4_costThrough_32 (by decide) ?_
  refine lv_iload hx hb dX4_costThrough_34 (lv_at hl 0 rfl) ?_
  refine lv_imul hx hb dX4_costThrough_36 ?_
  refine lv_iload hx hb dX4_costThrough_37 (lv_at hl 5 rfl) ?_
  refine lv_aload_n hx hb dX4_costThrough_39 rfl (lv_at hl 1 rfl) ?_
  refine fwg_11_4 (v := (u23.1 13)) hx hb hts hinX4 hown hK hP (hts (.fieldLink RX4 25 "FilmBench$Steady" "stray" "I") (by decide +kernel)) dX4_costThrough_40 rfl ?_
  refine lv_isub hx hb dX4_costThrough_43 ?_
  refine gabs hx hb (hml.trans hl.1.symm) (own := RX4) hown hts (by decide +kernel) (Nat.le_of_ble_eq_true rfl) (Nat.le_of_ble_eq_true rfl) (Nat.zero_le _) (Nat.zero_le _) dX4_costThrough_44 ?_
  refine lv_iadd hx hb dX4_costThrough_47 ?_
  refine lv_aload_n hx hb dX4_costThrough_48 rfl (lv_at hl 1 rfl) ?_
  refine fwg_11_2 hx hb hts hinX4 hown hK hP (hts (.fieldLink RX4 18 "FilmBench$Steady" "costsBehind" "[I") (by decide +kernel)) dX4_costThrough_49 ?_
  refine lv_iload_n hx hb dX4_costThrough_52 rfl (lv_at hl 2 rfl) ?_
  refine lv_iconst (v := (1 : Int32)) hx hb dX4_costThrough_53 (by decide) ?_
  refine lv_iadd hx hb dX4_costThrough_54 ?_
  refine lv_iload_n hx hb dX4_costThrough_55 rfl (lv_at hl 4 rfl) ?_
  refine lv_iload hx hb dX4_costThrough_56 (lv_at hl 5 rfl) ?_
  refine gcallSi (As := [.int (p1 + (1 : Int32)), .int p3, .int p4]) (rest := [.ref (adr 14), .int (((100 : Int32) * (jabs ((r6 - ((2 : Int32) * r15)) + r23))) + (jabs (p4 - (u23.1 13))))]) ⟨hx, hb, hml, hown, hts⟩ (c_X4_slotOf l D cI cZ adr A hD (p1 + (1 : Int32)) p3 p4 u23 _ h) (va_cwS 3 hts gX4_costThrough_X4_slotOf rfl rfl rfl (by decide +kernel) ⟨Nat.le_of_ble_eq_true rfl, Nat.le_of_ble_eq_true rfl⟩) hK hP hS rfl hl.1 rfl (Nat.le_of_ble_eq_true rfl) dX4_costThrough_58 ⟨Nat.le_refl _, Nat.le_refl _⟩ (fun r58 u58 H locs h hP hS => ?_)
  refine fwl_14 (v := ((u58.2 14) r58.toNatClampNeg)) hx hb hK hP h.1 dX4_costThrough_61 rfl ?_
  have h := h.2
  refine lv_iadd hx hb dX4_costThrough_62 ?_
  exact giret hx hb hr hlocks hK hP hS h dX4_costThrough_63
set_option maxRecDepth 100000 in
set_option maxHeartbeats 4000000 in
theorem c_X4_leastCostBehind (l : Launch) (D : va_G) (cI cZ : ClassId) (adr : Nat → Nat) (A : Nat → Prop) (hD : ∀ u, va_D A (fw adr cI cZ u)) (p1 : Int32) (p2 : Int32) (p3 : Int32) (u : US) (post : Int32 → US → Prop) (h : wp_X4_leastCostBehind p1 p2 p3 u post) : gMi l yX4_leastCostBehind wsX4_leastCostBehind 2 D cI cZ (fw adr cI cZ) A [.ref (adr 11), .int p1, .int p2, .int p3] u post := by
  refine Met.ofW (cc := cX4_leastCostBehind) (maxL := 6) (ret := (some .int)) (by decide) rfl ?_
  intro p e s m args below meth c s₁ B hml hv
  obtain ⟨rfl, hP, hK⟩ := hv
  have hx := B.exec
  have hb := B.bytes
  have hr := B.returns
  have hts := atoms_spec (ws := wsX4_leastCostBehind) B.pre
  have hown : s.vm.findClass RX4 = some m.cls := findClass_of_methodNamed B.named
  have hlocks := B.notSynchronized
  have hinX4 : ∀ w ∈ wsX40, w ∈ wsX4_leastCostBehind := by decide +kernel
  have hS : va_S A s.heap s.heap [] := va_S.rf
  have L25 : ∀ (n : Nat), ∀ (x1 : Int32) (x2 : Int32) (x3 : Int32) (x4 : Int32) (x5 : Int32) (u : US) (H : Heap) (locs : List Loc) (ls : Array Slot), lv_has ls 6 [(0, .ref (adr 11)), (1, .int x1), (2, .int x2), (3, .int x3), (4, .int x4), (5, .int x5)] → va_P D vwCl (fw adr cI cZ u) H → va_S A s.heap H locs → wp_X4_leastCostBehind_25  post n x1 x2 x3 x4 x5 u → gWi p l e wsX4_leastCostBehind 2 s m [.ref (adr 11), .int p1, .int p2, .int p3] below meth c D cI cZ (fw adr cI cZ) A post H locs (F0 m 25 ls []) := by
    intro  n
    induction n with
    | zero => intro x1 x2 x3 x4 x5 u H locs ls hl hP hS h; exact False.elim h
    | succ n ih =>
      intro x1 x2 x3 x4 x5 u H locs ls hl hP hS h
      refine lv_iload hx hb dX4_leastCostBehind_25 (lv_at hl 5 rfl) ?_
      refine lv_aload_n hx hb dX4_leastCostBehind_27 rfl (lv_at hl 0 rfl) ?_
      refine fwg_11_5 (v := (u.1 14)) hx hb hts hinX4 hown hK hP (hts (.fieldLink RX4 28 "FilmBench$Steady" "choices" "I") (by decide +kernel)) dX4_leastCostBehind_28 rfl ?_
      refine lv_icmp_ge (tgt := 56) hx hb dX4_leastCostBehind_31 (by decide) (fun hc => ?_) (fun hc => ?_)
      · have h := h.1 hc
        refine lv_iload hx hb dX4_leastCostBehind_56 (lv_at hl 4 rfl) ?_
        exact giret hx hb hr hlocks hK hP hS h dX4_leastCostBehind_58
      · have h := h.2 hc
        refine lv_iload hx hb dX4_leastCostBehind_34 (lv_at hl 4 rfl) ?_
        refine lv_aload_n hx hb dX4_leastCostBehind_36 rfl (lv_at hl 0 rfl) ?_
        refine lv_iload_n hx hb dX4_leastCostBehind_37 rfl (lv_at hl 1 rfl) ?_
        refine lv_iload_n hx hb dX4_leastCostBehind_38 rfl (lv_at hl 2 rfl) ?_
        refine lv_iload_n hx hb dX4_leastCostBehind_39 rfl (lv_at hl 3 rfl) ?_
        refine lv_iload hx hb dX4_leastCostBehind_40 (lv_at hl 5 rfl) ?_
        refine gcallVi (As := [.int x1, .int x2, .int x3, .int x5]) (rest := [.int x4]) ⟨hx, hb, hml, hown, hts⟩ (c_X4_costThrough l D cI cZ adr A hD x1 x2 x3 x5 u _ h) (cwV 4 hts gX4_leastCostBehind_X4_costThrough rfl rfl rfl (by decide +kernel) ⟨Nat.le_of_ble_eq_true rfl, Nat.le_of_ble_eq_true rfl⟩) (va_recv hK hP (ci := 4) (q0 := 11) rfl rfl) hK hP hS rfl hl.1 rfl (Nat.le_of_ble_eq_true rfl) dX4_leastCostBehind_42 ⟨Nat.le_refl _, Nat.le_refl _⟩ (fun r42 u42 H locs h hP hS => ?_)
        refine gmin hx hb (hml.trans hl.1.symm) (own := RX4) hown hts (by decide +kernel) (Nat.le_of_ble_eq_true rfl) (Nat.le_of_ble_eq_true rfl) (Nat.zero_le _) (Nat.zero_le _) dX4_leastCostBehind_45 ?_
        refine lv_istore (lv' := [(4, .int (jmin x4 r42)), (0, .ref (adr 11)), (1, .int x1), (2, .int x2), (3, .int x3), (5, .int x5)]) hx hb dX4_leastCostBehind_48 hl (by decide) rfl (fun ls hl => ?_)
        refine lv_iinc (v := (x5 + 1)) (lv' := [(5, .int (x5 + 1)), (4, .int (jmin x4 r42)), (0, .ref (adr 11)), (1, .int x1), (2, .int x2), (3, .int x3)]) hx hb dX4_leastCostBehind_50 hl (k := 5) rfl (congrArg (HAdd.hAdd _) (show Int32.ofInt (1) = (1 : Int32) by decide)) (by decide) rfl (fun ls hl => ?_)
        refine lv_goto (tgt := 25) hx hb dX4_leastCostBehind_53 (by decide) ?_
        exact ih x1 x2 x3 (jmin x4 r42) (x5 + 1) u42 _ _ _ (lv_sub hl [2, 3, 4, 5, 1, 0] rfl) hP hS h
  have hl := lv_entry ([.ref (adr 11), .int p1, .int p2, .int p3]) (n := 6) (Nat.le_of_ble_eq_true rfl)
  rw [lg_entry_eq]
  generalize (lg_sl ([.ref (adr 11), .int p1, .int p2, .int p3]) ++ List.replicate (6 - (lg_sl ([.ref (adr 11), .int p1, .int p2, .int p3])).length) Slot.unset).toArray = ls at hl ⊢
  replace hl : lv_has ls 6 [(0, .ref (adr 11)), (1, .int p1), (2, .int p2), (3, .int p3)] := hl
  refine lv_iload_n hx hb dX4_leastCostBehind_0 rfl (lv_at hl 1 rfl) ?_
  refine lv_iconst (v := (2 : Int32)) hx hb dX4_leastCostBehind_1 (by decide) ?_
  refine lv_iadd hx hb dX4_leastCostBehind_2 ?_
  refine lv_aload_n hx hb dX4_leastCostBehind_3 rfl (lv_at hl 0 rfl) ?_
  refine fwg_11_3 (v := (u.1 12)) hx hb hts hinX4 hown hK hP (hts (.fieldLink RX4 21 "FilmBench$Steady" "frames" "I") (by decide +kernel)) dX4_leastCostBehind_4 rfl ?_
  refine lv_icmp_lt (tgt := 12) hx hb dX4_leastCostBehind_7 (by decide) (fun hc => ?_) (fun hc => ?_)
  · have h := h.1 hc
    refine lv_aload_n hx hb dX4_leastCostBehind_12 rfl (lv_at hl 0 rfl) ?_
    refine lv_iload_n hx hb dX4_leastCostBehind_13 rfl (lv_at hl 1 rfl) ?_
    refine lv_iload_n hx hb dX4_leastCostBehind_14 rfl (lv_at hl 2 rfl) ?_
    refine lv_iload_n hx hb dX4_leastCostBehind_15 rfl (lv_at hl 3 rfl) ?_
    refine lv_iconst (v := (0 : Int32)) hx hb dX4_leastCostBehind_16 (by decide) ?_
    refine gcallVi (As := [.int p1, .int p2, .int p3, .int (0 : Int32)]) (rest := []) ⟨hx, hb, hml, hown, hts⟩ (c_X4_costThrough l D cI cZ adr A hD p1 p2 p3 (0 : Int32) u _ h) (cwV 4 hts gX4_leastCostBehind_X4_costThrough rfl rfl rfl (by decide +kernel) ⟨Nat.le_of_ble_eq_true rfl, Nat.le_of_ble_eq_true rfl⟩) (va_recv hK hP (ci := 4) (q0 := 11) rfl rfl) hK hP hS rfl hl.1 rfl (Nat.le_of_ble_eq_true rfl) dX4_leastCostBehind_17 ⟨Nat.le_refl _, Nat.le_refl _⟩ (fun r17 u17 H locs h hP hS => ?_)
    refine lv_istore (lv' := [(4, .int r17), (0, .ref (adr 11)), (1, .int p1), (2, .int p2), (3, .int p3)]) hx hb dX4_leastCostBehind_20 hl (by decide) rfl (fun ls hl => ?_)
    refine lv_iconst (v := (1 : Int32)) hx hb dX4_leastCostBehind_22 (by decide) ?_
    refine lv_istore (lv' := [(5, .int (1 : Int32)), (4, .int r17), (0, .ref (adr 11)), (1, .int p1), (2, .int p2), (3, .int p3)]) hx hb dX4_leastCostBehind_23 hl (by decide) rfl (fun ls hl => ?_)
    obtain ⟨n, h⟩ := h
    exact L25  n p1 p2 p3 r17 (1 : Int32) u17 _ _ _ (lv_sub hl [2, 3, 4, 5, 1, 0] rfl) hP hS h
  · have h := h.2 hc
    refine lv_iconst (v := (0 : Int32)) hx hb dX4_leastCostBehind_10 (by decide) ?_
    exact giret hx hb hr hlocks hK hP hS h dX4_leastCostBehind_11
set_option maxRecDepth 100000 in
set_option maxHeartbeats 4000000 in
theorem c_X4_findCosts (l : Launch) (D : va_G) (cI cZ : ClassId) (adr : Nat → Nat) (A : Nat → Prop) (hD : ∀ u, va_D A (fw adr cI cZ u))  (u : US) (post : US → Prop) (h : wp_X4_findCosts  u post) : gMv l yX4_findCosts wsX4_findCosts 3 D cI cZ (fw adr cI cZ) A [.ref (adr 11)] u post := by
  refine Met.ofW (cc := cX4_findCosts) (maxL := 4) (ret := none) (by decide) rfl ?_
  intro p e s m args below meth c s₁ B hml hv
  obtain ⟨rfl, hP, hK⟩ := hv
  have hx := B.exec
  have hb := B.bytes
  have hr := B.returns
  have hts := atoms_spec (ws := wsX4_findCosts) B.pre
  have hown : s.vm.findClass RX4 = some m.cls := findClass_of_methodNamed B.named
  have hlocks := B.notSynchronized
  have hinX4 : ∀ w ∈ wsX40, w ∈ wsX4_findCosts := by decide +kernel
  have hS : va_S A s.heap s.heap [] := va_S.rf
  have L23 : ∀ (k13 : Int32 → Int32 → US → Prop) (hk13 : ∀ (x1 : Int32) (x2 : Int32) (u : US) (H : Heap) (locs : List Loc) (ls : Array Slot), lv_has ls 4 [(0, .ref (adr 11)), (1, .int x1), (2, .int x2)] → va_P D vwCl (fw adr cI cZ u) H → va_S A s.heap H locs → k13 x1 x2 u → gWv p l e wsX4_findCosts 3 s m [.ref (adr 11)] below meth c D cI cZ (fw adr cI cZ) A post H locs (F0 m 13 ls [])), ∀ (n : Nat), ∀ (x1 : Int32) (x2 : Int32) (x3 : Int32) (u : US) (H : Heap) (locs : List Loc) (ls : Array Slot), lv_has ls 4 [(0, .ref (adr 11)), (1, .int x1), (2, .int x2), (3, .int x3)] → va_P D vwCl (fw adr cI cZ u) H → va_S A s.heap H locs → wp_X4_findCosts_23 k13 post n x1 x2 x3 u → gWv p l e wsX4_findCosts 3 s m [.ref (adr 11)] below meth c D cI cZ (fw adr cI cZ) A post H locs (F0 m 23 ls []) := by
    intro k13 hk13 n
    induction n with
    | zero => intro x1 x2 x3 u H locs ls hl hP hS h; exact False.elim h
    | succ n ih =>
      intro x1 x2 x3 u H locs ls hl hP hS h
      refine lv_iload_n hx hb dX4_findCosts_23 rfl (lv_at hl 3 rfl) ?_
      refine lv_aload_n hx hb dX4_findCosts_24 rfl (lv_at hl 0 rfl) ?_
      refine fwg_11_5 (v := (u.1 14)) hx hb hts hinX4 hown hK hP (hts (.fieldLink RX4 28 "FilmBench$Steady" "choices" "I") (by decide +kernel)) dX4_findCosts_25 rfl ?_
      refine lv_icmp_ge (tgt := 55) hx hb dX4_findCosts_28 (by decide) (fun hc => ?_) (fun hc => ?_)
      · have h := h.1 hc
        refine lv_iinc (v := (x2 + 1)) (lv' := [(2, .int (x2 + 1)), (0, .ref (adr 11)), (1, .int x1), (3, .int x3)]) hx hb dX4_findCosts_55 hl (k := 2) rfl (congrArg (HAdd.hAdd _) (show Int32.ofInt (1) = (1 : Int32) by decide)) (by decide) rfl (fun ls hl => ?_)
        refine lv_goto (tgt := 13) hx hb dX4_findCosts_58 (by decide) ?_
        exact hk13 x1 (x2 + 1) u _ _ _ (lv_sub hl [1, 2, 0] rfl) hP hS h
      · have h := h.2 hc
        refine lv_aload_n hx hb dX4_findCosts_31 rfl (lv_at hl 0 rfl) ?_
        refine fwg_11_2 hx hb hts hinX4 hown hK hP (hts (.fieldLink RX4 18 "FilmBench$Steady" "costsBehind" "[I") (by decide +kernel)) dX4_findCosts_32 ?_
        refine lv_iload_n hx hb dX4_findCosts_35 rfl (lv_at hl 1 rfl) ?_
        refine lv_iload_n hx hb dX4_findCosts_36 rfl (lv_at hl 2 rfl) ?_
        refine lv_iload_n hx hb dX4_findCosts_37 rfl (lv_at hl 3 rfl) ?_
        refine gcallSi (As := [.int x1, .int x2, .int x3]) (rest := [.ref (adr 14)]) ⟨hx, hb, hml, hown, hts⟩ (c_X4_slotOf l D cI cZ adr A hD x1 x2 x3 u _ h) (va_cwS 3 hts gX4_findCosts_X4_slotOf rfl rfl rfl (by decide +kernel) ⟨Nat.le_of_ble_eq_true rfl, Nat.le_of_ble_eq_true rfl⟩) hK hP hS rfl hl.1 rfl (Nat.le_of_ble_eq_true rfl) dX4_findCosts_38 ⟨Nat.le_refl _, Nat.le_refl _⟩ (fun r38 u38 H locs h hP hS => ?_)
        refine lv_aload_n hx hb dX4_findCosts_41 rfl (lv_at hl 0 rfl) ?_
        refine lv_iload_n hx hb dX4_findCosts_42 rfl (lv_at hl 1 rfl) ?_
        refine lv_iload_n hx hb dX4_findCosts_43 rfl (lv_at hl 2 rfl) ?_
        refine lv_iload_n hx hb dX4_findCosts_44 rfl (lv_at hl 3 rfl) ?_
        refine gcallVi (As := [.int x1, .int x2, .int x3]) (rest := [.int r38, .ref (adr 14)]) ⟨hx, hb, hml, hown, hts⟩ (c_X4_leastCostBehind l D cI cZ adr A hD x1 x2 x3 u38 _ h) (cwV 3 hts gX4_findCosts_X4_leastCostBehind rfl rfl rfl (by decide +kernel) ⟨Nat.le_of_ble_eq_true rfl, Nat.le_of_ble_eq_true rfl⟩) (va_recv hK hP (ci := 4) (q0 := 11) rfl rfl) hK hP hS rfl hl.1 rfl (Nat.le_of_ble_eq_true rfl) dX4_findCosts_45 ⟨Nat.le_refl _, Nat.le_refl _⟩ (fun r45 u45 H locs h hP hS => ?_)
        refine fws_14 hx hb hK hP (hD _) hS h.1 dX4_findCosts_48 (fun H locs hP hS => ?_)
        have h := h.2
        refine lv_iinc (v := (x3 + 1)) (lv' := [(3, .int (x3 + 1)), (0, .ref (adr 11)), (1, .int x1), (2, .int x2)]) hx hb dX4_findCosts_49 hl (k := 3) rfl (congrArg (HAdd.hAdd _) (show Int32.ofInt (1) = (1 : Int32) by decide)) (by decide) rfl (fun ls hl => ?_)
        refine lv_goto (tgt := 23) hx hb dX4_findCosts_52 (by decide) ?_
        exact ih x1 x2 (x3 + 1) (sA u45 14 (upd (u45.2 14) r38.toNatClampNeg r45)) _ _ _ (lv_sub hl [1, 2, 3, 0] rfl) hP hS h
  have L13 : ∀ (k7 : Int32 → US → Prop) (hk7 : ∀ (x1 : Int32) (u : US) (H : Heap) (locs : List Loc) (ls : Array Slot), lv_has ls 4 [(0, .ref (adr 11)), (1, .int x1)] → va_P D vwCl (fw adr cI cZ u) H → va_S A s.heap H locs → k7 x1 u → gWv p l e wsX4_findCosts 3 s m [.ref (adr 11)] below meth c D cI cZ (fw adr cI cZ) A post H locs (F0 m 7 ls [])), ∀ (n : Nat), ∀ (x1 : Int32) (x2 : Int32) (u : US) (H : Heap) (locs : List Loc) (ls : Array Slot), lv_has ls 4 [(0, .ref (adr 11)), (1, .int x1), (2, .int x2)] → va_P D vwCl (fw adr cI cZ u) H → va_S A s.heap H locs → wp_X4_findCosts_13 k7 post n x1 x2 u → gWv p l e wsX4_findCosts 3 s m [.ref (adr 11)] below meth c D cI cZ (fw adr cI cZ) A post H locs (F0 m 13 ls []) := by
    intro k7 hk7 n
    induction n with
    | zero => intro x1 x2 u H locs ls hl hP hS h; exact False.elim h
    | succ n ih =>
      intro x1 x2 u H locs ls hl hP hS h
      refine lv_iload_n hx hb dX4_findCosts_13 rfl (lv_at hl 2 rfl) ?_
      refine lv_aload_n hx hb dX4_findCosts_14 rfl (lv_at hl 0 rfl) ?_
      refine fwg_11_5 (v := (u.1 14)) hx hb hts hinX4 hown hK hP (hts (.fieldLink RX4 28 "FilmBench$Steady" "choices" "I") (by decide +kernel)) dX4_findCosts_15 rfl ?_
      refine lv_icmp_ge (tgt := 61) hx hb dX4_findCosts_18 (by decide) (fun hc => ?_) (fun hc => ?_)
      · have h := h.1 hc
        refine lv_iinc (v := (x1 + (-1))) (lv' := [(1, .int (x1 + (-1))), (0, .ref (adr 11)), (2, .int x2)]) hx hb dX4_findCosts_61 hl (k := 1) rfl (congrArg (HAdd.hAdd _) (show Int32.ofInt (-1) = (-1 : Int32) by decide)) (by decide) rfl (fun ls hl => ?_)
        refine lv_goto (tgt := 7) hx hb dX4_findCosts_64 (by decide) ?_
        exact hk7 (x1 + (-1)) u _ _ _ (lv_sub hl [1, 0] rfl) hP hS h
      · have h := h.2 hc
        refine lv_iconst (v := (0 : Int32)) hx hb dX4_findCosts_21 (by decide) ?_
        refine lv_istore_n (lv' := [(3, .int (0 : Int32)), (0, .ref (adr 11)), (1, .int x1), (2, .int x2)]) hx hb dX4_findCosts_22 rfl hl (by decide) rfl (fun ls hl => ?_)
        obtain ⟨n, h⟩ := h
        exact L23 _ ih n x1 x2 (0 : Int32) u _ _ _ (lv_sub hl [1, 2, 3, 0] rfl) hP hS h
  have L7 : ∀ (n : Nat), ∀ (x1 : Int32) (u : US) (H : Heap) (locs : List Loc) (ls : Array Slot), lv_has ls 4 [(0, .ref (adr 11)), (1, .int x1)] → va_P D vwCl (fw adr cI cZ u) H → va_S A s.heap H locs → wp_X4_findCosts_7  post n x1 u → gWv p l e wsX4_findCosts 3 s m [.ref (adr 11)] below meth c D cI cZ (fw adr cI cZ) A post H locs (F0 m 7 ls []) := by
    intro  n
    induction n with
    | zero => intro x1 u H locs ls hl hP hS h; exact False.elim h
    | succ n ih =>
      intro x1 u H locs ls hl hP hS h
      refine lv_iload_n hx hb dX4_findCosts_7 rfl (lv_at hl 1 rfl) ?_
      refine lv_if_lt (tgt := 67) hx hb dX4_findCosts_8 (by decide) (fun hc => ?_) (fun hc => ?_)
      · have h := h.1 hc
        exact gvret hx hb hr hlocks hK hP hS h dX4_findCosts_67
      · have h := h.2 hc
        refine lv_iconst (v := (0 : Int32)) hx hb dX4_findCosts_11 (by decide) ?_
        refine lv_istore_n (lv' := [(2, .int (0 : Int32)), (0, .ref (adr 11)), (1, .int x1)]) hx hb dX4_findCosts_12 rfl hl (by decide) rfl (fun ls hl => ?_)
        obtain ⟨n, h⟩ := h
        exact L13 _ ih n x1 (0 : Int32) u _ _ _ (lv_sub hl [1, 2, 0] rfl) hP hS h
  have hl := lv_entry ([.ref (adr 11)]) (n := 4) (Nat.le_of_ble_eq_true rfl)
  rw [lg_entry_eq]
  generalize (lg_sl ([.ref (adr 11)]) ++ List.replicate (4 - (lg_sl ([.ref (adr 11)])).length) Slot.unset).toArray = ls at hl ⊢
  replace hl : lv_has ls 4 [(0, .ref (adr 11))] := hl
  refine lv_aload_n hx hb dX4_findCosts_0 rfl (lv_at hl 0 rfl) ?_
  refine fwg_11_3 (v := (u.1 12)) hx hb hts hinX4 hown hK hP (hts (.fieldLink RX4 21 "FilmBench$Steady" "frames" "I") (by decide +kernel)) dX4_findCosts_1 rfl ?_
  refine lv_iconst (v := (2 : Int32)) hx hb dX4_findCosts_4 (by decide) ?_
  refine lv_isub hx hb dX4_findCosts_5 ?_
  refine lv_istore_n (lv' := [(1, .int ((u.1 12) - (2 : Int32))), (0, .ref (adr 11))]) hx hb dX4_findCosts_6 rfl hl (by decide) rfl (fun ls hl => ?_)
  obtain ⟨n, h⟩ := h
  exact L7  n ((u.1 12) - (2 : Int32)) u _ _ _ (lv_sub hl [1, 0] rfl) hP hS h
