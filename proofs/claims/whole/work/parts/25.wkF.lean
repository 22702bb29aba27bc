set_option maxRecDepth 100000 in
set_option maxHeartbeats 4000000 in
theorem c_X2_sortGreysOf (l : Launch) (D : va_G) (cI cZ : ClassId) (adr : Nat → Nat) (A : Nat → Prop) (hD : ∀ u, va_D A (fw adr cI cZ u)) (p1 : Int32) (u : US) (post : Int32 → US → Prop) (h : wp_X2_sortGreysOf p1 u post) : gMi l yX2_sortGreysOf wsX2_sortGreysOf 2 D cI cZ (fw adr cI cZ) A [.ref (adr 15), .int p1] u post := by
  refine Met.ofW (cc := cX2_sortGreysOf) (maxL := 6) (ret := (some .int)) (by decide) rfl ?_
  intro p e s m args below meth c s₁ B hml hv
  obtain ⟨rfl, hP, hK⟩ := hv
  have hx := B.exec
  have hb := B.bytes
  have hr := B.returns
  have hts := atoms_spec (ws := wsX2_sortGreysOf) B.pre
  have hown : s.vm.findClass RX2 = some m.cls := findClass_of_methodNamed B.named
  have hlocks := B.notSynchronized
  have hinX1 : ∀ w ∈ wsX10, w ∈ wsX2_sortGreysOf := by decide +kernel
  have hinX2 : ∀ w ∈ wsX20, w ∈ wsX2_sortGreysOf := by decide +kernel
  have hS : va_S A s.heap s.heap [] := va_S.rf
  have L76 : ∀ (k4 : Int32 → Int32 → Int32 → US → Prop) (hk4 : ∀ (x1 : Int32) (x2 : Int32) (x3 : Int32) (u : US) (H : Heap) (locs : List Loc) (ls : Array Slot), lv_has ls 6 [(0, .ref (adr 15)), (1, .int x1), (2, .int x2), (3, .int x3)] → va_P D vwCl (fw adr cI cZ u) H → va_S A s.heap H locs → k4 x1 x2 x3 u → gWi p l e wsX2_sortGreysOf 2 s m [.ref (adr 15), .int p1] below meth c D cI cZ (fw adr cI cZ) A post H locs (F0 m 4 ls [])), ∀ (x1 : Int32) (x2 : Int32) (x3 : Int32) (x4 : Int32) (x5 : Int32) (u : US) (H : Heap) (locs : List Loc) (ls : Array Slot), lv_has ls 6 [(0, .ref (adr 15)), (1, .int x1), (2, .int x2), (3, .int x3), (4, .int x4), (5, .int x5)] → va_P D vwCl (fw adr cI cZ u) H → va_S A s.heap H locs → wp_X2_sortGreysOf_76 k4 post x1 x2 x3 x4 x5 u → gWi p l e wsX2_sortGreysOf 2 s m [.ref (adr 15), .int p1] below meth c D cI cZ (fw adr cI cZ) A post H locs (F0 m 76 ls []) := by
    intro k4 hk4 x1 x2 x3 x4 x5 u H locs ls hl hP hS h
    refine lv_aload_n hx hb dX2_sortGreysOf_76 rfl (lv_at hl 0 rfl) ?_
    refine fwg_15_5 hx hb hts hinX2 hown hK hP (hts (.fieldLink RX2 29 "FilmBench$Sheet" "rising" "[I") (by decide +kernel)) dX2_sortGreysOf_77 ?_
    refine lv_iload hx hb dX2_sortGreysOf_80 (lv_at hl 5 rfl) ?_
    refine lv_iload hx hb dX2_sortGreysOf_82 (lv_at hl 4 rfl) ?_
    refine fws_18 hx hb hK hP (hD _) hS h.1 dX2_sortGreysOf_84 (fun H locs hP hS => ?_)
    have h := h.2
    refine lv_iinc (v := (x2 + 1)) (lv' := [(2, .int (x2 + 1)), (0, .ref (adr 15)), (1, .int x1), (3, .int x3), (4, .int x4), (5, .int x5)]) hx hb dX2_sortGreysOf_85 hl (k := 2) rfl (congrArg (HAdd.hAdd _) (show Int32.ofInt (1) = (1 : Int32) by decide)) (by decide) rfl (fun ls hl => ?_)
    refine lv_iinc (v := (x3 + 1)) (lv' := [(3, .int (x3 + 1)), (2, .int (x2 + 1)), (0, .ref (adr 15)), (1, .int x1), (4, .int x4), (5, .int x5)]) hx hb dX2_sortGreysOf_88 hl (k := 3) rfl (congrArg (HAdd.hAdd _) (show Int32.ofInt (1) = (1 : Int32) by decide)) (by decide) rfl (fun ls hl => ?_)
    refine lv_goto (tgt := 4) hx hb dX2_sortGreysOf_91 (by decide) ?_
    exact hk4 x1 (x2 + 1) (x3 + 1) (sA u 18 (upd (u.2 18) x5.toNatClampNeg x4)) _ _ _ (lv_sub hl [2, 3, 1, 0] rfl) hP hS h
  have L35 : ∀ (k4 : Int32 → Int32 → Int32 → US → Prop) (hk4 : ∀ (x1 : Int32) (x2 : Int32) (x3 : Int32) (u : US) (H : Heap) (locs : List Loc) (ls : Array Slot), lv_has ls 6 [(0, .ref (adr 15)), (1, .int x1), (2, .int x2), (3, .int x3)] → va_P D vwCl (fw adr cI cZ u) H → va_S A s.heap H locs → k4 x1 x2 x3 u → gWi p l e wsX2_sortGreysOf 2 s m [.ref (adr 15), .int p1] below meth c D cI cZ (fw adr cI cZ) A post H locs (F0 m 4 ls [])), ∀ (n : Nat), ∀ (x1 : Int32) (x2 : Int32) (x3 : Int32) (x4 : Int32) (x5 : Int32) (u : US) (H : Heap) (locs : List Loc) (ls : Array Slot), lv_has ls 6 [(0, .ref (adr 15)), (1, .int x1), (2, .int x2), (3, .int x3), (4, .int x4), (5, .int x5)] → va_P D vwCl (fw adr cI cZ u) H → va_S A s.heap H locs → wp_X2_sortGreysOf_35 k4 post n x1 x2 x3 x4 x5 u → gWi p l e wsX2_sortGreysOf 2 s m [.ref (adr 15), .int p1] below meth c D cI cZ (fw adr cI cZ) A post H locs (F0 m 35 ls []) := by
    intro k4 hk4 n
    induction n with
    | zero => intro x1 x2 x3 x4 x5 u H locs ls hl hP hS h; exact False.elim h
    | succ n ih =>
      intro x1 x2 x3 x4 x5 u H locs ls hl hP hS h
      refine lv_iload hx hb dX2_sortGreysOf_35 (lv_at hl 5 rfl) ?_
      refine lv_if_le (tgt := 76) hx hb dX2_sortGreysOf_37 (by decide) (fun hc => ?_) (fun hc => ?_)
      · have h := h.1 hc
        exact L76 _ hk4 x1 x2 x3 x4 x5 u _ _ _ (lv_sub hl [0, 1, 2, 3, 4, 5] rfl) hP hS h
      · have h := h.2 hc
        refine lv_aload_n hx hb dX2_sortGreysOf_40 rfl (lv_at hl 0 rfl) ?_
        refine fwg_15_5 hx hb hts hinX2 hown hK hP (hts (.fieldLink RX2 29 "FilmBench$Sheet" "rising" "[I") (by decide +kernel)) dX2_sortGreysOf_41 ?_
        refine lv_iload hx hb dX2_sortGreysOf_44 (lv_at hl 5 rfl) ?_
        refine lv_iconst (v := (1 : Int32)) hx hb dX2_sortGreysOf_46 (by decide) ?_
        refine lv_isub hx hb dX2_sortGreysOf_47 ?_
        refine fwl_18 (v := ((u.2 18) (x5 - (1 : Int32)).toNatClampNeg)) hx hb hK hP h.1 dX2_sortGreysOf_48 rfl ?_
        have h := h.2
        refine lv_iload hx hb dX2_sortGreysOf_49 (lv_at hl 4 rfl) ?_
        refine lv_icmp_le (tgt := 76) hx hb dX2_sortGreysOf_51 (by decide) (fun hc => ?_) (fun hc => ?_)
        · have h := h.1 hc
          exact L76 _ hk4 x1 x2 x3 x4 x5 u _ _ _ (lv_sub hl [0, 1, 2, 3, 4, 5] rfl) hP hS h
        · have h := h.2 hc
          refine lv_aload_n hx hb dX2_sortGreysOf_54 rfl (lv_at hl 0 rfl) ?_
          refine fwg_15_5 hx hb hts hinX2 hown hK hP (hts (.fieldLink RX2 29 "FilmBench$Sheet" "rising" "[I") (by decide +kernel)) dX2_sortGreysOf_55 ?_
          refine lv_iload hx hb dX2_sortGreysOf_58 (lv_at hl 5 rfl) ?_
          refine lv_aload_n hx hb dX2_sortGreysOf_60 rfl (lv_at hl 0 rfl) ?_
          refine fwg_15_5 hx hb hts hinX2 hown hK hP (hts (.fieldLink RX2 29 "FilmBench$Sheet" "rising" "[I") (by decide +kernel)) dX2_sortGreysOf_61 ?_
          refine lv_iload hx hb dX2_sortGreysOf_64 (lv_at hl 5 rfl) ?_
          refine lv_iconst (v := (1 : Int32)) hx hb dX2_sortGreysOf_66 (by decide) ?_
          refine lv_isub hx hb dX2_sortGreysOf_67 ?_
          refine fwl_18 (v := ((u.2 18) (x5 - (1 : Int32)).toNatClampNeg)) hx hb hK hP h.1 dX2_sortGreysOf_68 rfl ?_
          have h := h.2
          refine fws_18 hx hb hK hP (hD _) hS h.1 dX2_sortGreysOf_69 (fun H locs hP hS => ?_)
          have h := h.2
          refine lv_iinc (v := (x5 + (-1))) (lv' := [(5, .int (x5 + (-1))), (0, .ref (adr 15)), (1, .int x1), (2, .int x2), (3, .int x3), (4, .int x4)]) hx hb dX2_sortGreysOf_70 hl (k := 5) rfl (congrArg (HAdd.hAdd _) (show Int32.ofInt (-1) = (-1 : Int32) by decide)) (by decide) rfl (fun ls hl => ?_)
          refine lv_goto (tgt := 35) hx hb dX2_sortGreysOf_73 (by decide) ?_
          exact ih x1 x2 x3 x4 (x5 + (-1)) (sA u 18 (upd (u.2 18) x5.toNatClampNeg ((u.2 18) (x5 - (1 : Int32)).toNatClampNeg))) _ _ _ (lv_sub hl [1, 2, 3, 4, 5, 0] rfl) hP hS h
  have L4 : ∀ (n : Nat), ∀ (x1 : Int32) (x2 : Int32) (x3 : Int32) (u : US) (H : Heap) (locs : List Loc) (ls : Array Slot), lv_has ls 6 [(0, .ref (adr 15)), (1, .int x1), (2, .int x2), (3, .int x3)] → va_P D vwCl (fw adr cI cZ u) H → va_S A s.heap H locs → wp_X2_sortGreysOf_4  post n x1 x2 x3 u → gWi p l e wsX2_sortGreysOf 2 s m [.ref (adr 15), .int p1] below meth c D cI cZ (fw adr cI cZ) A post H locs (F0 m 4 ls []) := by
    intro  n
    induction n with
    | zero => intro x1 x2 x3 u H locs ls hl hP hS h; exact False.elim h
    | succ n ih =>
      intro x1 x2 x3 u H locs ls hl hP hS h
      refine lv_iload_n hx hb dX2_sortGreysOf_4 rfl (lv_at hl 3 rfl) ?_
      refine lv_aload_n hx hb dX2_sortGreysOf_5 rfl (lv_at hl 0 rfl) ?_
      refine fwg_15_0 hx hb hts hinX2 hown hK hP (hts (.fieldLink RX2 9 "FilmBench$Sheet" "film" "LFilmBench$Reel;") (by decide +kernel)) dX2_sortGreysOf_6 ?_
      refine fwg_1_2 (v := (u.1 3)) hx hb hts hinX1 hown hK hP (hts (.fieldLink RX2 32 "FilmBench$Reel" "squares" "I") (by decide +kernel)) dX2_sortGreysOf_9 rfl ?_
      refine lv_icmp_ge (tgt := 94) hx hb dX2_sortGreysOf_12 (by decide) (fun hc => ?_) (fun hc => ?_)
      · have h := h.1 hc
        refine lv_iload_n hx hb dX2_sortGreysOf_94 rfl (lv_at hl 2 rfl) ?_
        exact giret hx hb hr hlocks hK hP hS h dX2_sortGreysOf_95
      · have h := h.2 hc
        refine lv_aload_n hx hb dX2_sortGreysOf_15 rfl (lv_at hl 0 rfl) ?_
        refine fwg_15_0 hx hb hts hinX2 hown hK hP (hts (.fieldLink RX2 9 "FilmBench$Sheet" "film" "LFilmBench$Reel;") (by decide +kernel)) dX2_sortGreysOf_16 ?_
        refine lv_iload_n hx hb dX2_sortGreysOf_19 rfl (lv_at hl 1 rfl) ?_
        refine lv_iload_n hx hb dX2_sortGreysOf_20 rfl (lv_at hl 3 rfl) ?_
        refine gcallVi (As := [.int x1, .int x3]) (rest := []) ⟨hx, hb, hml, hown, hts⟩ (c_X1_greyAt l D cI cZ adr A hD x1 x3 u _ h) (cwV 2 hts gX2_sortGreysOf_X1_greyAt rfl rfl rfl (by decide +kernel) ⟨Nat.le_of_ble_eq_true rfl, Nat.le_of_ble_eq_true rfl⟩) (va_recv hK hP (ci := 1) (q0 := 1) rfl rfl) hK hP hS rfl hl.1 rfl (Nat.le_of_ble_eq_true rfl) dX2_sortGreysOf_21 ⟨Nat.le_refl _, Nat.le_refl _⟩ (fun r21 u21 H locs h hP hS => ?_)
        refine lv_istore (lv' := [(4, .int r21), (0, .ref (adr 15)), (1, .int x1), (2, .int x2), (3, .int x3)]) hx hb dX2_sortGreysOf_24 hl (by decide) rfl (fun ls hl => ?_)
        refine lv_iload hx hb dX2_sortGreysOf_26 (lv_at hl 0 rfl) ?_
        refine lv_iconst (v := (-1 : Int32)) hx hb dX2_sortGreysOf_28 (by decide) ?_
        refine lv_icmp_eq (tgt := 88) hx hb dX2_sortGreysOf_29 (by decide) (fun hc => ?_) (fun hc => ?_)
        · have h := h.1 hc
          refine lv_iinc (v := (x3 + 1)) (lv' := [(3, .int (x3 + 1)), (4, .int r21), (0, .ref (adr 15)), (1, .int x1), (2, .int x2)]) hx hb dX2_sortGreysOf_88 hl (k := 4) rfl (congrArg (HAdd.hAdd _) (show Int32.ofInt (1) = (1 : Int32) by decide)) (by decide) rfl (fun ls hl => ?_)
          refine lv_goto (tgt := 4) hx hb dX2_sortGreysOf_91 (by decide) ?_
          exact ih x1 x2 (x3 + 1) u21 _ _ _ (lv_sub hl [2, 3, 4, 0] rfl) hP hS h
        · have h := h.2 hc
          refine lv_iload_n hx hb dX2_sortGreysOf_32 rfl (lv_at hl 3 rfl) ?_
          refine lv_istore (lv' := [(5, .int x2), (4, .int r21), (0, .ref (adr 15)), (1, .int x1), (2, .int x2), (3, .int x3)]) hx hb dX2_sortGreysOf_33 hl (by decide) rfl (fun ls hl => ?_)
          obtain ⟨n, h⟩ := h
          exact L35 _ ih n x1 x2 x3 r21 x2 u21 _ _ _ (lv_sub hl [2, 3, 4, 5, 1, 0] rfl) hP hS h
  have hl := lv_entry ([.ref (adr 15), .int p1]) (n := 6) (Nat.le_of_ble_eq_true rfl)
  rw [lg_entry_eq]
  generalize (lg_sl ([.ref (adr 15), .int p1]) ++ List.replicate (6 - (lg_sl ([.ref (adr 15), .int p1])).length) Slot.unset).toArray = ls at hl ⊢
  replace hl : lv_has ls 6 [(0, .ref (adr 15)), (1, .int p1)] := hl
  refine lv_iconst (v := (0 : Int32)) hx hb dX2_sortGreysOf_0 (by decide) ?_
  refine lv_istore_n (lv' := [(2, .int (0 : Int32)), (0, .ref (adr 15)), (1, .int p1)]) hx hb dX2_sortGreysOf_1 rfl hl (by decide) rfl (fun ls hl => ?_)
  refine lv_iconst (v := (0 : Int32)) hx hb dX2_sortGreysOf_2 (by decide) ?_
  refine lv_istore_n (lv' := [(3, .int (0 : Int32)), (2, .int (0 : Int32)), (0, .ref (adr 15)), (1, .int p1)]) hx hb dX2_sortGreysOf_3 rfl hl (by decide) rfl (fun ls hl => ?_)
  obtain ⟨n, h⟩ := h
  exact L4  n p1 (0 : Int32) (0 : Int32) u _ _ _ (lv_sub hl [2, 3, 1, 0] rfl) hP hS h
set_option maxRecDepth 100000 in
set_option maxHeartbeats 4000000 in
theorem c_X2_countLost (l : Launch) (D : va_G) (cI cZ : ClassId) (adr : Nat → Nat) (A : Nat → Prop) (hD : ∀ u, va_D A (fw adr cI cZ u))  (u : US) (post : Int32 → US → Prop) (h : wp_X2_countLost  u post) : gMi l yX2_countLost wsX2_countLost 0 D cI cZ (fw adr cI cZ) A [.ref (adr 15)] u post := by
  refine Met.ofW (cc := cX2_countLost) (maxL := 3) (ret := (some .int)) (by decide) rfl ?_
  intro p e s m args below meth c s₁ B hml hv
  obtain ⟨rfl, hP, hK⟩ := hv
  have hx := B.exec
  have hb := B.bytes
  have hr := B.returns
  have hts := atoms_spec (ws := wsX2_countLost) B.pre
  have hown : s.vm.findClass RX2 = some m.cls := findClass_of_methodNamed B.named
  have hlocks := B.notSynchronized
  have hinX1 : ∀ w ∈ wsX10, w ∈ wsX2_countLost := by decide +kernel
  have hinX2 : ∀ w ∈ wsX20, w ∈ wsX2_countLost := by decide +kernel
  have hS : va_S A s.heap s.heap [] := va_S.rf
  have L4 : ∀ (n : Nat), ∀ (x1 : Int32) (x2 : Int32) (u : US) (H : Heap) (locs : List Loc) (ls : Array Slot), lv_has ls 3 [(0, .ref (adr 15)), (1, .int x1), (2, .int x2)] → va_P D vwCl (fw adr cI cZ u) H → va_S A s.heap H locs → wp_X2_countLost_4  post n x1 x2 u → gWi p l e wsX2_countLost 0 s m [.ref (adr 15)] below meth c D cI cZ (fw adr cI cZ) A post H locs (F0 m 4 ls []) := by
    intro  n
    induction n with
    | zero => intro x1 x2 u H locs ls hl hP hS h; exact False.elim h
    | succ n ih =>
      intro x1 x2 u H locs ls hl hP hS h
      refine lv_iload_n hx hb dX2_countLost_4 rfl (lv_at hl 2 rfl) ?_
      refine lv_aload_n hx hb dX2_countLost_5 rfl (lv_at hl 0 rfl) ?_
      refine fwg_15_0 hx hb hts hinX2 hown hK hP (hts (.fieldLink RX2 9 "FilmBench$Sheet" "film" "LFilmBench$Reel;") (by decide +kernel)) dX2_countLost_6 ?_
      refine fwg_1_2 (v := (u.1 3)) hx hb hts hinX1 hown hK hP (hts (.fieldLink RX2 32 "FilmBench$Reel" "squares" "I") (by decide +kernel)) dX2_countLost_9 rfl ?_
      refine lv_icmp_ge (tgt := 34) hx hb dX2_countLost_12 (by decide) (fun hc => ?_) (fun hc => ?_)
      · have h := h.1 hc
        refine lv_iload_n hx hb dX2_countLost_34 rfl (lv_at hl 1 rfl) ?_
        exact giret hx hb hr hlocks hK hP hS h dX2_countLost_35
      · have h := h.2 hc
        refine lv_aload_n hx hb dX2_countLost_15 rfl (lv_at hl 0 rfl) ?_
        refine fwg_15_3 hx hb hts hinX2 hown hK hP (hts (.fieldLink RX2 23 "FilmBench$Sheet" "now" "[I") (by decide +kernel)) dX2_countLost_16 ?_
        refine lv_iload_n hx hb dX2_countLost_19 rfl (lv_at hl 2 rfl) ?_
        refine fwl_16 (v := ((u.2 16) x2.toNatClampNeg)) hx hb hK hP h.1 dX2_countLost_20 rfl ?_
        have h := h.2
        refine lv_iconst (v := (-1 : Int32)) hx hb dX2_countLost_21 (by decide) ?_
        refine lv_icmp_ne (tgt := 28) hx hb dX2_countLost_22 (by decide) (fun hc => ?_) (fun hc => ?_)
        · have h := h.2 hc
          refine lv_iinc (v := (x2 + 1)) (lv' := [(2, .int (x2 + 1)), (0, .ref (adr 15)), (1, .int x1)]) hx hb dX2_countLost_28 hl (k := 2) rfl (congrArg (HAdd.hAdd _) (show Int32.ofInt (1) = (1 : Int32) by decide)) (by decide) rfl (fun ls hl => ?_)
          refine lv_goto (tgt := 4) hx hb dX2_countLost_31 (by decide) ?_
          exact ih x1 (x2 + 1) u _ _ _ (lv_sub hl [1, 2, 0] rfl) hP hS h
        · have h := h.1 hc
          refine lv_iinc (v := (x1 + 1)) (lv' := [(1, .int (x1 + 1)), (0, .ref (adr 15)), (2, .int x2)]) hx hb dX2_countLost_25 hl (k := 1) rfl (congrArg (HAdd.hAdd _) (show Int32.ofInt (1) = (1 : Int32) by decide)) (by decide) rfl (fun ls hl => ?_)
          refine lv_iinc (v := (x2 + 1)) (lv' := [(2, .int (x2 + 1)), (1, .int (x1 + 1)), (0, .ref (adr 15))]) hx hb dX2_countLost_28 hl (k := 2) rfl (congrArg (HAdd.hAdd _) (show Int32.ofInt (1) = (1 : Int32) by decide)) (by decide) rfl (fun ls hl => ?_)
          refine lv_goto (tgt := 4) hx hb dX2_countLost_31 (by decide) ?_
          exact ih (x1 + 1) (x2 + 1) u _ _ _ (lv_sub hl [2, 1, 0] rfl) hP hS h
  have hl := lv_entry ([.ref (adr 15)]) (n := 3) (Nat.le_of_ble_eq_true rfl)
  rw [lg_entry_eq]
  generalize (lg_sl ([.ref (adr 15)]) ++ List.replicate (3 - (lg_sl ([.ref (adr 15)])).length) Slot.unset).toArray = ls at hl ⊢
  replace hl : lv_has ls 3 [(0, .ref (adr 15))] := hl
  refine lv_iconst (v := (0 : Int32)) hx hb dX2_countLost_0 (by decide) ?_
  refine lv_istore_n (lv' := [(1, .int (0 : Int32)), (0, .ref (adr 15))]) hx hb dX2_countLost_1 rfl hl (by decide) rfl (fun ls hl => ?_)
  refine lv_iconst (v := (0 : Int32)) hx hb dX2_countLost_2 (by decide) ?_
  refine lv_istore_n (lv' := [(2, .int (0 : Int32)), (1, .int (0 : Int32)), (0, .ref (adr 15))]) hx hb dX2_countLost_3 rfl hl (by decide) rfl (fun ls hl => ?_)
  obtain ⟨n, h⟩ := h
  exact L4  n (0 : Int32) (0 : Int32) u _ _ _ (lv_sub hl [2, 1, 0] rfl) hP hS h
set_option maxRecDepth 100000 in
set_option maxHeartbeats 4000000 in
theorem c_X2_middleRankOf (l : Launch) (D : va_G) (cI cZ : ClassId) (adr : Nat → Nat) (A : Nat → Prop) (hD : ∀ u, va_D A (fw adr cI cZ u)) (p1 : Int32) (u : US) (post : Int32 → US → Prop) (h : wp_X2_middleRankOf p1 u post) : gMi l yX2_middleRankOf wsX2_middleRankOf 0 D cI cZ (fw adr cI cZ) A [.ref (adr 15), .int p1] u post := by
  refine Met.ofW (cc := cX2_middleRankOf) (maxL := 5) (ret := (some .int)) (by decide) rfl ?_
  intro p e s m args below meth c s₁ B hml hv
  obtain ⟨rfl, hP, hK⟩ := hv
  have hx := B.exec
  have hb := B.bytes
  have hr := B.returns
  have hts := atoms_spec (ws := wsX2_middleRankOf) B.pre
  have hown : s.vm.findClass RX2 = some m.cls := findClass_of_methodNamed B.named
  have hlocks := B.notSynchronized
  have hinX1 : ∀ w ∈ wsX10, w ∈ wsX2_middleRankOf := by decide +kernel
  have hinX2 : ∀ w ∈ wsX20, w ∈ wsX2_middleRankOf := by decide +kernel
  have hS : va_S A s.heap s.heap [] := va_S.rf
  have L7 : ∀ (n : Nat), ∀ (x1 : Int32) (x2 : Int32) (x3 : Int32) (x4 : Int32) (u : US) (H : Heap) (locs : List Loc) (ls : Array Slot), lv_has ls 5 [(0, .ref (adr 15)), (1, .int x1), (2, .int x2), (3, .int x3), (4, .int x4)] → va_P D vwCl (fw adr cI cZ u) H → va_S A s.heap H locs → wp_X2_middleRankOf_7  post n x1 x2 x3 x4 u → gWi p l e wsX2_middleRankOf 0 s m [.ref (adr 15), .int p1] below meth c D cI cZ (fw adr cI cZ) A post H locs (F0 m 7 ls []) := by
    intro  n
    induction n with
    | zero => intro x1 x2 x3 x4 u H locs ls hl hP hS h; exact False.elim h
    | succ n ih =>
      intro x1 x2 x3 x4 u H locs ls hl hP hS h
      refine lv_iload hx hb dX2_middleRankOf_7 (lv_at hl 4 rfl) ?_
      refine lv_aload_n hx hb dX2_middleRankOf_9 rfl (lv_at hl 0 rfl) ?_
      refine fwg_15_0 hx hb hts hinX2 hown hK hP (hts (.fieldLink RX2 9 "FilmBench$Sheet" "film" "LFilmBench$Reel;") (by decide +kernel)) dX2_middleRankOf_10 ?_
      refine fwg_1_2 (v := (u.1 3)) hx hb hts hinX1 hown hK hP (hts (.fieldLink RX2 32 "FilmBench$Reel" "squares" "I") (by decide +kernel)) dX2_middleRankOf_13 rfl ?_
      refine lv_icmp_ge (tgt := 67) hx hb dX2_middleRankOf_16 (by decide) (fun hc => ?_) (fun hc => ?_)
      · have h := h.1 hc
        refine lv_iconst (v := (2 : Int32)) hx hb dX2_middleRankOf_67 (by decide) ?_
        refine lv_iload_n hx hb dX2_middleRankOf_68 rfl (lv_at hl 2 rfl) ?_
        refine lv_imul hx hb dX2_middleRankOf_69 ?_
        refine lv_iload_n hx hb dX2_middleRankOf_70 rfl (lv_at hl 3 rfl) ?_
        refine lv_iadd hx hb dX2_middleRankOf_71 ?_
        refine lv_iconst (v := (1 : Int32)) hx hb dX2_middleRankOf_72 (by decide) ?_
        refine lv_isub hx hb dX2_middleRankOf_73 ?_
        refine lv_iconst (v := (2 : Int32)) hx hb dX2_middleRankOf_74 (by decide) ?_
        refine lv_idiv hx hb dX2_middleRankOf_75 (by decide) ?_
        exact giret hx hb hr hlocks hK hP hS h dX2_middleRankOf_76
      · have h := h.2 hc
        refine lv_aload_n hx hb dX2_middleRankOf_19 rfl (lv_at hl 0 rfl) ?_
        refine fwg_15_4 hx hb hts hinX2 hown hK hP (hts (.fieldLink RX2 26 "FilmBench$Sheet" "before" "[I") (by decide +kernel)) dX2_middleRankOf_20 ?_
        refine lv_iload hx hb dX2_middleRankOf_23 (lv_at hl 4 rfl) ?_
        refine fwl_17 (v := ((u.2 17) x4.toNatClampNeg)) hx hb hK hP h.1 dX2_middleRankOf_25 rfl ?_
        have h := h.2
        refine lv_iload_n hx hb dX2_middleRankOf_26 rfl (lv_at hl 1 rfl) ?_
        refine lv_icmp_ne (tgt := 36) hx hb dX2_middleRankOf_27 (by decide) (fun hc => ?_) (fun hc => ?_)
        · have h := h.2 hc
          refine lv_aload_n hx hb dX2_middleRankOf_36 rfl (lv_at hl 0 rfl) ?_
          refine fwg_15_4 hx hb hts hinX2 hown hK hP (hts (.fieldLink RX2 26 "FilmBench$Sheet" "before" "[I") (by decide +kernel)) dX2_middleRankOf_37 ?_
          refine lv_iload hx hb dX2_middleRankOf_40 (lv_at hl 4 rfl) ?_
          refine fwl_17 (v := ((u.2 17) x4.toNatClampNeg)) hx hb hK hP h.1 dX2_middleRankOf_42 rfl ?_
          have h := h.2
          refine lv_iconst (v := (-1 : Int32)) hx hb dX2_middleRankOf_43 (by decide) ?_
          refine lv_icmp_eq (tgt := 61) hx hb dX2_middleRankOf_44 (by decide) (fun hc => ?_) (fun hc => ?_)
          · have h := h.1 hc
            refine lv_iinc (v := (x4 + 1)) (lv' := [(4, .int (x4 + 1)), (0, .ref (adr 15)), (1, .int x1), (2, .int x2), (3, .int x3)]) hx hb dX2_middleRankOf_61 hl (k := 4) rfl (congrArg (HAdd.hAdd _) (show Int32.ofInt (1) = (1 : Int32) by decide)) (by decide) rfl (fun ls hl => ?_)
            refine lv_goto (tgt := 7) hx hb dX2_middleRankOf_64 (by decide) ?_
            exact ih x1 x2 x3 (x4 + 1) u _ _ _ (lv_sub hl [1, 2, 3, 4, 0] rfl) hP hS h
          · have h := h.2 hc
            refine lv_aload_n hx hb dX2_middleRankOf_47 rfl (lv_at hl 0 rfl) ?_
            refine fwg_15_4 hx hb hts hinX2 hown hK hP (hts (.fieldLink RX2 26 "FilmBench$Sheet" "before" "[I") (by decide +kernel)) dX2_middleRankOf_48 ?_
            refine lv_iload hx hb dX2_middleRankOf_51 (lv_at hl 4 rfl) ?_
            refine fwl_17 (v := ((u.2 17) x4.toNatClampNeg)) hx hb hK hP h.1 dX2_middleRankOf_53 rfl ?_
            have h := h.2
            refine lv_iload_n hx hb dX2_middleRankOf_54 rfl (lv_at hl 1 rfl) ?_
            refine lv_icmp_ge (tgt := 61) hx hb dX2_middleRankOf_55 (by decide) (fun hc => ?_) (fun hc => ?_)
            · have h := h.1 hc
              refine lv_iinc (v := (x4 + 1)) (lv' := [(4, .int (x4 + 1)), (0, .ref (adr 15)), (1, .int x1), (2, .int x2), (3, .int x3)]) hx hb dX2_middleRankOf_61 hl (k := 4) rfl (congrArg (HAdd.hAdd _) (show Int32.ofInt (1) = (1 : Int32) by decide)) (by decide) rfl (fun ls hl => ?_)
              refine lv_goto (tgt := 7) hx hb dX2_middleRankOf_64 (by decide) ?_
              exact ih x1 x2 x3 (x4 + 1) u _ _ _ (lv_sub hl [1, 2, 3, 4, 0] rfl) hP hS h
            · have h := h.2 hc
              refine lv_iinc (v := (x2 + 1)) (lv' := [(2, .int (x2 + 1)), (0, .ref (adr 15)), (1, .int x1), (3, .int x3), (4, .int x4)]) hx hb dX2_middleRankOf_58 hl (k := 2) rfl (congrArg (HAdd.hAdd _) (show Int32.ofInt (1) = (1 : Int32) by decide)) (by decide) rfl (fun ls hl => ?_)
              refine lv_iinc (v := (x4 + 1)) (lv' := [(4, .int (x4 + 1)), (2, .int (x2 + 1)), (0, .ref (adr 15)), (1, .int x1), (3, .int x3)]) hx hb dX2_middleRankOf_61 hl (k := 4) rfl (congrArg (HAdd.hAdd _) (show Int32.ofInt (1) = (1 : Int32) by decide)) (by decide) rfl (fun ls hl => ?_)
              refine lv_goto (tgt := 7) hx hb dX2_middleRankOf_64 (by decide) ?_
              exact ih x1 (x2 + 1) x3 (x4 + 1) u _ _ _ (lv_sub hl [2, 3, 1, 4, 0] rfl) hP hS h
        · have h := h.1 hc
          refine lv_iinc (v := (x3 + 1)) (lv' := [(3, .int (x3 + 1)), (0, .ref (adr 15)), (1, .int x1), (2, .int x2), (4, .int x4)]) hx hb dX2_middleRankOf_30 hl (k := 3) rfl (congrArg (HAdd.hAdd _) (show Int32.ofInt (1) = (1 : Int32) by decide)) (by decide) rfl (fun ls hl => ?_)
          refine lv_goto (tgt := 61) hx hb dX2_middleRankOf_33 (by decide) ?_
          refine lv_iinc (v := (x4 + 1)) (lv' := [(4, .int (x4 + 1)), (3, .int (x3 + 1)), (0, .ref (adr 15)), (1, .int x1), (2, .int x2)]) hx hb dX2_middleRankOf_61 hl (k := 4) rfl (congrArg (HAdd.hAdd _) (show Int32.ofInt (1) = (1 : Int32) by decide)) (by decide) rfl (fun ls hl => ?_)
          refine lv_goto (tgt := 7) hx hb dX2_middleRankOf_64 (by decide) ?_
          exact ih x1 x2 (x3 + 1) (x4 + 1) u _ _ _ (lv_sub hl [2, 3, 4, 1, 0] rfl) hP hS h
  have hl := lv_entry ([.ref (adr 15), .int p1]) (n := 5) (Nat.le_of_ble_eq_true rfl)
  rw [lg_entry_eq]
  generalize (lg_sl ([.ref (adr 15), .int p1]) ++ List.replicate (5 - (lg_sl ([.ref (adr 15), .int p1])).length) Slot.unset).toArray = ls at hl ⊢
  replace hl : lv_has ls 5 [(0, .ref (adr 15)), (1, .int p1)] := hl
  refine lv_iconst (v := (0 : Int32)) hx hb dX2_middleRankOf_0 (by decide) ?_
  refine lv_istore_n (lv' := [(2, .int (0 : Int32)), (0, .ref (adr 15)), (1, .int p1)]) hx hb dX2_middleRankOf_1 rfl hl (by decide) rfl (fun ls hl => ?_)
  refine lv_iconst (v := (0 : Int32)) hx hb dX2_middleRankOf_2 (by decide) ?_
  refine lv_istore_n (lv' := [(3, .int (0 : Int32)), (2, .int (0 : Int32)), (0, .ref (adr 15)), (1, .int p1)]) hx hb dX2_middleRankOf_3 rfl hl (by decide) rfl (fun ls hl => ?_)
  refine lv_iconst (v := (0 : Int32)) hx hb dX2_middleRankOf_4 (by decide) ?_
  refine lv_istore (lv' := [(4, .int (0 : Int32)), (3, .int (0 : Int32)), (2, .int (0 : Int32)), (0, .ref (adr 15)), (1, .int p1)]) hx hb dX2_middleRankOf_5 hl (by decide) rfl (fun ls hl => ?_)
  obtain ⟨n, h⟩ := h
  exact L7  n p1 (0 : Int32) (0 : Int32) (0 : Int32) u _ _ _ (lv_sub hl [3, 4, 2, 1, 0] rfl) hP hS h
set_option maxRecDepth 100000 in
set_option maxHeartbeats 4000000 in
theorem c_X2_matchLevels (l : Launch) (D : va_G) (cI cZ : ClassId) (adr : Nat → Nat) (A : Nat → Prop) (hD : ∀ u, va_D A (fw adr cI cZ u)) (p1 : Int32) (u : US) (post : US → Prop) (h : wp_X2_matchLevels p1 u post) : gMv l yX2_matchLevels wsX2_matchLevels 3 D cI cZ (fw adr cI cZ) A [.ref (adr 15), .int p1] u post := by
  refine Met.ofW (cc := cX2_matchLevels) (maxL := 6) (ret := none) (by decide) rfl ?_
  intro p e s m args below meth c s₁ B hml hv
  obtain ⟨rfl, hP, hK⟩ := hv
  have hx := B.exec
  have hb := B.bytes
  have hr := B.returns
  have hts := atoms_spec (ws := wsX2_matchLevels) B.pre
  have hown : s.vm.findClass RX2 = some m.cls := findClass_of_methodNamed B.named
  have hlocks := B.notSynchronized
  have hinX1 : ∀ w ∈ wsX10, w ∈ wsX2_matchLevels := by decide +kernel
  have hinX2 : ∀ w ∈ wsX20, w ∈ wsX2_matchLevels := by decide +kernel
  have hS : va_S A s.heap s.heap [] := va_S.rf
  have L31 : ∀ (n : Nat), ∀ (x2 : Int32) (x3 : Int32) (x4 : Int32) (u : US) (H : Heap) (locs : List Loc) (ls : Array Slot), lv_has ls 6 [(0, .ref (adr 15)), (2, .int x2), (3, .int x3), (4, .int x4)] → va_P D vwCl (fw adr cI cZ u) H → va_S A s.heap H locs → wp_X2_matchLevels_31  post n x2 x3 x4 u → gWv p l e wsX2_matchLevels 3 s m [.ref (adr 15), .int p1] below meth c D cI cZ (fw adr cI cZ) A post H locs (F0 m 31 ls []) := by
    intro  n
    induction n with
    | zero => intro x2 x3 x4 u H locs ls hl hP hS h; exact False.elim h
    | succ n ih =>
      intro x2 x3 x4 u H locs ls hl hP hS h
      refine lv_iload hx hb dX2_matchLevels_31 (lv_at hl 3 rfl) ?_
      refine lv_aload_n hx hb dX2_matchLevels_33 rfl (lv_at hl 0 rfl) ?_
      refine fwg_15_0 hx hb hts hinX2 hown hK hP (hts (.fieldLink RX2 9 "FilmBench$Sheet" "film" "LFilmBench$Reel;") (by decide +kernel)) dX2_matchLevels_34 ?_
      refine fwg_1_2 (v := (u.1 3)) hx hb hts hinX1 hown hK hP (hts (.fieldLink RX2 32 "FilmBench$Reel" "squares" "I") (by decide +kernel)) dX2_matchLevels_37 rfl ?_
      refine lv_icmp_ge (tgt := 102) hx hb dX2_matchLevels_40 (by decide) (fun hc => ?_) (fun hc => ?_)
      · have h := h.1 hc
        exact gvret hx hb hr hlocks hK hP hS h dX2_matchLevels_102
      · have h := h.2 hc
        refine lv_aload_n hx hb dX2_matchLevels_43 rfl (lv_at hl 0 rfl) ?_
        refine fwg_15_4 hx hb hts hinX2 hown hK hP (hts (.fieldLink RX2 26 "FilmBench$Sheet" "before" "[I") (by decide +kernel)) dX2_matchLevels_44 ?_
        refine lv_iload hx hb dX2_matchLevels_47 (lv_at hl 3 rfl) ?_
        refine fwl_17 (v := ((u.2 17) x4.toNatClampNeg)) hx hb hK hP h.1 dX2_matchLevels_49 rfl ?_
        have h := h.2
        refine lv_iconst (v := (-1 : Int32)) hx hb dX2_matchLevels_50 (by decide) ?_
        refine lv_icmp_eq (tgt := 96) hx hb dX2_matchLevels_51 (by decide) (fun hc => ?_) (fun hc => ?_)
        · have h := h.1 hc
          refine lv_iinc (v := (x4 + 1)) (lv' := [(4, .int (x4 + 1)), (0, .ref (adr 15)), (2, .int x2), (3, .int x3)]) hx hb dX2_matchLevels_96 hl (k := 3) rfl (congrArg (HAdd.hAdd _) (show Int32.ofInt (1) = (1 : Int32) by decide)) (by decide) rfl (fun ls hl => ?_)
          refine lv_goto (tgt := 31) hx hb dX2_matchLevels_99 (by decide) ?_
          exact ih x2 x3 (x4 + 1) u _ _ _ (lv_sub hl [1, 2, 3, 0] rfl) hP hS h
        · have h := h.2 hc
          refine lv_aload_n hx hb dX2_matchLevels_54 rfl (lv_at hl 0 rfl) ?_
          refine lv_aload_n hx hb dX2_matchLevels_55 rfl (lv_at hl 0 rfl) ?_
          refine fwg_15_4 hx hb hts hinX2 hown hK hP (hts (.fieldLink RX2 26 "FilmBench$Sheet" "before" "[I") (by decide +kernel)) dX2_matchLevels_56 ?_
          refine lv_iload hx hb dX2_matchLevels_59 (lv_at hl 3 rfl) ?_
          refine fwl_17 (v := ((u.2 17) x4.toNatClampNeg)) hx hb hK hP h.1 dX2_matchLevels_61 rfl ?_
          have h := h.2
          refine gcallVi (As := [.int ((u.2 17) x4.toNatClampNeg)]) (rest := []) ⟨hx, hb, hml, hown, hts⟩ (c_X2_middleRankOf l D cI cZ adr A hD ((u.2 17) x4.toNatClampNeg) u _ h) (cwV 1 hts gX2_matchLevels_X2_middleRankOf rfl rfl rfl (by decide +kernel) ⟨Nat.le_of_ble_eq_true rfl, Nat.le_of_ble_eq_true rfl⟩) (va_recv hK hP (ci := 2) (q0 := 15) rfl rfl) hK hP hS rfl hl.1 rfl (Nat.le_of_ble_eq_true rfl) dX2_matchLevels_62 ⟨Nat.le_refl _, Nat.le_refl _⟩ (fun r62 u62 H locs h hP hS => ?_)
          refine lv_iload_n hx hb dX2_matchLevels_65 rfl (lv_at hl 1 rfl) ?_
          refine lv_imul hx hb dX2_matchLevels_66 ?_
          refine lv_iload_n hx hb dX2_matchLevels_67 rfl (lv_at hl 2 rfl) ?_
          refine lv_idiv hx hb dX2_matchLevels_68 h.1 ?_
          have h := h.2
          refine lv_istore (lv' := [(5, .int ((r62 * x2) / x3)), (0, .ref (adr 15)), (2, .int x2), (3, .int x3), (4, .int x4)]) hx hb dX2_matchLevels_69 hl (by decide) rfl (fun ls hl => ?_)
          refine lv_iload hx hb dX2_matchLevels_71 (lv_at hl 0 rfl) ?_
          refine lv_if_lt (tgt := 96) hx hb dX2_matchLevels_73 (by decide) (fun hc => ?_) (fun hc => ?_)
          · have h := h.1 hc
            refine lv_iinc (v := (x4 + 1)) (lv' := [(4, .int (x4 + 1)), (5, .int ((r62 * x2) / x3)), (0, .ref (adr 15)), (2, .int x2), (3, .int x3)]) hx hb dX2_matchLevels_96 hl (k := 4) rfl (congrArg (HAdd.hAdd _) (show Int32.ofInt (1) = (1 : Int32) by decide)) (by decide) rfl (fun ls hl => ?_)
            refine lv_goto (tgt := 31) hx hb dX2_matchLevels_99 (by decide) ?_
            exact ih x2 x3 (x4 + 1) u62 _ _ _ (lv_sub hl [2, 3, 4, 0] rfl) hP hS h
          · have h := h.2 hc
            refine lv_iload hx hb dX2_matchLevels_76 (lv_at hl 0 rfl) ?_
            refine lv_iload_n hx hb dX2_matchLevels_78 rfl (lv_at hl 2 rfl) ?_
            refine lv_icmp_ge (tgt := 96) hx hb dX2_matchLevels_79 (by decide) (fun hc => ?_) (fun hc => ?_)
            · have h := h.1 hc
              refine lv_iinc (v := (x4 + 1)) (lv' := [(4, .int (x4 + 1)), (5, .int ((r62 * x2) / x3)), (0, .ref (adr 15)), (2, .int x2), (3, .int x3)]) hx hb dX2_matchLevels_96 hl (k := 4) rfl (congrArg (HAdd.hAdd _) (show Int32.ofInt (1) = (1 : Int32) by decide)) (by decide) rfl (fun ls hl => ?_)
              refine lv_goto (tgt := 31) hx hb dX2_matchLevels_99 (by decide) ?_
              exact ih x2 x3 (x4 + 1) u62 _ _ _ (lv_sub hl [2, 3, 4, 0] rfl) hP hS h
            · have h := h.2 hc
              refine lv_aload_n hx hb dX2_matchLevels_82 rfl (lv_at hl 1 rfl) ?_
              refine fwg_15_3 hx hb hts hinX2 hown hK hP (hts (.fieldLink RX2 23 "FilmBench$Sheet" "now" "[I") (by decide +kernel)) dX2_matchLevels_83 ?_
              refine lv_iload hx hb dX2_matchLevels_86 (lv_at hl 4 rfl) ?_
              refine lv_aload_n hx hb dX2_matchLevels_88 rfl (lv_at hl 1 rfl) ?_
              refine fwg_15_5 hx hb hts hinX2 hown hK hP (hts (.fieldLink RX2 29 "FilmBench$Sheet" "rising" "[I") (by decide +kernel)) dX2_matchLevels_89 ?_
              refine lv_iload hx hb dX2_matchLevels_92 (lv_at hl 0 rfl) ?_
              refine fwl_18 (v := ((u62.2 18) ((r62 * x2) / x3).toNatClampNeg)) hx hb hK hP h.1 dX2_matchLevels_94 rfl ?_
              have h := h.2
              refine fws_16 hx hb hK hP (hD _) hS h.1 dX2_matchLevels_95 (fun H locs hP hS => ?_)
              have h := h.2
              refine lv_iinc (v := (x4 + 1)) (lv' := [(4, .int (x4 + 1)), (5, .int ((r62 * x2) / x3)), (0, .ref (adr 15)), (2, .int x2), (3, .int x3)]) hx hb dX2_matchLevels_96 hl (k := 4) rfl (congrArg (HAdd.hAdd _) (show Int32.ofInt (1) = (1 : Int32) by decide)) (by decide) rfl (fun ls hl => ?_)
              refine lv_goto (tgt := 31) hx hb dX2_matchLevels_99 (by decide) ?_
              exact ih x2 x3 (x4 + 1) (sA u62 16 (upd (u62.2 16) x4.toNatClampNeg ((u62.2 18) ((r62 * x2) / x3).toNatClampNeg))) _ _ _ (lv_sub hl [2, 3, 4, 0] rfl) hP hS h
  have hl := lv_entry ([.ref (adr 15), .int p1]) (n := 6) (Nat.le_of_ble_eq_true rfl)
  rw [lg_entry_eq]
  generalize (lg_sl ([.ref (adr 15), .int p1]) ++ List.replicate (6 - (lg_sl ([.ref (adr 15), .int p1])).length) Slot.unset).toArray = ls at hl ⊢
  replace hl : lv_has ls 6 [(0, .ref (adr 15)), (1, .int p1)] := hl
  refine lv_aload_n hx hb dX2_matchLevels_0 rfl (lv_at hl 0 rfl) ?_
  refine lv_iload_n hx hb dX2_matchLevels_1 rfl (lv_at hl 1 rfl) ?_
  refine gcallVi (As := [.int p1]) (rest := []) ⟨hx, hb, hml, hown, hts⟩ (c_X2_sortGreysOf l D cI cZ adr A hD p1 u _ h) (cwV 1 hts gX2_matchLevels_X2_sortGreysOf rfl rfl rfl (by decide +kernel) ⟨Nat.le_of_ble_eq_true rfl, Nat.le_of_ble_eq_true rfl⟩) (va_recv hK hP (ci := 2) (q0 := 15) rfl rfl) hK hP hS rfl hl.1 rfl (Nat.le_of_ble_eq_true rfl) dX2_matchLevels_2 ⟨Nat.le_refl _, Nat.le_refl _⟩ (fun r2 u2 H locs h hP hS => ?_)
  refine lv_istore_n (lv' := [(2, .int r2), (0, .ref (adr 15)), (1, .int p1)]) hx hb dX2_matchLevels_5 rfl hl (by decide) rfl (fun ls hl => ?_)
  refine lv_aload_n hx hb dX2_matchLevels_6 rfl (lv_at hl 1 rfl) ?_
  refine fwg_15_0 hx hb hts hinX2 hown hK hP (hts (.fieldLink RX2 9 "FilmBench$Sheet" "film" "LFilmBench$Reel;") (by decide +kernel)) dX2_matchLevels_7 ?_
  refine fwg_1_2 (v := (u2.1 3)) hx hb hts hinX1 hown hK hP (hts (.fieldLink RX2 32 "FilmBench$Reel" "squares" "I") (by decide +kernel)) dX2_matchLevels_10 rfl ?_
  refine lv_aload_n hx hb dX2_matchLevels_13 rfl (lv_at hl 1 rfl) ?_
  refine gcallVi (As := []) (rest := [.int (u2.1 3)]) ⟨hx, hb, hml, hown, hts⟩ (c_X2_countLost l D cI cZ adr A hD u2 _ h) (cwV 0 hts gX2_matchLevels_X2_countLost rfl rfl rfl (by decide +kernel) ⟨Nat.le_of_ble_eq_true rfl, Nat.le_of_ble_eq_true rfl⟩) (va_recv hK hP (ci := 2) (q0 := 15) rfl rfl) hK hP hS rfl hl.1 rfl (Nat.le_of_ble_eq_true rfl) dX2_matchLevels_14 ⟨Nat.le_refl _, Nat.le_refl _⟩ (fun r14 u14 H locs h hP hS => ?_)
  refine lv_isub hx hb dX2_matchLevels_17 ?_
  refine lv_istore_n (lv' := [(3, .int ((u2.1 3) - r14)), (2, .int r2), (0, .ref (adr 15)), (1, .int p1)]) hx hb dX2_matchLevels_18 rfl hl (by decide) rfl (fun ls hl => ?_)
  refine lv_iload_n hx hb dX2_matchLevels_19 rfl (lv_at hl 0 rfl) ?_
  refine lv_if_le (tgt := 27) hx hb dX2_matchLevels_20 (by decide) (fun hc => ?_) (fun hc => ?_)
  · have h := h.1 hc
    exact gvret hx hb hr hlocks hK hP hS h dX2_matchLevels_27
  · have h := h.2 hc
    refine lv_iload_n hx hb dX2_matchLevels_23 rfl (lv_at hl 1 rfl) ?_
    refine lv_if_gt (tgt := 28) hx hb dX2_matchLevels_24 (by decide) (fun hc => ?_) (fun hc => ?_)
    · have h := h.1 hc
      refine lv_iconst (v := (0 : Int32)) hx hb dX2_matchLevels_28 (by decide) ?_
      refine lv_istore (lv' := [(4, .int (0 : Int32)), (3, .int ((u2.1 3) - r14)), (2, .int r2), (0, .ref (adr 15)), (1, .int p1)]) hx hb dX2_matchLevels_29 hl (by decide) rfl (fun ls hl => ?_)
      obtain ⟨n, h⟩ := h
      exact L31  n r2 ((u2.1 3) - r14) (0 : Int32) u14 _ _ _ (lv_sub hl [3, 2, 1, 0] rfl) hP hS h
    · have h := h.2 hc
      exact gvret hx hb hr hlocks hK hP hS h dX2_matchLevels_27
set_option maxRecDepth 100000 in
set_option maxHeartbeats 4000000 in
theorem c_X2_fillLost (l : Launch) (D : va_G) (cI cZ : ClassId) (adr : Nat → Nat) (A : Nat → Prop) (hD : ∀ u, va_D A (fw adr cI cZ u)) (p1 : Int32) (u : US) (post : US → Prop) (h : wp_X2_fillLost p1 u post) : gMv l yX2_fillLost wsX2_fillLost 2 D cI cZ (fw adr cI cZ) A [.ref (adr 15), .int p1] u post := by
  refine Met.ofW (cc := cX2_fillLost) (maxL := 4) (ret := none) (by decide) rfl ?_
  intro p e s m args below meth c s₁ B hml hv
  obtain ⟨rfl, hP, hK⟩ := hv
  have hx := B.exec
  have hb := B.bytes
  have hr := B.returns
  have hts := atoms_spec (ws := wsX2_fillLost) B.pre
  have hown : s.vm.findClass RX2 = some m.cls := findClass_of_methodNamed B.named
  have hlocks := B.notSynchronized
  have hinX1 : ∀ w ∈ wsX10, w ∈ wsX2_fillLost := by decide +kernel
  have hinX2 : ∀ w ∈ wsX20, w ∈ wsX2_fillLost := by decide +kernel
  have hS : va_S A s.heap s.heap [] := va_S.rf
  have L2 : ∀ (n : Nat), ∀ (x1 : Int32) (x2 : Int32) (u : US) (H : Heap) (locs : List Loc) (ls : Array Slot), lv_has ls 4 [(0, .ref (adr 15)), (1, .int x1), (2, .int x2)] → va_P D vwCl (fw adr cI cZ u) H → va_S A s.heap H locs → wp_X2_fillLost_2  post n x1 x2 u → gWv p l e wsX2_fillLost 2 s m [.ref (adr 15), .int p1] below meth c D cI cZ (fw adr cI cZ) A post H locs (F0 m 2 ls []) := by
    intro  n
    induction n with
    | zero => intro x1 x2 u H locs ls hl hP hS h; exact False.elim h
    | succ n ih =>
      intro x1 x2 u H locs ls hl hP hS h
      refine lv_iload_n hx hb dX2_fillLost_2 rfl (lv_at hl 2 rfl) ?_
      refine lv_aload_n hx hb dX2_fillLost_3 rfl (lv_at hl 0 rfl) ?_
      refine fwg_15_0 hx hb hts hinX2 hown hK hP (hts (.fieldLink RX2 9 "FilmBench$Sheet" "film" "LFilmBench$Reel;") (by decide +kernel)) dX2_fillLost_4 ?_
      refine fwg_1_2 (v := (u.1 3)) hx hb hts hinX1 hown hK hP (hts (.fieldLink RX2 32 "FilmBench$Reel" "squares" "I") (by decide +kernel)) dX2_fillLost_7 rfl ?_
      refine lv_icmp_ge (tgt := 67) hx hb dX2_fillLost_10 (by decide) (fun hc => ?_) (fun hc => ?_)
      · have h := h.1 hc
        exact gvret hx hb hr hlocks hK hP hS h dX2_fillLost_67
      · have h := h.2 hc
        refine lv_aload_n hx hb dX2_fillLost_13 rfl (lv_at hl 0 rfl) ?_
        refine fwg_15_4 hx hb hts hinX2 hown hK hP (hts (.fieldLink RX2 26 "FilmBench$Sheet" "before" "[I") (by decide +kernel)) dX2_fillLost_14 ?_
        refine lv_iload_n hx hb dX2_fillLost_17 rfl (lv_at hl 2 rfl) ?_
        refine fwl_17 (v := ((u.2 17) x2.toNatClampNeg)) hx hb hK hP h.1 dX2_fillLost_18 rfl ?_
        have h := h.2
        refine lv_iconst (v := (-1 : Int32)) hx hb dX2_fillLost_19 (by decide) ?_
        refine lv_icmp_ne (tgt := 61) hx hb dX2_fillLost_20 (by decide) (fun hc => ?_) (fun hc => ?_)
        · have h := h.2 hc
          refine lv_iinc (v := (x2 + 1)) (lv' := [(2, .int (x2 + 1)), (0, .ref (adr 15)), (1, .int x1)]) hx hb dX2_fillLost_61 hl (k := 2) rfl (congrArg (HAdd.hAdd _) (show Int32.ofInt (1) = (1 : Int32) by decide)) (by decide) rfl (fun ls hl => ?_)
          refine lv_goto (tgt := 2) hx hb dX2_fillLost_64 (by decide) ?_
          exact ih x1 (x2 + 1) u _ _ _ (lv_sub hl [1, 2, 0] rfl) hP hS h
        · have h := h.1 hc
          refine lv_aload_n hx hb dX2_fillLost_23 rfl (lv_at hl 0 rfl) ?_
          refine fwg_15_0 hx hb hts hinX2 hown hK hP (hts (.fieldLink RX2 9 "FilmBench$Sheet" "film" "LFilmBench$Reel;") (by decide +kernel)) dX2_fillLost_24 ?_
          refine lv_iload_n hx hb dX2_fillLost_27 rfl (lv_at hl 1 rfl) ?_
          refine lv_iconst (v := (1 : Int32)) hx hb dX2_fillLost_28 (by decide) ?_
          refine lv_isub hx hb dX2_fillLost_29 ?_
          refine lv_iload_n hx hb dX2_fillLost_30 rfl (lv_at hl 2 rfl) ?_
          refine gcallVi (As := [.int (x1 - (1 : Int32)), .int x2]) (rest := []) ⟨hx, hb, hml, hown, hts⟩ (c_X1_greyAt l D cI cZ adr A hD (x1 - (1 : Int32)) x2 u _ h) (cwV 2 hts gX2_fillLost_X1_greyAt rfl rfl rfl (by decide +kernel) ⟨Nat.le_of_ble_eq_true rfl, Nat.le_of_ble_eq_true rfl⟩) (va_recv hK hP (ci := 1) (q0 := 1) rfl rfl) hK hP hS rfl hl.1 rfl (Nat.le_of_ble_eq_true rfl) dX2_fillLost_31 ⟨Nat.le_refl _, Nat.le_refl _⟩ (fun r31 u31 H locs h hP hS => ?_)
          refine lv_istore_n (lv' := [(3, .int r31), (0, .ref (adr 15)), (1, .int x1), (2, .int x2)]) hx hb dX2_fillLost_34 rfl hl (by decide) rfl (fun ls hl => ?_)
          refine lv_aload_n hx hb dX2_fillLost_35 rfl (lv_at hl 1 rfl) ?_
          refine fwg_15_3 hx hb hts hinX2 hown hK hP (hts (.fieldLink RX2 23 "FilmBench$Sheet" "now" "[I") (by decide +kernel)) dX2_fillLost_36 ?_
          refine lv_iload_n hx hb dX2_fillLost_39 rfl (lv_at hl 3 rfl) ?_
          refine lv_iload_n hx hb dX2_fillLost_40 rfl (lv_at hl 0 rfl) ?_
          refine lv_iconst (v := (-1 : Int32)) hx hb dX2_fillLost_41 (by decide) ?_
          refine lv_icmp_eq (tgt := 49) hx hb dX2_fillLost_42 (by decide) (fun hc => ?_) (fun hc => ?_)
          · have h := h.1 hc
            refine lv_aload_n hx hb dX2_fillLost_49 rfl (lv_at hl 1 rfl) ?_
            refine fwg_15_0 hx hb hts hinX2 hown hK hP (hts (.fieldLink RX2 9 "FilmBench$Sheet" "film" "LFilmBench$Reel;") (by decide +kernel)) dX2_fillLost_50 ?_
            refine lv_iload_n hx hb dX2_fillLost_53 rfl (lv_at hl 2 rfl) ?_
            refine lv_iconst (v := (1 : Int32)) hx hb dX2_fillLost_54 (by decide) ?_
            refine lv_iadd hx hb dX2_fillLost_55 ?_
            refine lv_iload_n hx hb dX2_fillLost_56 rfl (lv_at hl 3 rfl) ?_
            refine gcallVi (As := [.int (x1 + (1 : Int32)), .int x2]) (rest := [.int x2, .ref (adr 16)]) ⟨hx, hb, hml, hown, hts⟩ (c_X1_greyAt l D cI cZ adr A hD (x1 + (1 : Int32)) x2 u31 _ h) (cwV 2 hts gX2_fillLost_X1_greyAt rfl rfl rfl (by decide +kernel) ⟨Nat.le_of_ble_eq_true rfl, Nat.le_of_ble_eq_true rfl⟩) (va_recv hK hP (ci := 1) (q0 := 1) rfl rfl) hK hP hS rfl hl.1 rfl (Nat.le_of_ble_eq_true rfl) dX2_fillLost_57 ⟨Nat.le_refl _, Nat.le_refl _⟩ (fun r57 u57 H locs h hP hS => ?_)
            refine fws_16 hx hb hK hP (hD _) hS h.1 dX2_fillLost_60 (fun H locs hP hS => ?_)
            have h := h.2
            refine lv_iinc (v := (x2 + 1)) (lv' := [(2, .int (x2 + 1)), (3, .int r31), (0, .ref (adr 15)), (1, .int x1)]) hx hb dX2_fillLost_61 hl (k := 3) rfl (congrArg (HAdd.hAdd _) (show Int32.ofInt (1) = (1 : Int32) by decide)) (by decide) rfl (fun ls hl => ?_)
            refine lv_goto (tgt := 2) hx hb dX2_fillLost_64 (by decide) ?_
            exact ih x1 (x2 + 1) (sA u57 16 (upd (u57.2 16) x2.toNatClampNeg r57)) _ _ _ (lv_sub hl [2, 3, 0] rfl) hP hS h
          · have h := h.2 hc
            refine lv_iload_n hx hb dX2_fillLost_45 rfl (lv_at hl 0 rfl) ?_
            refine lv_goto (tgt := 60) hx hb dX2_fillLost_46 (by decide) ?_
            refine fws_16 hx hb hK hP (hD _) hS h.1 dX2_fillLost_60 (fun H locs hP hS => ?_)
            have h := h.2
            refine lv_iinc (v := (x2 + 1)) (lv' := [(2, .int (x2 + 1)), (3, .int r31), (0, .ref (adr 15)), (1, .int x1)]) hx hb dX2_fillLost_61 hl (k := 3) rfl (congrArg (HAdd.hAdd _) (show Int32.ofInt (1) = (1 : Int32) by decide)) (by decide) rfl (fun ls hl => ?_)
            refine lv_goto (tgt := 2) hx hb dX2_fillLost_64 (by decide) ?_
            exact ih x1 (x2 + 1) (sA u31 16 (upd (u31.2 16) x2.toNatClampNeg r31)) _ _ _ (lv_sub hl [2, 3, 0] rfl) hP hS h
  have hl := lv_entry ([.ref (adr 15), .int p1]) (n := 4) (Nat.le_of_ble_eq_true rfl)
  rw [lg_entry_eq]
  generalize (lg_sl ([.ref (adr 15), .int p1]) ++ List.replicate (4 - (lg_sl ([.ref (adr 15), .int p1])).length) Slot.unset).toArray = ls at hl ⊢
  replace hl : lv_has ls 4 [(0, .ref (adr 15)), (1, .int p1)] := hl
  refine lv_iconst (v := (0 : Int32)) hx hb dX2_fillLost_0 (by decide) ?_
  refine lv_istore_n (lv' := [(2, .int (0 : Int32)), (0, .ref (adr 15)), (1, .int p1)]) hx hb dX2_fillLost_1 rfl hl (by decide) rfl (fun ls hl => ?_)
  obtain ⟨n, h⟩ := h
  exact L2  n p1 (0 : Int32) u _ _ _ (lv_sub hl [1, 2, 0] rfl) hP hS h
set_option maxRecDepth 100000 in
set_option maxHeartbeats 4000000 in
theorem c_X2_moveAll (l : Launch) (D : va_G) (cI cZ : ClassId) (adr : Nat → Nat) (A : Nat → Prop) (hD : ∀ u, va_D A (fw adr cI cZ u)) (p1 : Int32) (p2 : Int32) (u : US) (post : US → Prop) (h : wp_X2_moveAll p1 p2 u post) : gMv l yX2_moveAll wsX2_moveAll 1 D cI cZ (fw adr cI cZ) A [.ref (adr 15), .int p1, .int p2] u post := by
  refine Met.ofW (cc := cX2_moveAll) (maxL := 6) (ret := none) (by decide) rfl ?_
  intro p e s m args below meth c s₁ B hml hv
  obtain ⟨rfl, hP, hK⟩ := hv
  have hx := B.exec
  have hb := B.bytes
  have hr := B.returns
  have hts := atoms_spec (ws := wsX2_moveAll) B.pre
  have hown : s.vm.findClass RX2 = some m.cls := findClass_of_methodNamed B.named
  have hlocks := B.notSynchronized
  have hinX1 : ∀ w ∈ wsX10, w ∈ wsX2_moveAll := by decide +kernel
  have hinX2 : ∀ w ∈ wsX20, w ∈ wsX2_moveAll := by decide +kernel
  have hS : va_S A s.heap s.heap [] := va_S.rf
  have L16 : ∀ (k2 : Int32 → Int32 → Int32 → US → Prop) (hk2 : ∀ (x1 : Int32) (x2 : Int32) (x3 : Int32) (u : US) (H : Heap) (locs : List Loc) (ls : Array Slot), lv_has ls 6 [(0, .ref (adr 15)), (1, .int x1), (2, .int x2), (3, .int x3)] → va_P D vwCl (fw adr cI cZ u) H → va_S A s.heap H locs → k2 x1 x2 x3 u → gWv p l e wsX2_moveAll 1 s m [.ref (adr 15), .int p1, .int p2] below meth c D cI cZ (fw adr cI cZ) A post H locs (F0 m 2 ls [])), ∀ (n : Nat), ∀ (x1 : Int32) (x2 : Int32) (x3 : Int32) (x4 : Int32) (u : US) (H : Heap) (locs : List Loc) (ls : Array Slot), lv_has ls 6 [(0, .ref (adr 15)), (1, .int x1), (2, .int x2), (3, .int x3), (4, .int x4)] → va_P D vwCl (fw adr cI cZ u) H → va_S A s.heap H locs → wp_X2_moveAll_16 k2 post n x1 x2 x3 x4 u → gWv p l e wsX2_moveAll 1 s m [.ref (adr 15), .int p1, .int p2] below meth c D cI cZ (fw adr cI cZ) A post H locs (F0 m 16 ls []) := by
    intro k2 hk2 n
    induction n with
    | zero => intro x1 x2 x3 x4 u H locs ls hl hP hS h; exact False.elim h
    | succ n ih =>
      intro x1 x2 x3 x4 u H locs ls hl hP hS h
      refine lv_iload hx hb dX2_moveAll_16 (lv_at hl 4 rfl) ?_
      refine lv_aload_n hx hb dX2_moveAll_18 rfl (lv_at hl 0 rfl) ?_
      refine fwg_15_0 hx hb hts hinX2 hown hK hP (hts (.fieldLink RX2 9 "FilmBench$Sheet" "film" "LFilmBench$Reel;") (by decide +kernel)) dX2_moveAll_19 ?_
      refine fwg_1_1 (v := (u.1 2)) hx hb hts hinX1 hown hK hP (hts (.fieldLink RX2 109 "FilmBench$Reel" "wide" "I") (by decide +kernel)) dX2_moveAll_22 rfl ?_
      refine lv_icmp_ge (tgt := 88) hx hb dX2_moveAll_25 (by decide) (fun hc => ?_) (fun hc => ?_)
      · have h := h.1 hc
        refine lv_iinc (v := (x3 + 1)) (lv' := [(3, .int (x3 + 1)), (0, .ref (adr 15)), (1, .int x1), (2, .int x2), (4, .int x4)]) hx hb dX2_moveAll_88 hl (k := 3) rfl (congrArg (HAdd.hAdd _) (show Int32.ofInt (1) = (1 : Int32) by decide)) (by decide) rfl (fun ls hl => ?_)
        refine lv_goto (tgt := 2) hx hb dX2_moveAll_91 (by decide) ?_
        exact hk2 x1 x2 (x3 + 1) u _ _ _ (lv_sub hl [1, 2, 3, 0] rfl) hP hS h
      · have h := h.2 hc
        refine lv_aload_n hx hb dX2_moveAll_28 rfl (lv_at hl 0 rfl) ?_
        refine fwg_15_0 hx hb hts hinX2 hown hK hP (hts (.fieldLink RX2 9 "FilmBench$Sheet" "film" "LFilmBench$Reel;") (by decide +kernel)) dX2_moveAll_29 ?_
        refine lv_iload_n hx hb dX2_moveAll_32 rfl (lv_at hl 3 rfl) ?_
        refine lv_iload_n hx hb dX2_moveAll_33 rfl (lv_at hl 2 rfl) ?_
        refine lv_isub hx hb dX2_moveAll_34 ?_
        refine lv_iload hx hb dX2_moveAll_35 (lv_at hl 4 rfl) ?_
        refine lv_iload_n hx hb dX2_moveAll_37 rfl (lv_at hl 1 rfl) ?_
        refine lv_isub hx hb dX2_moveAll_38 ?_
        refine gcallVi (As := [.int (x3 - x2), .int (x4 - x1)]) (rest := []) ⟨hx, hb, hml, hown, hts⟩ (c_X1_placeOf l D cI cZ adr A hD (x3 - x2) (x4 - x1) u _ h) (cwV 2 hts gX2_moveAll_X1_placeOf rfl rfl rfl (by decide +kernel) ⟨Nat.le_of_ble_eq_true rfl, Nat.le_of_ble_eq_true rfl⟩) (va_recv hK hP (ci := 1) (q0 := 1) rfl rfl) hK hP hS rfl hl.1 rfl (Nat.le_of_ble_eq_true rfl) dX2_moveAll_39 ⟨Nat.le_refl _, Nat.le_refl _⟩ (fun r39 u39 H locs h hP hS => ?_)
        refine lv_istore (lv' := [(5, .int r39), (0, .ref (adr 15)), (1, .int x1), (2, .int x2), (3, .int x3), (4, .int x4)]) hx hb dX2_moveAll_42 hl (by decide) rfl (fun ls hl => ?_)
        refine lv_aload_n hx hb dX2_moveAll_44 rfl (lv_at hl 1 rfl) ?_
        refine fwg_15_3 hx hb hts hinX2 hown hK hP (hts (.fieldLink RX2 23 "FilmBench$Sheet" "now" "[I") (by decide +kernel)) dX2_moveAll_45 ?_
        refine lv_aload_n hx hb dX2_moveAll_48 rfl (lv_at hl 1 rfl) ?_
        refine fwg_15_0 hx hb hts hinX2 hown hK hP (hts (.fieldLink RX2 9 "FilmBench$Sheet" "film" "LFilmBench$Reel;") (by decide +kernel)) dX2_moveAll_49 ?_
        refine lv_iload_n hx hb dX2_moveAll_52 rfl (lv_at hl 4 rfl) ?_
        refine lv_iload hx hb dX2_moveAll_53 (lv_at hl 5 rfl) ?_
        refine gcallVi (As := [.int x3, .int x4]) (rest := [.ref (adr 16)]) ⟨hx, hb, hml, hown, hts⟩ (c_X1_placeOf l D cI cZ adr A hD x3 x4 u39 _ h) (cwV 2 hts gX2_moveAll_X1_placeOf rfl rfl rfl (by decide +kernel) ⟨Nat.le_of_ble_eq_true rfl, Nat.le_of_ble_eq_true rfl⟩) (va_recv hK hP (ci := 1) (q0 := 1) rfl rfl) hK hP hS rfl hl.1 rfl (Nat.le_of_ble_eq_true rfl) dX2_moveAll_55 ⟨Nat.le_refl _, Nat.le_refl _⟩ (fun r55 u55 H locs h hP hS => ?_)
        refine lv_aload_n hx hb dX2_moveAll_58 rfl (lv_at hl 1 rfl) ?_
        refine fwg_15_0 hx hb hts hinX2 hown hK hP (hts (.fieldLink RX2 9 "FilmBench$Sheet" "film" "LFilmBench$Reel;") (by decide +kernel)) dX2_moveAll_59 ?_
        refine lv_iload hx hb dX2_moveAll_62 (lv_at hl 0 rfl) ?_
        refine gcallVi (As := [.int r39]) (rest := [.int r55, .ref (adr 16)]) ⟨hx, hb, hml, hown, hts⟩ (c_X1_hasPlace l D cI cZ adr A hD r39 u55 _ h) (cwV 1 hts gX2_moveAll_X1_hasPlace rfl rfl rfl (by decide +kernel) ⟨Nat.le_of_ble_eq_true rfl, Nat.le_of_ble_eq_true rfl⟩) (va_recv hK hP (ci := 1) (q0 := 1) rfl rfl) hK hP hS rfl hl.1 rfl (Nat.le_of_ble_eq_true rfl) dX2_moveAll_64 ⟨Nat.le_refl _, Nat.le_refl _⟩ (fun r64 u64 H locs h hP hS => ?_)
        refine lv_if_eq (tgt := 80) hx hb dX2_moveAll_67 (by decide) (fun hc => ?_) (fun hc => ?_)
        · have h := h.1 hc
          refine lv_iconst (v := (-1 : Int32)) hx hb dX2_moveAll_80 (by decide) ?_
          refine fws_16 hx hb hK hP (hD _) hS h.1 dX2_moveAll_81 (fun H locs hP hS => ?_)
          have h := h.2
          refine lv_iinc (v := (x4 + 1)) (lv' := [(4, .int (x4 + 1)), (5, .int r39), (0, .ref (adr 15)), (1, .int x1), (2, .int x2), (3, .int x3)]) hx hb dX2_moveAll_82 hl (k := 5) rfl (congrArg (HAdd.hAdd _) (show Int32.ofInt (1) = (1 : Int32) by decide)) (by decide) rfl (fun ls hl => ?_)
          refine lv_goto (tgt := 16) hx hb dX2_moveAll_85 (by decide) ?_
          exact ih x1 x2 x3 (x4 + 1) (sA u64 16 (upd (u64.2 16) r55.toNatClampNeg (-1 : Int32))) _ _ _ (lv_sub hl [2, 3, 4, 5, 0] rfl) hP hS h
        · have h := h.2 hc
          refine lv_aload_n hx hb dX2_moveAll_70 rfl (lv_at hl 1 rfl) ?_
          refine fwg_15_4 hx hb hts hinX2 hown hK hP (hts (.fieldLink RX2 26 "FilmBench$Sheet" "before" "[I") (by decide +kernel)) dX2_moveAll_71 ?_
          refine lv_iload hx hb dX2_moveAll_74 (lv_at hl 0 rfl) ?_
          refine fwl_17 (v := ((u64.2 17) r39.toNatClampNeg)) hx hb hK hP h.1 dX2_moveAll_76 rfl ?_
          have h := h.2
          refine lv_goto (tgt := 81) hx hb dX2_moveAll_77 (by decide) ?_
          refine fws_16 hx hb hK hP (hD _) hS h.1 dX2_moveAll_81 (fun H locs hP hS => ?_)
          have h := h.2
          refine lv_iinc (v := (x4 + 1)) (lv' := [(4, .int (x4 + 1)), (5, .int r39), (0, .ref (adr 15)), (1, .int x1), (2, .int x2), (3, .int x3)]) hx hb dX2_moveAll_82 hl (k := 5) rfl (congrArg (HAdd.hAdd _) (show Int32.ofInt (1) = (1 : Int32) by decide)) (by decide) rfl (fun ls hl => ?_)
          refine lv_goto (tgt := 16) hx hb dX2_moveAll_85 (by decide) ?_
          exact ih x1 x2 x3 (x4 + 1) (sA u64 16 (upd (u64.2 16) r55.toNatClampNeg ((u64.2 17) r39.toNatClampNeg))) _ _ _ (lv_sub hl [2, 3, 4, 5, 0] rfl) hP hS h
  have L2 : ∀ (n : Nat), ∀ (x1 : Int32) (x2 : Int32) (x3 : Int32) (u : US) (H : Heap) (locs : List Loc) (ls : Array Slot), lv_has ls 6 [(0, .ref (adr 15)), (1, .int x1), (2, .int x2), (3, .int x3)] → va_P D vwCl (fw adr cI cZ u) H → va_S A s.heap H locs → wp_X2_moveAll_2  post n x1 x2 x3 u → gWv p l e wsX2_moveAll 1 s m [.ref (adr 15), .int p1, .int p2] below meth c D cI cZ (fw adr cI cZ) A post H locs (F0 m 2 ls []) := by
    intro  n
    induction n with
    | zero => intro x1 x2 x3 u H locs ls hl hP hS h; exact False.elim h
    | succ n ih =>
      intro x1 x2 x3 u H locs ls hl hP hS h
      refine lv_iload_n hx hb dX2_moveAll_2 rfl (lv_at hl 3 rfl) ?_
      refine lv_aload_n hx hb dX2_moveAll_3 rfl (lv_at hl 0 rfl) ?_
      refine fwg_15_0 hx hb hts hinX2 hown hK hP (hts (.fieldLink RX2 9 "FilmBench$Sheet" "film" "LFilmBench$Reel;") (by decide +kernel)) dX2_moveAll_4 ?_
      refine fwg_1_0 (v := (u.1 1)) hx hb hts hinX1 hown hK hP (hts (.fieldLink RX2 106 "FilmBench$Reel" "high" "I") (by decide +kernel)) dX2_moveAll_7 rfl ?_
      refine lv_icmp_ge (tgt := 94) hx hb dX2_moveAll_10 (by decide) (fun hc => ?_) (fun hc => ?_)
      · have h := h.1 hc
        exact gvret hx hb hr hlocks hK hP hS h dX2_moveAll_94
      · have h := h.2 hc
        refine lv_iconst (v := (0 : Int32)) hx hb dX2_moveAll_13 (by decide) ?_
        refine lv_istore (lv' := [(4, .int (0 : Int32)), (0, .ref (adr 15)), (1, .int x1), (2, .int x2), (3, .int x3)]) hx hb dX2_moveAll_14 hl (by decide) rfl (fun ls hl => ?_)
        obtain ⟨n, h⟩ := h
        exact L16 _ ih n x1 x2 x3 (0 : Int32) u _ _ _ (lv_sub hl [1, 2, 3, 4, 0] rfl) hP hS h
  have hl := lv_entry ([.ref (adr 15), .int p1, .int p2]) (n := 6) (Nat.le_of_ble_eq_true rfl)
  rw [lg_entry_eq]
  generalize (lg_sl ([.ref (adr 15), .int p1, .int p2]) ++ List.replicate (6 - (lg_sl ([.ref (adr 15), .int p1, .int p2])).length) Slot.unset).toArray = ls at hl ⊢
  replace hl : lv_has ls 6 [(0, .ref (adr 15)), (1, .int p1), (2, .int p2)] := hl
  refine lv_iconst (v := (0 : Int32)) hx hb dX2_moveAll_0 (by decide) ?_
  refine lv_istore_n (lv' := [(3, .int (0 : Int32)), (0, .ref (adr 15)), (1, .int p1), (2, .int p2)]) hx hb dX2_moveAll_1 rfl hl (by decide) rfl (fun ls hl => ?_)
  obtain ⟨n, h⟩ := h
  exact L2  n p1 p2 (0 : Int32) u _ _ _ (lv_sub hl [1, 2, 3, 0] rfl) hP hS h
