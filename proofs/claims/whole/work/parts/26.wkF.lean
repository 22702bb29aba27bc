set_option maxRecDepth 100000 in
set_option maxHeartbeats 4000000 in
theorem c_X2_apply (l : Launch) (D : va_G) (cI cZ : ClassId) (adr : Nat → Nat) (A : Nat → Prop) (hD : ∀ u, va_D A (fw adr cI cZ u)) (p1 : Int32) (u : US) (post : US → Prop) (h : wp_X2_apply p1 u post) : gMv l yX2_apply wsX2_apply 4 D cI cZ (fw adr cI cZ) A [.ref (adr 15), .int p1] u post := by
  refine Met.ofW (cc := cX2_apply) (maxL := 3) (ret := none) (by decide) rfl ?_
  intro p e s m args below meth c s₁ B hml hv
  obtain ⟨rfl, hP, hK⟩ := hv
  have hx := B.exec
  have hb := B.bytes
  have hr := B.returns
  have hts := atoms_spec (ws := wsX2_apply) B.pre
  have hown : s.vm.findClass RX2 = some m.cls := findClass_of_methodNamed B.named
  have hlocks := B.notSynchronized
  have hinX0 : ∀ w ∈ wsX00, w ∈ wsX2_apply := by decide +kernel
  have hinX2 : ∀ w ∈ wsX20, w ∈ wsX2_apply := by decide +kernel
  have hS : va_S A s.heap s.heap [] := va_S.rf
  have hl := lv_entry ([.ref (adr 15), .int p1]) (n := 3) (Nat.le_of_ble_eq_true rfl)
  rw [lg_entry_eq]
  generalize (lg_sl ([.ref (adr 15), .int p1]) ++ List.replicate (3 - (lg_sl ([.ref (adr 15), .int p1])).length) Slot.unset).toArray = ls at hl ⊢
  replace hl : lv_has ls 3 [(0, .ref (adr 15)), (1, .int p1)] := hl
  refine lv_aload_n hx hb dX2_apply_0 rfl (lv_at hl 0 rfl) ?_
  refine fwg_15_3 hx hb hts hinX2 hown hK hP (hts (.fieldLink RX2 23 "FilmBench$Sheet" "now" "[I") (by decide +kernel)) dX2_apply_1 ?_
  refine lv_iconst (v := (0 : Int32)) hx hb dX2_apply_4 (by decide) ?_
  refine lv_aload_n hx hb dX2_apply_5 rfl (lv_at hl 0 rfl) ?_
  refine fwg_15_4 hx hb hts hinX2 hown hK hP (hts (.fieldLink RX2 26 "FilmBench$Sheet" "before" "[I") (by decide +kernel)) dX2_apply_6 ?_
  refine lv_iconst (v := (0 : Int32)) hx hb dX2_apply_9 (by decide) ?_
  refine lv_bipush (v := (36 : Int32)) hx hb dX2_apply_10 (by decide) ?_
  refine gcopy hx hb (hml.trans hl.1.symm) (own := RX2) hown hts (by decide +kernel) hK hP (hD _) hS 16 17 (a0 := adr 16) (a1 := adr 17) (n0 := 36) (n1 := 36) rfl rfl (by unfold gcpOk; decide) (Nat.le_of_ble_eq_true rfl) (Nat.le_of_ble_eq_true rfl) dX2_apply_12 (fun H locs hP hS => ?_)
  replace hP : va_P D vwCl (fw adr cI cZ (sA u 17 (gcp (u.2 16) (u.2 17) (0 : Int32) (0 : Int32) (36 : Int32)))) H := hP
  refine lv_aload_n hx hb dX2_apply_15 rfl (lv_at hl 0 rfl) ?_
  refine fwg_15_1 hx hb hts hinX2 hown hK hP (hts (.fieldLink RX2 15 "FilmBench$Sheet" "layers" "LFilmBench$Layers;") (by decide +kernel)) dX2_apply_16 ?_
  refine fwg_3_2 hx hb hts hinX0 hown hK hP (hts (.fieldLink RX2 47 "FilmBench$Layers" "owners" "[I") (by decide +kernel)) dX2_apply_19 ?_
  refine lv_iload_n hx hb dX2_apply_22 rfl (lv_at hl 1 rfl) ?_
  refine fwl_5 (v := ((u.2 5) p1.toNatClampNeg)) hx hb hK hP h.1 dX2_apply_23 rfl ?_
  have h := h.2
  refine lv_istore_n (lv' := [(2, .int ((u.2 5) p1.toNatClampNeg)), (0, .ref (adr 15)), (1, .int p1)]) hx hb dX2_apply_24 rfl hl (by decide) rfl (fun ls hl => ?_)
  refine lv_aload_n hx hb dX2_apply_25 rfl (lv_at hl 1 rfl) ?_
  refine fwg_15_1 hx hb hts hinX2 hown hK hP (hts (.fieldLink RX2 15 "FilmBench$Sheet" "layers" "LFilmBench$Layers;") (by decide +kernel)) dX2_apply_26 ?_
  refine fwg_3_1 hx hb hts hinX0 hown hK hP (hts (.fieldLink RX2 64 "FilmBench$Layers" "kinds" "[I") (by decide +kernel)) dX2_apply_29 ?_
  refine lv_iload_n hx hb dX2_apply_32 rfl (lv_at hl 2 rfl) ?_
  refine fwl_4 (v := ((u.2 4) p1.toNatClampNeg)) hx hb hK hP h.1 dX2_apply_33 rfl ?_
  have h := h.2
  by_cases hc : ((u.2 4) p1.toNatClampNeg).toInt < 0 ∨ 2 < ((u.2 4) p1.toNatClampNeg).toInt
  · refine lv_tableOut (tgt := 92) hx hb dX2_apply_34 hc (by decide) ?_
    have h := h.1 hc
    refine lv_aload_n hx hb dX2_apply_92 rfl (lv_at hl 1 rfl) ?_
    refine lv_aload_n hx hb dX2_apply_93 rfl (lv_at hl 1 rfl) ?_
    refine fwg_15_1 hx hb hts hinX2 hown hK hP (hts (.fieldLink RX2 15 "FilmBench$Sheet" "layers" "LFilmBench$Layers;") (by decide +kernel)) dX2_apply_94 ?_
    refine fwg_3_3 hx hb hts hinX0 hown hK hP (hts (.fieldLink RX2 70 "FilmBench$Layers" "as" "[I") (by decide +kernel)) dX2_apply_97 ?_
    refine lv_iload_n hx hb dX2_apply_100 rfl (lv_at hl 2 rfl) ?_
    refine fwl_6 (v := ((u.2 6) p1.toNatClampNeg)) hx hb hK hP h.1 dX2_apply_101 rfl ?_
    have h := h.2
    refine lv_aload_n hx hb dX2_apply_102 rfl (lv_at hl 1 rfl) ?_
    refine fwg_15_1 hx hb hts hinX2 hown hK hP (hts (.fieldLink RX2 15 "FilmBench$Sheet" "layers" "LFilmBench$Layers;") (by decide +kernel)) dX2_apply_103 ?_
    refine fwg_3_4 hx hb hts hinX0 hown hK hP (hts (.fieldLink RX2 79 "FilmBench$Layers" "bs" "[I") (by decide +kernel)) dX2_apply_106 ?_
    refine lv_iload_n hx hb dX2_apply_109 rfl (lv_at hl 2 rfl) ?_
    refine fwl_7 (v := ((u.2 7) p1.toNatClampNeg)) hx hb hK hP h.1 dX2_apply_110 rfl ?_
    have h := h.2
    refine gcallVv (As := [.int ((u.2 6) p1.toNatClampNeg), .int ((u.2 7) p1.toNatClampNeg)]) (rest := []) ⟨hx, hb, hml, hown, hts⟩ (c_X2_moveAll l D cI cZ adr A hD ((u.2 6) p1.toNatClampNeg) ((u.2 7) p1.toNatClampNeg) (sA u 17 (gcp (u.2 16) (u.2 17) (0 : Int32) (0 : Int32) (36 : Int32))) _ h) (cwV 2 hts gX2_apply_X2_moveAll rfl rfl rfl (by decide +kernel) ⟨Nat.le_of_ble_eq_true rfl, Nat.le_of_ble_eq_true rfl⟩) (va_recv hK hP (ci := 2) (q0 := 15) rfl rfl) hK hP hS rfl hl.1 rfl (Nat.le_of_ble_eq_true rfl) dX2_apply_111 ⟨Nat.le_refl _, Nat.le_refl _⟩ (fun u111 H locs h hP hS => ?_)
    exact gvret hx hb hr hlocks hK hP hS h dX2_apply_114
  · have hv : ((u.2 4) p1.toNatClampNeg).toInt = 0 ∨ ((u.2 4) p1.toNatClampNeg).toInt = 1 ∨ ((u.2 4) p1.toNatClampNeg).toInt = 2 := by omega
    rcases hv with hv | hv | hv
    · refine lv_tableIn (off := 26) (tgt := 60) hx hb dX2_apply_34 (by omega) (by omega) (by rw [hv]; rfl) (by decide) ?_
      have h := h.2.1 hv
      refine lv_aload_n hx hb dX2_apply_60 rfl (lv_at hl 1 rfl) ?_
      refine lv_iload_n hx hb dX2_apply_61 rfl (lv_at hl 0 rfl) ?_
      refine gcallVv (As := [.int ((u.2 5) p1.toNatClampNeg)]) (rest := []) ⟨hx, hb, hml, hown, hts⟩ (c_X2_cleanDust l D cI cZ adr A hD ((u.2 5) p1.toNatClampNeg) (sA u 17 (gcp (u.2 16) (u.2 17) (0 : Int32) (0 : Int32) (36 : Int32))) _ h) (cwV 1 hts gX2_apply_X2_cleanDust rfl rfl rfl (by decide +kernel) ⟨Nat.le_of_ble_eq_true rfl, Nat.le_of_ble_eq_true rfl⟩) (va_recv hK hP (ci := 2) (q0 := 15) rfl rfl) hK hP hS rfl hl.1 rfl (Nat.le_of_ble_eq_true rfl) dX2_apply_62 ⟨Nat.le_refl _, Nat.le_refl _⟩ (fun u62 H locs h hP hS => ?_)
      refine lv_goto (tgt := 114) hx hb dX2_apply_65 (by decide) ?_
      exact gvret hx hb hr hlocks hK hP hS h dX2_apply_114
    · refine lv_tableIn (off := 34) (tgt := 68) hx hb dX2_apply_34 (by omega) (by omega) (by rw [hv]; rfl) (by decide) ?_
      have h := h.2.2.1 hv
      refine lv_aload_n hx hb dX2_apply_68 rfl (lv_at hl 1 rfl) ?_
      refine lv_aload_n hx hb dX2_apply_69 rfl (lv_at hl 1 rfl) ?_
      refine fwg_15_1 hx hb hts hinX2 hown hK hP (hts (.fieldLink RX2 15 "FilmBench$Sheet" "layers" "LFilmBench$Layers;") (by decide +kernel)) dX2_apply_70 ?_
      refine fwg_3_3 hx hb hts hinX0 hown hK hP (hts (.fieldLink RX2 70 "FilmBench$Layers" "as" "[I") (by decide +kernel)) dX2_apply_73 ?_
      refine lv_iload_n hx hb dX2_apply_76 rfl (lv_at hl 2 rfl) ?_
      refine fwl_6 (v := ((u.2 6) p1.toNatClampNeg)) hx hb hK hP h.1 dX2_apply_77 rfl ?_
      have h := h.2
      refine gcallVv (As := [.int ((u.2 6) p1.toNatClampNeg)]) (rest := []) ⟨hx, hb, hml, hown, hts⟩ (c_X2_matchLevels l D cI cZ adr A hD ((u.2 6) p1.toNatClampNeg) (sA u 17 (gcp (u.2 16) (u.2 17) (0 : Int32) (0 : Int32) (36 : Int32))) _ h) (cwV 1 hts gX2_apply_X2_matchLevels rfl rfl rfl (by decide +kernel) ⟨Nat.le_of_ble_eq_true rfl, Nat.le_of_ble_eq_true rfl⟩) (va_recv hK hP (ci := 2) (q0 := 15) rfl rfl) hK hP hS rfl hl.1 rfl (Nat.le_of_ble_eq_true rfl) dX2_apply_78 ⟨Nat.le_refl _, Nat.le_refl _⟩ (fun u78 H locs h hP hS => ?_)
      refine lv_goto (tgt := 114) hx hb dX2_apply_81 (by decide) ?_
      exact gvret hx hb hr hlocks hK hP hS h dX2_apply_114
    · refine lv_tableIn (off := 50) (tgt := 84) hx hb dX2_apply_34 (by omega) (by omega) (by rw [hv]; rfl) (by decide) ?_
      have h := h.2.2.2 hv
      refine lv_aload_n hx hb dX2_apply_84 rfl (lv_at hl 1 rfl) ?_
      refine lv_iload_n hx hb dX2_apply_85 rfl (lv_at hl 0 rfl) ?_
      refine gcallVv (As := [.int ((u.2 5) p1.toNatClampNeg)]) (rest := []) ⟨hx, hb, hml, hown, hts⟩ (c_X2_fillLost l D cI cZ adr A hD ((u.2 5) p1.toNatClampNeg) (sA u 17 (gcp (u.2 16) (u.2 17) (0 : Int32) (0 : Int32) (36 : Int32))) _ h) (cwV 1 hts gX2_apply_X2_fillLost rfl rfl rfl (by decide +kernel) ⟨Nat.le_of_ble_eq_true rfl, Nat.le_of_ble_eq_true rfl⟩) (va_recv hK hP (ci := 2) (q0 := 15) rfl rfl) hK hP hS rfl hl.1 rfl (Nat.le_of_ble_eq_true rfl) dX2_apply_86 ⟨Nat.le_refl _, Nat.le_refl _⟩ (fun u86 H locs h hP hS => ?_)
      refine lv_goto (tgt := 114) hx hb dX2_apply_89 (by decide) ?_
      exact gvret hx hb hr hlocks hK hP hS h dX2_apply_114
set_option maxRecDepth 100000 in
set_option maxHeartbeats 4000000 in
theorem c_X2_make (l : Launch) (D : va_G) (cI cZ : ClassId) (adr : Nat → Nat) (A : Nat → Prop) (hD : ∀ u, va_D A (fw adr cI cZ u)) (p1 : Int32) (p2 : Int32) (u : US) (post : US → Prop) (h : wp_X2_make p1 p2 u post) : gMv l yX2_make wsX2_make 5 D cI cZ (fw adr cI cZ) A [.ref (adr 15), .int p1, .int p2] u post := by
  refine Met.ofW (cc := cX2_make) (maxL := 4) (ret := none) (by decide) rfl ?_
  intro p e s m args below meth c s₁ B hml hv
  obtain ⟨rfl, hP, hK⟩ := hv
  have hx := B.exec
  have hb := B.bytes
  have hr := B.returns
  have hts := atoms_spec (ws := wsX2_make) B.pre
  have hown : s.vm.findClass RX2 = some m.cls := findClass_of_methodNamed B.named
  have hlocks := B.notSynchronized
  have hinX0 : ∀ w ∈ wsX00, w ∈ wsX2_make := by decide +kernel
  have hinX1 : ∀ w ∈ wsX10, w ∈ wsX2_make := by decide +kernel
  have hinX2 : ∀ w ∈ wsX20, w ∈ wsX2_make := by decide +kernel
  have hS : va_S A s.heap s.heap [] := va_S.rf
  have L36 : ∀ (n : Nat), ∀ (x1 : Int32) (x2 : Int32) (x3 : Int32) (u : US) (H : Heap) (locs : List Loc) (ls : Array Slot), lv_has ls 4 [(0, .ref (adr 15)), (1, .int x1), (2, .int x2), (3, .int x3)] → va_P D vwCl (fw adr cI cZ u) H → va_S A s.heap H locs → wp_X2_make_36  post n x1 x2 x3 u → gWv p l e wsX2_make 5 s m [.ref (adr 15), .int p1, .int p2] below meth c D cI cZ (fw adr cI cZ) A post H locs (F0 m 36 ls []) := by
    intro  n
    induction n with
    | zero => intro x1 x2 x3 u H locs ls hl hP hS h; exact False.elim h
    | succ n ih =>
      intro x1 x2 x3 u H locs ls hl hP hS h
      refine lv_iload_n hx hb dX2_make_36 rfl (lv_at hl 3 rfl) ?_
      refine lv_iload_n hx hb dX2_make_37 rfl (lv_at hl 2 rfl) ?_
      refine lv_icmp_ge (tgt := 88) hx hb dX2_make_38 (by decide) (fun hc => ?_) (fun hc => ?_)
      · have h := h.1 hc
        exact gvret hx hb hr hlocks hK hP hS h dX2_make_88
      · have h := h.2 hc
        refine lv_iload_n hx hb dX2_make_41 rfl (lv_at hl 3 rfl) ?_
        refine lv_aload_n hx hb dX2_make_42 rfl (lv_at hl 0 rfl) ?_
        refine fwg_15_1 hx hb hts hinX2 hown hK hP (hts (.fieldLink RX2 15 "FilmBench$Sheet" "layers" "LFilmBench$Layers;") (by decide +kernel)) dX2_make_43 ?_
        refine fwg_3_0 (v := (u.1 5)) hx hb hts hinX0 hown hK hP (hts (.fieldLink RX2 42 "FilmBench$Layers" "count" "I") (by decide +kernel)) dX2_make_46 rfl ?_
        refine lv_icmp_ge (tgt := 88) hx hb dX2_make_49 (by decide) (fun hc => ?_) (fun hc => ?_)
        · have h := h.1 hc
          exact gvret hx hb hr hlocks hK hP hS h dX2_make_88
        · have h := h.2 hc
          refine lv_aload_n hx hb dX2_make_52 rfl (lv_at hl 0 rfl) ?_
          refine fwg_15_1 hx hb hts hinX2 hown hK hP (hts (.fieldLink RX2 15 "FilmBench$Sheet" "layers" "LFilmBench$Layers;") (by decide +kernel)) dX2_make_53 ?_
          refine fwg_3_2 hx hb hts hinX0 hown hK hP (hts (.fieldLink RX2 47 "FilmBench$Layers" "owners" "[I") (by decide +kernel)) dX2_make_56 ?_
          refine lv_iload_n hx hb dX2_make_59 rfl (lv_at hl 3 rfl) ?_
          refine fwl_5 (v := ((u.2 5) x3.toNatClampNeg)) hx hb hK hP h.1 dX2_make_60 rfl ?_
          have h := h.2
          refine lv_iload_n hx hb dX2_make_61 rfl (lv_at hl 1 rfl) ?_
          refine lv_icmp_ne (tgt := 82) hx hb dX2_make_62 (by decide) (fun hc => ?_) (fun hc => ?_)
          · have h := h.2 hc
            refine lv_iinc (v := (x3 + 1)) (lv' := [(3, .int (x3 + 1)), (0, .ref (adr 15)), (1, .int x1), (2, .int x2)]) hx hb dX2_make_82 hl (k := 3) rfl (congrArg (HAdd.hAdd _) (show Int32.ofInt (1) = (1 : Int32) by decide)) (by decide) rfl (fun ls hl => ?_)
            refine lv_goto (tgt := 36) hx hb dX2_make_85 (by decide) ?_
            exact ih x1 x2 (x3 + 1) u _ _ _ (lv_sub hl [1, 2, 3, 0] rfl) hP hS h
          · have h := h.1 hc
            refine lv_aload_n hx hb dX2_make_65 rfl (lv_at hl 0 rfl) ?_
            refine fwg_15_1 hx hb hts hinX2 hown hK hP (hts (.fieldLink RX2 15 "FilmBench$Sheet" "layers" "LFilmBench$Layers;") (by decide +kernel)) dX2_make_66 ?_
            refine fwg_3_5 hx hb hts hinX0 hown hK hP (hts (.fieldLink RX2 50 "FilmBench$Layers" "ons" "[Z") (by decide +kernel)) dX2_make_69 ?_
            refine lv_iload_n hx hb dX2_make_72 rfl (lv_at hl 3 rfl) ?_
            refine fwl_8 (v := ((u.2 8) x3.toNatClampNeg)) hx hb hK hP h.1 dX2_make_73 rfl ?_
            have h := h.2
            refine lv_if_eq (tgt := 82) hx hb dX2_make_74 (by decide) (fun hc => ?_) (fun hc => ?_)
            · have h := h.1 hc
              refine lv_iinc (v := (x3 + 1)) (lv' := [(3, .int (x3 + 1)), (0, .ref (adr 15)), (1, .int x1), (2, .int x2)]) hx hb dX2_make_82 hl (k := 3) rfl (congrArg (HAdd.hAdd _) (show Int32.ofInt (1) = (1 : Int32) by decide)) (by decide) rfl (fun ls hl => ?_)
              refine lv_goto (tgt := 36) hx hb dX2_make_85 (by decide) ?_
              exact ih x1 x2 (x3 + 1) u _ _ _ (lv_sub hl [1, 2, 3, 0] rfl) hP hS h
            · have h := h.2 hc
              refine lv_aload_n hx hb dX2_make_77 rfl (lv_at hl 0 rfl) ?_
              refine lv_iload_n hx hb dX2_make_78 rfl (lv_at hl 3 rfl) ?_
              refine gcallVv (As := [.int x3]) (rest := []) ⟨hx, hb, hml, hown, hts⟩ (c_X2_apply l D cI cZ adr A hD x3 u _ h) (cwV 1 hts gX2_make_X2_apply rfl rfl rfl (by decide +kernel) ⟨Nat.le_of_ble_eq_true rfl, Nat.le_of_ble_eq_true rfl⟩) (va_recv hK hP (ci := 2) (q0 := 15) rfl rfl) hK hP hS rfl hl.1 rfl (Nat.le_of_ble_eq_true rfl) dX2_make_79 ⟨Nat.le_refl _, Nat.le_refl _⟩ (fun u79 H locs h hP hS => ?_)
              refine lv_iinc (v := (x3 + 1)) (lv' := [(3, .int (x3 + 1)), (0, .ref (adr 15)), (1, .int x1), (2, .int x2)]) hx hb dX2_make_82 hl (k := 3) rfl (congrArg (HAdd.hAdd _) (show Int32.ofInt (1) = (1 : Int32) by decide)) (by decide) rfl (fun ls hl => ?_)
              refine lv_goto (tgt := 36) hx hb dX2_make_85 (by decide) ?_
              exact ih x1 x2 (x3 + 1) u79 _ _ _ (lv_sub hl [1, 2, 3, 0] rfl) hP hS h
  have L2 : ∀ (n : Nat), ∀ (x1 : Int32) (x2 : Int32) (x3 : Int32) (u : US) (H : Heap) (locs : List Loc) (ls : Array Slot), lv_has ls 4 [(0, .ref (adr 15)), (1, .int x1), (2, .int x2), (3, .int x3)] → va_P D vwCl (fw adr cI cZ u) H → va_S A s.heap H locs → wp_X2_make_2  post n x1 x2 x3 u → gWv p l e wsX2_make 5 s m [.ref (adr 15), .int p1, .int p2] below meth c D cI cZ (fw adr cI cZ) A post H locs (F0 m 2 ls []) := by
    intro  n
    induction n with
    | zero => intro x1 x2 x3 u H locs ls hl hP hS h; exact False.elim h
    | succ n ih =>
      intro x1 x2 x3 u H locs ls hl hP hS h
      refine lv_iload_n hx hb dX2_make_2 rfl (lv_at hl 3 rfl) ?_
      refine lv_aload_n hx hb dX2_make_3 rfl (lv_at hl 0 rfl) ?_
      refine fwg_15_0 hx hb hts hinX2 hown hK hP (hts (.fieldLink RX2 9 "FilmBench$Sheet" "film" "LFilmBench$Reel;") (by decide +kernel)) dX2_make_4 ?_
      refine fwg_1_2 (v := (u.1 3)) hx hb hts hinX1 hown hK hP (hts (.fieldLink RX2 32 "FilmBench$Reel" "squares" "I") (by decide +kernel)) dX2_make_7 rfl ?_
      refine lv_icmp_ge (tgt := 34) hx hb dX2_make_10 (by decide) (fun hc => ?_) (fun hc => ?_)
      · have h := h.1 hc
        refine lv_iconst (v := (0 : Int32)) hx hb dX2_make_34 (by decide) ?_
        refine lv_istore_n (lv' := [(3, .int (0 : Int32)), (0, .ref (adr 15)), (1, .int x1), (2, .int x2)]) hx hb dX2_make_35 rfl hl (by decide) rfl (fun ls hl => ?_)
        obtain ⟨n, h⟩ := h
        exact L36  n x1 x2 (0 : Int32) u _ _ _ (lv_sub hl [1, 2, 3, 0] rfl) hP hS h
      · have h := h.2 hc
        refine lv_aload_n hx hb dX2_make_13 rfl (lv_at hl 0 rfl) ?_
        refine fwg_15_3 hx hb hts hinX2 hown hK hP (hts (.fieldLink RX2 23 "FilmBench$Sheet" "now" "[I") (by decide +kernel)) dX2_make_14 ?_
        refine lv_iload_n hx hb dX2_make_17 rfl (lv_at hl 3 rfl) ?_
        refine lv_aload_n hx hb dX2_make_18 rfl (lv_at hl 0 rfl) ?_
        refine fwg_15_0 hx hb hts hinX2 hown hK hP (hts (.fieldLink RX2 9 "FilmBench$Sheet" "film" "LFilmBench$Reel;") (by decide +kernel)) dX2_make_19 ?_
        refine lv_iload_n hx hb dX2_make_22 rfl (lv_at hl 1 rfl) ?_
        refine lv_iload_n hx hb dX2_make_23 rfl (lv_at hl 3 rfl) ?_
        refine gcallVi (As := [.int x1, .int x3]) (rest := [.int x3, .ref (adr 16)]) ⟨hx, hb, hml, hown, hts⟩ (c_X1_greyAt l D cI cZ adr A hD x1 x3 u _ h) (cwV 2 hts gX2_make_X1_greyAt rfl rfl rfl (by decide +kernel) ⟨Nat.le_of_ble_eq_true rfl, Nat.le_of_ble_eq_true rfl⟩) (va_recv hK hP (ci := 1) (q0 := 1) rfl rfl) hK hP hS rfl hl.1 rfl (Nat.le_of_ble_eq_true rfl) dX2_make_24 ⟨Nat.le_refl _, Nat.le_refl _⟩ (fun r24 u24 H locs h hP hS => ?_)
        refine fws_16 hx hb hK hP (hD _) hS h.1 dX2_make_27 (fun H locs hP hS => ?_)
        have h := h.2
        refine lv_iinc (v := (x3 + 1)) (lv' := [(3, .int (x3 + 1)), (0, .ref (adr 15)), (1, .int x1), (2, .int x2)]) hx hb dX2_make_28 hl (k := 3) rfl (congrArg (HAdd.hAdd _) (show Int32.ofInt (1) = (1 : Int32) by decide)) (by decide) rfl (fun ls hl => ?_)
        refine lv_goto (tgt := 2) hx hb dX2_make_31 (by decide) ?_
        exact ih x1 x2 (x3 + 1) (sA u24 16 (upd (u24.2 16) x3.toNatClampNeg r24)) _ _ _ (lv_sub hl [1, 2, 3, 0] rfl) hP hS h
  have hl := lv_entry ([.ref (adr 15), .int p1, .int p2]) (n := 4) (Nat.le_of_ble_eq_true rfl)
  rw [lg_entry_eq]
  generalize (lg_sl ([.ref (adr 15), .int p1, .int p2]) ++ List.replicate (4 - (lg_sl ([.ref (adr 15), .int p1, .int p2])).length) Slot.unset).toArray = ls at hl ⊢
  replace hl : lv_has ls 4 [(0, .ref (adr 15)), (1, .int p1), (2, .int p2)] := hl
  refine lv_iconst (v := (0 : Int32)) hx hb dX2_make_0 (by decide) ?_
  refine lv_istore_n (lv' := [(3, .int (0 : Int32)), (0, .ref (adr 15)), (1, .int p1), (2, .int p2)]) hx hb dX2_make_1 rfl hl (by decide) rfl (fun ls hl => ?_)
  obtain ⟨n, h⟩ := h
  exact L2  n p1 p2 (0 : Int32) u _ _ _ (lv_sub hl [1, 2, 3, 0] rfl) hP hS h
set_option maxRecDepth 100000 in
set_option maxHeartbeats 4000000 in
theorem c_X2_greyAt (l : Launch) (D : va_G) (cI cZ : ClassId) (adr : Nat → Nat) (A : Nat → Prop) (hD : ∀ u, va_D A (fw adr cI cZ u)) (p1 : Int32) (u : US) (post : Int32 → US → Prop) (h : wp_X2_greyAt p1 u post) : gMi l yX2_greyAt wsX2_greyAt 1 D cI cZ (fw adr cI cZ) A [.ref (adr 15), .int p1] u post := by
  refine Met.ofW (cc := cX2_greyAt) (maxL := 2) (ret := (some .int)) (by decide) rfl ?_
  intro p e s m args below meth c s₁ B hml hv
  obtain ⟨rfl, hP, hK⟩ := hv
  have hx := B.exec
  have hb := B.bytes
  have hr := B.returns
  have hts := atoms_spec (ws := wsX2_greyAt) B.pre
  have hown : s.vm.findClass RX2 = some m.cls := findClass_of_methodNamed B.named
  have hlocks := B.notSynchronized
  have hinX2 : ∀ w ∈ wsX20, w ∈ wsX2_greyAt := by decide +kernel
  have hS : va_S A s.heap s.heap [] := va_S.rf
  have hl := lv_entry ([.ref (adr 15), .int p1]) (n := 2) (Nat.le_of_ble_eq_true rfl)
  rw [lg_entry_eq]
  generalize (lg_sl ([.ref (adr 15), .int p1]) ++ List.replicate (2 - (lg_sl ([.ref (adr 15), .int p1])).length) Slot.unset).toArray = ls at hl ⊢
  replace hl : lv_has ls 2 [(0, .ref (adr 15)), (1, .int p1)] := hl
  refine lv_aload_n hx hb dX2_greyAt_0 rfl (lv_at hl 0 rfl) ?_
  refine fwg_15_0 hx hb hts hinX2 hown hK hP (hts (.fieldLink RX2 9 "FilmBench$Sheet" "film" "LFilmBench$Reel;") (by decide +kernel)) dX2_greyAt_1 ?_
  refine lv_iload_n hx hb dX2_greyAt_4 rfl (lv_at hl 1 rfl) ?_
  refine gcallVi (As := [.int p1]) (rest := []) ⟨hx, hb, hml, hown, hts⟩ (c_X1_hasPlace l D cI cZ adr A hD p1 u _ h) (cwV 1 hts gX2_greyAt_X1_hasPlace rfl rfl rfl (by decide +kernel) ⟨Nat.le_of_ble_eq_true rfl, Nat.le_of_ble_eq_true rfl⟩) (va_recv hK hP (ci := 1) (q0 := 1) rfl rfl) hK hP hS rfl hl.1 rfl (Nat.le_of_ble_eq_true rfl) dX2_greyAt_5 ⟨Nat.le_refl _, Nat.le_refl _⟩ (fun r5 u5 H locs h hP hS => ?_)
  refine lv_if_eq (tgt := 20) hx hb dX2_greyAt_8 (by decide) (fun hc => ?_) (fun hc => ?_)
  · have h := h.1 hc
    refine lv_iconst (v := (-1 : Int32)) hx hb dX2_greyAt_20 (by decide) ?_
    exact giret hx hb hr hlocks hK hP hS h dX2_greyAt_21
  · have h := h.2 hc
    refine lv_aload_n hx hb dX2_greyAt_11 rfl (lv_at hl 0 rfl) ?_
    refine fwg_15_3 hx hb hts hinX2 hown hK hP (hts (.fieldLink RX2 23 "FilmBench$Sheet" "now" "[I") (by decide +kernel)) dX2_greyAt_12 ?_
    refine lv_iload_n hx hb dX2_greyAt_15 rfl (lv_at hl 1 rfl) ?_
    refine fwl_16 (v := ((u5.2 16) p1.toNatClampNeg)) hx hb hK hP h.1 dX2_greyAt_16 rfl ?_
    have h := h.2
    refine lv_goto (tgt := 21) hx hb dX2_greyAt_17 (by decide) ?_
    exact giret hx hb hr hlocks hK hP hS h dX2_greyAt_21
set_option maxRecDepth 100000 in
set_option maxHeartbeats 4000000 in
theorem c_X5_made (l : Launch) (D : va_G) (cI cZ : ClassId) (adr : Nat → Nat) (A : Nat → Prop) (hD : ∀ u, va_D A (fw adr cI cZ u)) (p1 : Int32) (p2 : Int32) (p3 : Int32) (u : US) (post : Int32 → US → Prop) (h : wp_X5_made p1 p2 p3 u post) : gMi l yX5_made wsX5_made 6 D cI cZ (fw adr cI cZ) A [.ref (adr 0), .int p1, .int p2, .int p3] u post := by
  refine Met.ofW (cc := cX5_made) (maxL := 5) (ret := (some .int)) (by decide) rfl ?_
  intro p e s m args below meth c s₁ B hml hv
  obtain ⟨rfl, hP, hK⟩ := hv
  have hx := B.exec
  have hb := B.bytes
  have hr := B.returns
  have hts := atoms_spec (ws := wsX5_made) B.pre
  have hown : s.vm.findClass RX5 = some m.cls := findClass_of_methodNamed B.named
  have hlocks := B.notSynchronized
  have hinX0 : ∀ w ∈ wsX00, w ∈ wsX5_made := by decide +kernel
  have hinX5 : ∀ w ∈ wsX50, w ∈ wsX5_made := by decide +kernel
  have hS : va_S A s.heap s.heap [] := va_S.rf
  have hl := lv_entry ([.ref (adr 0), .int p1, .int p2, .int p3]) (n := 5) (Nat.le_of_ble_eq_true rfl)
  rw [lg_entry_eq]
  generalize (lg_sl ([.ref (adr 0), .int p1, .int p2, .int p3]) ++ List.replicate (5 - (lg_sl ([.ref (adr 0), .int p1, .int p2, .int p3])).length) Slot.unset).toArray = ls at hl ⊢
  replace hl : lv_has ls 5 [(0, .ref (adr 0)), (1, .int p1), (2, .int p2), (3, .int p3)] := hl
  refine lv_aload_n hx hb dX5_made_0 rfl (lv_at hl 0 rfl) ?_
  refine fwg_0_0 hx hb hts hinX5 hown hK hP (hts (.fieldLink RX5 12 "FilmBench" "film" "LFilmBench$Reel;") (by decide +kernel)) dX5_made_1 ?_
  refine lv_iload_n hx hb dX5_made_4 rfl (lv_at hl 2 rfl) ?_
  refine lv_iload_n hx hb dX5_made_5 rfl (lv_at hl 3 rfl) ?_
  refine gcallVi (As := [.int p2, .int p3]) (rest := []) ⟨hx, hb, hml, hown, hts⟩ (c_X1_placeOf l D cI cZ adr A hD p2 p3 u _ h) (cwV 2 hts gX5_made_X1_placeOf rfl rfl rfl (by decide +kernel) ⟨Nat.le_of_ble_eq_true rfl, Nat.le_of_ble_eq_true rfl⟩) (va_recv hK hP (ci := 1) (q0 := 1) rfl rfl) hK hP hS rfl hl.1 rfl (Nat.le_of_ble_eq_true rfl) dX5_made_6 ⟨Nat.le_refl _, Nat.le_refl _⟩ (fun r6 u6 H locs h hP hS => ?_)
  refine lv_istore (lv' := [(4, .int r6), (0, .ref (adr 0)), (1, .int p1), (2, .int p2), (3, .int p3)]) hx hb dX5_made_9 hl (by decide) rfl (fun ls hl => ?_)
  refine lv_aload_n hx hb dX5_made_11 rfl (lv_at hl 1 rfl) ?_
  refine fwg_0_0 hx hb hts hinX5 hown hK hP (hts (.fieldLink RX5 12 "FilmBench" "film" "LFilmBench$Reel;") (by decide +kernel)) dX5_made_12 ?_
  refine lv_iload_n hx hb dX5_made_15 rfl (lv_at hl 2 rfl) ?_
  refine gcallVi (As := [.int p1]) (rest := []) ⟨hx, hb, hml, hown, hts⟩ (c_X1_hasFrame l D cI cZ adr A hD p1 u6 _ h) (cwV 1 hts gX5_made_X1_hasFrame rfl rfl rfl (by decide +kernel) ⟨Nat.le_of_ble_eq_true rfl, Nat.le_of_ble_eq_true rfl⟩) (va_recv hK hP (ci := 1) (q0 := 1) rfl rfl) hK hP hS rfl hl.1 rfl (Nat.le_of_ble_eq_true rfl) dX5_made_16 ⟨Nat.le_refl _, Nat.le_refl _⟩ (fun r16 u16 H locs h hP hS => ?_)
  refine lv_if_eq (tgt := 27) hx hb dX5_made_19 (by decide) (fun hc => ?_) (fun hc => ?_)
  · have h := h.1 hc
    refine lv_sipush (v := (-1000 : Int32)) hx hb dX5_made_27 (by decide) ?_
    exact giret hx hb hr hlocks hK hP hS h dX5_made_30
  · have h := h.2 hc
    refine lv_iload hx hb dX5_made_22 (lv_at hl 0 rfl) ?_
    refine lv_if_ge (tgt := 31) hx hb dX5_made_24 (by decide) (fun hc => ?_) (fun hc => ?_)
    · have h := h.1 hc
      refine lv_aload_n hx hb dX5_made_31 rfl (lv_at hl 1 rfl) ?_
      refine fwg_0_5 hx hb hts hinX5 hown hK hP (hts (.fieldLink RX5 57 "FilmBench" "sheet" "LFilmBench$Sheet;") (by decide +kernel)) dX5_made_32 ?_
      refine lv_iload_n hx hb dX5_made_35 rfl (lv_at hl 2 rfl) ?_
      refine lv_aload_n hx hb dX5_made_36 rfl (lv_at hl 1 rfl) ?_
      refine fwg_0_1 hx hb hts hinX5 hown hK hP (hts (.fieldLink RX5 19 "FilmBench" "layers" "LFilmBench$Layers;") (by decide +kernel)) dX5_made_37 ?_
      refine fwg_3_0 (v := (u16.1 5)) hx hb hts hinX0 hown hK hP (hts (.fieldLink RX5 79 "FilmBench$Layers" "count" "I") (by decide +kernel)) dX5_made_40 rfl ?_
      refine gcallVv (As := [.int p1, .int (u16.1 5)]) (rest := []) ⟨hx, hb, hml, hown, hts⟩ (c_X2_make l D cI cZ adr A hD p1 (u16.1 5) u16 _ h) (cwV 2 hts gX5_made_X2_make rfl rfl rfl (by decide +kernel) ⟨Nat.le_of_ble_eq_true rfl, Nat.le_of_ble_eq_true rfl⟩) (va_recv hK hP (ci := 2) (q0 := 15) rfl rfl) hK hP hS rfl hl.1 rfl (Nat.le_of_ble_eq_true rfl) dX5_made_43 ⟨Nat.le_refl _, Nat.le_refl _⟩ (fun u43 H locs h hP hS => ?_)
      refine lv_aload_n hx hb dX5_made_46 rfl (lv_at hl 1 rfl) ?_
      refine fwg_0_5 hx hb hts hinX5 hown hK hP (hts (.fieldLink RX5 57 "FilmBench" "sheet" "LFilmBench$Sheet;") (by decide +kernel)) dX5_made_47 ?_
      refine lv_iload hx hb dX5_made_50 (lv_at hl 0 rfl) ?_
      refine gcallVi (As := [.int r6]) (rest := []) ⟨hx, hb, hml, hown, hts⟩ (c_X2_greyAt l D cI cZ adr A hD r6 u43 _ h) (cwV 1 hts gX5_made_X2_greyAt rfl rfl rfl (by decide +kernel) ⟨Nat.le_of_ble_eq_true rfl, Nat.le_of_ble_eq_true rfl⟩) (va_recv hK hP (ci := 2) (q0 := 15) rfl rfl) hK hP hS rfl hl.1 rfl (Nat.le_of_ble_eq_true rfl) dX5_made_52 ⟨Nat.le_refl _, Nat.le_refl _⟩ (fun r52 u52 H locs h hP hS => ?_)
      exact giret hx hb hr hlocks hK hP hS h dX5_made_55
    · have h := h.2 hc
      refine lv_sipush (v := (-1000 : Int32)) hx hb dX5_made_27 (by decide) ?_
      exact giret hx hb hr hlocks hK hP hS h dX5_made_30
set_option maxRecDepth 100000 in
set_option maxHeartbeats 4000000 in
theorem c_X2_countChanged (l : Launch) (D : va_G) (cI cZ : ClassId) (adr : Nat → Nat) (A : Nat → Prop) (hD : ∀ u, va_D A (fw adr cI cZ u))  (u : US) (post : Int32 → US → Prop) (h : wp_X2_countChanged  u post) : gMi l yX2_countChanged wsX2_countChanged 0 D cI cZ (fw adr cI cZ) A [.ref (adr 15)] u post := by
  refine Met.ofW (cc := cX2_countChanged) (maxL := 3) (ret := (some .int)) (by decide) rfl ?_
  intro p e s m args below meth c s₁ B hml hv
  obtain ⟨rfl, hP, hK⟩ := hv
  have hx := B.exec
  have hb := B.bytes
  have hr := B.returns
  have hts := atoms_spec (ws := wsX2_countChanged) B.pre
  have hown : s.vm.findClass RX2 = some m.cls := findClass_of_methodNamed B.named
  have hlocks := B.notSynchronized
  have hinX1 : ∀ w ∈ wsX10, w ∈ wsX2_countChanged := by decide +kernel
  have hinX2 : ∀ w ∈ wsX20, w ∈ wsX2_countChanged := by decide +kernel
  have hS : va_S A s.heap s.heap [] := va_S.rf
  have L4 : ∀ (n : Nat), ∀ (x1 : Int32) (x2 : Int32) (u : US) (H : Heap) (locs : List Loc) (ls : Array Slot), lv_has ls 3 [(0, .ref (adr 15)), (1, .int x1), (2, .int x2)] → va_P D vwCl (fw adr cI cZ u) H → va_S A s.heap H locs → wp_X2_countChanged_4  post n x1 x2 u → gWi p l e wsX2_countChanged 0 s m [.ref (adr 15)] below meth c D cI cZ (fw adr cI cZ) A post H locs (F0 m 4 ls []) := by
    intro  n
    induction n with
    | zero => intro x1 x2 u H locs ls hl hP hS h; exact False.elim h
    | succ n ih =>
      intro x1 x2 u H locs ls hl hP hS h
      refine lv_iload_n hx hb dX2_countChanged_4 rfl (lv_at hl 2 rfl) ?_
      refine lv_aload_n hx hb dX2_countChanged_5 rfl (lv_at hl 0 rfl) ?_
      refine fwg_15_0 hx hb hts hinX2 hown hK hP (hts (.fieldLink RX2 9 "FilmBench$Sheet" "film" "LFilmBench$Reel;") (by decide +kernel)) dX2_countChanged_6 ?_
      refine fwg_1_2 (v := (u.1 3)) hx hb hts hinX1 hown hK hP (hts (.fieldLink RX2 32 "FilmBench$Reel" "squares" "I") (by decide +kernel)) dX2_countChanged_9 rfl ?_
      refine lv_icmp_ge (tgt := 39) hx hb dX2_countChanged_12 (by decide) (fun hc => ?_) (fun hc => ?_)
      · have h := h.1 hc
        refine lv_iload_n hx hb dX2_countChanged_39 rfl (lv_at hl 1 rfl) ?_
        exact giret hx hb hr hlocks hK hP hS h dX2_countChanged_40
      · have h := h.2 hc
        refine lv_aload_n hx hb dX2_countChanged_15 rfl (lv_at hl 0 rfl) ?_
        refine fwg_15_3 hx hb hts hinX2 hown hK hP (hts (.fieldLink RX2 23 "FilmBench$Sheet" "now" "[I") (by decide +kernel)) dX2_countChanged_16 ?_
        refine lv_iload_n hx hb dX2_countChanged_19 rfl (lv_at hl 2 rfl) ?_
        refine fwl_16 (v := ((u.2 16) x2.toNatClampNeg)) hx hb hK hP h.1 dX2_countChanged_20 rfl ?_
        have h := h.2
        refine lv_aload_n hx hb dX2_countChanged_21 rfl (lv_at hl 0 rfl) ?_
        refine fwg_15_4 hx hb hts hinX2 hown hK hP (hts (.fieldLink RX2 26 "FilmBench$Sheet" "before" "[I") (by decide +kernel)) dX2_countChanged_22 ?_
        refine lv_iload_n hx hb dX2_countChanged_25 rfl (lv_at hl 2 rfl) ?_
        refine fwl_17 (v := ((u.2 17) x2.toNatClampNeg)) hx hb hK hP h.1 dX2_countChanged_26 rfl ?_
        have h := h.2
        refine lv_icmp_eq (tgt := 33) hx hb dX2_countChanged_27 (by decide) (fun hc => ?_) (fun hc => ?_)
        · have h := h.1 hc
          refine lv_iinc (v := (x2 + 1)) (lv' := [(2, .int (x2 + 1)), (0, .ref (adr 15)), (1, .int x1)]) hx hb dX2_countChanged_33 hl (k := 2) rfl (congrArg (HAdd.hAdd _) (show Int32.ofInt (1) = (1 : Int32) by decide)) (by decide) rfl (fun ls hl => ?_)
          refine lv_goto (tgt := 4) hx hb dX2_countChanged_36 (by decide) ?_
          exact ih x1 (x2 + 1) u _ _ _ (lv_sub hl [1, 2, 0] rfl) hP hS h
        · have h := h.2 hc
          refine lv_iinc (v := (x1 + 1)) (lv' := [(1, .int (x1 + 1)), (0, .ref (adr 15)), (2, .int x2)]) hx hb dX2_countChanged_30 hl (k := 1) rfl (congrArg (HAdd.hAdd _) (show Int32.ofInt (1) = (1 : Int32) by decide)) (by decide) rfl (fun ls hl => ?_)
          refine lv_iinc (v := (x2 + 1)) (lv' := [(2, .int (x2 + 1)), (1, .int (x1 + 1)), (0, .ref (adr 15))]) hx hb dX2_countChanged_33 hl (k := 2) rfl (congrArg (HAdd.hAdd _) (show Int32.ofInt (1) = (1 : Int32) by decide)) (by decide) rfl (fun ls hl => ?_)
          refine lv_goto (tgt := 4) hx hb dX2_countChanged_36 (by decide) ?_
          exact ih (x1 + 1) (x2 + 1) u _ _ _ (lv_sub hl [2, 1, 0] rfl) hP hS h
  have hl := lv_entry ([.ref (adr 15)]) (n := 3) (Nat.le_of_ble_eq_true rfl)
  rw [lg_entry_eq]
  generalize (lg_sl ([.ref (adr 15)]) ++ List.replicate (3 - (lg_sl ([.ref (adr 15)])).length) Slot.unset).toArray = ls at hl ⊢
  replace hl : lv_has ls 3 [(0, .ref (adr 15))] := hl
  refine lv_iconst (v := (0 : Int32)) hx hb dX2_countChanged_0 (by decide) ?_
  refine lv_istore_n (lv' := [(1, .int (0 : Int32)), (0, .ref (adr 15))]) hx hb dX2_countChanged_1 rfl hl (by decide) rfl (fun ls hl => ?_)
  refine lv_iconst (v := (0 : Int32)) hx hb dX2_countChanged_2 (by decide) ?_
  refine lv_istore_n (lv' := [(2, .int (0 : Int32)), (1, .int (0 : Int32)), (0, .ref (adr 15))]) hx hb dX2_countChanged_3 rfl hl (by decide) rfl (fun ls hl => ?_)
  obtain ⟨n, h⟩ := h
  exact L4  n (0 : Int32) (0 : Int32) u _ _ _ (lv_sub hl [2, 1, 0] rfl) hP hS h
set_option maxRecDepth 100000 in
set_option maxHeartbeats 4000000 in
theorem c_X5_changed (l : Launch) (D : va_G) (cI cZ : ClassId) (adr : Nat → Nat) (A : Nat → Prop) (hD : ∀ u, va_D A (fw adr cI cZ u)) (p1 : Int32) (u : US) (post : Int32 → US → Prop) (h : wp_X5_changed p1 u post) : gMi l yX5_changed wsX5_changed 6 D cI cZ (fw adr cI cZ) A [.ref (adr 0), .int p1] u post := by
  refine Met.ofW (cc := cX5_changed) (maxL := 2) (ret := (some .int)) (by decide) rfl ?_
  intro p e s m args below meth c s₁ B hml hv
  obtain ⟨rfl, hP, hK⟩ := hv
  have hx := B.exec
  have hb := B.bytes
  have hr := B.returns
  have hts := atoms_spec (ws := wsX5_changed) B.pre
  have hown : s.vm.findClass RX5 = some m.cls := findClass_of_methodNamed B.named
  have hlocks := B.notSynchronized
  have hinX0 : ∀ w ∈ wsX00, w ∈ wsX5_changed := by decide +kernel
  have hinX5 : ∀ w ∈ wsX50, w ∈ wsX5_changed := by decide +kernel
  have hS : va_S A s.heap s.heap [] := va_S.rf
  have hl := lv_entry ([.ref (adr 0), .int p1]) (n := 2) (Nat.le_of_ble_eq_true rfl)
  rw [lg_entry_eq]
  generalize (lg_sl ([.ref (adr 0), .int p1]) ++ List.replicate (2 - (lg_sl ([.ref (adr 0), .int p1])).length) Slot.unset).toArray = ls at hl ⊢
  replace hl : lv_has ls 2 [(0, .ref (adr 0)), (1, .int p1)] := hl
  refine lv_aload_n hx hb dX5_changed_0 rfl (lv_at hl 0 rfl) ?_
  refine fwg_0_1 hx hb hts hinX5 hown hK hP (hts (.fieldLink RX5 19 "FilmBench" "layers" "LFilmBench$Layers;") (by decide +kernel)) dX5_changed_1 ?_
  refine lv_iload_n hx hb dX5_changed_4 rfl (lv_at hl 1 rfl) ?_
  refine gcallVi (As := [.int p1]) (rest := []) ⟨hx, hb, hml, hown, hts⟩ (c_X0_has l D cI cZ adr A hD p1 u _ h) (cwV 1 hts gX5_changed_X0_has rfl rfl rfl (by decide +kernel) ⟨Nat.le_of_ble_eq_true rfl, Nat.le_of_ble_eq_true rfl⟩) (va_recv hK hP (ci := 0) (q0 := 3) rfl rfl) hK hP hS rfl hl.1 rfl (Nat.le_of_ble_eq_true rfl) dX5_changed_5 ⟨Nat.le_refl _, Nat.le_refl _⟩ (fun r5 u5 H locs h hP hS => ?_)
  refine lv_if_ne (tgt := 13) hx hb dX5_changed_8 (by decide) (fun hc => ?_) (fun hc => ?_)
  · have h := h.2 hc
    refine lv_aload_n hx hb dX5_changed_13 rfl (lv_at hl 0 rfl) ?_
    refine fwg_0_1 hx hb hts hinX5 hown hK hP (hts (.fieldLink RX5 19 "FilmBench" "layers" "LFilmBench$Layers;") (by decide +kernel)) dX5_changed_14 ?_
    refine fwg_3_5 hx hb hts hinX0 hown hK hP (hts (.fieldLink RX5 171 "FilmBench$Layers" "ons" "[Z") (by decide +kernel)) dX5_changed_17 ?_
    refine lv_iload_n hx hb dX5_changed_20 rfl (lv_at hl 1 rfl) ?_
    refine fwl_8 (v := ((u5.2 8) p1.toNatClampNeg)) hx hb hK hP h.1 dX5_changed_21 rfl ?_
    have h := h.2
    refine lv_if_ne (tgt := 27) hx hb dX5_changed_22 (by decide) (fun hc => ?_) (fun hc => ?_)
    · have h := h.2 hc
      refine lv_aload_n hx hb dX5_changed_27 rfl (lv_at hl 0 rfl) ?_
      refine fwg_0_5 hx hb hts hinX5 hown hK hP (hts (.fieldLink RX5 57 "FilmBench" "sheet" "LFilmBench$Sheet;") (by decide +kernel)) dX5_changed_28 ?_
      refine lv_aload_n hx hb dX5_changed_31 rfl (lv_at hl 0 rfl) ?_
      refine fwg_0_1 hx hb hts hinX5 hown hK hP (hts (.fieldLink RX5 19 "FilmBench" "layers" "LFilmBench$Layers;") (by decide +kernel)) dX5_changed_32 ?_
      refine fwg_3_2 hx hb hts hinX0 hown hK hP (hts (.fieldLink RX5 180 "FilmBench$Layers" "owners" "[I") (by decide +kernel)) dX5_changed_35 ?_
      refine lv_iload_n hx hb dX5_changed_38 rfl (lv_at hl 1 rfl) ?_
      refine fwl_5 (v := ((u5.2 5) p1.toNatClampNeg)) hx hb hK hP h.1 dX5_changed_39 rfl ?_
      have h := h.2
      refine lv_iload_n hx hb dX5_changed_40 rfl (lv_at hl 1 rfl) ?_
      refine lv_iconst (v := (1 : Int32)) hx hb dX5_changed_41 (by decide) ?_
      refine lv_iadd hx hb dX5_changed_42 ?_
      refine gcallVv (As := [.int ((u5.2 5) p1.toNatClampNeg), .int (p1 + (1 : Int32))]) (rest := []) ⟨hx, hb, hml, hown, hts⟩ (c_X2_make l D cI cZ adr A hD ((u5.2 5) p1.toNatClampNeg) (p1 + (1 : Int32)) u5 _ h) (cwV 2 hts gX5_changed_X2_make rfl rfl rfl (by decide +kernel) ⟨Nat.le_of_ble_eq_true rfl, Nat.le_of_ble_eq_true rfl⟩) (va_recv hK hP (ci := 2) (q0 := 15) rfl rfl) hK hP hS rfl hl.1 rfl (Nat.le_of_ble_eq_true rfl) dX5_changed_43 ⟨Nat.le_refl _, Nat.le_refl _⟩ (fun u43 H locs h hP hS => ?_)
      refine lv_aload_n hx hb dX5_changed_46 rfl (lv_at hl 0 rfl) ?_
      refine fwg_0_5 hx hb hts hinX5 hown hK hP (hts (.fieldLink RX5 57 "FilmBench" "sheet" "LFilmBench$Sheet;") (by decide +kernel)) dX5_changed_47 ?_
      refine gcallVi (As := []) (rest := []) ⟨hx, hb, hml, hown, hts⟩ (c_X2_countChanged l D cI cZ adr A hD u43 _ h) (cwV 0 hts gX5_changed_X2_countChanged rfl rfl rfl (by decide +kernel) ⟨Nat.le_of_ble_eq_true rfl, Nat.le_of_ble_eq_true rfl⟩) (va_recv hK hP (ci := 2) (q0 := 15) rfl rfl) hK hP hS rfl hl.1 rfl (Nat.le_of_ble_eq_true rfl) dX5_changed_50 ⟨Nat.le_refl _, Nat.le_refl _⟩ (fun r50 u50 H locs h hP hS => ?_)
      exact giret hx hb hr hlocks hK hP hS h dX5_changed_53
    · have h := h.1 hc
      refine lv_iconst (v := (0 : Int32)) hx hb dX5_changed_25 (by decide) ?_
      exact giret hx hb hr hlocks hK hP hS h dX5_changed_26
  · have h := h.1 hc
    refine lv_iconst (v := (-1 : Int32)) hx hb dX5_changed_11 (by decide) ?_
    exact giret hx hb hr hlocks hK hP hS h dX5_changed_12
set_option maxRecDepth 100000 in
set_option maxHeartbeats 4000000 in
theorem c_X5_of (l : Launch) (D : va_G) (cI cZ : ClassId) (adr : Nat → Nat) (A : Nat → Prop) (hD : ∀ u, va_D A (fw adr cI cZ u)) (p1 : Int32) (p2 : Int32) (u : US) (post : Int32 → US → Prop) (h : wp_X5_of p1 p2 u post) : gMi l yX5_of wsX5_of 1 D cI cZ (fw adr cI cZ) A [.ref (adr 0), .int p1, .int p2] u post := by
  refine Met.ofW (cc := cX5_of) (maxL := 3) (ret := (some .int)) (by decide) rfl ?_
  intro p e s m args below meth c s₁ B hml hv
  obtain ⟨rfl, hP, hK⟩ := hv
  have hx := B.exec
  have hb := B.bytes
  have hr := B.returns
  have hts := atoms_spec (ws := wsX5_of) B.pre
  have hown : s.vm.findClass RX5 = some m.cls := findClass_of_methodNamed B.named
  have hlocks := B.notSynchronized
  have hinX0 : ∀ w ∈ wsX00, w ∈ wsX5_of := by decide +kernel
  have hinX5 : ∀ w ∈ wsX50, w ∈ wsX5_of := by decide +kernel
  have hS : va_S A s.heap s.heap [] := va_S.rf
  have hl := lv_entry ([.ref (adr 0), .int p1, .int p2]) (n := 3) (Nat.le_of_ble_eq_true rfl)
  rw [lg_entry_eq]
  generalize (lg_sl ([.ref (adr 0), .int p1, .int p2]) ++ List.replicate (3 - (lg_sl ([.ref (adr 0), .int p1, .int p2])).length) Slot.unset).toArray = ls at hl ⊢
  replace hl : lv_has ls 3 [(0, .ref (adr 0)), (1, .int p1), (2, .int p2)] := hl
  refine lv_aload_n hx hb dX5_of_0 rfl (lv_at hl 0 rfl) ?_
  refine fwg_0_1 hx hb hts hinX5 hown hK hP (hts (.fieldLink RX5 19 "FilmBench" "layers" "LFilmBench$Layers;") (by decide +kernel)) dX5_of_1 ?_
  refine lv_iload_n hx hb dX5_of_4 rfl (lv_at hl 1 rfl) ?_
  refine gcallVi (As := [.int p1]) (rest := []) ⟨hx, hb, hml, hown, hts⟩ (c_X0_has l D cI cZ adr A hD p1 u _ h) (cwV 1 hts gX5_of_X0_has rfl rfl rfl (by decide +kernel) ⟨Nat.le_of_ble_eq_true rfl, Nat.le_of_ble_eq_true rfl⟩) (va_recv hK hP (ci := 0) (q0 := 3) rfl rfl) hK hP hS rfl hl.1 rfl (Nat.le_of_ble_eq_true rfl) dX5_of_5 ⟨Nat.le_refl _, Nat.le_refl _⟩ (fun r5 u5 H locs h hP hS => ?_)
  refine lv_if_ne (tgt := 15) hx hb dX5_of_8 (by decide) (fun hc => ?_) (fun hc => ?_)
  · have h := h.2 hc
    refine lv_iload_n hx hb dX5_of_15 rfl (lv_at hl 2 rfl) ?_
    by_cases hc : p2.toInt < 0 ∨ 4 < p2.toInt
    · refine lv_tableOut (tgt := 110) hx hb dX5_of_16 hc (by decide) ?_
      have h := h.1 hc
      refine lv_sipush (v := (-1000 : Int32)) hx hb dX5_of_110 (by decide) ?_
      exact giret hx hb hr hlocks hK hP hS h dX5_of_113
    · have hv : p2.toInt = 0 ∨ p2.toInt = 1 ∨ p2.toInt = 2 ∨ p2.toInt = 3 ∨ p2.toInt = 4 := by omega
      rcases hv with hv | hv | hv | hv | hv
      · refine lv_tableIn (off := 36) (tgt := 52) hx hb dX5_of_16 (by omega) (by omega) (by rw [hv]; rfl) (by decide) ?_
        have h := h.2.1 hv
        refine lv_aload_n hx hb dX5_of_52 rfl (lv_at hl 0 rfl) ?_
        refine fwg_0_1 hx hb hts hinX5 hown hK hP (hts (.fieldLink RX5 19 "FilmBench" "layers" "LFilmBench$Layers;") (by decide +kernel)) dX5_of_53 ?_
        refine fwg_3_1 hx hb hts hinX0 hown hK hP (hts (.fieldLink RX5 186 "FilmBench$Layers" "kinds" "[I") (by decide +kernel)) dX5_of_56 ?_
        refine lv_iload_n hx hb dX5_of_59 rfl (lv_at hl 1 rfl) ?_
        refine fwl_4 (v := ((u5.2 4) p1.toNatClampNeg)) hx hb hK hP h.1 dX5_of_60 rfl ?_
        have h := h.2
        exact giret hx hb hr hlocks hK hP hS h dX5_of_61
      · refine lv_tableIn (off := 46) (tgt := 62) hx hb dX5_of_16 (by omega) (by omega) (by rw [hv]; rfl) (by decide) ?_
        have h := h.2.2.1 hv
        refine lv_aload_n hx hb dX5_of_62 rfl (lv_at hl 0 rfl) ?_
        refine fwg_0_1 hx hb hts hinX5 hown hK hP (hts (.fieldLink RX5 19 "FilmBench" "layers" "LFilmBench$Layers;") (by decide +kernel)) dX5_of_63 ?_
        refine fwg_3_2 hx hb hts hinX0 hown hK hP (hts (.fieldLink RX5 180 "FilmBench$Layers" "owners" "[I") (by decide +kernel)) dX5_of_66 ?_
        refine lv_iload_n hx hb dX5_of_69 rfl (lv_at hl 1 rfl) ?_
        refine fwl_5 (v := ((u5.2 5) p1.toNatClampNeg)) hx hb hK hP h.1 dX5_of_70 rfl ?_
        have h := h.2
        exact giret hx hb hr hlocks hK hP hS h dX5_of_71
      · refine lv_tableIn (off := 56) (tgt := 72) hx hb dX5_of_16 (by omega) (by omega) (by rw [hv]; rfl) (by decide) ?_
        have h := h.2.2.2.1 hv
        refine lv_aload_n hx hb dX5_of_72 rfl (lv_at hl 0 rfl) ?_
        refine fwg_0_1 hx hb hts hinX5 hown hK hP (hts (.fieldLink RX5 19 "FilmBench" "layers" "LFilmBench$Layers;") (by decide +kernel)) dX5_of_73 ?_
        refine fwg_3_3 hx hb hts hinX0 hown hK hP (hts (.fieldLink RX5 189 "FilmBench$Layers" "as" "[I") (by decide +kernel)) dX5_of_76 ?_
        refine lv_iload_n hx hb dX5_of_79 rfl (lv_at hl 1 rfl) ?_
        refine fwl_6 (v := ((u5.2 6) p1.toNatClampNeg)) hx hb hK hP h.1 dX5_of_80 rfl ?_
        have h := h.2
        exact giret hx hb hr hlocks hK hP hS h dX5_of_81
      · refine lv_tableIn (off := 66) (tgt := 82) hx hb dX5_of_16 (by omega) (by omega) (by rw [hv]; rfl) (by decide) ?_
        have h := h.2.2.2.2.1 hv
        refine lv_aload_n hx hb dX5_of_82 rfl (lv_at hl 0 rfl) ?_
        refine fwg_0_1 hx hb hts hinX5 hown hK hP (hts (.fieldLink RX5 19 "FilmBench" "layers" "LFilmBench$Layers;") (by decide +kernel)) dX5_of_83 ?_
        refine fwg_3_4 hx hb hts hinX0 hown hK hP (hts (.fieldLink RX5 192 "FilmBench$Layers" "bs" "[I") (by decide +kernel)) dX5_of_86 ?_
        refine lv_iload_n hx hb dX5_of_89 rfl (lv_at hl 1 rfl) ?_
        refine fwl_7 (v := ((u5.2 7) p1.toNatClampNeg)) hx hb hK hP h.1 dX5_of_90 rfl ?_
        have h := h.2
        exact giret hx hb hr hlocks hK hP hS h dX5_of_91
      · refine lv_tableIn (off := 76) (tgt := 92) hx hb dX5_of_16 (by omega) (by omega) (by rw [hv]; rfl) (by decide) ?_
        have h := h.2.2.2.2.2 hv
        refine lv_aload_n hx hb dX5_of_92 rfl (lv_at hl 0 rfl) ?_
        refine fwg_0_1 hx hb hts hinX5 hown hK hP (hts (.fieldLink RX5 19 "FilmBench" "layers" "LFilmBench$Layers;") (by decide +kernel)) dX5_of_93 ?_
        refine fwg_3_5 hx hb hts hinX0 hown hK hP (hts (.fieldLink RX5 171 "FilmBench$Layers" "ons" "[Z") (by decide +kernel)) dX5_of_96 ?_
        refine lv_iload_n hx hb dX5_of_99 rfl (lv_at hl 1 rfl) ?_
        refine fwl_8 (v := ((u5.2 8) p1.toNatClampNeg)) hx hb hK hP h.1 dX5_of_100 rfl ?_
        have h := h.2
        refine lv_if_eq (tgt := 108) hx hb dX5_of_101 (by decide) (fun hc => ?_) (fun hc => ?_)
        · have h := h.1 hc
          refine lv_iconst (v := (0 : Int32)) hx hb dX5_of_108 (by decide) ?_
          exact giret hx hb hr hlocks hK hP hS h dX5_of_109
        · have h := h.2 hc
          refine lv_iconst (v := (1 : Int32)) hx hb dX5_of_104 (by decide) ?_
          refine lv_goto (tgt := 109) hx hb dX5_of_105 (by decide) ?_
          exact giret hx hb hr hlocks hK hP hS h dX5_of_109
  · have h := h.1 hc
    refine lv_sipush (v := (-1000 : Int32)) hx hb dX5_of_11 (by decide) ?_
    exact giret hx hb hr hlocks hK hP hS h dX5_of_14
set_option maxRecDepth 100000 in
set_option maxHeartbeats 4000000 in
theorem c_X2_sumOfGreys (l : Launch) (D : va_G) (cI cZ : ClassId) (adr : Nat → Nat) (A : Nat → Prop) (hD : ∀ u, va_D A (fw adr cI cZ u))  (u : US) (post : Int32 → US → Prop) (h : wp_X2_sumOfGreys  u post) : gMi l yX2_sumOfGreys wsX2_sumOfGreys 0 D cI cZ (fw adr cI cZ) A [.ref (adr 15)] u post := by
  refine Met.ofW (cc := cX2_sumOfGreys) (maxL := 3) (ret := (some .int)) (by decide) rfl ?_
  intro p e s m args below meth c s₁ B hml hv
  obtain ⟨rfl, hP, hK⟩ := hv
  have hx := B.exec
  have hb := B.bytes
  have hr := B.returns
  have hts := atoms_spec (ws := wsX2_sumOfGreys) B.pre
  have hown : s.vm.findClass RX2 = some m.cls := findClass_of_methodNamed B.named
  have hlocks := B.notSynchronized
  have hinX1 : ∀ w ∈ wsX10, w ∈ wsX2_sumOfGreys := by decide +kernel
  have hinX2 : ∀ w ∈ wsX20, w ∈ wsX2_sumOfGreys := by decide +kernel
  have hS : va_S A s.heap s.heap [] := va_S.rf
  have L4 : ∀ (n : Nat), ∀ (x1 : Int32) (x2 : Int32) (u : US) (H : Heap) (locs : List Loc) (ls : Array Slot), lv_has ls 3 [(0, .ref (adr 15)), (1, .int x1), (2, .int x2)] → va_P D vwCl (fw adr cI cZ u) H → va_S A s.heap H locs → wp_X2_sumOfGreys_4  post n x1 x2 u → gWi p l e wsX2_sumOfGreys 0 s m [.ref (adr 15)] below meth c D cI cZ (fw adr cI cZ) A post H locs (F0 m 4 ls []) := by
    intro  n
    induction n with
    | zero => intro x1 x2 u H locs ls hl hP hS h; exact False.elim h
    | succ n ih =>
      intro x1 x2 u H locs ls hl hP hS h
      refine lv_iload_n hx hb dX2_sumOfGreys_4 rfl (lv_at hl 2 rfl) ?_
      refine lv_aload_n hx hb dX2_sumOfGreys_5 rfl (lv_at hl 0 rfl) ?_
      refine fwg_15_0 hx hb hts hinX2 hown hK hP (hts (.fieldLink RX2 9 "FilmBench$Sheet" "film" "LFilmBench$Reel;") (by decide +kernel)) dX2_sumOfGreys_6 ?_
      refine fwg_1_2 (v := (u.1 3)) hx hb hts hinX1 hown hK hP (hts (.fieldLink RX2 32 "FilmBench$Reel" "squares" "I") (by decide +kernel)) dX2_sumOfGreys_9 rfl ?_
      refine lv_icmp_ge (tgt := 40) hx hb dX2_sumOfGreys_12 (by decide) (fun hc => ?_) (fun hc => ?_)
      · have h := h.1 hc
        refine lv_iload_n hx hb dX2_sumOfGreys_40 rfl (lv_at hl 1 rfl) ?_
        exact giret hx hb hr hlocks hK hP hS h dX2_sumOfGreys_41
      · have h := h.2 hc
        refine lv_aload_n hx hb dX2_sumOfGreys_15 rfl (lv_at hl 0 rfl) ?_
        refine fwg_15_3 hx hb hts hinX2 hown hK hP (hts (.fieldLink RX2 23 "FilmBench$Sheet" "now" "[I") (by decide +kernel)) dX2_sumOfGreys_16 ?_
        refine lv_iload_n hx hb dX2_sumOfGreys_19 rfl (lv_at hl 2 rfl) ?_
        refine fwl_16 (v := ((u.2 16) x2.toNatClampNeg)) hx hb hK hP h.1 dX2_sumOfGreys_20 rfl ?_
        have h := h.2
        refine lv_iconst (v := (-1 : Int32)) hx hb dX2_sumOfGreys_21 (by decide) ?_
        refine lv_icmp_eq (tgt := 34) hx hb dX2_sumOfGreys_22 (by decide) (fun hc => ?_) (fun hc => ?_)
        · have h := h.1 hc
          refine lv_iinc (v := (x2 + 1)) (lv' := [(2, .int (x2 + 1)), (0, .ref (adr 15)), (1, .int x1)]) hx hb dX2_sumOfGreys_34 hl (k := 2) rfl (congrArg (HAdd.hAdd _) (show Int32.ofInt (1) = (1 : Int32) by decide)) (by decide) rfl (fun ls hl => ?_)
          refine lv_goto (tgt := 4) hx hb dX2_sumOfGreys_37 (by decide) ?_
          exact ih x1 (x2 + 1) u _ _ _ (lv_sub hl [1, 2, 0] rfl) hP hS h
        · have h := h.2 hc
          refine lv_iload_n hx hb dX2_sumOfGreys_25 rfl (lv_at hl 1 rfl) ?_
          refine lv_aload_n hx hb dX2_sumOfGreys_26 rfl (lv_at hl 0 rfl) ?_
          refine fwg_15_3 hx hb hts hinX2 hown hK hP (hts (.fieldLink RX2 23 "FilmBench$Sheet" "now" "[I") (by decide +kernel)) dX2_sumOfGreys_27 ?_
          refine lv_iload_n hx hb dX2_sumOfGreys_30 rfl (lv_at hl 2 rfl) ?_
          refine fwl_16 (v := ((u.2 16) x2.toNatClampNeg)) hx hb hK hP h.1 dX2_sumOfGreys_31 rfl ?_
          have h := h.2
          refine lv_iadd hx hb dX2_sumOfGreys_32 ?_
          refine lv_istore_n (lv' := [(1, .int (x1 + ((u.2 16) x2.toNatClampNeg))), (0, .ref (adr 15)), (2, .int x2)]) hx hb dX2_sumOfGreys_33 rfl hl (by decide) rfl (fun ls hl => ?_)
          refine lv_iinc (v := (x2 + 1)) (lv' := [(2, .int (x2 + 1)), (1, .int (x1 + ((u.2 16) x2.toNatClampNeg))), (0, .ref (adr 15))]) hx hb dX2_sumOfGreys_34 hl (k := 2) rfl (congrArg (HAdd.hAdd _) (show Int32.ofInt (1) = (1 : Int32) by decide)) (by decide) rfl (fun ls hl => ?_)
          refine lv_goto (tgt := 4) hx hb dX2_sumOfGreys_37 (by decide) ?_
          exact ih (x1 + ((u.2 16) x2.toNatClampNeg)) (x2 + 1) u _ _ _ (lv_sub hl [2, 1, 0] rfl) hP hS h
  have hl := lv_entry ([.ref (adr 15)]) (n := 3) (Nat.le_of_ble_eq_true rfl)
  rw [lg_entry_eq]
  generalize (lg_sl ([.ref (adr 15)]) ++ List.replicate (3 - (lg_sl ([.ref (adr 15)])).length) Slot.unset).toArray = ls at hl ⊢
  replace hl : lv_has ls 3 [(0, .ref (adr 15))] := hl
  refine lv_iconst (v := (0 : Int32)) hx hb dX2_sumOfGreys_0 (by decide) ?_
  refine lv_istore_n (lv' := [(1, .int (0 : Int32)), (0, .ref (adr 15))]) hx hb dX2_sumOfGreys_1 rfl hl (by decide) rfl (fun ls hl => ?_)
  refine lv_iconst (v := (0 : Int32)) hx hb dX2_sumOfGreys_2 (by decide) ?_
  refine lv_istore_n (lv' := [(2, .int (0 : Int32)), (1, .int (0 : Int32)), (0, .ref (adr 15))]) hx hb dX2_sumOfGreys_3 rfl hl (by decide) rfl (fun ls hl => ?_)
  obtain ⟨n, h⟩ := h
  exact L4  n (0 : Int32) (0 : Int32) u _ _ _ (lv_sub hl [2, 1, 0] rfl) hP hS h
set_option maxRecDepth 100000 in
set_option maxHeartbeats 4000000 in
theorem c_X2_leastGrey (l : Launch) (D : va_G) (cI cZ : ClassId) (adr : Nat → Nat) (A : Nat → Prop) (hD : ∀ u, va_D A (fw adr cI cZ u))  (u : US) (post : Int32 → US → Prop) (h : wp_X2_leastGrey  u post) : gMi l yX2_leastGrey wsX2_leastGrey 1 D cI cZ (fw adr cI cZ) A [.ref (adr 15)] u post := by
  refine Met.ofW (cc := cX2_leastGrey) (maxL := 3) (ret := (some .int)) (by decide) rfl ?_
  intro p e s m args below meth c s₁ B hml hv
  obtain ⟨rfl, hP, hK⟩ := hv
  have hx := B.exec
  have hb := B.bytes
  have hr := B.returns
  have hts := atoms_spec (ws := wsX2_leastGrey) B.pre
  have hown : s.vm.findClass RX2 = some m.cls := findClass_of_methodNamed B.named
  have hlocks := B.notSynchronized
  have hinX1 : ∀ w ∈ wsX10, w ∈ wsX2_leastGrey := by decide +kernel
  have hinX2 : ∀ w ∈ wsX20, w ∈ wsX2_leastGrey := by decide +kernel
  have hS : va_S A s.heap s.heap [] := va_S.rf
  have L5 : ∀ (n : Nat), ∀ (x1 : Int32) (x2 : Int32) (u : US) (H : Heap) (locs : List Loc) (ls : Array Slot), lv_has ls 3 [(0, .ref (adr 15)), (1, .int x1), (2, .int x2)] → va_P D vwCl (fw adr cI cZ u) H → va_S A s.heap H locs → wp_X2_leastGrey_5  post n x1 x2 u → gWi p l e wsX2_leastGrey 1 s m [.ref (adr 15)] below meth c D cI cZ (fw adr cI cZ) A post H locs (F0 m 5 ls []) := by
    intro  n
    induction n with
    | zero => intro x1 x2 u H locs ls hl hP hS h; exact False.elim h
    | succ n ih =>
      intro x1 x2 u H locs ls hl hP hS h
      refine lv_iload_n hx hb dX2_leastGrey_5 rfl (lv_at hl 2 rfl) ?_
      refine lv_aload_n hx hb dX2_leastGrey_6 rfl (lv_at hl 0 rfl) ?_
      refine fwg_15_0 hx hb hts hinX2 hown hK hP (hts (.fieldLink RX2 9 "FilmBench$Sheet" "film" "LFilmBench$Reel;") (by decide +kernel)) dX2_leastGrey_7 ?_
      refine fwg_1_2 (v := (u.1 3)) hx hb hts hinX1 hown hK hP (hts (.fieldLink RX2 32 "FilmBench$Reel" "squares" "I") (by decide +kernel)) dX2_leastGrey_10 rfl ?_
      refine lv_icmp_ge (tgt := 43) hx hb dX2_leastGrey_13 (by decide) (fun hc => ?_) (fun hc => ?_)
      · have h := h.1 hc
        refine lv_iload_n hx hb dX2_leastGrey_43 rfl (lv_at hl 1 rfl) ?_
        exact giret hx hb hr hlocks hK hP hS h dX2_leastGrey_44
      · have h := h.2 hc
        refine lv_aload_n hx hb dX2_leastGrey_16 rfl (lv_at hl 0 rfl) ?_
        refine fwg_15_3 hx hb hts hinX2 hown hK hP (hts (.fieldLink RX2 23 "FilmBench$Sheet" "now" "[I") (by decide +kernel)) dX2_leastGrey_17 ?_
        refine lv_iload_n hx hb dX2_leastGrey_20 rfl (lv_at hl 2 rfl) ?_
        refine fwl_16 (v := ((u.2 16) x2.toNatClampNeg)) hx hb hK hP h.1 dX2_leastGrey_21 rfl ?_
        have h := h.2
        refine lv_iconst (v := (-1 : Int32)) hx hb dX2_leastGrey_22 (by decide) ?_
        refine lv_icmp_eq (tgt := 37) hx hb dX2_leastGrey_23 (by decide) (fun hc => ?_) (fun hc => ?_)
        · have h := h.1 hc
          refine lv_iinc (v := (x2 + 1)) (lv' := [(2, .int (x2 + 1)), (0, .ref (adr 15)), (1, .int x1)]) hx hb dX2_leastGrey_37 hl (k := 2) rfl (congrArg (HAdd.hAdd _) (show Int32.ofInt (1) = (1 : Int32) by decide)) (by decide) rfl (fun ls hl => ?_)
          refine lv_goto (tgt := 5) hx hb dX2_leastGrey_40 (by decide) ?_
          exact ih x1 (x2 + 1) u _ _ _ (lv_sub hl [1, 2, 0] rfl) hP hS h
        · have h := h.2 hc
          refine lv_iload_n hx hb dX2_leastGrey_26 rfl (lv_at hl 1 rfl) ?_
          refine lv_aload_n hx hb dX2_leastGrey_27 rfl (lv_at hl 0 rfl) ?_
          refine fwg_15_3 hx hb hts hinX2 hown hK hP (hts (.fieldLink RX2 23 "FilmBench$Sheet" "now" "[I") (by decide +kernel)) dX2_leastGrey_28 ?_
          refine lv_iload_n hx hb dX2_leastGrey_31 rfl (lv_at hl 2 rfl) ?_
          refine fwl_16 (v := ((u.2 16) x2.toNatClampNeg)) hx hb hK hP h.1 dX2_leastGrey_32 rfl ?_
          have h := h.2
          refine gmin hx hb (hml.trans hl.1.symm) (own := RX2) hown hts (by decide +kernel) (Nat.le_of_ble_eq_true rfl) (Nat.le_of_ble_eq_true rfl) (Nat.zero_le _) (Nat.zero_le _) dX2_leastGrey_33 ?_
          refine lv_istore_n (lv' := [(1, .int (jmin x1 ((u.2 16) x2.toNatClampNeg))), (0, .ref (adr 15)), (2, .int x2)]) hx hb dX2_leastGrey_36 rfl hl (by decide) rfl (fun ls hl => ?_)
          refine lv_iinc (v := (x2 + 1)) (lv' := [(2, .int (x2 + 1)), (1, .int (jmin x1 ((u.2 16) x2.toNatClampNeg))), (0, .ref (adr 15))]) hx hb dX2_leastGrey_37 hl (k := 2) rfl (congrArg (HAdd.hAdd _) (show Int32.ofInt (1) = (1 : Int32) by decide)) (by decide) rfl (fun ls hl => ?_)
          refine lv_goto (tgt := 5) hx hb dX2_leastGrey_40 (by decide) ?_
          exact ih (jmin x1 ((u.2 16) x2.toNatClampNeg)) (x2 + 1) u _ _ _ (lv_sub hl [2, 1, 0] rfl) hP hS h
  have hl := lv_entry ([.ref (adr 15)]) (n := 3) (Nat.le_of_ble_eq_true rfl)
  rw [lg_entry_eq]
  generalize (lg_sl ([.ref (adr 15)]) ++ List.replicate (3 - (lg_sl ([.ref (adr 15)])).length) Slot.unset).toArray = ls at hl ⊢
  replace hl : lv_has ls 3 [(0, .ref (adr 15))] := hl
  refine lv_bipush (v := (63 : Int32)) hx hb dX2_leastGrey_0 (by decide) ?_
  refine lv_istore_n (lv' := [(1, .int (63 : Int32)), (0, .ref (adr 15))]) hx hb dX2_leastGrey_2 rfl hl (by decide) rfl (fun ls hl => ?_)
  refine lv_iconst (v := (0 : Int32)) hx hb dX2_leastGrey_3 (by decide) ?_
  refine lv_istore_n (lv' := [(2, .int (0 : Int32)), (1, .int (63 : Int32)), (0, .ref (adr 15))]) hx hb dX2_leastGrey_4 rfl hl (by decide) rfl (fun ls hl => ?_)
  obtain ⟨n, h⟩ := h
  exact L5  n (63 : Int32) (0 : Int32) u _ _ _ (lv_sub hl [2, 1, 0] rfl) hP hS h
set_option maxRecDepth 100000 in
set_option maxHeartbeats 4000000 in
theorem c_X2_greatestGrey (l : Launch) (D : va_G) (cI cZ : ClassId) (adr : Nat → Nat) (A : Nat → Prop) (hD : ∀ u, va_D A (fw adr cI cZ u))  (u : US) (post : Int32 → US → Prop) (h : wp_X2_greatestGrey  u post) : gMi l yX2_greatestGrey wsX2_greatestGrey 1 D cI cZ (fw adr cI cZ) A [.ref (adr 15)] u post := by
  refine Met.ofW (cc := cX2_greatestGrey) (maxL := 3) (ret := (some .int)) (by decide) rfl ?_
  intro p e s m args below meth c s₁ B hml hv
  obtain ⟨rfl, hP, hK⟩ := hv
  have hx := B.exec
  have hb := B.bytes
  have hr := B.returns
  have hts := atoms_spec (ws := wsX2_greatestGrey) B.pre
  have hown : s.vm.findClass RX2 = some m.cls := findClass_of_methodNamed B.named
  have hlocks := B.notSynchronized
  have hinX1 : ∀ w ∈ wsX10, w ∈ wsX2_greatestGrey := by decide +kernel
  have hinX2 : ∀ w ∈ wsX20, w ∈ wsX2_greatestGrey := by decide +kernel
  have hS : va_S A s.heap s.heap [] := va_S.rf
  have L4 : ∀ (n : Nat), ∀ (x1 : Int32) (x2 : Int32) (u : US) (H : Heap) (locs : List Loc) (ls : Array Slot), lv_has ls 3 [(0, .ref (adr 15)), (1, .int x1), (2, .int x2)] → va_P D vwCl (fw adr cI cZ u) H → va_S A s.heap H locs → wp_X2_greatestGrey_4  post n x1 x2 u → gWi p l e wsX2_greatestGrey 1 s m [.ref (adr 15)] below meth c D cI cZ (fw adr cI cZ) A post H locs (F0 m 4 ls []) := by
    intro  n
    induction n with
    | zero => intro x1 x2 u H locs ls hl hP hS h; exact False.elim h
    | succ n ih =>
      intro x1 x2 u H locs ls hl hP hS h
      refine lv_iload_n hx hb dX2_greatestGrey_4 rfl (lv_at hl 2 rfl) ?_
      refine lv_aload_n hx hb dX2_greatestGrey_5 rfl (lv_at hl 0 rfl) ?_
      refine fwg_15_0 hx hb hts hinX2 hown hK hP (hts (.fieldLink RX2 9 "FilmBench$Sheet" "film" "LFilmBench$Reel;") (by decide +kernel)) dX2_greatestGrey_6 ?_
      refine fwg_1_2 (v := (u.1 3)) hx hb hts hinX1 hown hK hP (hts (.fieldLink RX2 32 "FilmBench$Reel" "squares" "I") (by decide +kernel)) dX2_greatestGrey_9 rfl ?_
      refine lv_icmp_ge (tgt := 32) hx hb dX2_greatestGrey_12 (by decide) (fun hc => ?_) (fun hc => ?_)
      · have h := h.1 hc
        refine lv_iload_n hx hb dX2_greatestGrey_32 rfl (lv_at hl 1 rfl) ?_
        exact giret hx hb hr hlocks hK hP hS h dX2_greatestGrey_33
      · have h := h.2 hc
        refine lv_iload_n hx hb dX2_greatestGrey_15 rfl (lv_at hl 1 rfl) ?_
        refine lv_aload_n hx hb dX2_greatestGrey_16 rfl (lv_at hl 0 rfl) ?_
        refine fwg_15_3 hx hb hts hinX2 hown hK hP (hts (.fieldLink RX2 23 "FilmBench$Sheet" "now" "[I") (by decide +kernel)) dX2_greatestGrey_17 ?_
        refine lv_iload_n hx hb dX2_greatestGrey_20 rfl (lv_at hl 2 rfl) ?_
        refine fwl_16 (v := ((u.2 16) x2.toNatClampNeg)) hx hb hK hP h.1 dX2_greatestGrey_21 rfl ?_
        have h := h.2
        refine gmax hx hb (hml.trans hl.1.symm) (own := RX2) hown hts (by decide +kernel) (Nat.le_of_ble_eq_true rfl) (Nat.le_of_ble_eq_true rfl) (Nat.zero_le _) (Nat.zero_le _) dX2_greatestGrey_22 ?_
        refine lv_istore_n (lv' := [(1, .int (jmax x1 ((u.2 16) x2.toNatClampNeg))), (0, .ref (adr 15)), (2, .int x2)]) hx hb dX2_greatestGrey_25 rfl hl (by decide) rfl (fun ls hl => ?_)
        refine lv_iinc (v := (x2 + 1)) (lv' := [(2, .int (x2 + 1)), (1, .int (jmax x1 ((u.2 16) x2.toNatClampNeg))), (0, .ref (adr 15))]) hx hb dX2_greatestGrey_26 hl (k := 2) rfl (congrArg (HAdd.hAdd _) (show Int32.ofInt (1) = (1 : Int32) by decide)) (by decide) rfl (fun ls hl => ?_)
        refine lv_goto (tgt := 4) hx hb dX2_greatestGrey_29 (by decide) ?_
        exact ih (jmax x1 ((u.2 16) x2.toNatClampNeg)) (x2 + 1) u _ _ _ (lv_sub hl [2, 1, 0] rfl) hP hS h
  have hl := lv_entry ([.ref (adr 15)]) (n := 3) (Nat.le_of_ble_eq_true rfl)
  rw [lg_entry_eq]
  generalize (lg_sl ([.ref (adr 15)]) ++ List.replicate (3 - (lg_sl ([.ref (adr 15)])).length) Slot.unset).toArray = ls at hl ⊢
  replace hl : lv_has ls 3 [(0, .ref (adr 15))] := hl
  refine lv_iconst (v := (0 : Int32)) hx hb dX2_greatestGrey_0 (by decide) ?_
  refine lv_istore_n (lv' := [(1, .int (0 : Int32)), (0, .ref (adr 15))]) hx hb dX2_greatestGrey_1 rfl hl (by decide) rfl (fun ls hl => ?_)
  refine lv_iconst (v := (0 : Int32)) hx hb dX2_greatestGrey_2 (by decide) ?_
  refine lv_istore_n (lv' := [(2, .int (0 : Int32)), (1, .int (0 : Int32)), (0, .ref (adr 15))]) hx hb dX2_greatestGrey_3 rfl hl (by decide) rfl (fun ls hl => ?_)
  obtain ⟨n, h⟩ := h
  exact L4  n (0 : Int32) (0 : Int32) u _ _ _ (lv_sub hl [2, 1, 0] rfl) hP hS h
