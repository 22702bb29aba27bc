set_option maxRecDepth 100000 in
set_option maxHeartbeats 4000000 in
theorem c_X6_told (l : Launch) (D : va_G) (cI cZ : ClassId) (adr : Nat → Nat) (A : Nat → Prop) (hD : ∀ u, va_D A (mw adr cI cZ u)) (p1 : Int32) (p2 : Int32) (u : US) (post : Int32 → US → Prop) (h : wp_X6_told p1 p2 u post) : gMi l yX6_told wsX6_told 5 D cI cZ (mw adr cI cZ) A [.ref (adr 0), .int p1, .int p2] u post := by
  refine Met.ofW (cc := cX6_told) (maxL := 11) (ret := (some .int)) (by decide) rfl ?_
  intro p e s m args below meth c s₁ B hml hv
  obtain ⟨rfl, hP, hK⟩ := hv
  have hx := B.exec
  have hb := B.bytes
  have hr := B.returns
  have hts := atoms_spec (ws := wsX6_told) B.pre
  have hown : s.vm.findClass RX6 = some m.cls := findClass_of_methodNamed B.named
  have hlocks := B.notSynchronized
  have hinX6 : ∀ w ∈ wsX60, w ∈ wsX6_told := by decide +kernel
  have hS : va_S A s.heap s.heap [] := va_S.rf
  have L128 : ∀ (k45 : Int32 → Int32 → Int32 → Int32 → Int32 → Int32 → Int32 → Int32 → US → Prop) (hk45 : ∀ (x1 : Int32) (x2 : Int32) (x4 : Int32) (x5 : Int32) (x6 : Int32) (x7 : Int32) (x8 : Int32) (x9 : Int32) (u : US) (H : Heap) (locs : List Loc) (ls : Array Slot), lv_has ls 11 [(0, .ref (adr 0)), (1, .int x1), (2, .int x2), (4, .int x4), (5, .int x5), (6, .int x6), (7, .int x7), (8, .int x8), (9, .int x9)] → va_P D vwCl (mw adr cI cZ u) H → va_S A s.heap H locs → k45 x1 x2 x4 x5 x6 x7 x8 x9 u → gWi p l e wsX6_told 5 s m [.ref (adr 0), .int p1, .int p2] below meth c D cI cZ (mw adr cI cZ) A post H locs (F0 m 45 ls [])), ∀ (s0 : Int32) (x1 : Int32) (x2 : Int32) (x4 : Int32) (x5 : Int32) (x7 : Int32) (x8 : Int32) (x9 : Int32) (x10 : Int32) (u : US) (H : Heap) (locs : List Loc) (ls : Array Slot), lv_has ls 11 [(0, .ref (adr 0)), (1, .int x1), (2, .int x2), (4, .int x4), (5, .int x5), (7, .int x7), (8, .int x8), (9, .int x9), (10, .int x10)] → va_P D vwCl (mw adr cI cZ u) H → va_S A s.heap H locs → wp_X6_told_128 k45 post s0 x1 x2 x4 x5 x7 x8 x9 x10 u → gWi p l e wsX6_told 5 s m [.ref (adr 0), .int p1, .int p2] below meth c D cI cZ (mw adr cI cZ) A post H locs (F0 m 128 ls [.int s0]) := by
    intro k45 hk45 s0 x1 x2 x4 x5 x7 x8 x9 x10 u H locs ls hl hP hS h
    refine lv_istore (lv' := [(6, .int s0), (0, .ref (adr 0)), (1, .int x1), (2, .int x2), (4, .int x4), (5, .int x5), (7, .int x7), (8, .int x8), (9, .int x9), (10, .int x10)]) hx hb dX6_told_128 hl (by decide) rfl (fun ls hl => ?_)
    refine lv_iload hx hb dX6_told_130 (lv_at hl 9 rfl) ?_
    refine lv_iload hx hb dX6_told_132 (lv_at hl 6 rfl) ?_
    refine lv_icmp_le (tgt := 142) hx hb dX6_told_134 (by decide) (fun hc => ?_) (fun hc => ?_)
    · have h := h.1 hc
      refine lv_iload hx hb dX6_told_142 (lv_at hl 6 rfl) ?_
      refine lv_istore (lv' := [(7, .int x7), (6, .int s0), (0, .ref (adr 0)), (1, .int x1), (2, .int x2), (4, .int x4), (5, .int x5), (8, .int x8), (9, .int x9), (10, .int x10)]) hx hb dX6_told_144 hl (by decide) rfl (fun ls hl => ?_)
      refine lv_iinc (v := (x9 + 1)) (lv' := [(9, .int (x9 + 1)), (7, .int x7), (6, .int s0), (0, .ref (adr 0)), (1, .int x1), (2, .int x2), (4, .int x4), (5, .int x5), (8, .int x8), (10, .int x10)]) hx hb dX6_told_146 hl (k := 8) rfl (congrArg (HAdd.hAdd _) (show Int32.ofInt (1) = (1 : Int32) by decide)) (by decide) rfl (fun ls hl => ?_)
      refine lv_goto (tgt := 45) hx hb dX6_told_149 (by decide) ?_
      exact hk45 x1 x2 x4 x5 s0 x7 x8 (x9 + 1) u _ _ _ (lv_sub hl [3, 4, 5, 6, 7, 2, 1, 8, 0] rfl) hP hS h
    · have h := h.2 hc
      refine lv_iload hx hb dX6_told_137 (lv_at hl 9 rfl) ?_
      refine lv_goto (tgt := 144) hx hb dX6_told_139 (by decide) ?_
      refine lv_istore (lv' := [(7, .int x10), (6, .int s0), (0, .ref (adr 0)), (1, .int x1), (2, .int x2), (4, .int x4), (5, .int x5), (8, .int x8), (9, .int x9), (10, .int x10)]) hx hb dX6_told_144 hl (by decide) rfl (fun ls hl => ?_)
      refine lv_iinc (v := (x9 + 1)) (lv' := [(9, .int (x9 + 1)), (7, .int x10), (6, .int s0), (0, .ref (adr 0)), (1, .int x1), (2, .int x2), (4, .int x4), (5, .int x5), (8, .int x8), (10, .int x10)]) hx hb dX6_told_146 hl (k := 8) rfl (congrArg (HAdd.hAdd _) (show Int32.ofInt (1) = (1 : Int32) by decide)) (by decide) rfl (fun ls hl => ?_)
      refine lv_goto (tgt := 45) hx hb dX6_told_149 (by decide) ?_
      exact hk45 x1 x2 x4 x5 s0 x10 x8 (x9 + 1) u _ _ _ (lv_sub hl [3, 4, 5, 6, 7, 2, 1, 8, 0] rfl) hP hS h
  have L92 : ∀ (k45 : Int32 → Int32 → Int32 → Int32 → Int32 → Int32 → Int32 → Int32 → US → Prop) (hk45 : ∀ (x1 : Int32) (x2 : Int32) (x4 : Int32) (x5 : Int32) (x6 : Int32) (x7 : Int32) (x8 : Int32) (x9 : Int32) (u : US) (H : Heap) (locs : List Loc) (ls : Array Slot), lv_has ls 11 [(0, .ref (adr 0)), (1, .int x1), (2, .int x2), (4, .int x4), (5, .int x5), (6, .int x6), (7, .int x7), (8, .int x8), (9, .int x9)] → va_P D vwCl (mw adr cI cZ u) H → va_S A s.heap H locs → k45 x1 x2 x4 x5 x6 x7 x8 x9 u → gWi p l e wsX6_told 5 s m [.ref (adr 0), .int p1, .int p2] below meth c D cI cZ (mw adr cI cZ) A post H locs (F0 m 45 ls [])), ∀ (s0 : Int32) (s1 : Int32) (x1 : Int32) (x2 : Int32) (x4 : Int32) (x5 : Int32) (x6 : Int32) (x7 : Int32) (x9 : Int32) (x10 : Int32) (u : US) (H : Heap) (locs : List Loc) (ls : Array Slot), lv_has ls 11 [(0, .ref (adr 0)), (1, .int x1), (2, .int x2), (4, .int x4), (5, .int x5), (6, .int x6), (7, .int x7), (9, .int x9), (10, .int x10)] → va_P D vwCl (mw adr cI cZ u) H → va_S A s.heap H locs → wp_X6_told_92 k45 post s0 s1 x1 x2 x4 x5 x6 x7 x9 x10 u → gWi p l e wsX6_told 5 s m [.ref (adr 0), .int p1, .int p2] below meth c D cI cZ (mw adr cI cZ) A post H locs (F0 m 92 ls [.int s0, .int s1]) := by
    intro k45 hk45 s0 s1 x1 x2 x4 x5 x6 x7 x9 x10 u H locs ls hl hP hS h
    refine lv_iadd hx hb dX6_told_92 ?_
    refine lv_istore (lv' := [(8, .int (s1 + s0)), (0, .ref (adr 0)), (1, .int x1), (2, .int x2), (4, .int x4), (5, .int x5), (6, .int x6), (7, .int x7), (9, .int x9), (10, .int x10)]) hx hb dX6_told_93 hl (by decide) rfl (fun ls hl => ?_)
    refine lv_iload hx hb dX6_told_95 (lv_at hl 9 rfl) ?_
    refine lv_iconst (v := (-1 : Int32)) hx hb dX6_told_97 (by decide) ?_
    refine lv_icmp_ne (tgt := 107) hx hb dX6_told_98 (by decide) (fun hc => ?_) (fun hc => ?_)
    · have h := h.2 hc
      refine lv_iload hx hb dX6_told_107 (lv_at hl 5 rfl) ?_
      refine lv_iload hx hb dX6_told_109 (lv_at hl 9 rfl) ?_
      refine lv_iadd hx hb dX6_told_111 ?_
      refine lv_istore (lv' := [(5, .int (x5 + x10)), (8, .int (s1 + s0)), (0, .ref (adr 0)), (1, .int x1), (2, .int x2), (4, .int x4), (6, .int x6), (7, .int x7), (9, .int x9), (10, .int x10)]) hx hb dX6_told_112 hl (by decide) rfl (fun ls hl => ?_)
      refine lv_iload hx hb dX6_told_114 (lv_at hl 9 rfl) ?_
      refine lv_iload hx hb dX6_told_116 (lv_at hl 6 rfl) ?_
      refine lv_icmp_ge (tgt := 126) hx hb dX6_told_118 (by decide) (fun hc => ?_) (fun hc => ?_)
      · have h := h.1 hc
        refine lv_iload hx hb dX6_told_126 (lv_at hl 6 rfl) ?_
        exact L128 _ hk45 x6 x1 x2 x4 (x5 + x10) x7 (s1 + s0) x9 x10 u _ _ _ (lv_sub hl [2, 3, 4, 5, 0, 7, 1, 8, 9] rfl) hP hS h
      · have h := h.2 hc
        refine lv_iload hx hb dX6_told_121 (lv_at hl 9 rfl) ?_
        refine lv_goto (tgt := 128) hx hb dX6_told_123 (by decide) ?_
        exact L128 _ hk45 x10 x1 x2 x4 (x5 + x10) x7 (s1 + s0) x9 x10 u _ _ _ (lv_sub hl [2, 3, 4, 5, 0, 7, 1, 8, 9] rfl) hP hS h
    · have h := h.1 hc
      refine lv_iinc (v := (x4 + 1)) (lv' := [(4, .int (x4 + 1)), (8, .int (s1 + s0)), (0, .ref (adr 0)), (1, .int x1), (2, .int x2), (5, .int x5), (6, .int x6), (7, .int x7), (9, .int x9), (10, .int x10)]) hx hb dX6_told_101 hl (k := 4) rfl (congrArg (HAdd.hAdd _) (show Int32.ofInt (1) = (1 : Int32) by decide)) (by decide) rfl (fun ls hl => ?_)
      refine lv_goto (tgt := 146) hx hb dX6_told_104 (by decide) ?_
      refine lv_iinc (v := (x9 + 1)) (lv' := [(9, .int (x9 + 1)), (4, .int (x4 + 1)), (8, .int (s1 + s0)), (0, .ref (adr 0)), (1, .int x1), (2, .int x2), (5, .int x5), (6, .int x6), (7, .int x7), (10, .int x10)]) hx hb dX6_told_146 hl (k := 8) rfl (congrArg (HAdd.hAdd _) (show Int32.ofInt (1) = (1 : Int32) by decide)) (by decide) rfl (fun ls hl => ?_)
      refine lv_goto (tgt := 45) hx hb dX6_told_149 (by decide) ?_
      exact hk45 x1 x2 (x4 + 1) x5 x6 x7 (s1 + s0) (x9 + 1) u _ _ _ (lv_sub hl [3, 4, 5, 1, 6, 7, 8, 2, 0] rfl) hP hS h
  have L162 : ∀ (x2 : Int32) (x6 : Int32) (x7 : Int32) (u : US) (H : Heap) (locs : List Loc) (ls : Array Slot), lv_has ls 11 [(2, .int x2), (6, .int x6), (7, .int x7)] → va_P D vwCl (mw adr cI cZ u) H → va_S A s.heap H locs → wp_X6_told_162  post x2 x6 x7 u → gWi p l e wsX6_told 5 s m [.ref (adr 0), .int p1, .int p2] below meth c D cI cZ (mw adr cI cZ) A post H locs (F0 m 162 ls []) := by
    intro  x2 x6 x7 u H locs ls hl hP hS h
    refine lv_iload hx hb dX6_told_162 (lv_at hl 2 rfl) ?_
    refine lv_iconst (v := (-1 : Int32)) hx hb dX6_told_164 (by decide) ?_
    refine lv_icmp_ne (tgt := 173) hx hb dX6_told_165 (by decide) (fun hc => ?_) (fun hc => ?_)
    · have h := h.2 hc
      refine lv_iload_n hx hb dX6_told_173 rfl (lv_at hl 0 rfl) ?_
      refine lv_iconst (v := (2 : Int32)) hx hb dX6_told_174 (by decide) ?_
      refine lv_icmp_ne (tgt := 183) hx hb dX6_told_175 (by decide) (fun hc => ?_) (fun hc => ?_)
      · have h := h.2 hc
        refine lv_iload hx hb dX6_told_183 (lv_at hl 2 rfl) ?_
        exact giret hx hb hr hlocks hK hP hS h dX6_told_185
      · have h := h.1 hc
        refine lv_iload hx hb dX6_told_178 (lv_at hl 1 rfl) ?_
        refine lv_goto (tgt := 185) hx hb dX6_told_180 (by decide) ?_
        exact giret hx hb hr hlocks hK hP hS h dX6_told_185
    · have h := h.1 hc
      refine lv_bipush (v := (-3 : Int32)) hx hb dX6_told_168 (by decide) ?_
      refine lv_goto (tgt := 185) hx hb dX6_told_170 (by decide) ?_
      exact giret hx hb hr hlocks hK hP hS h dX6_told_185
  have L45 : ∀ (n : Nat), ∀ (x1 : Int32) (x2 : Int32) (x4 : Int32) (x5 : Int32) (x6 : Int32) (x7 : Int32) (x8 : Int32) (x9 : Int32) (u : US) (H : Heap) (locs : List Loc) (ls : Array Slot), lv_has ls 11 [(0, .ref (adr 0)), (1, .int x1), (2, .int x2), (4, .int x4), (5, .int x5), (6, .int x6), (7, .int x7), (8, .int x8), (9, .int x9)] → va_P D vwCl (mw adr cI cZ u) H → va_S A s.heap H locs → wp_X6_told_45  post n x1 x2 x4 x5 x6 x7 x8 x9 u → gWi p l e wsX6_told 5 s m [.ref (adr 0), .int p1, .int p2] below meth c D cI cZ (mw adr cI cZ) A post H locs (F0 m 45 ls []) := by
    intro  n
    induction n with
    | zero => intro x1 x2 x4 x5 x6 x7 x8 x9 u H locs ls hl hP hS h; exact False.elim h
    | succ n ih =>
      intro x1 x2 x4 x5 x6 x7 x8 x9 u H locs ls hl hP hS h
      refine lv_iload hx hb dX6_told_45 (lv_at hl 8 rfl) ?_
      refine lv_aload_n hx hb dX6_told_47 rfl (lv_at hl 0 rfl) ?_
      refine mwg_0_0 (v := (u.1 0)) hx hb hts hinX6 hown hK hP (hts (.fieldLink RX6 7 "FilmBenchModel" "high" "I") (by decide +kernel)) dX6_told_48 rfl ?_
      refine lv_aload_n hx hb dX6_told_51 rfl (lv_at hl 0 rfl) ?_
      refine mwg_0_1 (v := (u.1 1)) hx hb hts hinX6 hown hK hP (hts (.fieldLink RX6 13 "FilmBenchModel" "wide" "I") (by decide +kernel)) dX6_told_52 rfl ?_
      refine lv_imul hx hb dX6_told_55 ?_
      refine lv_icmp_ge (tgt := 152) hx hb dX6_told_56 (by decide) (fun hc => ?_) (fun hc => ?_)
      · have h := h.1 hc
        refine lv_iload_n hx hb dX6_told_152 rfl (lv_at hl 2 rfl) ?_
        refine lv_iconst (v := (2 : Int32)) hx hb dX6_told_153 (by decide) ?_
        refine lv_icmp_eq (tgt := 162) hx hb dX6_told_154 (by decide) (fun hc => ?_) (fun hc => ?_)
        · have h := h.1 hc
          exact L162  x2 x6 x7 u _ _ _ (lv_sub hl [2, 5, 6] rfl) hP hS h
        · have h := h.2 hc
          refine lv_iload_n hx hb dX6_told_157 rfl (lv_at hl 2 rfl) ?_
          refine lv_iconst (v := (3 : Int32)) hx hb dX6_told_158 (by decide) ?_
          refine lv_icmp_ne (tgt := 186) hx hb dX6_told_159 (by decide) (fun hc => ?_) (fun hc => ?_)
          · have h := h.2 hc
            refine lv_iload_n hx hb dX6_told_186 rfl (lv_at hl 2 rfl) ?_
            refine lv_if_ne (tgt := 195) hx hb dX6_told_187 (by decide) (fun hc => ?_) (fun hc => ?_)
            · have h := h.2 hc
              refine lv_iload_n hx hb dX6_told_195 rfl (lv_at hl 2 rfl) ?_
              refine lv_iconst (v := (1 : Int32)) hx hb dX6_told_196 (by decide) ?_
              refine lv_icmp_ne (tgt := 205) hx hb dX6_told_197 (by decide) (fun hc => ?_) (fun hc => ?_)
              · have h := h.2 hc
                refine lv_iload hx hb dX6_told_205 (lv_at hl 7 rfl) ?_
                exact giret hx hb hr hlocks hK hP hS h dX6_told_207
              · have h := h.1 hc
                refine lv_iload hx hb dX6_told_200 (lv_at hl 4 rfl) ?_
                refine lv_goto (tgt := 207) hx hb dX6_told_202 (by decide) ?_
                exact giret hx hb hr hlocks hK hP hS h dX6_told_207
            · have h := h.1 hc
              refine lv_iload hx hb dX6_told_190 (lv_at hl 3 rfl) ?_
              refine lv_goto (tgt := 207) hx hb dX6_told_192 (by decide) ?_
              exact giret hx hb hr hlocks hK hP hS h dX6_told_207
          · have h := h.1 hc
            exact L162  x2 x6 x7 u _ _ _ (lv_sub hl [2, 5, 6] rfl) hP hS h
      · have h := h.2 hc
        refine lv_aload_n hx hb dX6_told_59 rfl (lv_at hl 0 rfl) ?_
        refine mwg_0_31 hx hb hts hinX6 hown hK hP (hts (.fieldLink RX6 66 "FilmBenchModel" "made" "[I") (by decide +kernel)) dX6_told_60 ?_
        refine lv_iload hx hb dX6_told_63 (lv_at hl 8 rfl) ?_
        refine mwl_31 (v := ((u.2 31) x9.toNatClampNeg)) hx hb hK hP h.1 dX6_told_65 rfl ?_
        have h := h.2
        refine lv_istore (lv' := [(10, .int ((u.2 31) x9.toNatClampNeg)), (0, .ref (adr 0)), (1, .int x1), (2, .int x2), (4, .int x4), (5, .int x5), (6, .int x6), (7, .int x7), (8, .int x8), (9, .int x9)]) hx hb dX6_told_66 hl (by decide) rfl (fun ls hl => ?_)
        refine lv_iload hx hb dX6_told_68 (lv_at hl 8 rfl) ?_
        refine lv_iload hx hb dX6_told_70 (lv_at hl 0 rfl) ?_
        refine lv_aload_n hx hb dX6_told_72 rfl (lv_at hl 1 rfl) ?_
        refine mwg_0_3 hx hb hts hinX6 hown hK hP (hts (.fieldLink RX6 16 "FilmBenchModel" "raw" "[I") (by decide +kernel)) dX6_told_73 ?_
        refine lv_bipush (v := (36 : Int32)) hx hb dX6_told_76 (by decide) ?_
        refine lv_iload_n hx hb dX6_told_78 rfl (lv_at hl 2 rfl) ?_
        refine lv_imul hx hb dX6_told_79 ?_
        refine lv_iload hx hb dX6_told_80 (lv_at hl 9 rfl) ?_
        refine lv_iadd hx hb dX6_told_82 ?_
        refine mwl_3 (v := ((u.2 3) (((36 : Int32) * x1) + x9).toNatClampNeg)) hx hb hK hP h.1 dX6_told_83 rfl ?_
        have h := h.2
        refine lv_icmp_eq (tgt := 91) hx hb dX6_told_84 (by decide) (fun hc => ?_) (fun hc => ?_)
        · have h := h.1 hc
          refine lv_iconst (v := (0 : Int32)) hx hb dX6_told_91 (by decide) ?_
          exact L92 _ ih (0 : Int32) x8 x1 x2 x4 x5 x6 x7 x9 ((u.2 31) x9.toNatClampNeg) u _ _ _ (lv_sub hl [1, 2, 3, 4, 5, 6, 7, 9, 0] rfl) hP hS h
        · have h := h.2 hc
          refine lv_iconst (v := (1 : Int32)) hx hb dX6_told_87 (by decide) ?_
          refine lv_goto (tgt := 92) hx hb dX6_told_88 (by decide) ?_
          exact L92 _ ih (1 : Int32) x8 x1 x2 x4 x5 x6 x7 x9 ((u.2 31) x9.toNatClampNeg) u _ _ _ (lv_sub hl [1, 2, 3, 4, 5, 6, 7, 9, 0] rfl) hP hS h
  have hl := lv_entry ([.ref (adr 0), .int p1, .int p2]) (n := 11) (Nat.le_of_ble_eq_true rfl)
  rw [lg_entry_eq]
  generalize (lg_sl ([.ref (adr 0), .int p1, .int p2]) ++ List.replicate (11 - (lg_sl ([.ref (adr 0), .int p1, .int p2])).length) Slot.unset).toArray = ls at hl ⊢
  replace hl : lv_has ls 11 [(0, .ref (adr 0)), (1, .int p1), (2, .int p2)] := hl
  refine lv_aload_n hx hb dX6_told_0 rfl (lv_at hl 0 rfl) ?_
  refine lv_iload_n hx hb dX6_told_1 rfl (lv_at hl 1 rfl) ?_
  refine gcallVi (As := [.int p1]) (rest := []) ⟨hx, hb, hml, hown, hts⟩ (c_X6_isFrame l D cI cZ adr A hD p1 u _ h) (cwV 1 hts gX6_told_X6_isFrame rfl rfl rfl (by decide +kernel) ⟨Nat.le_of_ble_eq_true rfl, Nat.le_of_ble_eq_true rfl⟩) (va_recv hK hP (ci := 6) (q0 := 0) rfl rfl) hK hP hS rfl hl.1 rfl (Nat.le_of_ble_eq_true rfl) dX6_told_2 ⟨Nat.le_refl _, Nat.le_refl _⟩ (fun r2 u2 H locs h hP hS => ?_)
  refine lv_if_eq (tgt := 17) hx hb dX6_told_5 (by decide) (fun hc => ?_) (fun hc => ?_)
  · have h := h.1 hc
    refine lv_iconst (v := (-1 : Int32)) hx hb dX6_told_17 (by decide) ?_
    exact giret hx hb hr hlocks hK hP hS h dX6_told_18
  · have h := h.2 hc
    refine lv_iload_n hx hb dX6_told_8 rfl (lv_at hl 2 rfl) ?_
    refine lv_iconst (v := (0 : Int32)) hx hb dX6_told_9 (by decide) ?_
    refine lv_iconst (v := (4 : Int32)) hx hb dX6_told_10 (by decide) ?_
    refine gcallSi (As := [.int p2, .int (0 : Int32), .int (4 : Int32)]) (rest := []) ⟨hx, hb, hml, hown, hts⟩ (c_X6_in l D cI cZ adr A hD p2 (0 : Int32) (4 : Int32) u2 _ h) (va_cwS 3 hts gX6_told_X6_in rfl rfl rfl (by decide +kernel) ⟨Nat.le_of_ble_eq_true rfl, Nat.le_of_ble_eq_true rfl⟩) hK hP hS rfl hl.1 rfl (Nat.le_of_ble_eq_true rfl) dX6_told_11 ⟨Nat.le_refl _, Nat.le_refl _⟩ (fun r11 u11 H locs h hP hS => ?_)
    refine lv_if_ne (tgt := 19) hx hb dX6_told_14 (by decide) (fun hc => ?_) (fun hc => ?_)
    · have h := h.2 hc
      refine lv_aload_n hx hb dX6_told_19 rfl (lv_at hl 0 rfl) ?_
      refine lv_iload_n hx hb dX6_told_20 rfl (lv_at hl 1 rfl) ?_
      refine lv_iconst (v := (-1 : Int32)) hx hb dX6_told_21 (by decide) ?_
      refine gcallVi (As := [.int p1, .int (-1 : Int32)]) (rest := []) ⟨hx, hb, hml, hown, hts⟩ (c_X6_makes l D cI cZ adr A hD p1 (-1 : Int32) u11 _ h) (cwV 2 hts gX6_told_X6_makes rfl rfl rfl (by decide +kernel) ⟨Nat.le_of_ble_eq_true rfl, Nat.le_of_ble_eq_true rfl⟩) (va_recv hK hP (ci := 6) (q0 := 0) rfl rfl) hK hP hS rfl hl.1 rfl (Nat.le_of_ble_eq_true rfl) dX6_told_22 ⟨Nat.le_refl _, Nat.le_refl _⟩ (fun r22 u22 H locs h hP hS => ?_)
      refine lv_istore_n (lv' := [(3, .int r22), (0, .ref (adr 0)), (1, .int p1), (2, .int p2)]) hx hb dX6_told_25 rfl hl (by decide) rfl (fun ls hl => ?_)
      refine lv_iconst (v := (0 : Int32)) hx hb dX6_told_26 (by decide) ?_
      refine lv_istore (lv' := [(4, .int (0 : Int32)), (3, .int r22), (0, .ref (adr 0)), (1, .int p1), (2, .int p2)]) hx hb dX6_told_27 hl (by decide) rfl (fun ls hl => ?_)
      refine lv_iconst (v := (0 : Int32)) hx hb dX6_told_29 (by decide) ?_
      refine lv_istore (lv' := [(5, .int (0 : Int32)), (4, .int (0 : Int32)), (3, .int r22), (0, .ref (adr 0)), (1, .int p1), (2, .int p2)]) hx hb dX6_told_30 hl (by decide) rfl (fun ls hl => ?_)
      refine lv_bipush (v := (64 : Int32)) hx hb dX6_told_32 (by decide) ?_
      refine lv_istore (lv' := [(6, .int (64 : Int32)), (5, .int (0 : Int32)), (4, .int (0 : Int32)), (3, .int r22), (0, .ref (adr 0)), (1, .int p1), (2, .int p2)]) hx hb dX6_told_34 hl (by decide) rfl (fun ls hl => ?_)
      refine lv_iconst (v := (-1 : Int32)) hx hb dX6_told_36 (by decide) ?_
      refine lv_istore (lv' := [(7, .int (-1 : Int32)), (6, .int (64 : Int32)), (5, .int (0 : Int32)), (4, .int (0 : Int32)), (3, .int r22), (0, .ref (adr 0)), (1, .int p1), (2, .int p2)]) hx hb dX6_told_37 hl (by decide) rfl (fun ls hl => ?_)
      refine lv_iconst (v := (0 : Int32)) hx hb dX6_told_39 (by decide) ?_
      refine lv_istore (lv' := [(8, .int (0 : Int32)), (7, .int (-1 : Int32)), (6, .int (64 : Int32)), (5, .int (0 : Int32)), (4, .int (0 : Int32)), (3, .int r22), (0, .ref (adr 0)), (1, .int p1), (2, .int p2)]) hx hb dX6_told_40 hl (by decide) rfl (fun ls hl => ?_)
      refine lv_iconst (v := (0 : Int32)) hx hb dX6_told_42 (by decide) ?_
      refine lv_istore (lv' := [(9, .int (0 : Int32)), (8, .int (0 : Int32)), (7, .int (-1 : Int32)), (6, .int (64 : Int32)), (5, .int (0 : Int32)), (4, .int (0 : Int32)), (3, .int r22), (0, .ref (adr 0)), (1, .int p1), (2, .int p2)]) hx hb dX6_told_43 hl (by decide) rfl (fun ls hl => ?_)
      obtain ⟨n, h⟩ := h
      exact L45  n p1 p2 (0 : Int32) (0 : Int32) (64 : Int32) (-1 : Int32) (0 : Int32) (0 : Int32) u22 _ _ _ (lv_sub hl [7, 8, 9, 5, 4, 3, 2, 1, 0] rfl) hP hS h
    · have h := h.1 hc
      refine lv_iconst (v := (-1 : Int32)) hx hb dX6_told_17 (by decide) ?_
      exact giret hx hb hr hlocks hK hP hS h dX6_told_18
set_option maxRecDepth 100000 in
set_option maxHeartbeats 4000000 in
theorem c_X6_many (l : Launch) (D : va_G) (cI cZ : ClassId) (adr : Nat → Nat) (A : Nat → Prop) (hD : ∀ u, va_D A (mw adr cI cZ u)) (p1 : Int32) (u : US) (post : Int32 → US → Prop) (h : wp_X6_many p1 u post) : gMi l yX6_many wsX6_many 0 D cI cZ (mw adr cI cZ) A [.ref (adr 0), .int p1] u post := by
  refine Met.ofW (cc := cX6_many) (maxL := 5) (ret := (some .int)) (by decide) rfl ?_
  intro p e s m args below meth c s₁ B hml hv
  obtain ⟨rfl, hP, hK⟩ := hv
  have hx := B.exec
  have hb := B.bytes
  have hr := B.returns
  have hts := atoms_spec (ws := wsX6_many) B.pre
  have hown : s.vm.findClass RX6 = some m.cls := findClass_of_methodNamed B.named
  have hlocks := B.notSynchronized
  have hinX6 : ∀ w ∈ wsX60, w ∈ wsX6_many := by decide +kernel
  have hS : va_S A s.heap s.heap [] := va_S.rf
  have L74 : ∀ (n : Nat), ∀ (x2 : Int32) (x3 : Int32) (u : US) (H : Heap) (locs : List Loc) (ls : Array Slot), lv_has ls 5 [(0, .ref (adr 0)), (2, .int x2), (3, .int x3)] → va_P D vwCl (mw adr cI cZ u) H → va_S A s.heap H locs → wp_X6_many_74  post n x2 x3 u → gWi p l e wsX6_many 0 s m [.ref (adr 0), .int p1] below meth c D cI cZ (mw adr cI cZ) A post H locs (F0 m 74 ls []) := by
    intro  n
    induction n with
    | zero => intro x2 x3 u H locs ls hl hP hS h; exact False.elim h
    | succ n ih =>
      intro x2 x3 u H locs ls hl hP hS h
      refine lv_iload_n hx hb dX6_many_74 rfl (lv_at hl 2 rfl) ?_
      refine lv_aload_n hx hb dX6_many_75 rfl (lv_at hl 0 rfl) ?_
      refine mwg_0_4 (v := (u.1 4)) hx hb hts hinX6 hown hK hP (hts (.fieldLink RX6 79 "FilmBenchModel" "layers" "I") (by decide +kernel)) dX6_many_76 rfl ?_
      refine lv_icmp_ge (tgt := 105) hx hb dX6_many_79 (by decide) (fun hc => ?_) (fun hc => ?_)
      · have h := h.1 hc
        refine lv_iload_n hx hb dX6_many_105 rfl (lv_at hl 1 rfl) ?_
        exact giret hx hb hr hlocks hK hP hS h dX6_many_106
      · have h := h.2 hc
        refine lv_iload_n hx hb dX6_many_82 rfl (lv_at hl 1 rfl) ?_
        refine lv_aload_n hx hb dX6_many_83 rfl (lv_at hl 0 rfl) ?_
        refine mwg_0_9 hx hb hts hinX6 hown hK hP (hts (.fieldLink RX6 32 "FilmBenchModel" "isOn" "[Z") (by decide +kernel)) dX6_many_84 ?_
        refine lv_iload_n hx hb dX6_many_87 rfl (lv_at hl 2 rfl) ?_
        refine mwl_9 (v := ((u.2 9) x3.toNatClampNeg)) hx hb hK hP h.1 dX6_many_88 rfl ?_
        have h := h.2
        refine lv_if_eq (tgt := 96) hx hb dX6_many_89 (by decide) (fun hc => ?_) (fun hc => ?_)
        · have h := h.1 hc
          refine lv_iconst (v := (0 : Int32)) hx hb dX6_many_96 (by decide) ?_
          refine lv_iadd hx hb dX6_many_97 ?_
          refine lv_istore_n (lv' := [(2, .int (x2 + (0 : Int32))), (0, .ref (adr 0)), (3, .int x3)]) hx hb dX6_many_98 rfl hl (by decide) rfl (fun ls hl => ?_)
          refine lv_iinc (v := (x3 + 1)) (lv' := [(3, .int (x3 + 1)), (2, .int (x2 + (0 : Int32))), (0, .ref (adr 0))]) hx hb dX6_many_99 hl (k := 2) rfl (congrArg (HAdd.hAdd _) (show Int32.ofInt (1) = (1 : Int32) by decide)) (by decide) rfl (fun ls hl => ?_)
          refine lv_goto (tgt := 74) hx hb dX6_many_102 (by decide) ?_
          exact ih (x2 + (0 : Int32)) (x3 + 1) u _ _ _ (lv_sub hl [2, 1, 0] rfl) hP hS h
        · have h := h.2 hc
          refine lv_iconst (v := (1 : Int32)) hx hb dX6_many_92 (by decide) ?_
          refine lv_goto (tgt := 97) hx hb dX6_many_93 (by decide) ?_
          refine lv_iadd hx hb dX6_many_97 ?_
          refine lv_istore_n (lv' := [(2, .int (x2 + (1 : Int32))), (0, .ref (adr 0)), (3, .int x3)]) hx hb dX6_many_98 rfl hl (by decide) rfl (fun ls hl => ?_)
          refine lv_iinc (v := (x3 + 1)) (lv' := [(3, .int (x3 + 1)), (2, .int (x2 + (1 : Int32))), (0, .ref (adr 0))]) hx hb dX6_many_99 hl (k := 2) rfl (congrArg (HAdd.hAdd _) (show Int32.ofInt (1) = (1 : Int32) by decide)) (by decide) rfl (fun ls hl => ?_)
          refine lv_goto (tgt := 74) hx hb dX6_many_102 (by decide) ?_
          exact ih (x2 + (1 : Int32)) (x3 + 1) u _ _ _ (lv_sub hl [2, 1, 0] rfl) hP hS h
  have L120 : ∀ (k109 : Int32 → Int32 → US → Prop) (hk109 : ∀ (x2 : Int32) (x3 : Int32) (u : US) (H : Heap) (locs : List Loc) (ls : Array Slot), lv_has ls 5 [(0, .ref (adr 0)), (2, .int x2), (3, .int x3)] → va_P D vwCl (mw adr cI cZ u) H → va_S A s.heap H locs → k109 x2 x3 u → gWi p l e wsX6_many 0 s m [.ref (adr 0), .int p1] below meth c D cI cZ (mw adr cI cZ) A post H locs (F0 m 109 ls [])), ∀ (n : Nat), ∀ (x2 : Int32) (x3 : Int32) (x4 : Int32) (u : US) (H : Heap) (locs : List Loc) (ls : Array Slot), lv_has ls 5 [(0, .ref (adr 0)), (2, .int x2), (3, .int x3), (4, .int x4)] → va_P D vwCl (mw adr cI cZ u) H → va_S A s.heap H locs → wp_X6_many_120 k109 post n x2 x3 x4 u → gWi p l e wsX6_many 0 s m [.ref (adr 0), .int p1] below meth c D cI cZ (mw adr cI cZ) A post H locs (F0 m 120 ls []) := by
    intro k109 hk109 n
    induction n with
    | zero => intro x2 x3 x4 u H locs ls hl hP hS h; exact False.elim h
    | succ n ih =>
      intro x2 x3 x4 u H locs ls hl hP hS h
      refine lv_iload hx hb dX6_many_120 (lv_at hl 3 rfl) ?_
      refine lv_aload_n hx hb dX6_many_122 rfl (lv_at hl 0 rfl) ?_
      refine mwg_0_0 (v := (u.1 0)) hx hb hts hinX6 hown hK hP (hts (.fieldLink RX6 7 "FilmBenchModel" "high" "I") (by decide +kernel)) dX6_many_123 rfl ?_
      refine lv_aload_n hx hb dX6_many_126 rfl (lv_at hl 0 rfl) ?_
      refine mwg_0_1 (v := (u.1 1)) hx hb hts hinX6 hown hK hP (hts (.fieldLink RX6 13 "FilmBenchModel" "wide" "I") (by decide +kernel)) dX6_many_127 rfl ?_
      refine lv_imul hx hb dX6_many_130 ?_
      refine lv_icmp_ge (tgt := 164) hx hb dX6_many_131 (by decide) (fun hc => ?_) (fun hc => ?_)
      · have h := h.1 hc
        refine lv_iinc (v := (x3 + 1)) (lv' := [(3, .int (x3 + 1)), (0, .ref (adr 0)), (2, .int x2), (4, .int x4)]) hx hb dX6_many_164 hl (k := 2) rfl (congrArg (HAdd.hAdd _) (show Int32.ofInt (1) = (1 : Int32) by decide)) (by decide) rfl (fun ls hl => ?_)
        refine lv_goto (tgt := 109) hx hb dX6_many_167 (by decide) ?_
        exact hk109 x2 (x3 + 1) u _ _ _ (lv_sub hl [1, 2, 0] rfl) hP hS h
      · have h := h.2 hc
        refine lv_iload_n hx hb dX6_many_134 rfl (lv_at hl 1 rfl) ?_
        refine lv_aload_n hx hb dX6_many_135 rfl (lv_at hl 0 rfl) ?_
        refine mwg_0_3 hx hb hts hinX6 hown hK hP (hts (.fieldLink RX6 16 "FilmBenchModel" "raw" "[I") (by decide +kernel)) dX6_many_136 ?_
        refine lv_bipush (v := (36 : Int32)) hx hb dX6_many_139 (by decide) ?_
        refine lv_iload_n hx hb dX6_many_141 rfl (lv_at hl 2 rfl) ?_
        refine lv_imul hx hb dX6_many_142 ?_
        refine lv_iload hx hb dX6_many_143 (lv_at hl 3 rfl) ?_
        refine lv_iadd hx hb dX6_many_145 ?_
        refine mwl_3 (v := ((u.2 3) (((36 : Int32) * x3) + x4).toNatClampNeg)) hx hb hK hP h.1 dX6_many_146 rfl ?_
        have h := h.2
        refine lv_iconst (v := (-1 : Int32)) hx hb dX6_many_147 (by decide) ?_
        refine lv_icmp_ne (tgt := 155) hx hb dX6_many_148 (by decide) (fun hc => ?_) (fun hc => ?_)
        · have h := h.2 hc
          refine lv_iconst (v := (0 : Int32)) hx hb dX6_many_155 (by decide) ?_
          refine lv_iadd hx hb dX6_many_156 ?_
          refine lv_istore_n (lv' := [(2, .int (x2 + (0 : Int32))), (0, .ref (adr 0)), (3, .int x3), (4, .int x4)]) hx hb dX6_many_157 rfl hl (by decide) rfl (fun ls hl => ?_)
          refine lv_iinc (v := (x4 + 1)) (lv' := [(4, .int (x4 + 1)), (2, .int (x2 + (0 : Int32))), (0, .ref (adr 0)), (3, .int x3)]) hx hb dX6_many_158 hl (k := 3) rfl (congrArg (HAdd.hAdd _) (show Int32.ofInt (1) = (1 : Int32) by decide)) (by decide) rfl (fun ls hl => ?_)
          refine lv_goto (tgt := 120) hx hb dX6_many_161 (by decide) ?_
          exact ih (x2 + (0 : Int32)) x3 (x4 + 1) u _ _ _ (lv_sub hl [2, 1, 3, 0] rfl) hP hS h
        · have h := h.1 hc
          refine lv_iconst (v := (1 : Int32)) hx hb dX6_many_151 (by decide) ?_
          refine lv_goto (tgt := 156) hx hb dX6_many_152 (by decide) ?_
          refine lv_iadd hx hb dX6_many_156 ?_
          refine lv_istore_n (lv' := [(2, .int (x2 + (1 : Int32))), (0, .ref (adr 0)), (3, .int x3), (4, .int x4)]) hx hb dX6_many_157 rfl hl (by decide) rfl (fun ls hl => ?_)
          refine lv_iinc (v := (x4 + 1)) (lv' := [(4, .int (x4 + 1)), (2, .int (x2 + (1 : Int32))), (0, .ref (adr 0)), (3, .int x3)]) hx hb dX6_many_158 hl (k := 3) rfl (congrArg (HAdd.hAdd _) (show Int32.ofInt (1) = (1 : Int32) by decide)) (by decide) rfl (fun ls hl => ?_)
          refine lv_goto (tgt := 120) hx hb dX6_many_161 (by decide) ?_
          exact ih (x2 + (1 : Int32)) x3 (x4 + 1) u _ _ _ (lv_sub hl [2, 1, 3, 0] rfl) hP hS h
  have L109 : ∀ (n : Nat), ∀ (x2 : Int32) (x3 : Int32) (u : US) (H : Heap) (locs : List Loc) (ls : Array Slot), lv_has ls 5 [(0, .ref (adr 0)), (2, .int x2), (3, .int x3)] → va_P D vwCl (mw adr cI cZ u) H → va_S A s.heap H locs → wp_X6_many_109  post n x2 x3 u → gWi p l e wsX6_many 0 s m [.ref (adr 0), .int p1] below meth c D cI cZ (mw adr cI cZ) A post H locs (F0 m 109 ls []) := by
    intro  n
    induction n with
    | zero => intro x2 x3 u H locs ls hl hP hS h; exact False.elim h
    | succ n ih =>
      intro x2 x3 u H locs ls hl hP hS h
      refine lv_iload_n hx hb dX6_many_109 rfl (lv_at hl 2 rfl) ?_
      refine lv_aload_n hx hb dX6_many_110 rfl (lv_at hl 0 rfl) ?_
      refine mwg_0_2 (v := (u.1 2)) hx hb hts hinX6 hown hK hP (hts (.fieldLink RX6 72 "FilmBenchModel" "frames" "I") (by decide +kernel)) dX6_many_111 rfl ?_
      refine lv_icmp_ge (tgt := 170) hx hb dX6_many_114 (by decide) (fun hc => ?_) (fun hc => ?_)
      · have h := h.1 hc
        refine lv_iload_n hx hb dX6_many_170 rfl (lv_at hl 1 rfl) ?_
        exact giret hx hb hr hlocks hK hP hS h dX6_many_171
      · have h := h.2 hc
        refine lv_iconst (v := (0 : Int32)) hx hb dX6_many_117 (by decide) ?_
        refine lv_istore (lv' := [(4, .int (0 : Int32)), (0, .ref (adr 0)), (2, .int x2), (3, .int x3)]) hx hb dX6_many_118 hl (by decide) rfl (fun ls hl => ?_)
        obtain ⟨n, h⟩ := h
        exact L120 _ ih n x2 x3 (0 : Int32) u _ _ _ (lv_sub hl [1, 2, 3, 0] rfl) hP hS h
  have hl := lv_entry ([.ref (adr 0), .int p1]) (n := 5) (Nat.le_of_ble_eq_true rfl)
  rw [lg_entry_eq]
  generalize (lg_sl ([.ref (adr 0), .int p1]) ++ List.replicate (5 - (lg_sl ([.ref (adr 0), .int p1])).length) Slot.unset).toArray = ls at hl ⊢
  replace hl : lv_has ls 5 [(0, .ref (adr 0)), (1, .int p1)] := hl
  refine lv_iconst (v := (0 : Int32)) hx hb dX6_many_0 (by decide) ?_
  refine lv_istore_n (lv' := [(2, .int (0 : Int32)), (0, .ref (adr 0)), (1, .int p1)]) hx hb dX6_many_1 rfl hl (by decide) rfl (fun ls hl => ?_)
  refine lv_iload_n hx hb dX6_many_2 rfl (lv_at hl 2 rfl) ?_
  by_cases hc : p1.toInt < 0 ∨ 8 < p1.toInt
  · refine lv_tableOut (tgt := 182) hx hb dX6_many_3 hc (by decide) ?_
    have h := h.1 hc
    refine lv_iconst (v := (-1 : Int32)) hx hb dX6_many_182 (by decide) ?_
    exact giret hx hb hr hlocks hK hP hS h dX6_many_183
  · have hv : p1.toInt = 0 ∨ p1.toInt = 1 ∨ p1.toInt = 2 ∨ p1.toInt = 3 ∨ p1.toInt = 4 ∨ p1.toInt = 5 ∨ p1.toInt = 6 ∨ p1.toInt = 7 ∨ p1.toInt = 8 := by omega
    rcases hv with hv | hv | hv | hv | hv | hv | hv | hv | hv
    · refine lv_tableIn (off := 49) (tgt := 52) hx hb dX6_many_3 (by omega) (by omega) (by rw [hv]; rfl) (by decide) ?_
      have h := h.2.1 hv
      refine lv_aload_n hx hb dX6_many_52 rfl (lv_at hl 1 rfl) ?_
      refine mwg_0_0 (v := (u.1 0)) hx hb hts hinX6 hown hK hP (hts (.fieldLink RX6 7 "FilmBenchModel" "high" "I") (by decide +kernel)) dX6_many_53 rfl ?_
      exact giret hx hb hr hlocks hK hP hS h dX6_many_56
    · refine lv_tableIn (off := 54) (tgt := 57) hx hb dX6_many_3 (by omega) (by omega) (by rw [hv]; rfl) (by decide) ?_
      have h := h.2.2.1 hv
      refine lv_aload_n hx hb dX6_many_57 rfl (lv_at hl 1 rfl) ?_
      refine mwg_0_1 (v := (u.1 1)) hx hb hts hinX6 hown hK hP (hts (.fieldLink RX6 13 "FilmBenchModel" "wide" "I") (by decide +kernel)) dX6_many_58 rfl ?_
      exact giret hx hb hr hlocks hK hP hS h dX6_many_61
    · refine lv_tableIn (off := 59) (tgt := 62) hx hb dX6_many_3 (by omega) (by omega) (by rw [hv]; rfl) (by decide) ?_
      have h := h.2.2.2.1 hv
      refine lv_aload_n hx hb dX6_many_62 rfl (lv_at hl 1 rfl) ?_
      refine mwg_0_2 (v := (u.1 2)) hx hb hts hinX6 hown hK hP (hts (.fieldLink RX6 72 "FilmBenchModel" "frames" "I") (by decide +kernel)) dX6_many_63 rfl ?_
      exact giret hx hb hr hlocks hK hP hS h dX6_many_66
    · refine lv_tableIn (off := 64) (tgt := 67) hx hb dX6_many_3 (by omega) (by omega) (by rw [hv]; rfl) (by decide) ?_
      have h := h.2.2.2.2.1 hv
      refine lv_aload_n hx hb dX6_many_67 rfl (lv_at hl 1 rfl) ?_
      refine mwg_0_4 (v := (u.1 4)) hx hb hts hinX6 hown hK hP (hts (.fieldLink RX6 79 "FilmBenchModel" "layers" "I") (by decide +kernel)) dX6_many_68 rfl ?_
      exact giret hx hb hr hlocks hK hP hS h dX6_many_71
    · refine lv_tableIn (off := 69) (tgt := 72) hx hb dX6_many_3 (by omega) (by omega) (by rw [hv]; rfl) (by decide) ?_
      have h := h.2.2.2.2.2.1 hv
      refine lv_iconst (v := (0 : Int32)) hx hb dX6_many_72 (by decide) ?_
      refine lv_istore_n (lv' := [(3, .int (0 : Int32)), (2, .int (0 : Int32)), (0, .ref (adr 0)), (1, .int p1)]) hx hb dX6_many_73 rfl hl (by decide) rfl (fun ls hl => ?_)
      obtain ⟨n, h⟩ := h
      exact L74  n (0 : Int32) (0 : Int32) u _ _ _ (lv_sub hl [2, 1, 0] rfl) hP hS h
    · refine lv_tableIn (off := 104) (tgt := 107) hx hb dX6_many_3 (by omega) (by omega) (by rw [hv]; rfl) (by decide) ?_
      have h := h.2.2.2.2.2.2.1 hv
      refine lv_iconst (v := (0 : Int32)) hx hb dX6_many_107 (by decide) ?_
      refine lv_istore_n (lv' := [(3, .int (0 : Int32)), (2, .int (0 : Int32)), (0, .ref (adr 0)), (1, .int p1)]) hx hb dX6_many_108 rfl hl (by decide) rfl (fun ls hl => ?_)
      obtain ⟨n, h⟩ := h
      exact L109  n (0 : Int32) (0 : Int32) u _ _ _ (lv_sub hl [2, 1, 0] rfl) hP hS h
    · refine lv_tableIn (off := 169) (tgt := 172) hx hb dX6_many_3 (by omega) (by omega) (by rw [hv]; rfl) (by decide) ?_
      have h := h.2.2.2.2.2.2.2.1 hv
      refine lv_aload_n hx hb dX6_many_172 rfl (lv_at hl 1 rfl) ?_
      refine mwg_0_10 hx hb hts hinX6 hown hK hP (hts (.fieldLink RX6 36 "FilmBenchModel" "rules" "[I") (by decide +kernel)) dX6_many_173 ?_
      refine lv_iload_n hx hb dX6_many_176 rfl (lv_at hl 2 rfl) ?_
      refine lv_bipush (v := (6 : Int32)) hx hb dX6_many_177 (by decide) ?_
      refine lv_isub hx hb dX6_many_179 ?_
      refine mwl_10 (v := ((u.2 10) (p1 - (6 : Int32)).toNatClampNeg)) hx hb hK hP h.1 dX6_many_180 rfl ?_
      have h := h.2
      exact giret hx hb hr hlocks hK hP hS h dX6_many_181
    · refine lv_tableIn (off := 169) (tgt := 172) hx hb dX6_many_3 (by omega) (by omega) (by rw [hv]; rfl) (by decide) ?_
      have h := h.2.2.2.2.2.2.2.2.1 hv
      refine lv_aload_n hx hb dX6_many_172 rfl (lv_at hl 1 rfl) ?_
      refine mwg_0_10 hx hb hts hinX6 hown hK hP (hts (.fieldLink RX6 36 "FilmBenchModel" "rules" "[I") (by decide +kernel)) dX6_many_173 ?_
      refine lv_iload_n hx hb dX6_many_176 rfl (lv_at hl 2 rfl) ?_
      refine lv_bipush (v := (6 : Int32)) hx hb dX6_many_177 (by decide) ?_
      refine lv_isub hx hb dX6_many_179 ?_
      refine mwl_10 (v := ((u.2 10) (p1 - (6 : Int32)).toNatClampNeg)) hx hb hK hP h.1 dX6_many_180 rfl ?_
      have h := h.2
      exact giret hx hb hr hlocks hK hP hS h dX6_many_181
    · refine lv_tableIn (off := 169) (tgt := 172) hx hb dX6_many_3 (by omega) (by omega) (by rw [hv]; rfl) (by decide) ?_
      have h := h.2.2.2.2.2.2.2.2.2 hv
      refine lv_aload_n hx hb dX6_many_172 rfl (lv_at hl 1 rfl) ?_
      refine mwg_0_10 hx hb hts hinX6 hown hK hP (hts (.fieldLink RX6 36 "FilmBenchModel" "rules" "[I") (by decide +kernel)) dX6_many_173 ?_
      refine lv_iload_n hx hb dX6_many_176 rfl (lv_at hl 2 rfl) ?_
      refine lv_bipush (v := (6 : Int32)) hx hb dX6_many_177 (by decide) ?_
      refine lv_isub hx hb dX6_many_179 ?_
      refine mwl_10 (v := ((u.2 10) (p1 - (6 : Int32)).toNatClampNeg)) hx hb hK hP h.1 dX6_many_180 rfl ?_
      have h := h.2
      exact giret hx hb hr hlocks hK hP hS h dX6_many_181
set_option maxRecDepth 100000 in
set_option maxHeartbeats 4000000 in
theorem c_X6_keep (l : Launch) (D : va_G) (cI cZ : ClassId) (adr : Nat → Nat) (A : Nat → Prop) (hD : ∀ u, va_D A (mw adr cI cZ u))  (u : US) (post : Int32 → US → Prop) (h : wp_X6_keep  u post) : gMi l yX6_keep wsX6_keep 0 D cI cZ (mw adr cI cZ) A [.ref (adr 0)] u post := by
  refine Met.ofW (cc := cX6_keep) (maxL := 2) (ret := (some .int)) (by decide) rfl ?_
  intro p e s m args below meth c s₁ B hml hv
  obtain ⟨rfl, hP, hK⟩ := hv
  have hx := B.exec
  have hb := B.bytes
  have hr := B.returns
  have hts := atoms_spec (ws := wsX6_keep) B.pre
  have hown : s.vm.findClass RX6 = some m.cls := findClass_of_methodNamed B.named
  have hlocks := B.notSynchronized
  have hinX6 : ∀ w ∈ wsX60, w ∈ wsX6_keep := by decide +kernel
  have hS : va_S A s.heap s.heap [] := va_S.rf
  have L66 : ∀ (n : Nat), ∀ (x1 : Int32) (u : US) (H : Heap) (locs : List Loc) (ls : Array Slot), lv_has ls 2 [(0, .ref (adr 0)), (1, .int x1)] → va_P D vwCl (mw adr cI cZ u) H → va_S A s.heap H locs → wp_X6_keep_66  post n x1 u → gWi p l e wsX6_keep 0 s m [.ref (adr 0)] below meth c D cI cZ (mw adr cI cZ) A post H locs (F0 m 66 ls []) := by
    intro  n
    induction n with
    | zero => intro x1 u H locs ls hl hP hS h; exact False.elim h
    | succ n ih =>
      intro x1 u H locs ls hl hP hS h
      refine lv_iload_n hx hb dX6_keep_66 rfl (lv_at hl 1 rfl) ?_
      refine lv_bipush (v := (12 : Int32)) hx hb dX6_keep_67 (by decide) ?_
      refine lv_icmp_ge (tgt := 138) hx hb dX6_keep_69 (by decide) (fun hc => ?_) (fun hc => ?_)
      · have h := h.1 hc
        refine lv_iconst (v := (1 : Int32)) hx hb dX6_keep_138 (by decide) ?_
        exact giret hx hb hr hlocks hK hP hS h dX6_keep_139
      · have h := h.2 hc
        refine lv_aload_n hx hb dX6_keep_72 rfl (lv_at hl 0 rfl) ?_
        refine mwg_0_17 hx hb hts hinX6 hown hK hP (hts (.fieldLink RX6 42 "FilmBenchModel" "keptKind" "[I") (by decide +kernel)) dX6_keep_73 ?_
        refine lv_iload_n hx hb dX6_keep_76 rfl (lv_at hl 1 rfl) ?_
        refine lv_aload_n hx hb dX6_keep_77 rfl (lv_at hl 0 rfl) ?_
        refine mwg_0_5 hx hb hts hinX6 hown hK hP (hts (.fieldLink RX6 20 "FilmBenchModel" "kind" "[I") (by decide +kernel)) dX6_keep_78 ?_
        refine lv_iload_n hx hb dX6_keep_81 rfl (lv_at hl 1 rfl) ?_
        refine mwl_5 (v := ((u.2 5) x1.toNatClampNeg)) hx hb hK hP h.1 dX6_keep_82 rfl ?_
        have h := h.2
        refine mws_17 hx hb hK hP (hD _) hS h.1 dX6_keep_83 (fun H locs hP hS => ?_)
        have h := h.2
        refine lv_aload_n hx hb dX6_keep_84 rfl (lv_at hl 0 rfl) ?_
        refine mwg_0_18 hx hb hts hinX6 hown hK hP (hts (.fieldLink RX6 45 "FilmBenchModel" "keptOf" "[I") (by decide +kernel)) dX6_keep_85 ?_
        refine lv_iload_n hx hb dX6_keep_88 rfl (lv_at hl 1 rfl) ?_
        refine lv_aload_n hx hb dX6_keep_89 rfl (lv_at hl 0 rfl) ?_
        refine mwg_0_6 hx hb hts hinX6 hown hK hP (hts (.fieldLink RX6 23 "FilmBenchModel" "of" "[I") (by decide +kernel)) dX6_keep_90 ?_
        refine lv_iload_n hx hb dX6_keep_93 rfl (lv_at hl 1 rfl) ?_
        refine mwl_6 (v := ((u.2 6) x1.toNatClampNeg)) hx hb hK hP h.1 dX6_keep_94 rfl ?_
        have h := h.2
        refine mws_18 hx hb hK hP (hD _) hS h.1 dX6_keep_95 (fun H locs hP hS => ?_)
        have h := h.2
        refine lv_aload_n hx hb dX6_keep_96 rfl (lv_at hl 0 rfl) ?_
        refine mwg_0_19 hx hb hts hinX6 hown hK hP (hts (.fieldLink RX6 48 "FilmBenchModel" "keptFirst" "[I") (by decide +kernel)) dX6_keep_97 ?_
        refine lv_iload_n hx hb dX6_keep_100 rfl (lv_at hl 1 rfl) ?_
        refine lv_aload_n hx hb dX6_keep_101 rfl (lv_at hl 0 rfl) ?_
        refine mwg_0_7 hx hb hts hinX6 hown hK hP (hts (.fieldLink RX6 26 "FilmBenchModel" "first" "[I") (by decide +kernel)) dX6_keep_102 ?_
        refine lv_iload_n hx hb dX6_keep_105 rfl (lv_at hl 1 rfl) ?_
        refine mwl_7 (v := ((u.2 7) x1.toNatClampNeg)) hx hb hK hP h.1 dX6_keep_106 rfl ?_
        have h := h.2
        refine mws_19 hx hb hK hP (hD _) hS h.1 dX6_keep_107 (fun H locs hP hS => ?_)
        have h := h.2
        refine lv_aload_n hx hb dX6_keep_108 rfl (lv_at hl 0 rfl) ?_
        refine mwg_0_20 hx hb hts hinX6 hown hK hP (hts (.fieldLink RX6 51 "FilmBenchModel" "keptSecond" "[I") (by decide +kernel)) dX6_keep_109 ?_
        refine lv_iload_n hx hb dX6_keep_112 rfl (lv_at hl 1 rfl) ?_
        refine lv_aload_n hx hb dX6_keep_113 rfl (lv_at hl 0 rfl) ?_
        refine mwg_0_8 hx hb hts hinX6 hown hK hP (hts (.fieldLink RX6 29 "FilmBenchModel" "second" "[I") (by decide +kernel)) dX6_keep_114 ?_
        refine lv_iload_n hx hb dX6_keep_117 rfl (lv_at hl 1 rfl) ?_
        refine mwl_8 (v := ((u.2 8) x1.toNatClampNeg)) hx hb hK hP h.1 dX6_keep_118 rfl ?_
        have h := h.2
        refine mws_20 hx hb hK hP (hD _) hS h.1 dX6_keep_119 (fun H locs hP hS => ?_)
        have h := h.2
        refine lv_aload_n hx hb dX6_keep_120 rfl (lv_at hl 0 rfl) ?_
        refine mwg_0_21 hx hb hts hinX6 hown hK hP (hts (.fieldLink RX6 54 "FilmBenchModel" "keptOn" "[Z") (by decide +kernel)) dX6_keep_121 ?_
        refine lv_iload_n hx hb dX6_keep_124 rfl (lv_at hl 1 rfl) ?_
        refine lv_aload_n hx hb dX6_keep_125 rfl (lv_at hl 0 rfl) ?_
        refine mwg_0_9 hx hb hts hinX6 hown hK hP (hts (.fieldLink RX6 32 "FilmBenchModel" "isOn" "[Z") (by decide +kernel)) dX6_keep_126 ?_
        refine lv_iload_n hx hb dX6_keep_129 rfl (lv_at hl 1 rfl) ?_
        refine mwl_9 (v := ((u.2 9) x1.toNatClampNeg)) hx hb hK hP h.1 dX6_keep_130 rfl ?_
        have h := h.2
        refine mws_21 hx hb hK hP (hD _) hS h.1 dX6_keep_131 (fun H locs hP hS => ?_)
        have h := h.2
        refine lv_iinc (v := (x1 + 1)) (lv' := [(1, .int (x1 + 1)), (0, .ref (adr 0))]) hx hb dX6_keep_132 hl (k := 1) rfl (congrArg (HAdd.hAdd _) (show Int32.ofInt (1) = (1 : Int32) by decide)) (by decide) rfl (fun ls hl => ?_)
        refine lv_goto (tgt := 66) hx hb dX6_keep_135 (by decide) ?_
        exact ih (x1 + 1) (sA (sA (sA (sA (sA u 17 (upd (u.2 17) x1.toNatClampNeg ((u.2 5) x1.toNatClampNeg))) 18 (upd (u.2 18) x1.toNatClampNeg ((u.2 6) x1.toNatClampNeg))) 19 (upd (u.2 19) x1.toNatClampNeg ((u.2 7) x1.toNatClampNeg))) 20 (upd (u.2 20) x1.toNatClampNeg ((u.2 8) x1.toNatClampNeg))) 21 (upd (u.2 21) x1.toNatClampNeg (vp_nar .boolean ((u.2 9) x1.toNatClampNeg)))) _ _ _ (lv_sub hl [1, 0] rfl) hP hS h
  have L39 : ∀ (n : Nat), ∀ (x1 : Int32) (u : US) (H : Heap) (locs : List Loc) (ls : Array Slot), lv_has ls 2 [(0, .ref (adr 0)), (1, .int x1)] → va_P D vwCl (mw adr cI cZ u) H → va_S A s.heap H locs → wp_X6_keep_39  post n x1 u → gWi p l e wsX6_keep 0 s m [.ref (adr 0)] below meth c D cI cZ (mw adr cI cZ) A post H locs (F0 m 39 ls []) := by
    intro  n
    induction n with
    | zero => intro x1 u H locs ls hl hP hS h; exact False.elim h
    | succ n ih =>
      intro x1 u H locs ls hl hP hS h
      refine lv_iload_n hx hb dX6_keep_39 rfl (lv_at hl 1 rfl) ?_
      refine lv_sipush (v := (360 : Int32)) hx hb dX6_keep_40 (by decide) ?_
      refine lv_icmp_ge (tgt := 64) hx hb dX6_keep_43 (by decide) (fun hc => ?_) (fun hc => ?_)
      · have h := h.1 hc
        refine lv_iconst (v := (0 : Int32)) hx hb dX6_keep_64 (by decide) ?_
        refine lv_istore_n (lv' := [(1, .int (0 : Int32)), (0, .ref (adr 0))]) hx hb dX6_keep_65 rfl hl (by decide) rfl (fun ls hl => ?_)
        obtain ⟨n, h⟩ := h
        exact L66  n (0 : Int32) u _ _ _ (lv_sub hl [1, 0] rfl) hP hS h
      · have h := h.2 hc
        refine lv_aload_n hx hb dX6_keep_46 rfl (lv_at hl 0 rfl) ?_
        refine mwg_0_15 hx hb hts hinX6 hown hK hP (hts (.fieldLink RX6 39 "FilmBenchModel" "keptRaw" "[I") (by decide +kernel)) dX6_keep_47 ?_
        refine lv_iload_n hx hb dX6_keep_50 rfl (lv_at hl 1 rfl) ?_
        refine lv_aload_n hx hb dX6_keep_51 rfl (lv_at hl 0 rfl) ?_
        refine mwg_0_3 hx hb hts hinX6 hown hK hP (hts (.fieldLink RX6 16 "FilmBenchModel" "raw" "[I") (by decide +kernel)) dX6_keep_52 ?_
        refine lv_iload_n hx hb dX6_keep_55 rfl (lv_at hl 1 rfl) ?_
        refine mwl_3 (v := ((u.2 3) x1.toNatClampNeg)) hx hb hK hP h.1 dX6_keep_56 rfl ?_
        have h := h.2
        refine mws_15 hx hb hK hP (hD _) hS h.1 dX6_keep_57 (fun H locs hP hS => ?_)
        have h := h.2
        refine lv_iinc (v := (x1 + 1)) (lv' := [(1, .int (x1 + 1)), (0, .ref (adr 0))]) hx hb dX6_keep_58 hl (k := 1) rfl (congrArg (HAdd.hAdd _) (show Int32.ofInt (1) = (1 : Int32) by decide)) (by decide) rfl (fun ls hl => ?_)
        refine lv_goto (tgt := 39) hx hb dX6_keep_61 (by decide) ?_
        exact ih (x1 + 1) (sA u 15 (upd (u.2 15) x1.toNatClampNeg ((u.2 3) x1.toNatClampNeg))) _ _ _ (lv_sub hl [1, 0] rfl) hP hS h
  have hl := lv_entry ([.ref (adr 0)]) (n := 2) (Nat.le_of_ble_eq_true rfl)
  rw [lg_entry_eq]
  generalize (lg_sl ([.ref (adr 0)]) ++ List.replicate (2 - (lg_sl ([.ref (adr 0)])).length) Slot.unset).toArray = ls at hl ⊢
  replace hl : lv_has ls 2 [(0, .ref (adr 0))] := hl
  refine lv_aload_n hx hb dX6_keep_0 rfl (lv_at hl 0 rfl) ?_
  refine lv_iconst (v := (1 : Int32)) hx hb dX6_keep_1 (by decide) ?_
  refine mwp_0_11 (v := (1 : Int32)) hx hb hts hinX6 hown hK hP (hD _) hS (hts (.fieldLink RX6 172 "FilmBenchModel" "hasKept" "Z") (by decide +kernel)) (by decide) dX6_keep_2 (fun H locs hP hS => ?_)
  refine lv_aload_n hx hb dX6_keep_5 rfl (lv_at hl 0 rfl) ?_
  refine lv_aload_n hx hb dX6_keep_6 rfl (lv_at hl 0 rfl) ?_
  refine mwg_0_0 (v := (u.1 0)) hx hb hts hinX6 hown hK hP (hts (.fieldLink RX6 7 "FilmBenchModel" "high" "I") (by decide +kernel)) dX6_keep_7 rfl ?_
  refine mwp_0_12 (v := (u.1 0)) hx hb hts hinX6 hown hK hP (hD _) hS (hts (.fieldLink RX6 176 "FilmBenchModel" "keptHigh" "I") (by decide +kernel)) dX6_keep_10 (fun H locs hP hS => ?_)
  refine lv_aload_n hx hb dX6_keep_13 rfl (lv_at hl 0 rfl) ?_
  refine lv_aload_n hx hb dX6_keep_14 rfl (lv_at hl 0 rfl) ?_
  refine mwg_0_1 (v := (u.1 1)) hx hb hts hinX6 hown hK hP (hts (.fieldLink RX6 13 "FilmBenchModel" "wide" "I") (by decide +kernel)) dX6_keep_15 rfl ?_
  refine mwp_0_13 (v := (u.1 1)) hx hb hts hinX6 hown hK hP (hD _) hS (hts (.fieldLink RX6 179 "FilmBenchModel" "keptWide" "I") (by decide +kernel)) dX6_keep_18 (fun H locs hP hS => ?_)
  refine lv_aload_n hx hb dX6_keep_21 rfl (lv_at hl 0 rfl) ?_
  refine lv_aload_n hx hb dX6_keep_22 rfl (lv_at hl 0 rfl) ?_
  refine mwg_0_2 (v := (u.1 2)) hx hb hts hinX6 hown hK hP (hts (.fieldLink RX6 72 "FilmBenchModel" "frames" "I") (by decide +kernel)) dX6_keep_23 rfl ?_
  refine mwp_0_14 (v := (u.1 2)) hx hb hts hinX6 hown hK hP (hD _) hS (hts (.fieldLink RX6 182 "FilmBenchModel" "keptFrames" "I") (by decide +kernel)) dX6_keep_26 (fun H locs hP hS => ?_)
  refine lv_aload_n hx hb dX6_keep_29 rfl (lv_at hl 0 rfl) ?_
  refine lv_aload_n hx hb dX6_keep_30 rfl (lv_at hl 0 rfl) ?_
  refine mwg_0_4 (v := (u.1 4)) hx hb hts hinX6 hown hK hP (hts (.fieldLink RX6 79 "FilmBenchModel" "layers" "I") (by decide +kernel)) dX6_keep_31 rfl ?_
  refine mwp_0_16 (v := (u.1 4)) hx hb hts hinX6 hown hK hP (hD _) hS (hts (.fieldLink RX6 185 "FilmBenchModel" "keptLayers" "I") (by decide +kernel)) dX6_keep_34 (fun H locs hP hS => ?_)
  refine lv_iconst (v := (0 : Int32)) hx hb dX6_keep_37 (by decide) ?_
  refine lv_istore_n (lv' := [(1, .int (0 : Int32)), (0, .ref (adr 0))]) hx hb dX6_keep_38 rfl hl (by decide) rfl (fun ls hl => ?_)
  obtain ⟨n, h⟩ := h
  exact L39  n (0 : Int32) (si (si (si (si (si u 11 (1 : Int32)) 12 (u.1 0)) 13 (u.1 1)) 14 (u.1 2)) 16 (u.1 4)) _ _ _ (lv_sub hl [1, 0] rfl) hP hS h
set_option maxRecDepth 100000 in
set_option maxHeartbeats 4000000 in
theorem c_X6_back (l : Launch) (D : va_G) (cI cZ : ClassId) (adr : Nat → Nat) (A : Nat → Prop) (hD : ∀ u, va_D A (mw adr cI cZ u))  (u : US) (post : Int32 → US → Prop) (h : wp_X6_back  u post) : gMi l yX6_back wsX6_back 0 D cI cZ (mw adr cI cZ) A [.ref (adr 0)] u post := by
  refine Met.ofW (cc := cX6_back) (maxL := 2) (ret := (some .int)) (by decide) rfl ?_
  intro p e s m args below meth c s₁ B hml hv
  obtain ⟨rfl, hP, hK⟩ := hv
  have hx := B.exec
  have hb := B.bytes
  have hr := B.returns
  have hts := atoms_spec (ws := wsX6_back) B.pre
  have hown : s.vm.findClass RX6 = some m.cls := findClass_of_methodNamed B.named
  have hlocks := B.notSynchronized
  have hinX6 : ∀ w ∈ wsX60, w ∈ wsX6_back := by decide +kernel
  have hS : va_S A s.heap s.heap [] := va_S.rf
  have L71 : ∀ (n : Nat), ∀ (x1 : Int32) (u : US) (H : Heap) (locs : List Loc) (ls : Array Slot), lv_has ls 2 [(0, .ref (adr 0)), (1, .int x1)] → va_P D vwCl (mw adr cI cZ u) H → va_S A s.heap H locs → wp_X6_back_71  post n x1 u → gWi p l e wsX6_back 0 s m [.ref (adr 0)] below meth c D cI cZ (mw adr cI cZ) A post H locs (F0 m 71 ls []) := by
    intro  n
    induction n with
    | zero => intro x1 u H locs ls hl hP hS h; exact False.elim h
    | succ n ih =>
      intro x1 u H locs ls hl hP hS h
      refine lv_iload_n hx hb dX6_back_71 rfl (lv_at hl 1 rfl) ?_
      refine lv_bipush (v := (12 : Int32)) hx hb dX6_back_72 (by decide) ?_
      refine lv_icmp_ge (tgt := 143) hx hb dX6_back_74 (by decide) (fun hc => ?_) (fun hc => ?_)
      · have h := h.1 hc
        refine lv_iconst (v := (1 : Int32)) hx hb dX6_back_143 (by decide) ?_
        exact giret hx hb hr hlocks hK hP hS h dX6_back_144
      · have h := h.2 hc
        refine lv_aload_n hx hb dX6_back_77 rfl (lv_at hl 0 rfl) ?_
        refine mwg_0_5 hx hb hts hinX6 hown hK hP (hts (.fieldLink RX6 20 "FilmBenchModel" "kind" "[I") (by decide +kernel)) dX6_back_78 ?_
        refine lv_iload_n hx hb dX6_back_81 rfl (lv_at hl 1 rfl) ?_
        refine lv_aload_n hx hb dX6_back_82 rfl (lv_at hl 0 rfl) ?_
        refine mwg_0_17 hx hb hts hinX6 hown hK hP (hts (.fieldLink RX6 42 "FilmBenchModel" "keptKind" "[I") (by decide +kernel)) dX6_back_83 ?_
        refine lv_iload_n hx hb dX6_back_86 rfl (lv_at hl 1 rfl) ?_
        refine mwl_17 (v := ((u.2 17) x1.toNatClampNeg)) hx hb hK hP h.1 dX6_back_87 rfl ?_
        have h := h.2
        refine mws_5 hx hb hK hP (hD _) hS h.1 dX6_back_88 (fun H locs hP hS => ?_)
        have h := h.2
        refine lv_aload_n hx hb dX6_back_89 rfl (lv_at hl 0 rfl) ?_
        refine mwg_0_6 hx hb hts hinX6 hown hK hP (hts (.fieldLink RX6 23 "FilmBenchModel" "of" "[I") (by decide +kernel)) dX6_back_90 ?_
        refine lv_iload_n hx hb dX6_back_93 rfl (lv_at hl 1 rfl) ?_
        refine lv_aload_n hx hb dX6_back_94 rfl (lv_at hl 0 rfl) ?_
        refine mwg_0_18 hx hb hts hinX6 hown hK hP (hts (.fieldLink RX6 45 "FilmBenchModel" "keptOf" "[I") (by decide +kernel)) dX6_back_95 ?_
        refine lv_iload_n hx hb dX6_back_98 rfl (lv_at hl 1 rfl) ?_
        refine mwl_18 (v := ((u.2 18) x1.toNatClampNeg)) hx hb hK hP h.1 dX6_back_99 rfl ?_
        have h := h.2
        refine mws_6 hx hb hK hP (hD _) hS h.1 dX6_back_100 (fun H locs hP hS => ?_)
        have h := h.2
        refine lv_aload_n hx hb dX6_back_101 rfl (lv_at hl 0 rfl) ?_
        refine mwg_0_7 hx hb hts hinX6 hown hK hP (hts (.fieldLink RX6 26 "FilmBenchModel" "first" "[I") (by decide +kernel)) dX6_back_102 ?_
        refine lv_iload_n hx hb dX6_back_105 rfl (lv_at hl 1 rfl) ?_
        refine lv_aload_n hx hb dX6_back_106 rfl (lv_at hl 0 rfl) ?_
        refine mwg_0_19 hx hb hts hinX6 hown hK hP (hts (.fieldLink RX6 48 "FilmBenchModel" "keptFirst" "[I") (by decide +kernel)) dX6_back_107 ?_
        refine lv_iload_n hx hb dX6_back_110 rfl (lv_at hl 1 rfl) ?_
        refine mwl_19 (v := ((u.2 19) x1.toNatClampNeg)) hx hb hK hP h.1 dX6_back_111 rfl ?_
        have h := h.2
        refine mws_7 hx hb hK hP (hD _) hS h.1 dX6_back_112 (fun H locs hP hS => ?_)
        have h := h.2
        refine lv_aload_n hx hb dX6_back_113 rfl (lv_at hl 0 rfl) ?_
        refine mwg_0_8 hx hb hts hinX6 hown hK hP (hts (.fieldLink RX6 29 "FilmBenchModel" "second" "[I") (by decide +kernel)) dX6_back_114 ?_
        refine lv_iload_n hx hb dX6_back_117 rfl (lv_at hl 1 rfl) ?_
        refine lv_aload_n hx hb dX6_back_118 rfl (lv_at hl 0 rfl) ?_
        refine mwg_0_20 hx hb hts hinX6 hown hK hP (hts (.fieldLink RX6 51 "FilmBenchModel" "keptSecond" "[I") (by decide +kernel)) dX6_back_119 ?_
        refine lv_iload_n hx hb dX6_back_122 rfl (lv_at hl 1 rfl) ?_
        refine mwl_20 (v := ((u.2 20) x1.toNatClampNeg)) hx hb hK hP h.1 dX6_back_123 rfl ?_
        have h := h.2
        refine mws_8 hx hb hK hP (hD _) hS h.1 dX6_back_124 (fun H locs hP hS => ?_)
        have h := h.2
        refine lv_aload_n hx hb dX6_back_125 rfl (lv_at hl 0 rfl) ?_
        refine mwg_0_9 hx hb hts hinX6 hown hK hP (hts (.fieldLink RX6 32 "FilmBenchModel" "isOn" "[Z") (by decide +kernel)) dX6_back_126 ?_
        refine lv_iload_n hx hb dX6_back_129 rfl (lv_at hl 1 rfl) ?_
        refine lv_aload_n hx hb dX6_back_130 rfl (lv_at hl 0 rfl) ?_
        refine mwg_0_21 hx hb hts hinX6 hown hK hP (hts (.fieldLink RX6 54 "FilmBenchModel" "keptOn" "[Z") (by decide +kernel)) dX6_back_131 ?_
        refine lv_iload_n hx hb dX6_back_134 rfl (lv_at hl 1 rfl) ?_
        refine mwl_21 (v := ((u.2 21) x1.toNatClampNeg)) hx hb hK hP h.1 dX6_back_135 rfl ?_
        have h := h.2
        refine mws_9 hx hb hK hP (hD _) hS h.1 dX6_back_136 (fun H locs hP hS => ?_)
        have h := h.2
        refine lv_iinc (v := (x1 + 1)) (lv' := [(1, .int (x1 + 1)), (0, .ref (adr 0))]) hx hb dX6_back_137 hl (k := 1) rfl (congrArg (HAdd.hAdd _) (show Int32.ofInt (1) = (1 : Int32) by decide)) (by decide) rfl (fun ls hl => ?_)
        refine lv_goto (tgt := 71) hx hb dX6_back_140 (by decide) ?_
        exact ih (x1 + 1) (sA (sA (sA (sA (sA u 5 (upd (u.2 5) x1.toNatClampNeg ((u.2 17) x1.toNatClampNeg))) 6 (upd (u.2 6) x1.toNatClampNeg ((u.2 18) x1.toNatClampNeg))) 7 (upd (u.2 7) x1.toNatClampNeg ((u.2 19) x1.toNatClampNeg))) 8 (upd (u.2 8) x1.toNatClampNeg ((u.2 20) x1.toNatClampNeg))) 9 (upd (u.2 9) x1.toNatClampNeg (vp_nar .boolean ((u.2 21) x1.toNatClampNeg)))) _ _ _ (lv_sub hl [1, 0] rfl) hP hS h
  have L44 : ∀ (n : Nat), ∀ (x1 : Int32) (u : US) (H : Heap) (locs : List Loc) (ls : Array Slot), lv_has ls 2 [(0, .ref (adr 0)), (1, .int x1)] → va_P D vwCl (mw adr cI cZ u) H → va_S A s.heap H locs → wp_X6_back_44  post n x1 u → gWi p l e wsX6_back 0 s m [.ref (adr 0)] below meth c D cI cZ (mw adr cI cZ) A post H locs (F0 m 44 ls []) := by
    intro  n
    induction n with
    | zero => intro x1 u H locs ls hl hP hS h; exact False.elim h
    | succ n ih =>
      intro x1 u H locs ls hl hP hS h
      refine lv_iload_n hx hb dX6_back_44 rfl (lv_at hl 1 rfl) ?_
      refine lv_sipush (v := (360 : Int32)) hx hb dX6_back_45 (by decide) ?_
      refine lv_icmp_ge (tgt := 69) hx hb dX6_back_48 (by decide) (fun hc => ?_) (fun hc => ?_)
      · have h := h.1 hc
        refine lv_iconst (v := (0 : Int32)) hx hb dX6_back_69 (by decide) ?_
        refine lv_istore_n (lv' := [(1, .int (0 : Int32)), (0, .ref (adr 0))]) hx hb dX6_back_70 rfl hl (by decide) rfl (fun ls hl => ?_)
        obtain ⟨n, h⟩ := h
        exact L71  n (0 : Int32) u _ _ _ (lv_sub hl [1, 0] rfl) hP hS h
      · have h := h.2 hc
        refine lv_aload_n hx hb dX6_back_51 rfl (lv_at hl 0 rfl) ?_
        refine mwg_0_3 hx hb hts hinX6 hown hK hP (hts (.fieldLink RX6 16 "FilmBenchModel" "raw" "[I") (by decide +kernel)) dX6_back_52 ?_
        refine lv_iload_n hx hb dX6_back_55 rfl (lv_at hl 1 rfl) ?_
        refine lv_aload_n hx hb dX6_back_56 rfl (lv_at hl 0 rfl) ?_
        refine mwg_0_15 hx hb hts hinX6 hown hK hP (hts (.fieldLink RX6 39 "FilmBenchModel" "keptRaw" "[I") (by decide +kernel)) dX6_back_57 ?_
        refine lv_iload_n hx hb dX6_back_60 rfl (lv_at hl 1 rfl) ?_
        refine mwl_15 (v := ((u.2 15) x1.toNatClampNeg)) hx hb hK hP h.1 dX6_back_61 rfl ?_
        have h := h.2
        refine mws_3 hx hb hK hP (hD _) hS h.1 dX6_back_62 (fun H locs hP hS => ?_)
        have h := h.2
        refine lv_iinc (v := (x1 + 1)) (lv' := [(1, .int (x1 + 1)), (0, .ref (adr 0))]) hx hb dX6_back_63 hl (k := 1) rfl (congrArg (HAdd.hAdd _) (show Int32.ofInt (1) = (1 : Int32) by decide)) (by decide) rfl (fun ls hl => ?_)
        refine lv_goto (tgt := 44) hx hb dX6_back_66 (by decide) ?_
        exact ih (x1 + 1) (sA u 3 (upd (u.2 3) x1.toNatClampNeg ((u.2 15) x1.toNatClampNeg))) _ _ _ (lv_sub hl [1, 0] rfl) hP hS h
  have hl := lv_entry ([.ref (adr 0)]) (n := 2) (Nat.le_of_ble_eq_true rfl)
  rw [lg_entry_eq]
  generalize (lg_sl ([.ref (adr 0)]) ++ List.replicate (2 - (lg_sl ([.ref (adr 0)])).length) Slot.unset).toArray = ls at hl ⊢
  replace hl : lv_has ls 2 [(0, .ref (adr 0))] := hl
  refine lv_aload_n hx hb dX6_back_0 rfl (lv_at hl 0 rfl) ?_
  refine mwg_0_11 (v := (u.1 11)) hx hb hts hinX6 hown hK hP (hts (.fieldLink RX6 172 "FilmBenchModel" "hasKept" "Z") (by decide +kernel)) dX6_back_1 rfl ?_
  refine lv_if_ne (tgt := 10) hx hb dX6_back_4 (by decide) (fun hc => ?_) (fun hc => ?_)
  · have h := h.2 hc
    refine lv_aload_n hx hb dX6_back_10 rfl (lv_at hl 0 rfl) ?_
    refine lv_aload_n hx hb dX6_back_11 rfl (lv_at hl 0 rfl) ?_
    refine mwg_0_12 (v := (u.1 12)) hx hb hts hinX6 hown hK hP (hts (.fieldLink RX6 176 "FilmBenchModel" "keptHigh" "I") (by decide +kernel)) dX6_back_12 rfl ?_
    refine mwp_0_0 (v := (u.1 12)) hx hb hts hinX6 hown hK hP (hD _) hS (hts (.fieldLink RX6 7 "FilmBenchModel" "high" "I") (by decide +kernel)) dX6_back_15 (fun H locs hP hS => ?_)
    refine lv_aload_n hx hb dX6_back_18 rfl (lv_at hl 0 rfl) ?_
    refine lv_aload_n hx hb dX6_back_19 rfl (lv_at hl 0 rfl) ?_
    refine mwg_0_13 (v := (u.1 13)) hx hb hts hinX6 hown hK hP (hts (.fieldLink RX6 179 "FilmBenchModel" "keptWide" "I") (by decide +kernel)) dX6_back_20 rfl ?_
    refine mwp_0_1 (v := (u.1 13)) hx hb hts hinX6 hown hK hP (hD _) hS (hts (.fieldLink RX6 13 "FilmBenchModel" "wide" "I") (by decide +kernel)) dX6_back_23 (fun H locs hP hS => ?_)
    refine lv_aload_n hx hb dX6_back_26 rfl (lv_at hl 0 rfl) ?_
    refine lv_aload_n hx hb dX6_back_27 rfl (lv_at hl 0 rfl) ?_
    refine mwg_0_14 (v := (u.1 14)) hx hb hts hinX6 hown hK hP (hts (.fieldLink RX6 182 "FilmBenchModel" "keptFrames" "I") (by decide +kernel)) dX6_back_28 rfl ?_
    refine mwp_0_2 (v := (u.1 14)) hx hb hts hinX6 hown hK hP (hD _) hS (hts (.fieldLink RX6 72 "FilmBenchModel" "frames" "I") (by decide +kernel)) dX6_back_31 (fun H locs hP hS => ?_)
    refine lv_aload_n hx hb dX6_back_34 rfl (lv_at hl 0 rfl) ?_
    refine lv_aload_n hx hb dX6_back_35 rfl (lv_at hl 0 rfl) ?_
    refine mwg_0_16 (v := (u.1 16)) hx hb hts hinX6 hown hK hP (hts (.fieldLink RX6 185 "FilmBenchModel" "keptLayers" "I") (by decide +kernel)) dX6_back_36 rfl ?_
    refine mwp_0_4 (v := (u.1 16)) hx hb hts hinX6 hown hK hP (hD _) hS (hts (.fieldLink RX6 79 "FilmBenchModel" "layers" "I") (by decide +kernel)) dX6_back_39 (fun H locs hP hS => ?_)
    refine lv_iconst (v := (0 : Int32)) hx hb dX6_back_42 (by decide) ?_
    refine lv_istore_n (lv' := [(1, .int (0 : Int32)), (0, .ref (adr 0))]) hx hb dX6_back_43 rfl hl (by decide) rfl (fun ls hl => ?_)
    obtain ⟨n, h⟩ := h
    exact L44  n (0 : Int32) (si (si (si (si u 0 (u.1 12)) 1 (u.1 13)) 2 (u.1 14)) 4 (u.1 16)) _ _ _ (lv_sub hl [1, 0] rfl) hP hS h
  · have h := h.1 hc
    refine lv_bipush (v := (-3 : Int32)) hx hb dX6_back_7 (by decide) ?_
    exact giret hx hb hr hlocks hK hP hS h dX6_back_9
