/-! ===== made, changed, told: the reference ===== -/
def JM (u u2 : US) (N : Nat) (c c' : Nat → Int) (j : Nat) : Prop := SM u u2 ∧ (∀ k, k < N → u2.2 32 k = iI (c k)) ∧ ∀ k, k < N → k < j → u2.2 31 k = iI (c' k)
theorem JM.put {u u2 : US} {N : Nat} {c c' : Nat → Int} {j : Nat} (h : JM u u2 N c c' j) : JM u (sA u2 31 (upd (u2.2 31) j (iI (c' j)))) N c c' (j + 1) := by
  refine ⟨h.1.sA (by omega), h.2.1, fun k hk hj => ?_⟩
  rw [sA_same]
  by_cases e : k = j
  · rw [e, upd_s]
  · rw [upd_n e]; exact h.2.2 k hk (by omega)
section GM
variable {u u' : US} {h w f L a : Nat} {g : Nat → Nat → Int} {K O A B N : Nat → Int} {S D E : Int} {post : Int32 → US → Prop} {c : Nat → Int}
theorem m_goes (hX : MX u h w f g S D E) (hL : ML u f L K O A B N) (ha : a < f) {i : Nat} (hi : i < L) (hO : O i = a) (sf : SM u u') (hc : gR (h * w) c) (hN : ∀ k, k < h * w → u'.2 31 k = iI (c k))
    (hp : ∀ u2, SM u u2 → (∀ k, k < h * w → u2.2 31 k = iI (apL h w f g D E (K i) (A i) (B i) a c k)) → post (iI (chgC c (apL h w f g D E (K i) (A i) (B i) a c) (h * w))) u2) : wp_X6_goes (iI i) u' post := by
  have hn := hX.1.n
  have hf := hX.1.f
  have hl := hL.1
  have hin : vp_in (iI (i : Int)) 12 := (iI_in (by omega)).mpr ⟨by omega, by omega⟩
  have hcb := apL_bd (D := D) (E := E) (B := B i) (a := a) hX.1.1 hX.1.2.1 hX.2.1 (hL.2.2 i hi).2.2.2.2.2.2.1 hc
  have body : ∀ (m k : Nat) (u2 : US), k + m = h * w → JM u u2 (h * w) c (apL h w f g D E (K i) (A i) (B i) a c) k → wp_X6_goes_49 post (m + 1) (iI i) (iI a) (iI (chgC c (apL h w f g D E (K i) (A i) (B i) a c) k)) (iI k) u2 := by
    intro m
    induction m with
    | zero =>
      intro k u2 hk hJ
      unfold wp_X6_goes_49
      rw [(hX.sm hJ.1).hw]
      have hkn : k = h * w := by omega
      subst hkn
      exact b_le (by omega) (by omega) (fun _ => hp u2 hJ.1 (fun k hk => hJ.2.2 k hk hk)) (fun e => absurd (by omega) e)
    | succ m ih =>
      intro k u2 hk hJ
      have hX2 := hX.sm hJ.1
      obtain ⟨⟨p1, p2, p3, p4, p5⟩, p6, p7, p8, p9, p10, p11, p12⟩ := (hL.sm hJ.1).2.2 i hi
      have hck := hc k (by omega)
      have hck' := hcb k (by omega)
      have n1 := nb_bd hX.2.1 (i := (a : Int) - 1) (k := k) (by omega)
      have n2 := nb_bd hX.2.1 (i := (a : Int) + 1) (k := k) (by omega)
      have hik : vp_in (iI (k : Int)) 36 := (iI_in (by omega)).mpr ⟨by omega, by omega⟩
      have s208 : ∀ z : Int, z = apL h w f g D E (K i) (A i) (B i) a c k → wp_X6_goes_208 (wp_X6_goes_49 post (m + 1)) post (iI i) (iI a) (iI (chgC c (apL h w f g D E (K i) (A i) (B i) a c) k)) (iI k) (iI z) u2 := by
        intro z hz
        have nx := ih (k + 1) _ (by omega) hJ.put
        rw [show chgC c (apL h w f g D E (K i) (A i) (B i) a c) (k + 1) = chgC c (apL h w f g D E (K i) (A i) (B i) a c) k + c01 (¬ apL h w f g D E (K i) (A i) (B i) a c k = c k) from rfl, ← hz] at nx
        unfold wp_X6_goes_208
        rw [iI_clamp (by omega), Int.toNat_natCast, hJ.2.1 k (by omega), iI_s]
        refine ⟨hik, hik, b_eq (by omega) (by omega) (fun e => ?_) (fun e => ?_)⟩
        · rw [c01_f (fun q => q e)] at nx; rw [l0, iI_add]; exact nx
        · rw [c01_t e] at nx; rw [l1, iI_add]; exact nx
      unfold wp_X6_goes_49 wp_X6_goes_107 wp_X6_goes_194
      rw [hX2.hw]
      refine b_le (by omega) (by omega) (fun e => absurd e (by omega)) (fun _ => ⟨hik, hin, ?_⟩)
      rw [iI_clamp (by omega), iI_clamp (by omega), Int.toNat_natCast, Int.toNat_natCast, p1, p3, hJ.2.1 k (by omega)]
      refine b_eq (b := 0) (by omega) (by omega) (fun e0 => ?_) (fun e0 => ⟨hin, b_eq (b := 1) (by omega) (by omega) (fun e1 => ⟨hin, ?_⟩) (fun e1 => ⟨hin, b_eq (b := 2) (by omega) (by omega) (fun e2 => ?_) (fun e2 => ?_)⟩)⟩)
      · refine m_cleaned hX2 ha (by omega) hck (fun hd => ?_) (fun hd => ?_)
        · refine b_t (by rw [l0, iI_lt (by omega) (by omega)]; omega) (s208 (c k) ?_)
          unfold apL clnV
          rw [if_pos e0, if_neg hd]
        · have hd2 := hd
          unfold dustP at hd2
          refine b_f (by rw [l0, iI_lt (by omega) (by omega)]; omega) (m_cleaned hX2 ha (by omega) hck (fun q => absurd hd q) (fun _ => s208 _ ?_))
          unfold apL clnV
          rw [if_pos e0, if_pos hd]
      · obtain ⟨r, hr⟩ := Int.eq_ofNat_of_zero_le (p11 e1).1
        rw [show iI (A i) = iI (r : Int) by rw [hr]]
        have q := p11 e1
        have ev : mtV (h * w) (g r) c (c k) = apL h w f g D E (K i) (A i) (B i) a c k := by
          unfold apL
          rw [if_neg e0, if_pos e1, hr]; rfl
        exact m_matched (a := r) (k0 := k) (post := fun r131 u131 => wp_X6_goes_208 (wp_X6_goes_49 post (m + 1)) post (iI i) (iI a) (iI (chgC c (apL h w f g D E (K i) (A i) (B i) a c) k)) (iI k) r131 u131) hX2 (by omega) hc hJ.2.1 (by omega) (s208 _ ev)
      · rw [show iI (a : Int) - (1 : Int32) = iI ((a : Int) - 1) from iI_sub a 1, show iI (a : Int) + (1 : Int32) = iI ((a : Int) + 1) from iI_add a 1, lm1]
        have ev : apL h w f g D E (K i) (A i) (B i) a c k = filV f g a k (c k) := by unfold apL; rw [if_neg e0, if_neg e1, if_pos e2]
        refine b_eq (by omega) (by omega) (fun e3 => m_filled hX2 (by omega) (by omega) (b_eq (by omega) (by omega) (fun e4 => m_filled hX2 (by omega) (by omega) (s208 _ ?_)) (fun e4 => m_filled hX2 (by omega) (by omega) (s208 _ ?_)))) (fun e3 => s208 _ ?_)
        · rw [ev]; unfold filV; rw [if_pos e3, if_pos e4]
        · rw [ev]; unfold filV; rw [if_pos e3, if_neg e4]
        · rw [ev]; unfold filV; rw [if_neg e3]
      · refine m_moved hX2 (by omega) (by omega) p8 p9 p3 p4 hJ.2.1 (s208 _ ?_)
        unfold apL
        rw [if_neg e0, if_neg e1, if_neg e2]
  have copy : ∀ (m k : Nat) (u2 : US), k + m = h * w → SM u u2 → (∀ k, k < h * w → u2.2 31 k = iI (c k)) → (∀ j, j < k → u2.2 32 j = iI (c j)) → wp_X6_goes_12 post (m + 1) (iI i) (iI a) (0 : Int32) (iI k) u2 := by
    intro m
    induction m with
    | zero =>
      intro k u2 hk s2 h31 h32
      unfold wp_X6_goes_12
      rw [(hX.sm s2).hw]
      refine b_le (by omega) (by omega) (fun _ => ⟨h * w + 1, ?_⟩) (fun e => absurd (by omega) e)
      exact body (h * w) 0 u2 (by omega) ⟨s2, fun j hj => h32 j (by omega), fun _ _ q => absurd q (by omega)⟩
    | succ m ih =>
      intro k u2 hk s2 h31 h32
      have hik : vp_in (iI (k : Int)) 36 := (iI_in (by omega)).mpr ⟨by omega, by omega⟩
      unfold wp_X6_goes_12
      rw [(hX.sm s2).hw]
      refine b_le (by omega) (by omega) (fun e => absurd e (by omega)) (fun _ => ⟨hik, hik, ?_⟩)
      rw [iI_clamp (by omega), Int.toNat_natCast, h31 k (by omega), iI_s]
      refine ih (k + 1) _ (by omega) (s2.sA (by omega)) (fun j hj => by rw [sA_other (by omega)]; exact h31 j hj) (fun j hj => ?_)
      rw [sA_same]
      by_cases e : j = k
      · rw [e, upd_s]
      · rw [upd_n e]; exact h32 j (by omega)
  unfold wp_X6_goes
  obtain ⟨⟨p1, p2, p3, p4, p5⟩, -⟩ := (hL.sm sf).2.2 i hi
  rw [iI_clamp (by omega), Int.toNat_natCast, p2, hO]
  exact ⟨hin, h * w + 1, copy (h * w) 0 u' (by omega) sf hN (fun j hj => absurd hj (by omega))⟩
/-- how many the named layer has changed, once those below i have gone -/
def nV (h w f : Nat) (g : Nat → Nat → Int) (D E : Int) (K O A B N : Nat → Int) (a : Nat) (z : Int) (i : Nat) : Int := if (0 ≤ z ∧ z < i) ∧ O z.toNat = a ∧ ¬ N z.toNat = 0 then chgC (cuL h w f g D E K O A B N a z.toNat) (cuL h w f g D E K O A B N a (z.toNat + 1)) (h * w) else 0
theorem m_makes (hX : MX u h w f g S D E) (hL : ML u f L K O A B N) (ha : a < f) {z : Int} (hz : -1 ≤ z ∧ z ≤ 12)
    (hp : ∀ u2, SM u u2 → (∀ k, k < h * w → u2.2 31 k = iI (cuL h w f g D E K O A B N a L k)) → post (iI (nV h w f g D E K O A B N a z L)) u2) : wp_X6_makes (iI a) (iI z) u post := by
  have hn := hX.1.n
  have hf := hX.1.f
  have hl := hL.1
  have lay : ∀ (m i : Nat) (u2 : US), i + m = L → SM u u2 → (∀ k, k < h * w → u2.2 31 k = iI (cuL h w f g D E K O A B N a i k)) → wp_X6_makes_47 post (m + 1) (iI a) (iI z) (iI (nV h w f g D E K O A B N a z i)) (iI i) u2 := by
    intro m
    induction m with
    | zero =>
      intro i u2 hi s2 h31
      unfold wp_X6_makes_47
      rw [(hL.sm s2).2.1]
      have hiL : i = L := by omega
      subst hiL
      exact b_le (by omega) (by omega) (fun _ => hp u2 s2 h31) (fun e => absurd (by omega) e)
    | succ m ih =>
      intro i u2 hi s2 h31
      obtain ⟨⟨p1, p2, p3, p4, p5⟩, p6, p7, p8, p9, p10, p11, p12⟩ := (hL.sm s2).2.2 i (by omega)
      have hcb := cuL_bd (D := D) (E := E) (O := O) (B := B) (N := N) hX.1.1 hX.1.2.1 hX.2.1 ha (fun j hj => (hL.2.2 j hj).2.2.2.2.2.2.1) i (by omega)
      have hst : cuL h w f g D E K O A B N a (i + 1) = if O i = a ∧ ¬ N i = 0 then apL h w f g D E (K i) (A i) (B i) a (cuL h w f g D E K O A B N a i) else cuL h w f g D E K O A B N a i := rfl
      have nx := fun u3 => ih (i + 1) u3 (by omega)
      -- a layer that doesn't work leaves the count
      have nk : ¬ (O i = a ∧ ¬ N i = 0) → nV h w f g D E K O A B N a z (i + 1) = nV h w f g D E K O A B N a z i := by
        intro q
        unfold nV
        by_cases e : z = i
        · subst e
          rw [if_neg (fun t => q ⟨t.2.1, t.2.2⟩), if_neg (fun t => by omega)]
        · by_cases e2 : (0 ≤ z ∧ z < i) ∧ O z.toNat = a ∧ ¬ N z.toNat = 0
          · rw [if_pos e2, if_pos ⟨by omega, e2.2⟩]
          · rw [if_neg e2, if_neg (fun t => e2 ⟨by omega, t.2⟩)]
      unfold wp_X6_makes_47
      rw [(hL.sm s2).2.1]
      refine b_le (by omega) (by omega) (fun e => absurd e (by omega)) (fun _ => b_in (by omega) (by omega) (by omega) ?_)
      rw [iI_clamp (by omega), Int.toNat_natCast, p2, p5, iI_s]
      refine b_eq (by omega) (by omega) (fun e1 => b_in (by omega) (by omega) (by omega) (b_eq (b := 0) (by omega) (by omega) (fun e2 => ?_) (fun e2 => ?_))) (fun e1 => ?_)
      · have q : ¬ (O i = a ∧ ¬ N i = 0) := fun t => t.2 e2
        have t := nx u2 s2 (by rw [hst, if_neg q]; exact h31)
        rw [nk q] at t; exact t
      · have q : O i = a ∧ ¬ N i = 0 := ⟨e1, e2⟩
        refine m_goes hX hL ha (by omega) e1 s2 hcb h31 (fun u3 s3 q31 => ?_)
        have t := nx u3 s3 (by rw [hst, if_pos q]; exact q31)
        refine b_eq (by omega) (by omega) (fun e3 => ?_) (fun e3 => ?_)
        · have ev : nV h w f g D E K O A B N a z (i + 1) = chgC (cuL h w f g D E K O A B N a i) (apL h w f g D E (K i) (A i) (B i) a (cuL h w f g D E K O A B N a i)) (h * w) := by
            unfold nV
            rw [← e3, Int.toNat_natCast, if_pos ⟨by omega, q⟩, hst, if_pos q]
          rw [ev] at t; exact t
        · have ev : nV h w f g D E K O A B N a z (i + 1) = nV h w f g D E K O A B N a z i := by
            unfold nV
            by_cases e2 : (0 ≤ z ∧ z < i) ∧ O z.toNat = a ∧ ¬ N z.toNat = 0
            · rw [if_pos e2, if_pos ⟨by omega, e2.2⟩]
            · rw [if_neg e2, if_neg (fun t => e2 ⟨by omega, t.2⟩)]
          rw [ev] at t; exact t
      · have q : ¬ (O i = a ∧ ¬ N i = 0) := fun t => e1 t.1
        have t := nx u2 s2 (by rw [hst, if_neg q]; exact h31)
        rw [nk q] at t; exact t
  have key : ∀ (m p : Nat) (R : Nat → Int32), p + m = h * w → (∀ k, k < p → R k = iI (g a k)) → wp_X6_makes_5 post (m + 1) (iI a) (iI z) (0 : Int32) (iI p) (sA u 31 R) := by
    intro m
    induction m with
    | zero =>
      intro p R hpm hR
      unfold wp_X6_makes_5
      rw [sA_1, hX.hw]
      refine b_le (by omega) (by omega) (fun _ => ⟨L + 1, ?_⟩) (fun q => absurd (by omega) q)
      have t := lay L 0 (sA u 31 R) (by omega) (SM.rf.sA (by omega)) (fun k hk => by rw [sA_same]; exact hR k (by omega))
      rw [show nV h w f g D E K O A B N a z 0 = 0 from if_neg (fun t => by omega)] at t
      exact t
    | succ m ih =>
      intro p R hpm hR
      unfold wp_X6_makes_5
      rw [sA_1, hX.hw]
      refine b_le (by omega) (by omega) (fun q => absurd q (by omega)) (fun _ => ?_)
      rw [l36, iI_mul, iI_add]
      refine b_in (by omega) (by omega) (by omega) (b_in (by omega) (by omega) (by omega) ?_)
      rw [iI_clamp (by omega), iI_clamp (by omega), Int.toNat_natCast, show ((36 : Int) * a + p).toNat = 36 * a + p by omega, show (sA u 31 R).2 3 = u.2 3 from rfl, (hX.2.1 a p ha (by omega)).1, sA_same, sA_sA, iI_s]
      refine ih (p + 1) _ (by omega) (fun k hk => ?_)
      by_cases e2 : k = p
      · rw [e2, upd_s]
      · rw [upd_n e2]; exact hR k (by omega)
  refine ⟨h * w + 1, ?_⟩
  have := key (h * w) 0 (u.2 31) (by omega) (fun k hk => absurd hk (by omega))
  rw [sA_id] at this
  exact this
theorem m_made {z y x : Int} (hX : MX u h w f g S D E) (hL : ML u f L K O A B N) (hz : rg z) (hy : rg y) (hx : rg x) (h0 : ¬ ((0 ≤ z ∧ z < f) ∧ (0 ≤ y ∧ y < h ∧ 0 ≤ x ∧ x < w)) → post (iI (-1000)) u)
    (h1 : ∀ i j k : Nat, z = i → y = j → x = k → i < f → j < h → k < w → ∀ u', SM u u' → post (iI (cuL h w f g D E K O A B N i L (j * w + k))) u') : wp_X6_made (iI z) (iI y) (iI x) u post := by
  have b1' := hX.1.1; have b2' := hX.1.2.1
  have hn := hX.1.n
  unfold wp_X6_made
  refine m_isFrame hX.1 hz (fun _ => b0 (h0 (by omega))) (fun d5 d6 => b1 ?_)
  obtain ⟨i, rfl⟩ := Int.eq_ofNat_of_zero_le d5
  refine m_isSquare hX.1 hy hx (fun hno => b0 (h0 (by omega))) (fun d1 d2 d3 d4 => b1 ?_)
  obtain ⟨j, rfl⟩ := Int.eq_ofNat_of_zero_le d1
  obtain ⟨k, rfl⟩ := Int.eq_ofNat_of_zero_le d3
  have hlt := pl_lt (y := j) (x := k) (h := h) (w := w) (by omega) (by omega)
  rw [lm1]
  refine m_makes hX hL (by omega) (by omega) (fun u2 s2 h31 => ?_)
  rw [s2.1 1 (by omega), show u.1 1 = iI w from hX.1.2.2.2.2.1, iI_mul, iI_add, show (w : Int) * (j : Int) + k = ((j * w + k : Nat) : Int) by rw [Int.mul_comm]; simp]
  refine b_in (by omega) (by omega) (by omega) ?_
  rw [iI_clamp (by omega), Int.toNat_natCast, h31 _ hlt]
  exact h1 i j k rfl rfl rfl (by omega) (by omega) (by omega) u2 s2
theorem m_changed {z : Int} (hX : MX u h w f g S D E) (hL : ML u f L K O A B N) (hz : rg z) (h0 : ¬ (0 ≤ z ∧ z < L) → post (iI (-1)) u) (h1 : ∀ i : Nat, z = i → i < L → ∀ u', SM u u' → post (iI (chV h w f g D E K O A B N i)) u') : wp_X6_changed (iI z) u post := by
  have hl := hL.1
  unfold wp_X6_changed
  refine m_isLayer hl hL.2.1 hz (fun hno => b0 (h0 hno)) (fun i e hi => b1 ?_)
  subst e
  obtain ⟨⟨p1, p2, p3, p4, p5⟩, p6, p7, p8, p9, p10, p11, p12⟩ := hL.2.2 i hi
  refine b_in (by omega) (by omega) (by omega) ?_
  obtain ⟨o, ho⟩ := Int.eq_ofNat_of_zero_le p7.1
  rw [iI_clamp (by omega), Int.toNat_natCast, p2, ho]
  refine m_makes hX hL (a := o) (by omega) (by omega) (fun u2 s2 _ => ?_)
  have hp := h1 i rfl hi u2 s2
  have ev : nV h w f g D E K O A B N o (i : Int) L = chV h w f g D E K O A B N i := by
    unfold nV chV
    rw [Int.toNat_natCast, ho]
    by_cases e : N i = 0
    · rw [if_neg (fun t => t.2.2 e), if_pos e]
    · rw [if_pos ⟨by omega, rfl, e⟩, if_neg e]; rfl
  rw [ev]; exact hp
end GM
section I7
variable {u v : US}
theorem i_dust (hI : INV u v) (x1 : Int32) : wp_X5_dust x1 u (fun r u' => wp_X6_dust x1 v (fun r' v' => r = r' ∧ INV u' v')) := by
  have hI0 := hI
  obtain ⟨hK, h, w, f, L, g, K, O, A, B, N, S, D, E, ⟨a1, a2, a3, a4⟩, b1, b2, b3, b4⟩ := hI
  obtain ⟨z, hz, rfl⟩ := iI_of x1
  refine f_dust ⟨a1, a2, a4⟩ hz (fun hn => m_dust ⟨b1, b2, b4⟩ hz (fun _ => ⟨rfl, hI0⟩) (fun i e c1 => absurd ⟨by omega, by omega⟩ hn)) (fun i e c1 => m_dust ⟨b1, b2, b4⟩ hz (fun hn => absurd ⟨by omega, by omega⟩ hn) (fun j e2 _ => ⟨?_, hI0⟩))
  rw [show j = i by omega]
theorem i_made (hI : INV u v) (x1 x2 x3 : Int32) : wp_X5_made x1 x2 x3 u (fun r u' => wp_X6_made x1 x2 x3 v (fun r' v' => r = r' ∧ INV u' v')) := by
  have hI0 := hI
  obtain ⟨hK, h, w, f, L, g, K, O, A, B, N, S, D, E, ⟨a1, a2, a3, a4⟩, b1, b2, b3, b4⟩ := hI
  obtain ⟨z, hz, rfl⟩ := iI_of x1
  obtain ⟨y, hy, rfl⟩ := iI_of x2
  obtain ⟨x, hx, rfl⟩ := iI_of x3
  refine f_made ⟨a1, a2, a4⟩ a3 hz hy hx (fun hn => m_made ⟨b1, b2, b4⟩ b3 hz hy hx (fun _ => ⟨rfl, hI0⟩) (fun i j k e1 e2 e3 c1 c2 c3 => absurd ⟨by omega, by omega⟩ hn)) (fun i j k e1 e2 e3 c1 c2 c3 u' su => ?_)
  subst e1; subst e2; subst e3
  refine m_made ⟨b1, b2, b4⟩ b3 hz hy hx (fun hn => absurd ⟨by omega, by omega⟩ hn) (fun i' j' k' e1 e2 e3 _ _ _ v' sv => ?_)
  obtain rfl : i' = i := by omega
  obtain rfl : j' = j := by omega
  obtain rfl : k' = k := by omega
  exact ⟨rfl, hI0.mono su sv⟩
theorem i_changed (hI : INV u v) (x1 : Int32) : wp_X5_changed x1 u (fun r u' => wp_X6_changed x1 v (fun r' v' => r = r' ∧ INV u' v')) := by
  have hI0 := hI
  obtain ⟨hK, h, w, f, L, g, K, O, A, B, N, S, D, E, ⟨a1, a2, a3, a4⟩, b1, b2, b3, b4⟩ := hI
  obtain ⟨z, hz, rfl⟩ := iI_of x1
  refine f_changed ⟨a1, a2, a4⟩ a3 hz (fun hn => m_changed ⟨b1, b2, b4⟩ b3 hz (fun _ => ⟨rfl, hI0⟩) (fun i e c1 => absurd ⟨by omega, by omega⟩ hn)) (fun i e c1 u' su => m_changed ⟨b1, b2, b4⟩ b3 hz (fun hn => absurd ⟨by omega, by omega⟩ hn) (fun j e2 _ v' sv => ⟨?_, hI0.mono su sv⟩))
  rw [show j = i by omega]
end I7
