/-! ===== made, changed, told: the class ===== -/
theorem gcp36 {F G : Nat → Int32} {j : Nat} (h : j < 36) : gcp F G (0 : Int32) (0 : Int32) (36 : Int32) j = F j := by
  unfold gcp
  show va_cpy F G 0 0 36 j = F j
  unfold va_cpy
  rw [if_pos (by omega)]
  congr 1
  omega
theorem FL.sf {u u' : US} {f L : Nat} {K O A B N : Nat → Int} (h : FL u f L K O A B N) (su : SF u u') : FL u' f L K O A B N := by
  unfold FL
  rw [su.1 5 (by omega), su.2 4 (by omega), su.2 5 (by omega), su.2 6 (by omega), su.2 7 (by omega), su.2 8 (by omega)]
  exact h
section MK
variable {u u' : US} {h w f L a : Nat} {g : Nat → Nat → Int} {K O A B N : Nat → Int} {S D E : Int} {post : Int32 → US → Prop} {postv : US → Prop} {c : Nat → Int}
theorem f_apply (hX : FX u h w f g S D E) (hL : FL u f L K O A B N) (ha : a < f) {i : Nat} (hi : i < L) (hO : O i = a) (sf : SF u u') (hc : gR (h * w) c) (hN : ∀ k, k < h * w → u'.2 16 k = iI (c k))
    (hp : ∀ u2, SF u u2 → (∀ k, k < h * w → u2.2 16 k = iI (apL h w f g D E (K i) (A i) (B i) a c k)) → (∀ k, k < h * w → u2.2 17 k = iI (c k)) → postv u2) : wp_X2_apply (iI i) u' postv := by
  have hn := hX.1.n
  have hL' := hL.sf sf
  have hl := hL.1
  obtain ⟨⟨p1, p2, p3, p4, p5⟩, p6, p7, p8, p9, p10, p11, p12⟩ := hL'.2.2 i hi
  have hJ : ∀ F, JF u (sA u' 17 (gcp (u'.2 16) (u'.2 17) (0 : Int32) (0 : Int32) (36 : Int32))) (h * w) c F 0 := fun F =>
    ⟨sf.sA (by omega), fun k hk => by rw [sA_same, gcp36 (by omega)]; exact hN k hk, fun k hk => by rw [sA_other (by omega), if_neg (by omega)]; exact hN k hk⟩
  have fin : ∀ F, (∀ k, k < h * w → F k = apL h w f g D E (K i) (A i) (B i) a c k) → ∀ u2, JF u u2 (h * w) c F (h * w) → postv u2 := by
    intro F hF u2 hJ
    refine hp u2 hJ.1 (fun k hk => ?_) hJ.2.1
    rw [hJ.2.2 k hk, if_pos hk, hF k hk]
  have hin : vp_in (iI (i : Int)) 12 := (iI_in (by omega)).mpr ⟨by omega, by omega⟩
  unfold wp_X2_apply
  rw [iI_clamp (by omega), Int.toNat_natCast, p1, p2, p3, p4, hO, iI_toInt (by omega)]
  refine ⟨hin, hin, fun e => ⟨hin, hin, f_move hX p8 p9 hc (hJ _) (fin _ (fun k hk => ?_))⟩, fun e => f_clean hX ha hc (hJ _) (fin _ (fun k hk => ?_)), fun e => ⟨hin, ?_⟩, fun e => f_fill hX ha hc (hJ _) (fin _ (fun k hk => ?_))⟩
  · unfold apL; rw [if_neg (by omega), if_neg (by omega), if_neg (by omega)]
  · unfold apL; rw [if_pos e]
  · obtain ⟨r, hr⟩ := Int.eq_ofNat_of_zero_le (p11 e).1
    rw [hr]
    have q := p11 e
    refine f_match (a := r) hX (by omega) hc (hJ _) (fin _ (fun k hk => ?_))
    unfold apL
    rw [if_neg (by omega), if_pos e, hr]; rfl
  · unfold apL; rw [if_neg (by omega), if_neg (by omega), if_pos e]
theorem f_make (hX : FX u h w f g S D E) (hL : FL u f L K O A B N) (ha : a < f) {e : Nat} (he : e ≤ L)
    (hp : ∀ u2, SF u u2 → (∀ k, k < h * w → u2.2 16 k = iI (cuL h w f g D E K O A B N a e k)) → (∀ j, e = j + 1 → O j = a → ¬ N j = 0 → ∀ k, k < h * w → u2.2 17 k = iI (cuL h w f g D E K O A B N a j k)) → postv u2) : wp_X2_make (iI a) (iI e) u postv := by
  have hn := hX.1.n
  have hf := hX.1.f
  have hl := hL.1
  have lay : ∀ (m i : Nat) (u2 : US), i + m = e → SF u u2 → (∀ k, k < h * w → u2.2 16 k = iI (cuL h w f g D E K O A B N a i k)) → (∀ j, i = j + 1 → O j = a → ¬ N j = 0 → ∀ k, k < h * w → u2.2 17 k = iI (cuL h w f g D E K O A B N a j k)) → wp_X2_make_36 postv (m + 1) (iI a) (iI e) (iI i) u2 := by
    intro m
    induction m with
    | zero =>
      intro i u2 hi sf h16 h17
      unfold wp_X2_make_36
      refine b_le (by omega) (by omega) (fun _ => ?_) (fun z => absurd (by omega) z)
      rw [show i = e by omega] at h16 h17
      exact hp u2 sf h16 h17
    | succ m ih =>
      intro i u2 hi sf h16 h17
      have hL2 := hL.sf sf
      obtain ⟨⟨p1, p2, p3, p4, p5⟩, p6, p7, p8, p9, p10, p11, p12⟩ := hL2.2.2 i (by omega)
      have hcb := cuL_bd (D := D) (E := E) (O := O) (B := B) (N := N) hX.1.1 hX.1.2.1 hX.2.1 ha (fun j hj => (hL.2.2 j hj).2.2.2.2.2.2.1) i (by omega)
      have hst : cuL h w f g D E K O A B N a (i + 1) = if O i = a ∧ ¬ N i = 0 then apL h w f g D E (K i) (A i) (B i) a (cuL h w f g D E K O A B N a i) else cuL h w f g D E K O A B N a i := rfl
      unfold wp_X2_make_36
      refine b_le (by omega) (by omega) (fun z => absurd z (by omega)) (fun _ => ?_)
      rw [hL2.2.1]
      refine b_le (by omega) (by omega) (fun z => absurd z (by omega)) (fun _ => b_in (by omega) (by omega) (by omega) ?_)
      rw [iI_clamp (by omega), Int.toNat_natCast, p2, p5, iI_s]
      refine b_eq (by omega) (by omega) (fun e1 => b_in (by omega) (by omega) (by omega) (b_eq (b := 0) (by omega) (by omega) (fun e2 => ?_) (fun e2 => ?_))) (fun e1 => ?_)
      · refine ih (i + 1) u2 (by omega) sf ?_ (fun j hj _ q => absurd (by rw [← show i = j by omega]; exact e2) q)
        rw [hst, if_neg (fun z => z.2 e2)]; exact h16
      · refine f_apply hX hL ha (by omega) e1 sf hcb h16 (fun u3 s3 q16 q17 => ih (i + 1) u3 (by omega) s3 ?_ (fun j hj _ _ => ?_))
        · rw [hst, if_pos ⟨e1, e2⟩]; exact q16
        · rw [← show i = j by omega]; exact q17
      · refine ih (i + 1) u2 (by omega) sf ?_ (fun j hj q _ => absurd (by rw [show i = j by omega]; exact q) e1)
        rw [hst, if_neg (fun z => e1 z.1)]; exact h16
  have key : ∀ (m p : Nat) (R : Nat → Int32), p + m = h * w → (∀ k, k < p → R k = iI (g a k)) → wp_X2_make_2 postv (m + 1) (iI a) (iI e) (iI p) (sA u 16 R) := by
    intro m
    induction m with
    | zero =>
      intro p R hpm hR
      unfold wp_X2_make_2
      rw [sA_1, show u.1 3 = iI (h * w : Nat) from hX.1.2.2.2.2.2.1]
      refine b_le (by omega) (by omega) (fun _ => ⟨e + 1, ?_⟩) (fun z => absurd (by omega) z)
      exact lay e 0 _ (by omega) (SF.rf.sA (by omega)) (fun k hk => by rw [sA_same]; exact hR k (by omega)) (fun j hj => absurd hj (by omega))
    | succ m ih =>
      intro p R hpm hR
      unfold wp_X2_make_2
      rw [sA_1, show u.1 3 = iI (h * w : Nat) from hX.1.2.2.2.2.2.1]
      refine b_le (by omega) (by omega) (fun z => absurd z (by omega)) (fun _ => ?_)
      refine f_greyAt (u := sA u 16 R) (h := h) (w := w) (f := f) hX.1 ha (by omega) ?_
      refine b_in (by omega) (by omega) (by omega) ?_
      rw [iI_clamp (by omega), Int.toNat_natCast, show (sA u 16 R).2 2 = u.2 2 from rfl, (hX.2.1 a p ha (by omega)).1, sA_same, sA_sA, iI_s]
      refine ih (p + 1) _ (by omega) (fun k hk => ?_)
      by_cases e2 : k = p
      · rw [e2, upd_s]
      · rw [upd_n e2]; exact hR k (by omega)
  refine ⟨h * w + 1, ?_⟩
  have := key (h * w) 0 (u.2 16) (by omega) (fun k hk => absurd hk (by omega))
  rw [sA_id] at this
  exact this
theorem f_made {z y x : Int} (hX : FX u h w f g S D E) (hL : FL u f L K O A B N) (hz : rg z) (hy : rg y) (hx : rg x) (h0 : ¬ ((0 ≤ z ∧ z < f) ∧ (0 ≤ y ∧ y < h ∧ 0 ≤ x ∧ x < w)) → post (iI (-1000)) u)
    (h1 : ∀ i j k : Nat, z = i → y = j → x = k → i < f → j < h → k < w → ∀ u', SF u u' → post (iI (cuL h w f g D E K O A B N i L (j * w + k))) u') : wp_X5_made (iI z) (iI y) (iI x) u post := by
  have b1' := hX.1.1; have b2' := hX.1.2.1
  have hn := hX.1.n
  unfold wp_X5_made
  refine f_placeOf hX.1 hy hx (fun hno => ?_) (fun d1 d2 d3 d4 => ?_)
  · refine f_hasFrame hX.1 hz (fun _ => b0 (h0 (by omega))) (fun _ _ => b1 ?_)
    exact b_f (by rw [l0, iI_le (by omega) (by omega)]; omega) (h0 (by omega))
  · obtain ⟨j, rfl⟩ := Int.eq_ofNat_of_zero_le d1
    obtain ⟨k, rfl⟩ := Int.eq_ofNat_of_zero_le d3
    have hlt := pl_lt (y := j) (x := k) (h := h) (w := w) (by omega) (by omega)
    rw [show ((j : Int) * w + k) = ((j * w + k : Nat) : Int) by simp]
    refine f_hasFrame hX.1 hz (fun _ => b0 (h0 (by omega))) (fun d5 d6 => b1 ?_)
    obtain ⟨i, rfl⟩ := Int.eq_ofNat_of_zero_le d5
    refine b_t (by rw [l0, iI_le (by omega) (by omega)]; omega) ?_
    rw [show u.1 5 = iI L from hL.2.1]
    refine f_make hX hL (by omega) (Nat.le_refl L) (fun u2 s2 h16 _ => ?_)
    unfold wp_X2_greyAt
    refine f_hasPlace (hX.sf s2).1 (by omega) (fun hno => absurd ⟨by omega, by omega⟩ hno) (fun _ _ => b1 (b_in (by omega) (by omega) (by omega) ?_))
    rw [iI_clamp (by omega), Int.toNat_natCast, h16 _ hlt]
    exact h1 i j k rfl rfl rfl (by omega) (by omega) (by omega) u2 s2
def chgC (c c' : Nat → Int) : Nat → Int := sm (fun k => c01 (¬ c' k = c k))
theorem f_countChanged {c c' : Nat → Int} (hX : FD u' h w f) (hc : gR (h * w) c) (hc' : gR (h * w) c') (h16 : ∀ k, k < h * w → u'.2 16 k = iI (c' k)) (h17 : ∀ k, k < h * w → u'.2 17 k = iI (c k)) (hp : post (iI (chgC c c' (h * w))) u') : wp_X2_countChanged u' post := by
  have hn := hX.n
  have e3 : u'.1 3 = iI (h * w : Nat) := hX.2.2.2.2.2.1
  have key : ∀ (m k : Nat), k + m = h * w → wp_X2_countChanged_4 post (m + 1) (iI (chgC c c' k)) (iI k) u' := by
    intro m
    induction m with
    | zero =>
      intro k hk
      unfold wp_X2_countChanged_4
      rw [e3]
      refine b_le (by omega) (by omega) (fun _ => ?_) (fun e => absurd (by omega) e)
      rw [show k = h * w by omega]; exact hp
    | succ m ih =>
      intro k hk
      have nx := ih (k + 1) (by omega)
      have hck := hc k (by omega)
      have hck' := hc' k (by omega)
      rw [show chgC c c' (k + 1) = chgC c c' k + c01 (¬ c' k = c k) from rfl] at nx
      unfold wp_X2_countChanged_4
      rw [e3]
      refine b_le (by omega) (by omega) (fun e => absurd e (by omega)) (fun _ => b_in (by omega) (by omega) (by omega) (b_in (by omega) (by omega) (by omega) ?_))
      rw [iI_clamp (by omega), Int.toNat_natCast, h16 k (by omega), h17 k (by omega), iI_s]
      refine b_eq (by omega) (by omega) (fun e => ?_) (fun e => ?_)
      · rw [c01_f (fun z => z e), Int.add_zero] at nx; exact nx
      · rw [c01_t e] at nx; rw [l1, iI_add]; exact nx
  exact ⟨h * w + 1, key (h * w) 0 (by omega)⟩
/-- how many a layer changes -/
def chV (h w f : Nat) (g : Nat → Nat → Int) (D E : Int) (K O A B N : Nat → Int) (i : Nat) : Int := if N i = 0 then 0 else chgC (cuL h w f g D E K O A B N (O i).toNat i) (cuL h w f g D E K O A B N (O i).toNat (i + 1)) (h * w)
theorem f_changed {z : Int} (hX : FX u h w f g S D E) (hL : FL u f L K O A B N) (hz : rg z) (h0 : ¬ (0 ≤ z ∧ z < L) → post (iI (-1)) u) (h1 : ∀ i : Nat, z = i → i < L → ∀ u', SF u u' → post (iI (chV h w f g D E K O A B N i)) u') : wp_X5_changed (iI z) u post := by
  have hl := hL.1
  unfold wp_X5_changed
  refine f_has hl hL.2.1 hz (fun hno => b0 (h0 hno)) (fun i e hi => b1 ?_)
  subst e
  obtain ⟨⟨p1, p2, p3, p4, p5⟩, p6, p7, p8, p9, p10, p11, p12⟩ := hL.2.2 i hi
  have hp := h1 i rfl hi
  unfold chV at hp
  refine b_in (by omega) (by omega) (by omega) ?_
  rw [iI_clamp (by omega), Int.toNat_natCast, p5, p2, iI_s]
  refine b_eq (b := 0) (by omega) (by omega) (fun e => ?_) (fun e => b_in (by omega) (by omega) (by omega) ?_)
  · have hp := hp u SF.rf
    rw [if_pos e] at hp; exact hp
  · obtain ⟨o, ho⟩ := Int.eq_ofNat_of_zero_le p7.1
    rw [ho]
    have hof : o < f := by omega
    have cb := fun j hj => cuL_bd (D := D) (E := E) (O := O) (B := B) (N := N) hX.1.1 hX.1.2.1 hX.2.1 hof (fun j hj => (hL.2.2 j hj).2.2.2.2.2.2.1) j (show j ≤ L from hj)
    refine f_make hX hL (a := o) hof (by omega) (fun u2 s2 h16 h17 => ?_)
    refine f_countChanged (hX.sf s2).1 (cb i (by omega)) (cb (i + 1) (by omega)) h16 (h17 i rfl ho e) ?_
    have hp := hp u2 s2
    rw [if_neg e, ho] at hp
    exact hp
end MK
