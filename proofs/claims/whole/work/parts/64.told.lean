/-! ===== told ===== -/
def lsV (s : Int) (c : Nat → Int) : Nat → Int
  | 0 => s
  | k + 1 => if c k = -1 then lsV s c k else zmin (lsV s c k) (c k)
def gtV (s : Int) (c : Nat → Int) : Nat → Int
  | 0 => s
  | k + 1 => if c k = -1 then gtV s c k else zmax (gtV s c k) (c k)
def smV (c : Nat → Int) : Nat → Int := sm (fun k => if c k = -1 then 0 else c k)
def otC (gr c : Nat → Int) : Nat → Int := sm (fun k => c01 (¬ c k = gr k))
theorem nz_s (c : Nat → Int) (k : Nat) : nz c (k + 1) = nz c k + c01 (¬ c k = -1) := rfl
theorem ls_e {c : Nat → Int} : ∀ k, gR k c → (0 ≤ lsV 64 c k ∧ lsV 64 c k ≤ 64) ∧ (0 ≤ lsV 63 c k ∧ lsV 63 c k ≤ 63) ∧ (nz c k = 0 → lsV 64 c k = 64 ∧ lsV 63 c k = 63) ∧ (¬ nz c k = 0 → lsV 64 c k = lsV 63 c k)
  | 0, _ => ⟨⟨by show (0 : Int) ≤ 64; omega, by show (64 : Int) ≤ 64; omega⟩, ⟨by show (0 : Int) ≤ 63; omega, by show (63 : Int) ≤ 63; omega⟩, fun _ => ⟨rfl, rfl⟩, fun h => absurd rfl h⟩
  | k + 1, hc => by
    have ih := ls_e k (fun j hj => hc j (by omega))
    have hk := hc k (by omega)
    have hz := nz_bd c k
    rw [nz_s]
    unfold lsV
    by_cases e : c k = -1
    · rw [if_pos e, if_pos e, c01_f (by omega), Int.add_zero]; exact ih
    · rw [if_neg e, if_neg e, c01_t e]
      unfold zmin
      by_cases q : nz c k = 0
      · have := ih.2.2.1 q
        refine ⟨?_, ?_, fun t => by omega, fun _ => ?_⟩ <;> split <;> (try split) <;> omega
      · have := ih.2.2.2 q
        refine ⟨?_, ?_, fun t => by omega, fun _ => ?_⟩ <;> split <;> (try split) <;> omega
theorem gt_e {c : Nat → Int} : ∀ k, gR k c → (-1 ≤ gtV (-1) c k ∧ gtV (-1) c k ≤ 63) ∧ (0 ≤ gtV 0 c k ∧ gtV 0 c k ≤ 63) ∧ (nz c k = 0 → gtV (-1) c k = -1 ∧ gtV 0 c k = 0) ∧ (¬ nz c k = 0 → gtV (-1) c k = gtV 0 c k)
  | 0, _ => ⟨⟨by show (-1 : Int) ≤ -1; omega, by show (-1 : Int) ≤ 63; omega⟩, ⟨by show (0 : Int) ≤ 0; omega, by show (0 : Int) ≤ 63; omega⟩, fun _ => ⟨rfl, rfl⟩, fun h => absurd rfl h⟩
  | k + 1, hc => by
    have ih := gt_e k (fun j hj => hc j (by omega))
    have hk := hc k (by omega)
    have hz := nz_bd c k
    rw [nz_s]
    unfold gtV
    by_cases e : c k = -1
    · rw [if_pos e, if_pos e, c01_f (by omega), Int.add_zero]; exact ih
    · rw [if_neg e, if_neg e, c01_t e]
      unfold zmax
      by_cases q : nz c k = 0
      · have := ih.2.2.1 q
        refine ⟨?_, ?_, fun t => by omega, fun _ => ?_⟩ <;> split <;> (try split) <;> omega
      · have := ih.2.2.2 q
        refine ⟨?_, ?_, fun t => by omega, fun _ => ?_⟩ <;> split <;> (try split) <;> omega
def tldV (N : Nat) (gr c : Nat → Int) (x : Int) : Int := if x = 0 then N - nz c N else if x = 1 then smV c N else if x = 2 then (if nz c N = 0 then -3 else lsV 63 c N) else if x = 3 then (if nz c N = 0 then -3 else gtV 0 c N) else otC gr c N
theorem smV_bd {c : Nat → Int} (k : Nat) (hc : gR k c) : 0 ≤ smV c k ∧ smV c k ≤ 63 * k := by
  have := sm_bd (f := fun k => if c k = -1 then 0 else c k) (a := 0) (b := 63) k (fun j hj => by
    have := hc j hj
    show 0 ≤ (if c j = -1 then 0 else c j) ∧ (if c j = -1 then 0 else c j) ≤ 63
    split <;> omega)
  unfold smV
  omega
section TL
variable {u u' : US} {h w f L a : Nat} {g : Nat → Nat → Int} {K O A B N : Nat → Int} {S D E : Int} {post : Int32 → US → Prop} {c : Nat → Int}
theorem f_sumGreys (hX : FD u' h w f) (hc : gR (h * w) c) (h16 : ∀ k, k < h * w → u'.2 16 k = iI (c k)) (hp : post (iI (smV c (h * w))) u') : wp_X2_sumOfGreys u' post := by
  have hn := hX.n
  have e3 : u'.1 3 = iI (h * w : Nat) := hX.2.2.2.2.2.1
  have key : ∀ (m k : Nat), k + m = h * w → wp_X2_sumOfGreys_4 post (m + 1) (iI (smV c k)) (iI k) u' := by
    intro m
    induction m with
    | zero =>
      intro k hk
      unfold wp_X2_sumOfGreys_4
      rw [e3]
      refine b_le (by omega) (by omega) (fun _ => ?_) (fun e => absurd (by omega) e)
      rw [show k = h * w by omega]; exact hp
    | succ m ih =>
      intro k hk
      have nx := ih (k + 1) (by omega)
      have hck := hc k (by omega)
      rw [show smV c (k + 1) = smV c k + (if c k = -1 then 0 else c k) from rfl] at nx
      unfold wp_X2_sumOfGreys_4
      rw [e3]
      refine b_le (by omega) (by omega) (fun e => absurd e (by omega)) (fun _ => b_in (by omega) (by omega) (by omega) ?_)
      rw [iI_clamp (by omega), Int.toNat_natCast, h16 k (by omega), lm1, iI_s]
      refine b_eq (by omega) (by omega) (fun e => ?_) (fun e => b_in (by omega) (by omega) (by omega) ?_)
      · rw [if_pos e, Int.add_zero] at nx; exact nx
      · rw [if_neg e] at nx; rw [iI_add]; exact nx
  exact ⟨h * w + 1, key (h * w) 0 (by omega)⟩
theorem f_least (hX : FD u' h w f) (hc : gR (h * w) c) (h16 : ∀ k, k < h * w → u'.2 16 k = iI (c k)) (hp : post (iI (lsV 63 c (h * w))) u') : wp_X2_leastGrey u' post := by
  have hn := hX.n
  have e3 : u'.1 3 = iI (h * w : Nat) := hX.2.2.2.2.2.1
  have key : ∀ (m k : Nat), k + m = h * w → wp_X2_leastGrey_5 post (m + 1) (iI (lsV 63 c k)) (iI k) u' := by
    intro m
    induction m with
    | zero =>
      intro k hk
      unfold wp_X2_leastGrey_5
      rw [e3]
      refine b_le (by omega) (by omega) (fun _ => ?_) (fun e => absurd (by omega) e)
      rw [show k = h * w by omega]; exact hp
    | succ m ih =>
      intro k hk
      have nx := ih (k + 1) (by omega)
      have hck := hc k (by omega)
      have hl := (ls_e (c := c) k (fun j hj => hc j (by omega))).2.1
      unfold lsV at nx
      unfold wp_X2_leastGrey_5
      rw [e3]
      refine b_le (by omega) (by omega) (fun e => absurd e (by omega)) (fun _ => b_in (by omega) (by omega) (by omega) ?_)
      rw [iI_clamp (by omega), Int.toNat_natCast, h16 k (by omega), lm1, iI_s]
      refine b_eq (by omega) (by omega) (fun e => ?_) (fun e => b_in (by omega) (by omega) (by omega) ?_)
      · rw [if_pos e] at nx; exact nx
      · rw [if_neg e] at nx; rw [iI_min (by omega) (by omega)]; exact nx
  exact ⟨h * w + 1, key (h * w) 0 (by omega)⟩
theorem f_greatest (hX : FD u' h w f) (hc : gR (h * w) c) (h16 : ∀ k, k < h * w → u'.2 16 k = iI (c k)) (hp : post (iI (gtV 0 c (h * w))) u') : wp_X2_greatestGrey u' post := by
  have hn := hX.n
  have e3 : u'.1 3 = iI (h * w : Nat) := hX.2.2.2.2.2.1
  have key : ∀ (m k : Nat), k + m = h * w → wp_X2_greatestGrey_4 post (m + 1) (iI (gtV 0 c k)) (iI k) u' := by
    intro m
    induction m with
    | zero =>
      intro k hk
      unfold wp_X2_greatestGrey_4
      rw [e3]
      refine b_le (by omega) (by omega) (fun _ => ?_) (fun e => absurd (by omega) e)
      rw [show k = h * w by omega]; exact hp
    | succ m ih =>
      intro k hk
      have nx := ih (k + 1) (by omega)
      have hck := hc k (by omega)
      have hl := (gt_e (c := c) k (fun j hj => hc j (by omega))).2.1
      have ev : gtV 0 c (k + 1) = zmax (gtV 0 c k) (c k) := by
        show (if c k = -1 then gtV 0 c k else zmax (gtV 0 c k) (c k)) = _
        by_cases e : c k = -1
        · rw [if_pos e]; unfold zmax; rw [if_neg (by omega)]
        · rw [if_neg e]
      rw [ev] at nx
      unfold wp_X2_greatestGrey_4
      rw [e3]
      refine b_le (by omega) (by omega) (fun e => absurd e (by omega)) (fun _ => b_in (by omega) (by omega) (by omega) ?_)
      rw [iI_clamp (by omega), Int.toNat_natCast, h16 k (by omega), iI_s, iI_max (by omega) (by omega)]
      exact nx
  exact ⟨h * w + 1, key (h * w) 0 (by omega)⟩
theorem f_unlike (hX : FD u' h w f) (hG : CG (u'.2 2) (h * w) f g) (ha : a < f) (hc : gR (h * w) c) (h16 : ∀ k, k < h * w → u'.2 16 k = iI (c k)) (hp : post (iI (otC (g a) c (h * w))) u') : wp_X2_countUnlikeRaw (iI a) u' post := by
  have hn := hX.n
  have e3 : u'.1 3 = iI (h * w : Nat) := hX.2.2.2.2.2.1
  have key : ∀ (m k : Nat), k + m = h * w → wp_X2_countUnlikeRaw_4 post (m + 1) (iI a) (iI (otC (g a) c k)) (iI k) u' := by
    intro m
    induction m with
    | zero =>
      intro k hk
      unfold wp_X2_countUnlikeRaw_4
      rw [e3]
      refine b_le (by omega) (by omega) (fun _ => ?_) (fun e => absurd (by omega) e)
      rw [show k = h * w by omega]; exact hp
    | succ m ih =>
      intro k hk
      have nx := ih (k + 1) (by omega)
      have hck := hc k (by omega)
      have hg := hG a k ha (by omega)
      rw [show otC (g a) c (k + 1) = otC (g a) c k + c01 (¬ c k = g a k) from rfl] at nx
      unfold wp_X2_countUnlikeRaw_4
      rw [e3]
      refine b_le (by omega) (by omega) (fun e => absurd e (by omega)) (fun _ => b_in (by omega) (by omega) (by omega) ?_)
      refine f_greyAt hX ha (by omega) ?_
      rw [iI_clamp (by omega), Int.toNat_natCast, h16 k (by omega), hg.1, iI_s]
      refine b_eq (by omega) (by omega) (fun e => ?_) (fun e => ?_)
      · rw [c01_f (fun q => q e), Int.add_zero] at nx; exact nx
      · rw [c01_t e] at nx; rw [l1, iI_add]; exact nx
  exact ⟨h * w + 1, key (h * w) 0 (by omega)⟩
theorem f_told {z x : Int} (hX : FX u h w f g S D E) (hL : FL u f L K O A B N) (hz : rg z) (hx : rg x) (h0 : ¬ ((0 ≤ z ∧ z < f) ∧ (0 ≤ x ∧ x ≤ 4)) → post (iI (-1)) u) (h1 : ∀ i : Nat, z = i → i < f → (0 ≤ x ∧ x ≤ 4) → ∀ u', SF u u' → post (iI (tldV (h * w) (g i) (cuL h w f g D E K O A B N i L) x)) u') : wp_X5_told (iI z) (iI x) u post := by
  have hn := hX.1.n
  unfold wp_X5_told
  refine f_hasFrame hX.1 hz (fun _ => b0 (h0 (by omega))) (fun q1 q2 => b1 ?_)
  refine f_within (b := 0) (c := 4) hx (by omega) (by omega) (fun _ => b0 (h0 (by omega))) (fun q3 q4 => b1 ?_)
  obtain ⟨i, rfl⟩ := Int.eq_ofNat_of_zero_le q1
  rw [show u.1 5 = iI L from hL.2.1, iI_toInt hx]
  refine f_make hX hL (by omega) (Nat.le_refl L) (fun u2 s2 h16 _ => ?_)
  have hp := h1 i rfl (by omega) ⟨q3, q4⟩ u2 s2
  have hX2 := hX.sf s2
  have cb := cuL_bd (D := D) (E := E) (O := O) (B := B) (N := N) hX.1.1 hX.1.2.1 hX.2.1 (a := i) (by omega) (fun j hj => (hL.2.2 j hj).2.2.2.2.2.2.1) L (Nat.le_refl L)
  have hz := nz_bd (cuL h w f g D E K O A B N i L) (h * w)
  unfold tldV at hp
  refine ⟨fun e => f_unlike hX2.1 hX2.2.1 (by omega) cb h16 ?_, fun e => f_countLost' hX2.1 cb h16 ?_, fun e => f_sumGreys hX2.1 cb h16 ?_, fun e => f_countLost' hX2.1 cb h16 ?_, fun e => f_countLost' hX2.1 cb h16 ?_⟩
  · rw [if_neg (by omega), if_neg (by omega), if_neg (by omega), if_neg (by omega)] at hp; exact hp
  · rw [if_pos e] at hp; exact hp
  · rw [if_neg (by omega), if_pos e] at hp; exact hp
  · rw [if_neg (by omega), if_neg (by omega), if_pos e] at hp
    rw [show u2.1 3 = iI (h * w : Nat) from hX2.1.2.2.2.2.2.1]
    refine b_eq (by omega) (by omega) (fun e2 => ?_) (fun e2 => f_least hX2.1 cb h16 ?_)
    · rw [if_pos (by omega)] at hp; exact hp
    · rw [if_neg (by omega)] at hp; exact hp
  · rw [if_neg (by omega), if_neg (by omega), if_neg (by omega), if_pos e] at hp
    rw [show u2.1 3 = iI (h * w : Nat) from hX2.1.2.2.2.2.2.1]
    refine b_eq (by omega) (by omega) (fun e2 => ?_) (fun e2 => f_greatest hX2.1 cb h16 ?_)
    · rw [if_pos (by omega)] at hp; exact hp
    · rw [if_neg (by omega)] at hp; exact hp
theorem m_told {z x : Int} (hX : MX u h w f g S D E) (hL : ML u f L K O A B N) (hz : rg z) (hx : rg x) (h0 : ¬ ((0 ≤ z ∧ z < f) ∧ (0 ≤ x ∧ x ≤ 4)) → post (iI (-1)) u) (h1 : ∀ i : Nat, z = i → i < f → (0 ≤ x ∧ x ≤ 4) → ∀ u', SM u u' → post (iI (tldV (h * w) (g i) (cuL h w f g D E K O A B N i L) x)) u') : wp_X6_told (iI z) (iI x) u post := by
  have hn := hX.1.n
  have hf := hX.1.f
  unfold wp_X6_told
  refine m_isFrame hX.1 hz (fun _ => b0 (h0 (by omega))) (fun q1 q2 => b1 ?_)
  refine m_in (b := 0) (c := 4) hx (by omega) (by omega) (fun _ => b0 (h0 (by omega))) (fun q3 q4 => b1 ?_)
  obtain ⟨i, rfl⟩ := Int.eq_ofNat_of_zero_le q1
  rw [lm1]
  refine m_makes hX hL (by omega) (by omega) (fun u2 s2 h31 => ?_)
  have hp := h1 i rfl (by omega) ⟨q3, q4⟩ u2 s2
  have hX2 := hX.sm s2
  have cb := cuL_bd (D := D) (E := E) (O := O) (B := B) (N := N) hX.1.1 hX.1.2.1 hX.2.1 (a := i) (by omega) (fun j hj => (hL.2.2 j hj).2.2.2.2.2.2.1) L (Nat.le_refl L)
  generalize cuL h w f g D E K O A B N i L = c at *
  have key : ∀ (m k : Nat), k + m = h * w → wp_X6_told_45 post (m + 1) (iI i) (iI x) (iI ((k : Int) - nz c k)) (iI (smV c k)) (iI (lsV 64 c k)) (iI (gtV (-1) c k)) (iI (otC (g i) c k)) (iI k) u2 := by
    intro m
    induction m with
    | zero =>
      intro k hk
      unfold wp_X6_told_45
      rw [hX2.hw]
      have hkn : k = h * w := by omega
      subst hkn
      have hz := nz_bd c (h * w)
      have hl := ls_e (h * w) cb
      have hg := gt_e (h * w) cb
      have s162 : x = 2 ∨ x = 3 → wp_X6_told_162 post (iI x) (iI (lsV 64 c (h * w))) (iI (gtV (-1) c (h * w))) u2 := by
        intro e
        unfold wp_X6_told_162
        rw [lm1]
        refine b_eq (by omega) (by omega) (fun e2 => ?_) (fun e2 => b_eq (b := 2) (by omega) (by omega) (fun e3 => ?_) (fun e3 => ?_))
        · have : nz c (h * w) = 0 := by
            by_cases q : nz c (h * w) = 0
            · exact q
            · have := hg.2.2.2 q; omega
          unfold tldV at hp
          rcases e with e | e
          · rw [if_neg (by omega), if_neg (by omega), if_pos e, if_pos this] at hp; exact hp
          · rw [if_neg (by omega), if_neg (by omega), if_neg (by omega), if_pos e, if_pos this] at hp; exact hp
        · have q : ¬ nz c (h * w) = 0 := fun q => by have := hg.2.2.1 q; omega
          unfold tldV at hp
          rw [if_neg (by omega), if_neg (by omega), if_pos e3, if_neg q, ← hl.2.2.2 q] at hp; exact hp
        · have q : ¬ nz c (h * w) = 0 := fun q => by have := hg.2.2.1 q; omega
          unfold tldV at hp
          rw [if_neg (by omega), if_neg (by omega), if_neg e3, if_pos (by omega), if_neg q, ← hg.2.2.2 q] at hp; exact hp
      refine b_le (by omega) (by omega) (fun _ => ?_) (fun e => absurd (by omega) e)
      refine b_eq (b := 2) (by omega) (by omega) (fun e => s162 (Or.inl e)) (fun e => b_eq (b := 3) (by omega) (by omega) (fun e2 => s162 (Or.inr e2)) (fun e2 => b_eq (b := 0) (by omega) (by omega) (fun e3 => ?_) (fun e3 => b_eq (b := 1) (by omega) (by omega) (fun e4 => ?_) (fun e4 => ?_))))
      · unfold tldV at hp; rw [if_pos e3] at hp; exact hp
      · unfold tldV at hp; rw [if_neg e3, if_pos e4] at hp; exact hp
      · unfold tldV at hp; rw [if_neg e3, if_neg e4, if_neg e, if_neg e2] at hp; exact hp
    | succ m ih =>
      intro k hk
      have nx := ih (k + 1) (by omega)
      have hck := cb k (by omega)
      have hg := hX2.2.1 i k (by omega) (by omega)
      have hl := (ls_e (c := c) k (fun j hj => cb j (by omega))).1
      have hgt := (gt_e (c := c) k (fun j hj => cb j (by omega))).1
      rw [nz_s, show smV c (k + 1) = smV c k + (if c k = -1 then 0 else c k) from rfl, show lsV 64 c (k + 1) = (if c k = -1 then lsV 64 c k else zmin (lsV 64 c k) (c k)) from rfl, show gtV (-1) c (k + 1) = (if c k = -1 then gtV (-1) c k else zmax (gtV (-1) c k) (c k)) from rfl, show otC (g i) c (k + 1) = otC (g i) c k + c01 (¬ c k = g i k) from rfl] at nx
      have s92 : ∀ t : Int, t = c01 (¬ c k = g i k) → wp_X6_told_92 (wp_X6_told_45 post (m + 1)) post (iI t) (iI (otC (g i) c k)) (iI i) (iI x) (iI ((k : Int) - nz c k)) (iI (smV c k)) (iI (lsV 64 c k)) (iI (gtV (-1) c k)) (iI k) (iI (c k)) u2 := by
        intro t ht
        unfold wp_X6_told_92 wp_X6_told_128
        rw [lm1, iI_s, iI_add, iI_add, ht]
        refine b_eq (by omega) (by omega) (fun e => ?_) (fun e => ?_)
        · rw [if_pos e, if_pos e, if_pos e, c01_f (p := ¬ c k = -1) (by omega), Int.add_zero, Int.add_zero] at nx
          rw [l1, iI_add, show (k : Int) - nz c k + 1 = ((k + 1 : Nat) : Int) - nz c k by omega]
          exact nx
        · rw [if_neg e, if_neg e, if_neg e, c01_t (p := ¬ c k = -1) e] at nx
          rw [show ((k + 1 : Nat) : Int) - (nz c k + 1) = (k : Int) - nz c k by omega] at nx
          unfold zmin zmax at nx
          refine b_le (by omega) (by omega) (fun e2 => b_le (by omega) (by omega) (fun e3 => ?_) (fun e3 => ?_)) (fun e2 => b_le (by omega) (by omega) (fun e3 => ?_) (fun e3 => ?_))
          · rw [if_neg (show ¬ c k < lsV 64 c k by omega), if_neg (show ¬ gtV (-1) c k < c k by omega)] at nx; exact nx
          · rw [if_neg (show ¬ c k < lsV 64 c k by omega), if_pos (show gtV (-1) c k < c k by omega)] at nx; exact nx
          · rw [if_pos (show c k < lsV 64 c k by omega), if_neg (show ¬ gtV (-1) c k < c k by omega)] at nx; exact nx
          · rw [if_pos (show c k < lsV 64 c k by omega), if_pos (show gtV (-1) c k < c k by omega)] at nx; exact nx
      unfold wp_X6_told_45
      rw [hX2.hw]
      refine b_le (by omega) (by omega) (fun e => absurd e (by omega)) (fun _ => b_in (by omega) (by omega) (by omega) ?_)
      rw [l36, iI_mul, iI_add]
      refine b_in (by omega) (by omega) (by omega) ?_
      rw [iI_clamp (by omega), iI_clamp (by omega), Int.toNat_natCast, show ((36 : Int) * i + k).toNat = 36 * i + k by omega, h31 k (by omega), hg.1]
      refine b_eq (by omega) (by omega) (fun e => s92 0 ?_) (fun e => s92 1 ?_)
      · rw [c01_f (fun q => q e)]
      · rw [c01_t e]
  exact ⟨h * w + 1, key (h * w) 0 (by omega)⟩
end TL
theorem i_told {u v : US} (hI : INV u v) (x1 x2 : Int32) : wp_X5_told x1 x2 u (fun r u' => wp_X6_told x1 x2 v (fun r' v' => r = r' ∧ INV u' v')) := by
  have hI0 := hI
  obtain ⟨hK, h, w, f, L, g, K, O, A, B, N, S, D, E, ⟨a1, a2, a3, a4⟩, b1, b2, b3, b4⟩ := hI
  obtain ⟨z, hz, rfl⟩ := iI_of x1
  obtain ⟨x, hx, rfl⟩ := iI_of x2
  refine f_told ⟨a1, a2, a4⟩ a3 hz hx (fun hn => m_told ⟨b1, b2, b4⟩ b3 hz hx (fun _ => ⟨rfl, hI0⟩) (fun i e c1 c3 => absurd ⟨by omega, c3⟩ hn)) (fun i e c1 c3 u' su => m_told ⟨b1, b2, b4⟩ b3 hz hx (fun hn => absurd ⟨by omega, c3⟩ hn) (fun j e2 _ _ v' sv => ⟨?_, hI0.mono su sv⟩))
  rw [show j = i by omega]
