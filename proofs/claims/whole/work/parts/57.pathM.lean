/-! ===== the steady path: the reference ===== -/
def PM (u u' : US) (d : Nat → Int) (S f : Nat) : Prop := SM u u' ∧ u'.1 2 = iI f ∧ u'.2 10 0 = iI S ∧ ∀ k, k < f → u'.2 26 k = iI (d k)
def CM (u' : US) (d : Nat → Int) (S f : Nat) (P : Nat → Nat → Nat → Prop) : Prop := ∀ k a b, P k a b → k + 2 ≤ f → a ≤ 2 * S → b ≤ 2 * S → u'.2 28 (49 * (k + 1) + 7 * a + b) = iI (Tm d S f (f - 2 - k) a b)
theorem CM.mono {u' : US} {d : Nat → Int} {S f : Nat} {P P' : Nat → Nat → Nat → Prop} (h : CM u' d S f P) (hp : ∀ k a b, a ≤ 2 * S → b ≤ 2 * S → P' k a b → P k a b) : CM u' d S f P' := fun k a b h1 h2 h3 h4 => h k a b (hp k a b h3 h4 h1) h2 h3 h4
def RM (u u' : US) (d : Nat → Int) (S f : Nat) : Prop := SM u u' ∧ (∀ k, k < f → u'.2 27 k = iI (pth d S f k)) ∧ u'.1 29 = iI (bdS d S f (f - 2)) ∧ u'.1 30 = iI (stS d S f f)
section PM0
variable {u u' : US} {d : Nat → Int} {S f : Nat} {post : Int32 → US → Prop} {postv : US → Prop} {P : Nat → Nat → Nat → Prop}
theorem m_placeAt (hP : PM u u' d S f) (hf : f ≤ 10) {k c : Nat} (hk : k < f) (hp : post (iI (spt d S k c)) u') : wp_X6_placeAt (iI k) (iI c) u' post := by
  unfold wp_X6_placeAt
  refine b_in (by omega) (by omega) (by omega) ?_
  rw [iI_clamp (by omega), Int.toNat_natCast, hP.2.2.2 k hk, show (0 : Int32).toNatClampNeg = 0 from rfl, hP.2.2.1, iI_add, iI_sub]
  exact hp
theorem m_strayAt (hP : PM u u' d S f) (hS : S ≤ 3) {c : Nat} (hc : c ≤ 2 * S) (hp : post (iI (zabs ((c : Int) - S))) u') : wp_X6_strayAt (iI c) u' post := by
  unfold wp_X6_strayAt
  rw [show (0 : Int32).toNatClampNeg = 0 from rfl, hP.2.2.1, iI_sub]
  exact m_size (by omega) hp
theorem m_by (hP : PM u u' d S f) (hC : CM u' d S f P) (hd : dR d f) (hS : S ≤ 3) (hf : f ≤ 10) {k a b c : Nat} (hk : k + 2 < f) (ha : a ≤ 2 * S) (hb : b ≤ 2 * S) (hc : c ≤ 2 * S) (hcell : P (k + 1) b c) (hp : post (iI (thr d S f k a b c)) u') : wp_X6_by (iI (k + 1 : Nat)) (iI a) (iI b) (iI c) u' post := by
  have s0 := spt_bd (k := k) hd hS (by omega) ha
  have s1 := spt_bd (k := k + 1) hd hS (by omega) hb
  have s2 := spt_bd (k := k + 1 + 1) hd hS (by omega) hc
  have z1 := zabs_le (a := spt d S (k + 1 + 1) c - 2 * spt d S (k + 1) b + spt d S k a) (B := 84) (by omega)
  have z2 := zabs_le (a := (c : Int) - S) (B := 3) (by omega)
  unfold wp_X6_by
  rw [iI_s]
  refine m_placeAt hP hf (by omega) ?_
  refine m_placeAt hP hf (by omega) ?_
  rw [show iI ((k + 1 : Nat) : Int) - (1 : Int32) = iI (k : Int) by rw [l1, iI_sub]; congr 1; omega]
  refine m_placeAt hP hf (by omega) ?_
  rw [l2, iI_mul, iI_sub, iI_add]
  refine m_size (by omega) ?_
  refine m_strayAt hP hS hc ?_
  rw [l49, l7, l100, iI_mul, iI_mul, iI_mul, iI_add, iI_add, iI_add, show (49 : Int) * ((k + 1 + 1 : Nat) : Int) + 7 * b + c = ((49 * (k + 1 + 1) + 7 * b + c : Nat) : Int) by omega]
  refine b_in (by omega) (by omega) (by omega) ?_
  have hcc := hC (k + 1) b c hcell (by omega) hb hc
  rw [iI_clamp (by omega), Int.toNat_natCast, hcc, iI_add, show f - 2 - (k + 1) = f - 3 - k by omega]
  exact hp
theorem PM.cell (hP : PM u u' d S f) {x : Nat → Int32} : PM u (sA u' 28 x) d S f := ⟨hP.1.sA (by omega), hP.2.1, hP.2.2.1, hP.2.2.2⟩
theorem CM.put {k a b : Nat} (hC : CM u' d S f P) (hS : S ≤ 3) (ha : a ≤ 2 * S) (hb : b ≤ 2 * S) {P' : Nat → Nat → Nat → Prop} (hp : ∀ k' a' b', P' k' a' b' → ¬ (k' = k ∧ a' = a ∧ b' = b) → P k' a' b') : CM (sA u' 28 (upd (u'.2 28) (49 * (k + 1) + 7 * a + b) (iI (Tm d S f (f - 2 - k) a b)))) d S f P' := by
  intro k' a' b' h1 h2 h3 h4
  rw [sA_same]
  by_cases e : k' = k ∧ a' = a ∧ b' = b
  · obtain ⟨rfl, rfl, rfl⟩ := e
    rw [upd_s]
  · rw [upd_n (by omega)]
    exact hC k' a' b' (hp k' a' b' h1 e) h2 h3 h4
theorem m_findRest (hP : PM u u' d S f) (hd : dR d f) (hS : S ≤ 3) (hf : f ≤ 10) (h2 : 2 ≤ f) (hp : ∀ u2, PM u u2 d S f → CM u2 d S f (fun _ _ _ => True) → postv u2) : wp_X6_findRest u' postv := by
  have m1e : iI (f : Int) - (1 : Int32) = iI ((f : Int) - 1) := by rw [l1, iI_sub]
  -- a cell is written
  have put : ∀ (k33 : Int32 → Int32 → Int32 → Int32 → US → Prop) (k a b : Nat) (u2 : US), k + 2 ≤ f → a ≤ 2 * S → b ≤ 2 * S → k33 (iI (2 * S + 1 : Nat)) (iI (k + 1 : Nat)) (iI a) (iI (b + 1 : Nat)) (sA u2 28 (upd (u2.2 28) (49 * (k + 1) + 7 * a + b) (iI (Tm d S f (f - 2 - k) a b)))) → wp_X6_findRest_121 k33 postv (iI (2 * S + 1 : Nat)) (iI (k + 1 : Nat)) (iI a) (iI b) (iI (Tm d S f (f - 2 - k) a b)) u2 := by
    intro k33 k a b u2 hk ha hb hk33
    unfold wp_X6_findRest_121
    rw [l49, l7, iI_mul, iI_mul, iI_add, iI_add, show (49 : Int) * ((k + 1 : Nat) : Int) + 7 * a + b = ((49 * (k + 1) + 7 * a + b : Nat) : Int) by omega, iI_s]
    refine b_in (by omega) (by omega) (by omega) ?_
    rw [iI_clamp (by omega), Int.toNat_natCast]
    exact hk33
  -- the least of a cell
  have least : ∀ (k33 : Int32 → Int32 → Int32 → Int32 → US → Prop) (k a b : Nat) (u2 : US), k + 2 < f → a ≤ 2 * S → b ≤ 2 * S → PM u u2 d S f → CM u2 d S f (fld k a b) → k33 (iI (2 * S + 1 : Nat)) (iI (k + 1 : Nat)) (iI a) (iI (b + 1 : Nat)) (sA u2 28 (upd (u2.2 28) (49 * (k + 1) + 7 * a + b) (iI (Tm d S f (f - 2 - k) a b)))) → ∀ (m c : Nat), c + m = 2 * S → wp_X6_findRest_67 k33 postv (m + 1) (iI (2 * S + 1 : Nat)) (iI (k + 1 : Nat)) (iI a) (iI b) (iI (mnS (thr d S f k a b) c)) (iI (c + 1 : Nat)) u2 := by
    intro k33 k a b u2 hk ha hb hP hC hk33 m
    induction m with
    | zero =>
      intro c hc
      unfold wp_X6_findRest_67
      refine b_le (by omega) (by omega) (fun _ => ?_) (fun e => absurd (by omega) e)
      rw [show c = 2 * S by omega, ← Tm_s hk]
      exact put k33 k a b u2 (by omega) ha hb hk33
    | succ m ih =>
      intro c hc
      have nx := ih (c + 1) (by omega)
      have h1 := thr_bd (a := a) (b := b) (c := c + 1) (k := k) hd hS hf (by omega) ha hb (by omega)
      have h2' := mnS_bd (F := thr d S f k a b) (A := 0) (B := 100000) c (fun c' hc' => thr_bd hd hS hf (by omega) ha hb (by omega))
      unfold wp_X6_findRest_67
      refine b_le (by omega) (by omega) (fun e => absurd e (by omega)) (fun _ => ?_)
      rw [hP.2.1, m1e]
      refine b_le (by omega) (by omega) (fun e => absurd e (by omega)) (fun _ => ?_)
      refine m_by hP hC hd hS hf hk ha hb (by omega) (Or.inl (by omega)) ?_
      unfold mnS zmin at nx
      rw [iI_s (c + 1)]
      refine b_le (by omega) (by omega) (fun e => ?_) (fun e => ?_)
      · rw [if_neg (by omega)] at nx; exact nx
      · rw [if_pos (by omega)] at nx
        exact m_by hP hC hd hS hf hk ha hb (by omega) (Or.inl (by omega)) nx
  have inner : ∀ (k25 : Int32 → Int32 → Int32 → US → Prop) (k a : Nat), k + 2 ≤ f → a ≤ 2 * S → (∀ u2, PM u u2 d S f → CM u2 d S f (fld k (a + 1) 0) → k25 (iI (2 * S + 1 : Nat)) (iI (k + 1 : Nat)) (iI (a + 1 : Nat)) u2) → ∀ (m b : Nat) (u2 : US), b + m = 2 * S + 1 → PM u u2 d S f → CM u2 d S f (fld k a b) → wp_X6_findRest_33 k25 postv (m + 1) (iI (2 * S + 1 : Nat)) (iI (k + 1 : Nat)) (iI a) (iI b) u2 := by
    intro k25 k a hk ha hk25 m
    induction m with
    | zero =>
      intro b u2 hb hP hC
      unfold wp_X6_findRest_33
      rw [iI_s]
      refine b_le (by omega) (by omega) (fun _ => hk25 u2 hP (hC.mono ?_)) (fun e => absurd (by omega) e)
      intro k' a' b' q1 q2 q3
      unfold fld at q3 ⊢
      omega
    | succ m ih =>
      intro b u2 hb hP hC
      have nx := ih (b + 1) (sA u2 28 (upd (u2.2 28) (49 * (k + 1) + 7 * a + b) (iI (Tm d S f (f - 2 - k) a b)))) (by omega) hP.cell (hC.put hS ha (by omega) (by
        intro k' a' b' q1 q2
        unfold fld at q1 ⊢
        omega))
      unfold wp_X6_findRest_33
      refine b_le (by omega) (by omega) (fun e => absurd e (by omega)) (fun _ => ?_)
      rw [hP.2.1, m1e]
      refine b_eq (by omega) (by omega) (fun e => ⟨1, ?_⟩) (fun e => ?_)
      · have z := put (wp_X6_findRest_33 k25 postv (m + 1)) k a b u2 hk ha (by omega) nx
        rw [Tm_0 (k := k) (by omega)] at z
        unfold wp_X6_findRest_67
        rw [hP.2.1, m1e]
        refine ⟨fun _ => z, fun _ => b_le (by omega) (by omega) (fun _ => z) (fun e2 => absurd (by omega) e2)⟩
      · refine m_by (c := 0) hP hC hd hS hf (by omega) ha (by omega) (by omega) (Or.inl (by omega)) ⟨2 * S + 1, ?_⟩
        exact least (wp_X6_findRest_33 k25 postv (m + 1)) k a b u2 (by omega) ha (by omega) hP hC nx (2 * S) 0 (by omega)
  have mid : ∀ (k18 : Int32 → Int32 → US → Prop) (k : Nat), k + 2 ≤ f → (∀ u2, PM u u2 d S f → CM u2 d S f (fun k' _ _ => k ≤ k') → k18 (iI (2 * S + 1 : Nat)) (iI k) u2) → ∀ (m a : Nat) (u2 : US), a + m = 2 * S + 1 → PM u u2 d S f → CM u2 d S f (fld k a 0) → wp_X6_findRest_25 k18 postv (m + 1) (iI (2 * S + 1 : Nat)) (iI (k + 1 : Nat)) (iI a) u2 := by
    intro k18 k hk hk18 m
    induction m with
    | zero =>
      intro a u2 ha hP hC
      unfold wp_X6_findRest_25
      rw [iI_m1, show ((k + 1 : Nat) : Int) - 1 = (k : Int) by omega]
      refine b_le (by omega) (by omega) (fun _ => hk18 u2 hP (hC.mono ?_)) (fun e => absurd (by omega) e)
      intro k' a' b' q1 q2 q3
      unfold fld
      omega
    | succ m ih =>
      intro a u2 ha hP hC
      unfold wp_X6_findRest_25
      refine b_le (by omega) (by omega) (fun e => absurd e (by omega)) (fun _ => ⟨2 * S + 1 + 1, ?_⟩)
      exact inner (wp_X6_findRest_25 k18 postv (m + 1)) k a hk (by omega) (fun u3 h3 h4 => ih (a + 1) u3 (by omega) h3 h4) (2 * S + 1) 0 u2 (by omega) hP hC
  have key : ∀ (r : Nat) (u2 : US), r + 1 ≤ f → PM u u2 d S f → CM u2 d S f (fun k' _ _ => r ≤ k') → wp_X6_findRest_18 postv (r + 1) (iI (2 * S + 1 : Nat)) (iI r) u2 := by
    intro r
    induction r with
    | zero =>
      intro u2 hr hP hC
      unfold wp_X6_findRest_18
      refine b_lt (b := 1) (by omega) (by omega) (fun _ => hp u2 hP (hC.mono (fun _ _ _ _ _ _ => Nat.zero_le _))) (fun e => absurd (by omega) e)
    | succ r ih =>
      intro u2 hr hP hC
      unfold wp_X6_findRest_18
      refine b_lt (b := 1) (by omega) (by omega) (fun e => absurd e (by omega)) (fun _ => ⟨2 * S + 1 + 1, ?_⟩)
      refine mid (wp_X6_findRest_18 postv (r + 1)) r (by omega) (fun u3 h3 h4 => ih u3 (by omega) h3 h4) (2 * S + 1) 0 u2 (by omega) hP (hC.mono ?_)
      intro k' a' b' q1 q2 q3
      unfold fld at q3
      omega
  unfold wp_X6_findRest
  rw [hP.2.1, m1e, show (0 : Int32).toNatClampNeg = 0 from rfl, hP.2.2.1, show (2 : Int32) * iI S + 1 = iI (2 * S + 1 : Nat) by rw [l2, iI_mul, l1, iI_add]; congr 1]
  refine ⟨f - 1 + 1, ?_⟩
  have := key (f - 1) u' (by omega) hP (fun k a b q1 q2 q3 q4 => by omega)
  rw [show ((f - 1 : Nat) : Int) = (f : Int) - 1 by omega] at this
  exact this
theorem m_last (hd : dR d f) (hS : S ≤ 3) (hf : f ≤ 10) (h2 : 2 ≤ f) (hp : ∀ u2, RM u u2 d S f → postv u2) : ∀ (m k : Nat) (u2 : US), k + 2 + m = f → PM u u2 d S f → CM u2 d S f (fun _ _ _ => True) → (∀ j, j < k + 2 → u2.2 27 j = iI (spt d S j (chc d S f j))) → u2.1 29 = iI (bdS d S f (f - 2)) → u2.1 30 = iI (stS d S f f) → wp_X6_findPath_210 postv (m + 1) (iI (chp d S f k).1) (iI (chp d S f k).2) (iI (k + 1 : Nat)) u2 := by
  have m1e : iI (f : Int) - (1 : Int32) = iI ((f : Int) - 1) := by rw [l1, iI_sub]
  intro m
  induction m with
  | zero =>
    intro k u2 hk hP hC hs q1 q2
    unfold wp_X6_findPath_210
    rw [hP.2.1, m1e]
    refine b_le (by omega) (by omega) (fun _ => hp u2 ⟨hP.1, fun j hj => ?_, q1, q2⟩) (fun e => absurd (by omega) e)
    unfold pth
    rw [if_neg (by omega)]
    exact hs j (by omega)
  | succ m ih =>
    intro k u2 hk hP hC hs q1 q2
    have hle := chp_le (d := d) (S := S) (f := f) k
    unfold wp_X6_findPath_210
    rw [hP.2.1, m1e]
    refine b_le (by omega) (by omega) (fun e => absurd e (by omega)) (fun _ => ?_)
    have hT := hC k (chp d S f k).1 (chp d S f k).2 trivial (by omega) hle.1 hle.2
    rw [Tm_s (by omega)] at hT
    have ham := amS_le (thr d S f k (chp d S f k).1 (chp d S f k).2) (2 * S)
    have hmb := mnS_bd (F := thr d S f k (chp d S f k).1 (chp d S f k).2) (A := 0) (B := 100000) (2 * S) (fun c hc => thr_bd hd hS hf (by omega) hle.1 hle.2 hc)
    have lp : ∀ (n c : Nat), c + n = amS (thr d S f k (chp d S f k).1 (chp d S f k).2) (2 * S) → wp_X6_findPath_224 (wp_X6_findPath_210 postv (m + 1)) postv (n + 1) (iI (chp d S f k).1) (iI (chp d S f k).2) (iI (k + 1 : Nat)) (iI c) u2 := by
      intro n
      induction n with
      | zero =>
        intro c hc
        unfold wp_X6_findPath_224
        refine m_by hP hC hd hS hf (by omega) hle.1 hle.2 (by omega) trivial ?_
        rw [l49, l7, iI_mul, iI_mul, iI_add, iI_add, show (49 : Int) * ((k + 1 : Nat) : Int) + 7 * ((chp d S f k).1 : Int) + ((chp d S f k).2 : Int) = ((49 * (k + 1) + 7 * (chp d S f k).1 + (chp d S f k).2 : Nat) : Int) by omega, iI_s]
        refine b_in (by omega) (by omega) (by omega) ?_
        rw [iI_clamp (by omega), Int.toNat_natCast, hT]
        have ec : thr d S f k (chp d S f k).1 (chp d S f k).2 c = mnS (thr d S f k (chp d S f k).1 (chp d S f k).2) (2 * S) := by rw [← amS_mn]; congr 1
        refine b_t (by rw [ec]) ?_
        refine m_placeAt hP hf (by omega) ?_
        refine b_in (by omega) (by omega) (by omega) ?_
        rw [iI_clamp (by omega), Int.toNat_natCast]
        have ecc : c = (chp d S f (k + 1)).2 := by
          show c = amS _ _
          omega
        rw [show (chp d S f k).2 = (chp d S f (k + 1)).1 from rfl, ecc]
        refine ih (k + 1) _ (by omega) ⟨hP.1.sA (by omega), hP.2.1, hP.2.2.1, hP.2.2.2⟩ hC (fun j hj => ?_) q1 q2
        rw [sA_same]
        by_cases e : j = k + 1 + 1
        · rw [e, upd_s]; rfl
        · rw [upd_n e]; exact hs j (by omega)
      | succ n ihn =>
        intro c hc
        have nx := ihn (c + 1) (by omega)
        have hlt := amS_lt (thr d S f k (chp d S f k).1 (chp d S f k).2) (2 * S) c (by omega)
        have hcb := thr_bd (a := (chp d S f k).1) (b := (chp d S f k).2) (c := c) (k := k) hd hS hf (by omega) hle.1 hle.2 (by omega)
        unfold wp_X6_findPath_224
        refine m_by hP hC hd hS hf (by omega) hle.1 hle.2 (by omega) trivial ?_
        rw [l49, l7, iI_mul, iI_mul, iI_add, iI_add, show (49 : Int) * ((k + 1 : Nat) : Int) + 7 * ((chp d S f k).1 : Int) + ((chp d S f k).2 : Int) = ((49 * (k + 1) + 7 * (chp d S f k).1 + (chp d S f k).2 : Nat) : Int) by omega, iI_s c]
        refine b_in (by omega) (by omega) (by omega) ?_
        rw [iI_clamp (by omega), Int.toNat_natCast, hT]
        refine b_f (by rw [iI_eq (by omega) (by omega)]; omega) nx
    exact ⟨_, lp (amS (thr d S f k (chp d S f k).1 (chp d S f k).2) (2 * S)) 0 (by omega)⟩
theorem m_search (hP : PM u u' d S f) (hC : CM u' d S f (fun _ _ _ => True)) (hd : dR d f) (hS : S ≤ 3) (hf : f ≤ 10) (h2 : 2 ≤ f) (hp : ∀ u2, RM u u2 d S f → postv u2) : ∃ j, wp_X6_findPath_85 postv j (iI (2 * S + 1 : Nat)) (-1 : Int32) (0 : Int32) (0 : Int32) (0 : Int32) u' := by
  have inner : ∀ (k85 : Int32 → Int32 → Int32 → Int32 → Int32 → US → Prop) (i : Nat), i ≤ 2 * S → k85 (iI (2 * S + 1 : Nat)) (iI (outS d S f (i + 1)).1) (iI (outS d S f (i + 1)).2.1) (iI (outS d S f (i + 1)).2.2) (iI (i + 1 : Nat)) u' → ∀ (m j : Nat) (x3 x4 x5 : Int32), j + m = 2 * S + 1 → ((i = 0 ∧ j = 0 ∧ x3 = -1) ∨ (x3 = iI (inS d S f (outS d S f i) i j).1 ∧ x4 = iI (inS d S f (outS d S f i) i j).2.1 ∧ x5 = iI (inS d S f (outS d S f i) i j).2.2)) → wp_X6_findPath_94 k85 postv (m + 1) (iI (2 * S + 1 : Nat)) x3 x4 x5 (iI i) (iI j) u' := by
    intro k85 i hi hk m
    induction m with
    | zero =>
      intro j x3 x4 x5 hj hX
      unfold wp_X6_findPath_94
      rw [iI_s]
      refine b_le (by omega) (by omega) (fun _ => ?_) (fun e => absurd (by omega) e)
      rcases hX with ⟨-, e, -⟩ | ⟨e3, e4, e5⟩
      · omega
      · rw [e3, e4, e5, show j = 2 * S + 1 by omega]; exact hk
    | succ m ih =>
      intro j x3 x4 x5 hj hX
      have ho := inS_ok (d := d) (f := f) (outS_ok i (by omega)) hi j (by omega)
      have b1' := stc_bd hd hS hf h2 ho.2.1 ho.2.2
      rw [← ho.1] at b1'
      have b2' := stc_bd (a := i) (b := j) hd hS hf h2 hi (by omega)
      have nx := fun y3 y4 y5 => ih (j + 1) y3 y4 y5 (by omega)
      have st : inS d S f (outS d S f i) i (j + 1) = if stc d S f i j < (inS d S f (outS d S f i) i j).1 then (stc d S f i j, i, j) else inS d S f (outS d S f i) i j := rfl
      rw [st] at nx
      unfold wp_X6_findPath_94
      refine b_le (by omega) (by omega) (fun e => absurd e (by omega)) (fun _ => ?_)
      refine m_strayAt hP hS hi (m_strayAt hP hS (by omega) ?_)
      rw [l49, l7, iI_mul, iI_add, iI_add, show (49 : Int) + 7 * (i : Int) + j = ((49 * (0 + 1) + 7 * i + j : Nat) : Int) by omega, iI_s]
      refine b_in (by omega) (by omega) (by omega) ?_
      have hcc := hC 0 i j trivial (by omega) hi (by omega)
      rw [iI_clamp (by omega), Int.toNat_natCast, hcc, iI_add, iI_add, Nat.sub_zero]
      change (x3 < 0 → wp_X6_findPath_142 _ postv _ _ _ (iI (stc d S f i j)) u') ∧ (¬ x3 < 0 → ((x3 ≤ iI (stc d S f i j) → _) ∧ (¬ x3 ≤ iI (stc d S f i j) → wp_X6_findPath_142 _ postv _ _ _ (iI (stc d S f i j)) u')))
      unfold wp_X6_findPath_142
      rw [iI_s]
      rcases hX with ⟨e1, e2, e3⟩ | ⟨e3, e4, e5⟩
      · subst e1; subst e2
        rw [e3]
        refine b_t (by decide) (nx _ _ _ (Or.inr ?_))
        rw [if_neg (by show ¬ stc d S f 0 0 < stc d S f 0 0; omega)]
        exact ⟨rfl, rfl, rfl⟩
      · rw [e3]
        refine b_f (by rw [l0, iI_lt (by omega) (by omega)]; omega) (b_le (by omega) (by omega) (fun e => nx _ _ _ (Or.inr ?_)) (fun e => nx _ _ _ (Or.inr ?_)))
        · rw [if_neg (by omega)]; exact ⟨rfl, e4, e5⟩
        · rw [if_pos (by omega)]; exact ⟨rfl, rfl, rfl⟩
  have outer : ∀ (m i : Nat) (x3 x4 x5 : Int32), i + m = 2 * S + 1 → ((i = 0 ∧ x3 = -1) ∨ (x3 = iI (outS d S f i).1 ∧ x4 = iI (outS d S f i).2.1 ∧ x5 = iI (outS d S f i).2.2)) → wp_X6_findPath_85 postv (m + 1) (iI (2 * S + 1 : Nat)) x3 x4 x5 (iI i) u' := by
    intro m
    induction m with
    | zero =>
      intro i x3 x4 x5 hi hX
      unfold wp_X6_findPath_85
      refine b_le (by omega) (by omega) (fun _ => ?_) (fun e => absurd (by omega) e)
      rcases hX with ⟨e1, -⟩ | ⟨e3, e4, e5⟩
      · omega
      rw [show i = 2 * S + 1 by omega] at e3 e4 e5
      have hok := bst_ok (d := d) (S := S) (f := f)
      have hb := stc_bd (a := (bst d S f).2.1) (b := (bst d S f).2.2) hd hS hf h2 hok.2.1 hok.2.2
      rw [← hok.1] at hb
      have he := bst_e (d := d) (S := S) h2
      have hs := stS_bd (d := d) (f := f) hS f
      have hb0 := bdS_0 (d := d) (S := S) (f := f) (f - 2)
      change x3 = iI (bst d S f).1 at e3
      change x4 = iI (bst d S f).2.1 at e4
      change x5 = iI (bst d S f).2.2 at e5
      rw [e3, e4, e5, l100, iI_rem (by omega) (by omega), iI_div (by omega) (by omega), show (bst d S f).1 / 100 = bdS d S f (f - 2) by omega, show (bst d S f).1 % 100 = stS d S f f by omega]
      have hP1 : PM u (si (si u' 29 (iI (bdS d S f (f - 2)))) 30 (iI (stS d S f f))) d S f := ⟨(hP.1.si (by omega)).si (by omega), hP.2.1, hP.2.2.1, hP.2.2.2⟩
      have hP2 : ∀ {v : US} (x : Nat → Int32), PM u v d S f → PM u (sA v 27 x) d S f := fun x h => ⟨h.1.sA (by omega), h.2.1, h.2.2.1, h.2.2.2⟩
      refine m_placeAt (k := 0) hP1 hf (by omega) ?_
      refine m_placeAt (k := 1) (hP2 _ hP1) hf (by omega) ⟨f - 2 + 1, ?_⟩
      refine m_last hd hS hf h2 hp (f - 2) 0 _ (by omega) (hP2 _ (hP2 _ hP1)) hC (fun j hj => ?_) rfl rfl
      rw [sA_same, sA_same]
      have hh : j = 0 ∨ j = 1 := by omega
      rcases hh with rfl | rfl
      · rfl
      · rfl
    | succ m ih =>
      intro i x3 x4 x5 hi hX
      unfold wp_X6_findPath_85
      refine b_le (by omega) (by omega) (fun e => absurd e (by omega)) (fun _ => ⟨2 * S + 1 + 1, ?_⟩)
      refine inner (wp_X6_findPath_85 postv (m + 1)) i (by omega) (ih (i + 1) _ _ _ (by omega) (Or.inr ⟨rfl, rfl, rfl⟩)) (2 * S + 1) 0 x3 x4 x5 (by omega) ?_
      rcases hX with ⟨e1, e2⟩ | h
      · exact Or.inl ⟨e1, rfl, e2⟩
      · exact Or.inr h
  exact ⟨2 * S + 1 + 1, outer (2 * S + 1) 0 _ _ _ (by omega) (Or.inl ⟨rfl, rfl⟩)⟩
end PM0
section PM1
variable {u : US} {h w f S : Nat} {g : Nat → Nat → Int} {a z : Int} {post : Int32 → US → Prop} {postv : US → Prop}
theorem m_findPath (hC : MD u h w f) (hG : CG (u.2 3) (h * w) f g) (hS : S ≤ 3) (eS : u.2 10 0 = iI S) (hz : 0 ≤ z ∧ z ≤ 1) (hp : ∀ u2, RM u u2 (drV h w g z) S f → postv u2) : wp_X6_findPath (iI z) u postv := by
  have hf := hC.f
  have e2 : u.1 2 = iI f := hC.2.2.2.2.2
  have c1 := hC.1
  have c2 := hC.2.1
  have hd := drV_dR c1.2 c2.2 hf hG z
  have key : ∀ (m k : Nat) (u2 : US), k + m = f → SM u u2 → u2.1 29 = iI 0 → u2.1 30 = iI 0 → (∀ j, j < k → u2.2 26 j = iI (drV h w g z j) ∧ u2.2 27 j = iI (drV h w g z j)) → wp_X6_findPath_23 postv (m + 1) (iI z) (iI (2 * S + 1 : Nat)) (iI k) u2 := by
    intro m
    induction m with
    | zero =>
      intro k u2 hk sf q1 q2 hs
      unfold wp_X6_findPath_23
      rw [sf.1 2 (by omega), e2]
      refine b_le (by omega) (by omega) (fun _ => b_le (a := 2) (by omega) (by omega) (fun e => ?_) (fun e => hp u2 ⟨sf, fun j hj => ?_, ?_, ?_⟩)) (fun e => absurd (by omega) e)
      · have hP : PM u u2 (drV h w g z) S f := ⟨sf, by rw [sf.1 2 (by omega)]; exact e2, by rw [sf.2 10 (by omega)]; exact eS, fun j hj => (hs j (by omega)).1⟩
        exact m_findRest hP hd hS hf (by omega) (fun u3 h3 h4 => m_search h3 h4 hd hS hf (by omega) hp)
      · unfold pth; rw [if_pos (by omega)]; exact (hs j (by omega)).2
      · rw [show f - 2 = 0 by omega]; exact q1
      · rw [q2]
        congr 1
        have hh : f = 0 ∨ f = 1 := by omega
        rcases hh with rfl | rfl
        · rfl
        · show (0 : Int) = 0 + zabs (pth (drV h w g z) S 1 0 - drV h w g z 0)
          unfold pth
          rw [if_pos (by omega), Int.sub_self]
          rfl
    | succ m ih =>
      intro k u2 hk sf q1 q2 hs
      unfold wp_X6_findPath_23
      rw [sf.1 2 (by omega), e2]
      refine b_le (by omega) (by omega) (fun e => absurd e (by omega)) (fun _ => ?_)
      refine m_driftOf (hC.sm sf) (by rw [sf.2 3 (by omega)]; exact hG) (by omega) hz (fun u3 s3 q3 => ?_)
      have hi : vp_in (iI (k : Int)) 10 := (iI_in (by omega)).mpr ⟨by omega, by omega⟩
      refine ⟨hi, hi, hi, ?_⟩
      rw [iI_clamp (by omega), Int.toNat_natCast, iI_s, upd_s]
      refine ih (k + 1) _ (by omega) (((sf.tr s3).sA (by omega)).sA (by omega)) ?_ ?_ (fun j hj => ?_)
      · show u3.1 29 = _
        rw [q3.2 29 (by omega)]; exact q1
      · show u3.1 30 = _
        rw [q3.2 30 (by omega)]; exact q2
      · rw [sA_other (by omega), sA_same, sA_same, q3.1]
        by_cases e : j = k
        · rw [e, upd_s, upd_s]; exact ⟨rfl, rfl⟩
        · rw [upd_n e, upd_n e]; exact hs j (by omega)
  unfold wp_X6_findPath
  rw [show (0 : Int32).toNatClampNeg = 0 from rfl, eS, show (2 : Int32) * iI S + 1 = iI (2 * S + 1 : Nat) by rw [l2, iI_mul, l1, iI_add]; congr 1]
  exact ⟨f + 1, key f 0 _ (by omega) ((SM.rf.si (by omega)).si (by omega)) rfl rfl (fun j hj => absurd hj (by omega))⟩
theorem m_path (hC : MD u h w f) (hG : CG (u.2 3) (h * w) f g) (hS : S ≤ 3) (eS : u.2 10 0 = iI S) (ha : rg a) (hz : rg z) (h0 : ¬ ((0 ≤ a ∧ a < f) ∧ (0 ≤ z ∧ z ≤ 1)) → post (iI (-1000)) u) (h1 : ∀ i : Nat, a = i → i < f → (0 ≤ z ∧ z ≤ 1) → ∀ u', SM u u' → post (iI (pth (drV h w g z) S f i)) u') : wp_X6_path (iI a) (iI z) u post := by
  have hf := hC.f
  unfold wp_X6_path
  refine m_isFrame hC ha (fun _ => b0 (h0 (by omega))) (fun q1 q2 => b1 ?_)
  refine m_in (b := 0) (c := 1) hz (by omega) (by omega) (fun _ => b0 (h0 (by omega))) (fun q3 q4 => b1 ?_)
  obtain ⟨i, rfl⟩ := Int.eq_ofNat_of_zero_le q1
  refine m_findPath hC hG hS eS ⟨q3, q4⟩ (fun u2 hR => b_in (by omega) (by omega) (by omega) ?_)
  rw [iI_clamp (by omega), Int.toNat_natCast, hR.2.1 i (by omega)]
  exact h1 i rfl (by omega) ⟨q3, q4⟩ u2 hR.1
theorem m_bends (hC : MD u h w f) (hG : CG (u.2 3) (h * w) f g) (hS : S ≤ 3) (eS : u.2 10 0 = iI S) (hz : rg z) (ha : rg a) (h0 : ¬ ((0 ≤ z ∧ z ≤ 1) ∧ (0 ≤ a ∧ a ≤ 1)) → post (iI (-1)) u) (h1 : (0 ≤ z ∧ z ≤ 1) → (0 ≤ a ∧ a ≤ 1) → ∀ u', SM u u' → post (iI (bndV (drV h w g z) S f a)) u') : wp_X6_bends (iI z) (iI a) u post := by
  unfold wp_X6_bends
  refine m_in (b := 0) (c := 1) hz (by omega) (by omega) (fun _ => b0 (h0 (by omega))) (fun q1 q2 => b1 ?_)
  refine m_in (b := 0) (c := 1) ha (by omega) (by omega) (fun _ => b0 (h0 (by omega))) (fun q3 q4 => b1 ?_)
  refine m_findPath hC hG hS eS ⟨q1, q2⟩ (fun u2 hR => ?_)
  have hp := h1 ⟨q1, q2⟩ ⟨q3, q4⟩ u2 hR.1
  unfold bndV at hp
  rw [hR.2.2.1, hR.2.2.2]
  refine b_eq (b := 0) (by omega) (by omega) (fun e => ?_) (fun e => ?_)
  · rw [if_pos e] at hp; exact hp
  · rw [if_neg e] at hp; exact hp
end PM1
section I6
variable {u v : US}
theorem i_path (hI : INV u v) (x1 x2 : Int32) : wp_X5_path x1 x2 u (fun r u' => wp_X6_path x1 x2 v (fun r' v' => r = r' ∧ INV u' v')) := by
  have hI0 := hI
  obtain ⟨hK, h, w, f, L, g, K, O, A, B, N, S, D, E, ⟨a1, a2, a3, a4⟩, b1, b2, b3, b4⟩ := hI
  obtain ⟨a, ha, rfl⟩ := iI_of x1
  obtain ⟨z, hz, rfl⟩ := iI_of x2
  obtain ⟨s, rfl⟩ := Int.eq_ofNat_of_zero_le a4.2.2.2.1.1
  have hs : s ≤ 3 := by have := a4.2.2.2.1.2; omega
  refine f_path a1 a2 hs a4.1 ha hz (fun hn => m_path b1 b2 hs b4.1 ha hz (fun _ => ⟨rfl, hI0⟩) (fun i e c1 c3 => absurd ⟨by omega, c3⟩ hn)) (fun i e c1 c3 u' su => m_path b1 b2 hs b4.1 ha hz (fun hn => absurd ⟨by omega, c3⟩ hn) (fun j e2 _ _ v' sv => ⟨?_, hI0.mono su sv⟩))
  rw [show j = i by omega]
theorem i_bends (hI : INV u v) (x1 x2 : Int32) : wp_X5_bends x1 x2 u (fun r u' => wp_X6_bends x1 x2 v (fun r' v' => r = r' ∧ INV u' v')) := by
  have hI0 := hI
  obtain ⟨hK, h, w, f, L, g, K, O, A, B, N, S, D, E, ⟨a1, a2, a3, a4⟩, b1, b2, b3, b4⟩ := hI
  obtain ⟨z, hz, rfl⟩ := iI_of x1
  obtain ⟨a, ha, rfl⟩ := iI_of x2
  obtain ⟨s, rfl⟩ := Int.eq_ofNat_of_zero_le a4.2.2.2.1.1
  have hs : s ≤ 3 := by have := a4.2.2.2.1.2; omega
  exact f_bends a1 a2 hs a4.1 hz ha (fun hn => m_bends b1 b2 hs b4.1 hz ha (fun _ => ⟨rfl, hI0⟩) (fun c1 c2 => absurd ⟨c1, c2⟩ hn)) (fun c1 c2 u' su => m_bends b1 b2 hs b4.1 hz ha (fun hn => absurd ⟨c1, c2⟩ hn) (fun _ _ v' sv => ⟨rfl, hI0.mono su sv⟩))
end I6
