/-! ===== the steady path: the class ===== -/
theorem iI_m1 (k : Nat) : iI (k : Int) + (-1) = iI ((k : Int) - 1) := by
  rw [lm1, iI_add]; congr 1
theorem iI_s2 (k : Nat) : iI (k : Int) + 2 = iI ((k + 2 : Nat) : Int) := iI_add k 2
def PF (u u' : US) (d : Nat → Int) (S f : Nat) : Prop := SF u u' ∧ u'.1 12 = iI f ∧ u'.1 13 = iI S ∧ u'.1 14 = iI (2 * S + 1 : Nat) ∧ ∀ k, k < f → u'.2 12 k = iI (d k)
def CF (u' : US) (d : Nat → Int) (S f : Nat) (P : Nat → Nat → Nat → Prop) : Prop := ∀ k a b, P k a b → k + 2 ≤ f → a ≤ 2 * S → b ≤ 2 * S → u'.2 14 (49 * k + 7 * a + b) = iI (Tm d S f (f - 2 - k) a b)
theorem CF.mono {u' : US} {d : Nat → Int} {S f : Nat} {P P' : Nat → Nat → Nat → Prop} (h : CF u' d S f P) (hp : ∀ k a b, a ≤ 2 * S → b ≤ 2 * S → P' k a b → P k a b) : CF u' d S f P' := fun k a b h1 h2 h3 h4 => h k a b (hp k a b h3 h4 h1) h2 h3 h4
def RS (u u' : US) (d : Nat → Int) (S f : Nat) : Prop := SF u u' ∧ u'.1 12 = iI f ∧ (∀ k, k < f → u'.2 12 k = iI (d k)) ∧ ∀ k, k < f → u'.2 13 k = iI (pth d S f k)
section PF0
variable {u u' : US} {d : Nat → Int} {S f : Nat} {post : Int32 → US → Prop} {postv : US → Prop} {P : Nat → Nat → Nat → Prop}
theorem spt_bd {k c : Nat} (hd : dR d f) (hS : S ≤ 3) (hk : k < f) (hc : c ≤ 2 * S) : -21 ≤ spt d S k c ∧ spt d S k c ≤ 21 := by
  have := hd k hk
  unfold spt; omega
theorem f_spotOf (hP : PF u u' d S f) (hf : f ≤ 10) {k c : Nat} (hk : k < f) (hp : post (iI (spt d S k c)) u') : wp_X4_spotOf (iI k) (iI c) u' post := by
  unfold wp_X4_spotOf
  refine b_in (by omega) (by omega) (by omega) ?_
  rw [iI_clamp (by omega), Int.toNat_natCast, hP.2.2.2.2 k hk, hP.2.2.1, iI_add, iI_sub]
  exact hp
theorem f_slotOf {k a b : Nat} (hp : post (iI (49 * k + 7 * a + b : Nat)) u') : wp_X4_slotOf (iI k) (iI a) (iI b) u' post := by
  unfold wp_X4_slotOf
  rw [l49, l7, iI_mul, iI_mul, iI_add, iI_add, show (k : Int) * 49 + a * 7 + b = ((49 * k + 7 * a + b : Nat) : Int) by omega]
  exact hp
theorem f_costThrough (hP : PF u u' d S f) (hC : CF u' d S f P) (hd : dR d f) (hS : S ≤ 3) (hf : f ≤ 10) {k a b c : Nat} (hk : k + 2 < f) (ha : a ≤ 2 * S) (hb : b ≤ 2 * S) (hc : c ≤ 2 * S) (hcell : P (k + 1) b c) (hp : post (iI (thr d S f k a b c)) u') : wp_X4_costThrough (iI k) (iI a) (iI b) (iI c) u' post := by
  have s0 := spt_bd (k := k) hd hS (by omega) ha
  have s1 := spt_bd (k := k + 1) hd hS (by omega) hb
  have s2 := spt_bd (k := k + 2) hd hS (by omega) hc
  unfold wp_X4_costThrough
  rw [iI_s2, iI_s]
  refine f_spotOf hP hf (by omega) ?_
  refine f_spotOf hP hf (by omega) ?_
  refine f_spotOf hP hf (by omega) ?_
  refine f_slotOf ?_
  refine b_in (by omega) (by omega) (by omega) ?_
  have hcc := hC (k + 1) b c hcell (by omega) hb hc
  rw [iI_clamp (by omega), Int.toNat_natCast, hcc, hP.2.2.1, l2, l100, iI_mul, iI_sub, iI_add, iI_abs (by omega), iI_mul, iI_sub, iI_abs (by omega), iI_add, iI_add, show f - 2 - (k + 1) = f - 3 - k by omega]
  exact hp
theorem f_leastCost (hP : PF u u' d S f) (hC : CF u' d S f P) (hd : dR d f) (hS : S ≤ 3) (hf : f ≤ 10) {k a b : Nat} (hk : k + 2 ≤ f) (ha : a ≤ 2 * S) (hb : b ≤ 2 * S) (hcell : ∀ c, P (k + 1) b c) (hp : post (iI (Tm d S f (f - 2 - k) a b)) u') : wp_X4_leastCostBehind (iI k) (iI a) (iI b) u' post := by
  unfold wp_X4_leastCostBehind
  rw [hP.2.1, iI_s2]
  refine b_lt (by omega) (by omega) (fun e => ?_) (fun e => ?_)
  · rw [Tm_s (by omega)] at hp
    refine f_costThrough (c := 0) hP hC hd hS hf (by omega) ha hb (by omega) (hcell 0) ?_
    have key : ∀ (m c : Nat), c + m = 2 * S → wp_X4_leastCostBehind_25 post (m + 1) (iI k) (iI a) (iI b) (iI (mnS (thr d S f k a b) c)) (iI (c + 1 : Nat)) u' := by
      intro m
      induction m with
      | zero =>
        intro c hc
        unfold wp_X4_leastCostBehind_25
        rw [hP.2.2.2.1]
        refine b_le (by omega) (by omega) (fun _ => ?_) (fun e => absurd (by omega) e)
        rw [show c = 2 * S by omega]; exact hp
      | succ m ih =>
        intro c hc
        have nx := ih (c + 1) (by omega)
        unfold wp_X4_leastCostBehind_25
        rw [hP.2.2.2.1]
        refine b_le (by omega) (by omega) (fun e => absurd e (by omega)) (fun _ => ?_)
        refine f_costThrough hP hC hd hS hf (by omega) ha hb (by omega) (hcell _) ?_
        have h1 := thr_bd (a := a) (b := b) (c := c + 1) (k := k) hd hS hf (by omega) ha hb (by omega)
        have h2 := mnS_bd (F := thr d S f k a b) (A := 0) (B := 100000) c (fun c' hc' => thr_bd hd hS hf (by omega) ha hb (by omega))
        rw [iI_min (by omega) (by omega), iI_s]
        exact nx
    exact ⟨2 * S + 1, key (2 * S) 0 (by omega)⟩
  · rw [Tm_0 (by omega)] at hp
    exact hp
theorem PF.cell (hP : PF u u' d S f) {x : Nat → Int32} : PF u (sA u' 14 x) d S f := ⟨hP.1.sA (by omega), hP.2.1, hP.2.2.1, hP.2.2.2.1, hP.2.2.2.2⟩
theorem CF.put {k a b : Nat} (hC : CF u' d S f P) (hS : S ≤ 3) (ha : a ≤ 2 * S) (hb : b ≤ 2 * S) {P' : Nat → Nat → Nat → Prop} (hp : ∀ k' a' b', P' k' a' b' → ¬ (k' = k ∧ a' = a ∧ b' = b) → P k' a' b') : CF (sA u' 14 (upd (u'.2 14) (49 * k + 7 * a + b) (iI (Tm d S f (f - 2 - k) a b)))) d S f P' := by
  intro k' a' b' h1 h2 h3 h4
  rw [sA_same]
  by_cases e : k' = k ∧ a' = a ∧ b' = b
  · obtain ⟨rfl, rfl, rfl⟩ := e
    rw [upd_s]
  · rw [upd_n (by omega)]
    exact hC k' a' b' (hp k' a' b' h1 e) h2 h3 h4
abbrev fld (k a b : Nat) : Nat → Nat → Nat → Prop := fun k' a' b' => k < k' ∨ (k' = k ∧ (a' < a ∨ (a' = a ∧ b' < b)))
theorem f_findCosts (hP : PF u u' d S f) (hd : dR d f) (hS : S ≤ 3) (hf : f ≤ 10) (h2 : 2 ≤ f) (hp : ∀ u2, PF u u2 d S f → CF u2 d S f (fun _ _ _ => True) → postv u2) : wp_X4_findCosts u' postv := by
  have inner : ∀ (k13 : Int32 → Int32 → US → Prop) (k a : Nat), k + 2 ≤ f → a ≤ 2 * S → (∀ u2, PF u u2 d S f → CF u2 d S f (fld k (a + 1) 0) → k13 (iI k) (iI (a + 1 : Nat)) u2) → ∀ (m b : Nat) (u2 : US), b + m = 2 * S + 1 → PF u u2 d S f → CF u2 d S f (fld k a b) → wp_X4_findCosts_23 k13 postv (m + 1) (iI k) (iI a) (iI b) u2 := by
    intro k13 k a hk ha hk13 m
    induction m with
    | zero =>
      intro b u2 hb hP hC
      unfold wp_X4_findCosts_23
      rw [hP.2.2.2.1, iI_s]
      refine b_le (by omega) (by omega) (fun _ => hk13 u2 hP (hC.mono ?_)) (fun e => absurd (by omega) e)
      intro k' a' b' q1 q2 q3
      unfold fld at q3 ⊢
      omega
    | succ m ih =>
      intro b u2 hb hP hC
      unfold wp_X4_findCosts_23
      rw [hP.2.2.2.1]
      refine b_le (by omega) (by omega) (fun e => absurd e (by omega)) (fun _ => ?_)
      refine f_slotOf ?_
      refine f_leastCost hP hC hd hS hf hk ha (by omega) (fun c => Or.inl (by omega)) ?_
      refine b_in (by omega) (by omega) (by omega) ?_
      rw [iI_clamp (by omega), Int.toNat_natCast, iI_s]
      refine ih (b + 1) _ (by omega) hP.cell (hC.put hS ha (by omega) ?_)
      intro k' a' b' q1 q2
      unfold fld at q1 ⊢
      omega
  have mid : ∀ (k7 : Int32 → US → Prop) (k : Nat), k + 2 ≤ f → (∀ u2, PF u u2 d S f → CF u2 d S f (fun k' _ _ => k ≤ k') → k7 (iI ((k : Int) - 1)) u2) → ∀ (m a : Nat) (u2 : US), a + m = 2 * S + 1 → PF u u2 d S f → CF u2 d S f (fld k a 0) → wp_X4_findCosts_13 k7 postv (m + 1) (iI k) (iI a) u2 := by
    intro k7 k hk hk7 m
    induction m with
    | zero =>
      intro a u2 ha hP hC
      unfold wp_X4_findCosts_13
      rw [hP.2.2.2.1, iI_m1]
      refine b_le (by omega) (by omega) (fun _ => hk7 u2 hP (hC.mono ?_)) (fun e => absurd (by omega) e)
      intro k' a' b' q1 q2 q3
      unfold fld
      omega
    | succ m ih =>
      intro a u2 ha hP hC
      unfold wp_X4_findCosts_13
      rw [hP.2.2.2.1]
      refine b_le (by omega) (by omega) (fun e => absurd e (by omega)) (fun _ => ⟨2 * S + 1 + 1, ?_⟩)
      exact inner (wp_X4_findCosts_13 k7 postv (m + 1)) k a hk (by omega) (fun u3 h3 h4 => ih (a + 1) u3 (by omega) h3 h4) (2 * S + 1) 0 u2 (by omega) hP hC
  have key : ∀ (r : Nat) (u2 : US), r + 1 ≤ f → PF u u2 d S f → CF u2 d S f (fun k' _ _ => r ≤ k') → wp_X4_findCosts_7 postv (r + 1) (iI ((r : Int) - 1)) u2 := by
    intro r
    induction r with
    | zero =>
      intro u2 hr hP hC
      unfold wp_X4_findCosts_7
      refine b_lt (b := 0) (by omega) (by omega) (fun _ => hp u2 hP (hC.mono (fun _ _ _ _ _ _ => Nat.zero_le _))) (fun e => absurd (by omega) e)
    | succ r ih =>
      intro u2 hr hP hC
      unfold wp_X4_findCosts_7
      refine b_lt (b := 0) (by omega) (by omega) (fun e => absurd e (by omega)) (fun _ => ⟨2 * S + 1 + 1, ?_⟩)
      rw [show ((r + 1 : Nat) : Int) - 1 = (r : Int) by omega]
      refine mid (wp_X4_findCosts_7 postv (r + 1)) r (by omega) (fun u3 h3 h4 => ih u3 (by omega) h3 h4) (2 * S + 1) 0 u2 (by omega) hP (hC.mono ?_)
      intro k' a' b' q1 q2 q3
      unfold fld at q3
      omega
  unfold wp_X4_findCosts
  rw [hP.2.1, l2, iI_sub]
  refine ⟨f - 1 + 1, ?_⟩
  have := key (f - 1) u' (by omega) hP (fun k a b q1 q2 q3 q4 => by omega)
  rw [show ((f - 1 : Nat) : Int) - 1 = (f : Int) - 2 by omega] at this
  exact this
theorem f_costOfStart (hP : PF u u' d S f) (hC : CF u' d S f (fun _ _ _ => True)) (hd : dR d f) (hS : S ≤ 3) (hf : f ≤ 10) (h2 : 2 ≤ f) {a b : Nat} (ha : a ≤ 2 * S) (hb : b ≤ 2 * S) (hp : post (iI (stc d S f a b)) u') : wp_X4_costOfStart (iI a) (iI b) u' post := by
  unfold wp_X4_costOfStart
  refine f_slotOf (k := 0) ?_
  refine b_in (by omega) (by omega) (by omega) ?_
  have hcc := hC 0 a b trivial (by omega) ha hb
  rw [iI_clamp (by omega), Int.toNat_natCast, hcc, hP.2.2.1, iI_sub, iI_sub, iI_abs (by omega), iI_abs (by omega), iI_add, iI_add, Nat.sub_zero]
  exact hp
theorem f_leastThird (hP : PF u u' d S f) (hC : CF u' d S f (fun _ _ _ => True)) (hd : dR d f) (hS : S ≤ 3) (hf : f ≤ 10) {k a b : Nat} (hk : k + 2 < f) (ha : a ≤ 2 * S) (hb : b ≤ 2 * S) (hp : post (iI (amS (thr d S f k a b) (2 * S) : Nat)) u') : wp_X4_leastThird (iI k) (iI a) (iI b) u' post := by
  unfold wp_X4_leastThird
  have key : ∀ (m c : Nat), c + m = 2 * S → wp_X4_leastThird_6 post (m + 1) (iI k) (iI a) (iI b) (iI (amS (thr d S f k a b) c : Nat)) (iI (c + 1 : Nat)) u' := by
    intro m
    induction m with
    | zero =>
      intro c hc
      unfold wp_X4_leastThird_6
      rw [hP.2.2.2.1]
      refine b_le (by omega) (by omega) (fun _ => ?_) (fun e => absurd (by omega) e)
      rw [show c = 2 * S by omega]; exact hp
    | succ m ih =>
      intro c hc
      have nx := ih (c + 1) (by omega)
      have hle := amS_le (thr d S f k a b) c
      unfold wp_X4_leastThird_6
      rw [hP.2.2.2.1]
      refine b_le (by omega) (by omega) (fun e => absurd e (by omega)) (fun _ => ?_)
      refine f_costThrough hP hC hd hS hf (by omega) ha hb (by omega) trivial ?_
      refine f_costThrough hP hC hd hS hf (by omega) ha hb (by omega) trivial ?_
      have h1 := thr_bd (a := a) (b := b) (c := c + 1) (k := k) hd hS hf (by omega) ha hb (by omega)
      have h2 := thr_bd (a := a) (b := b) (c := amS (thr d S f k a b) c) (k := k) hd hS hf (by omega) ha hb (by omega)
      rw [iI_s]
      unfold amS at nx
      refine b_le (by omega) (by omega) (fun e => ?_) (fun e => ?_)
      · rw [if_neg (by omega)] at nx; exact nx
      · rw [if_pos (by omega)] at nx; exact nx
  exact ⟨2 * S + 1, key (2 * S) 0 (by omega)⟩
theorem f_takeChoices (hP : PF u u' d S f) (hC : CF u' d S f (fun _ _ _ => True)) (hd : dR d f) (hS : S ≤ 3) (hf : f ≤ 10) (h2 : 2 ≤ f) (hp : ∀ u2, RS u u2 d S f → postv u2) : wp_X4_takeChoices u' postv := by
  -- the frames behind the first two
  have last : ∀ (m k : Nat) (u2 : US), k + 2 + m = f → PF u u2 d S f → CF u2 d S f (fun _ _ _ => True) → (∀ j, j < k + 2 → u2.2 13 j = iI (spt d S j (chc d S f j))) → wp_X4_takeChoices_99 postv (m + 1) (iI (chp d S f k).1) (iI (chp d S f k).2) (iI k) u2 := by
    intro m
    induction m with
    | zero =>
      intro k u2 hk hP hC hs
      unfold wp_X4_takeChoices_99
      rw [hP.2.1, iI_s2]
      refine b_le (by omega) (by omega) (fun _ => hp u2 ⟨hP.1, hP.2.1, hP.2.2.2.2, fun j hj => ?_⟩) (fun e => absurd (by omega) e)
      unfold pth
      rw [if_neg (by omega)]
      exact hs j (by omega)
    | succ m ih =>
      intro k u2 hk hP hC hs
      have hle := chp_le (d := d) (S := S) (f := f) k
      unfold wp_X4_takeChoices_99
      rw [hP.2.1, iI_s2]
      refine b_le (by omega) (by omega) (fun e => absurd e (by omega)) (fun _ => ?_)
      refine f_leastThird hP hC hd hS hf (by omega) hle.1 hle.2 ?_
      refine f_spotOf hP hf (by omega) ?_
      refine b_in (by omega) (by omega) (by omega) ?_
      rw [iI_clamp (by omega), Int.toNat_natCast, iI_s]
      refine ih (k + 1) _ (by omega) ⟨hP.1.sA (by omega), hP.2.1, hP.2.2.1, hP.2.2.2.1, hP.2.2.2.2⟩ hC (fun j hj => ?_)
      rw [sA_same]
      by_cases e : j = k + 2
      · rw [e, upd_s]; rfl
      · rw [upd_n e]; exact hs j (by omega)
  -- the search of the first two
  have inner : ∀ (k14 : Int32 → Int32 → Int32 → Int32 → US → Prop) (i : Nat) (X : ST), i ≤ 2 * S → okS d S f X → k14 (iI (inS d S f X i (2 * S + 1)).2.1) (iI (inS d S f X i (2 * S + 1)).2.2) (iI (inS d S f X i (2 * S + 1)).1) (iI (i + 1 : Nat)) u' → ∀ (m j : Nat), j + m = 2 * S + 1 → wp_X4_takeChoices_26 k14 postv (m + 1) (iI (inS d S f X i j).2.1) (iI (inS d S f X i j).2.2) (iI (inS d S f X i j).1) (iI i) (iI j) u' := by
    intro k14 i X hi hX hk m
    induction m with
    | zero =>
      intro j hj
      unfold wp_X4_takeChoices_26
      rw [hP.2.2.2.1, iI_s]
      refine b_le (by omega) (by omega) (fun _ => ?_) (fun e => absurd (by omega) e)
      rw [show j = 2 * S + 1 by omega]; exact hk
    | succ m ih =>
      intro j hj
      have nx := ih (j + 1) (by omega)
      have ho := inS_ok hX hi j (by omega)
      have b1' := stc_bd hd hS hf h2 ho.2.1 ho.2.2
      rw [← ho.1] at b1'
      have b2' := stc_bd (a := i) (b := j) hd hS hf h2 hi (by omega)
      unfold wp_X4_takeChoices_26
      rw [hP.2.2.2.1, iI_s j]
      refine b_le (by omega) (by omega) (fun e => absurd e (by omega)) (fun _ => ?_)
      refine f_costOfStart hP hC hd hS hf h2 hi (by omega) ?_
      unfold inS at nx
      refine b_le (by omega) (by omega) (fun e => ?_) (fun e => ?_)
      · rw [if_neg (by omega)] at nx; exact nx
      · rw [if_pos (by omega)] at nx; exact nx
  have outer : ∀ (m i : Nat), i + m = 2 * S + 1 → wp_X4_takeChoices_14 postv (m + 1) (iI (outS d S f i).2.1) (iI (outS d S f i).2.2) (iI (outS d S f i).1) (iI i) u' := by
    intro m
    induction m with
    | zero =>
      intro i hi
      unfold wp_X4_takeChoices_14
      rw [hP.2.2.2.1]
      refine b_le (by omega) (by omega) (fun _ => ?_) (fun e => absurd (by omega) e)
      rw [show i = 2 * S + 1 by omega]
      refine f_spotOf (k := 0) hP hf (by omega) ?_
      have hP1 : ∀ x, PF u (sA u' 13 x) d S f := fun x => ⟨hP.1.sA (by omega), hP.2.1, hP.2.2.1, hP.2.2.2.1, hP.2.2.2.2⟩
      refine f_spotOf (k := 1) (hP1 _) hf (by omega) ⟨f - 2 + 1, ?_⟩
      refine last (f - 2) 0 _ (by omega) ⟨(hP1 _).1.sA (by omega), hP.2.1, hP.2.2.1, hP.2.2.2.1, hP.2.2.2.2⟩ hC (fun j hj => ?_)
      rw [sA_same, sA_same]
      have hh : j = 0 ∨ j = 1 := by omega
      rcases hh with rfl | rfl
      · rfl
      · rfl
    | succ m ih =>
      intro i hi
      unfold wp_X4_takeChoices_14
      rw [hP.2.2.2.1]
      refine b_le (by omega) (by omega) (fun e => absurd e (by omega)) (fun _ => ⟨2 * S + 1 + 1, ?_⟩)
      exact inner (wp_X4_takeChoices_14 postv (m + 1)) i (outS d S f i) (by omega) (outS_ok i (by omega)) (ih (i + 1) (by omega)) (2 * S + 1) 0 (by omega)
  unfold wp_X4_takeChoices
  refine f_costOfStart (a := 0) (b := 0) hP hC hd hS hf h2 (by omega) (by omega) ⟨2 * S + 1 + 1, outer (2 * S + 1) 0 (by omega)⟩
theorem f_solve (sf : SF u u') (hd : dR d f) (hS : S ≤ 3) (hf : f ≤ 10) (hdr : ∀ k, k < f → u'.2 12 k = iI (d k)) (hp : ∀ u2, RS u u2 d S f → postv u2) : wp_X4_solve (iI f) (iI S) u' postv := by
  unfold wp_X4_solve
  have e : (2 : Int32) * iI S + 1 = iI (2 * S + 1 : Nat) := by rw [l2, iI_mul, l1, iI_add]; congr 1
  rw [e]
  have hP : PF u (si (si (si u' 12 (iI f)) 13 (iI S)) 14 (iI (2 * S + 1 : Nat))) d S f := ⟨((sf.si (by omega)).si (by omega)).si (by omega), rfl, rfl, rfl, hdr⟩
  refine b_le (a := 3) (by omega) (by omega) (fun h3 => ?_) (fun h3 => ?_)
  · exact f_findCosts hP hd hS hf (by omega) (fun u2 h4 h5 => f_takeChoices h4 h5 hd hS hf (by omega) hp)
  · refine ⟨⟨by decide, by decide, ?_, ?_, ?_⟩, hp _ ⟨hP.1.sA (by omega), rfl, hdr, fun k hk => ?_⟩⟩
    · rw [l0, iI_lt (by omega) (by omega)]; omega
    · rw [iI_clamp (by omega)]; show 0 + _ ≤ 10; omega
    · rw [iI_clamp (by omega)]; show 0 + _ ≤ 10; omega
    · rw [sA_same]
      unfold gcp
      rw [iI_clamp (by omega), Int.toNat_natCast]
      show va_cpy (u'.2 12) (u'.2 13) 0 0 f k = _
      unfold va_cpy
      rw [if_pos (by omega), show 0 + (k - 0) = k by omega, hdr k hk]
      by_cases e2 : f = 2
      · subst e2; rw [pth_2 hk]
      · unfold pth; rw [if_pos (by omega)]
end PF0
section PF1
variable {u : US} {h w f S : Nat} {g : Nat → Nat → Int} {a z : Int} {post : Int32 → US → Prop} {postv : US → Prop}
theorem drV_dR {G : Nat → Int32} (hh : h ≤ 6) (hw : w ≤ 6) (hf : f ≤ 10) (hG : CG G (h * w) f g) (ax : Int) : dR (drV h w g ax) f := fun k hk => by
  have := drV_bd hh hw hG ax hk
  omega
theorem f_findPath (hC : FD u h w f) (hG : CG (u.2 2) (h * w) f g) (hS : S ≤ 3) (eS : u.2 9 0 = iI S) (hz : 0 ≤ z ∧ z ≤ 1) (hp : ∀ u2, RS u u2 (drV h w g z) S f → postv u2) : wp_X5_findPath (iI z) u postv := by
  have hf := hC.f
  have e4 : u.1 4 = iI f := hC.2.2.2.2.2.2
  have c1 := hC.1
  have c2 := hC.2.1
  have hd := drV_dR c1.2 c2.2 hf hG z
  have st : ∀ (k4 : Int32 → Int32 → Int32 → US → Prop) (k : Nat) (u2 : US), k < f → k4 (iI z) (iI (drV h w g z k)) (iI (k + 1 : Nat)) (sA u2 12 (upd (u2.2 12) k (iI (drV h w g z k)))) → wp_X5_findPath_38 k4 postv (iI z) (iI (drV h w g z k)) (iI k) u2 := by
    intro k4 k u2 hk hk4
    unfold wp_X5_findPath_38 wp_X4_setDrift
    refine b_lt (b := 0) (by omega) (by omega) (fun e => absurd e (by omega)) (fun _ => b_le (a := 10) (by omega) (by omega) (fun e => absurd e (by omega)) (fun _ => b_in (by omega) (by omega) (by omega) ?_))
    rw [iI_clamp (by omega), Int.toNat_natCast, iI_s]
    exact hk4
  have key : ∀ (m k : Nat) (u2 : US), k + m = f → SF u u2 → (∀ j, j < k → u2.2 12 j = iI (drV h w g z j)) → wp_X5_findPath_4 postv (m + 1) (iI z) (iI (drV h w g z (k - 1))) (iI k) u2 := by
    intro m
    induction m with
    | zero =>
      intro k u2 hk sf hs
      unfold wp_X5_findPath_4
      rw [sf.1 4 (by omega), e4]
      refine b_le (by omega) (by omega) (fun _ => ?_) (fun e => absurd (by omega) e)
      show wp_X4_solve (iI f) (u2.2 9 0) u2 _
      rw [sf.2 9 (by omega), eS]
      exact f_solve sf hd hS hf (fun j hj => hs j (by omega)) hp
    | succ m ih =>
      intro k u2 hk sf hs
      have nx : ∀ u3, SF u u3 → u3.2 12 = u2.2 12 → wp_X5_findPath_4 postv (m + 1) (iI z) (iI (drV h w g z k)) (iI (k + 1 : Nat)) (sA u3 12 (upd (u3.2 12) k (iI (drV h w g z k)))) := by
        intro u3 s3 e3
        refine ih (k + 1) _ (by omega) (s3.sA (by omega)) (fun j hj => ?_)
        rw [sA_same, e3]
        by_cases e : j = k
        · rw [e, upd_s]
        · rw [upd_n e]; exact hs j (by omega)
      unfold wp_X5_findPath_4
      rw [sf.1 4 (by omega), e4]
      refine b_le (by omega) (by omega) (fun e => absurd e (by omega)) (fun _ => b_le (b := 0) (by omega) (by omega) (fun e0 => ?_) (fun e0 => ?_))
      · have : k = 0 := by omega
        subst this
        exact st _ 0 u2 (by omega) (nx u2 sf rfl)
      · refine f_find (hC.sf sf) (by rw [sf.2 2 (by omega)]; exact hG) (by omega) (by omega) (fun u3 hF => f_along (by omega) hF ?_)
        have e : iI (drV h w g z (k - 1)) + iI (if z = 0 then (outB h w (g (k - 1)) (g k) 5).1 else (outB h w (g (k - 1)) (g k) 5).2.1) = iI (drV h w g z k) := by
          rw [iI_add]
          congr 1
          obtain ⟨k', rfl⟩ : ∃ k', k = k' + 1 := ⟨k - 1, by omega⟩
          rfl
        rw [e]
        exact st _ k u3 (by omega) (nx u3 (sf.tr hF.1.1) (by rw [hF.1.2]))
  exact ⟨f + 1, key f 0 u (by omega) SF.rf (fun j hj => absurd hj (by omega))⟩
theorem f_path (hC : FD u h w f) (hG : CG (u.2 2) (h * w) f g) (hS : S ≤ 3) (eS : u.2 9 0 = iI S) (ha : rg a) (hz : rg z) (h0 : ¬ ((0 ≤ a ∧ a < f) ∧ (0 ≤ z ∧ z ≤ 1)) → post (iI (-1000)) u) (h1 : ∀ i : Nat, a = i → i < f → (0 ≤ z ∧ z ≤ 1) → ∀ u', SF u u' → post (iI (pth (drV h w g z) S f i)) u') : wp_X5_path (iI a) (iI z) u post := by
  have hf := hC.f
  unfold wp_X5_path
  refine f_hasFrame hC ha (fun _ => b0 (h0 (by omega))) (fun q1 q2 => b1 ?_)
  refine f_within (b := 0) (c := 1) hz (by omega) (by omega) (fun _ => b0 (h0 (by omega))) (fun q3 q4 => b1 ?_)
  obtain ⟨i, rfl⟩ := Int.eq_ofNat_of_zero_le q1
  refine f_findPath hC hG hS eS ⟨q3, q4⟩ (fun u2 hR => ?_)
  unfold wp_X4_spotAt
  rw [hR.2.1]
  refine b_lt (b := 0) (by omega) (by omega) (fun e => absurd e (by omega)) (fun _ => b_le (by omega) (by omega) (fun e => absurd e (by omega)) (fun _ => b_in (by omega) (by omega) (by omega) ?_))
  rw [iI_clamp (by omega), Int.toNat_natCast, hR.2.2.2 i (by omega)]
  exact h1 i rfl (by omega) ⟨q3, q4⟩ u2 hR.1
theorem pth_bd {d : Nat → Int} {k : Nat} (hd : dR d f) (hS : S ≤ 3) (hk : k < f) : -21 ≤ pth d S f k ∧ pth d S f k ≤ 21 := by
  unfold pth
  split
  · have := hd k hk; omega
  · exact spt_bd hd hS hk (chp_le k).1
theorem bdS_bd {d : Nat → Int} (hd : dR d f) (hS : S ≤ 3) {n : Nat} (hn : n + 2 ≤ f ∨ n = 0) : 0 ≤ bdS d S f n ∧ bdS d S f n ≤ 84 * n := by
  have := sm_bd (f := bdv d S f) (a := 0) (b := 84) n (fun k hk => by
    have p0 := pth_bd (k := k) hd hS (by omega)
    have p1 := pth_bd (k := k + 1) hd hS (by omega)
    have p2 := pth_bd (k := k + 2) hd hS (by omega)
    exact zabs_le (by omega))
  unfold bdS
  omega
theorem f_sumBends {u' : US} {d : Nat → Int} (hR : RS u u' d S f) (hd : dR d f) (hS : S ≤ 3) (hf : f ≤ 10) (hp : post (iI (bdS d S f (f - 2))) u') : wp_X4_sumOfBends u' post := by
  have key : ∀ (m k : Nat), k + m = f - 2 → wp_X4_sumOfBends_4 post (m + 1) (iI (bdS d S f k)) (iI (k + 1 : Nat)) u' := by
    intro m
    induction m with
    | zero =>
      intro k hk
      unfold wp_X4_sumOfBends_4
      rw [hR.2.1, iI_s]
      refine b_le (by omega) (by omega) (fun _ => ?_) (fun e => absurd (by omega) e)
      rw [show k = f - 2 by omega]; exact hp
    | succ m ih =>
      intro k hk
      have nx := ih (k + 1) (by omega)
      have hb := bdS_bd (n := k) hd hS (Or.inl (by omega))
      have p0 := pth_bd (k := k) hd hS (by omega)
      have p1 := pth_bd (k := k + 1) hd hS (by omega)
      have p2 := pth_bd (k := k + 1 + 1) hd hS (by omega)
      unfold wp_X4_sumOfBends_4
      rw [hR.2.1, iI_s]
      refine b_le (by omega) (by omega) (fun e => absurd e (by omega)) (fun _ => ?_)
      rw [show iI ((k + 1 : Nat) : Int) - (1 : Int32) = iI (k : Int) by rw [l1, iI_sub]; congr 1; omega]
      refine b_in (by omega) (by omega) (by omega) (b_in (by omega) (by omega) (by omega) (b_in (by omega) (by omega) (by omega) ?_))
      rw [iI_clamp (by omega), iI_clamp (by omega), iI_clamp (by omega), Int.toNat_natCast, Int.toNat_natCast, Int.toNat_natCast, hR.2.2.2 k (by omega), hR.2.2.2 (k + 1) (by omega), hR.2.2.2 (k + 1 + 1) (by omega), l2, iI_mul, iI_sub, iI_add, iI_abs (by omega), iI_add]
      exact nx
  exact ⟨f - 2 + 1, key (f - 2) 0 (by omega)⟩
theorem f_sumStrays {u' : US} {d : Nat → Int} (hR : RS u u' d S f) (hd : dR d f) (hS : S ≤ 3) (hf : f ≤ 10) (hp : post (iI (stS d S f f)) u') : wp_X4_sumOfStrays u' post := by
  have key : ∀ (m k : Nat), k + m = f → wp_X4_sumOfStrays_4 post (m + 1) (iI (stS d S f k)) (iI k) u' := by
    intro m
    induction m with
    | zero =>
      intro k hk
      unfold wp_X4_sumOfStrays_4
      rw [hR.2.1]
      refine b_le (by omega) (by omega) (fun _ => ?_) (fun e => absurd (by omega) e)
      rw [show k = f by omega]; exact hp
    | succ m ih =>
      intro k hk
      have nx := ih (k + 1) (by omega)
      have p0 := pth_bd (k := k) hd hS (by omega)
      have q0 := hd k (by omega)
      unfold wp_X4_sumOfStrays_4
      rw [hR.2.1]
      refine b_le (by omega) (by omega) (fun e => absurd e (by omega)) (fun _ => b_in (by omega) (by omega) (by omega) (b_in (by omega) (by omega) (by omega) ?_))
      rw [iI_clamp (by omega), Int.toNat_natCast, hR.2.2.2 k (by omega), hR.2.2.1 k (by omega), iI_sub, iI_abs (by omega), iI_add, iI_s]
      exact nx
  exact ⟨f + 1, key f 0 (by omega)⟩
def bndV (d : Nat → Int) (S f : Nat) (x : Int) : Int := if x = 0 then bdS d S f (f - 2) else stS d S f f
theorem f_bends (hC : FD u h w f) (hG : CG (u.2 2) (h * w) f g) (hS : S ≤ 3) (eS : u.2 9 0 = iI S) (hz : rg z) (ha : rg a) (h0 : ¬ ((0 ≤ z ∧ z ≤ 1) ∧ (0 ≤ a ∧ a ≤ 1)) → post (iI (-1)) u) (h1 : (0 ≤ z ∧ z ≤ 1) → (0 ≤ a ∧ a ≤ 1) → ∀ u', SF u u' → post (iI (bndV (drV h w g z) S f a)) u') : wp_X5_bends (iI z) (iI a) u post := by
  have hf := hC.f
  unfold wp_X5_bends
  refine f_within (b := 0) (c := 1) hz (by omega) (by omega) (fun _ => b0 (h0 (by omega))) (fun q1 q2 => b1 ?_)
  refine f_within (b := 0) (c := 1) ha (by omega) (by omega) (fun _ => b0 (h0 (by omega))) (fun q3 q4 => b1 ?_)
  have hd := drV_dR hC.1.2 hC.2.1.2 hf hG z
  refine f_findPath hC hG hS eS ⟨q1, q2⟩ (fun u2 hR => ?_)
  have hp := h1 ⟨q1, q2⟩ ⟨q3, q4⟩ u2 hR.1
  unfold bndV at hp
  refine b_eq (b := 0) (by omega) (by omega) (fun e => f_sumBends hR hd hS hf ?_) (fun e => f_sumStrays hR hd hS hf ?_)
  · rw [if_pos e] at hp; exact hp
  · rw [if_neg e] at hp; exact hp
end PF1
