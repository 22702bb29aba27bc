/-! ===== the greys in rising order ===== -/
def insF (r : Nat → Int) (s : Nat) (v : Int) : Nat → Int := fun i => if i < s then r i else if i = s then v else r (i - 1)
theorem sm_ins (φ : Int → Int) (r : Nat → Int) (s : Nat) (v : Int) : ∀ d : Nat, sm (fun i => φ (insF r s v i)) (s + d + 1) = sm (fun i => φ (r i)) (s + d) + φ v
  | 0 => by
    show sm (fun i => φ (insF r s v i)) s + φ (insF r s v s) = _
    rw [sm_congr (g := fun i => φ (r i)) s (fun k hk => by show φ (insF r s v k) = _; unfold insF; rw [if_pos hk])]
    unfold insF
    rw [if_neg (by omega), if_pos rfl]
    rfl
  | d + 1 => by
    show sm (fun i => φ (insF r s v i)) (s + d + 1) + φ (insF r s v (s + d + 1)) = sm (fun i => φ (r i)) (s + d) + φ (r (s + d)) + φ v
    rw [sm_ins φ r s v d]
    unfold insF
    rw [if_neg (by omega), if_neg (by omega), show s + d + 1 - 1 = s + d by omega]
    omega
/-- c numbers in rising order, as many below each v as the first p greys have -/
def Srt (gr r : Nat → Int) (c p : Nat) : Prop := (c : Int) = nz gr p ∧ (∀ i j, i ≤ j → j < c → r i ≤ r j) ∧ (∀ v, sm (fun i => c01 (r i < v)) c = dkc gr v p) ∧ ∀ i, i < c → 0 ≤ r i ∧ r i ≤ 63
theorem Srt.ins {gr r : Nat → Int} {c p s : Nat} (h : Srt gr r c p) (hs : s ≤ c) (h1 : ∀ i, s ≤ i → i < c → gr p < r i) (h2 : 0 < s → r (s - 1) ≤ gr p) (hg : 0 ≤ gr p ∧ gr p ≤ 63) : Srt gr (insF r s (gr p)) (c + 1) (p + 1) := by
  obtain ⟨q1, q2, q3, q4⟩ := h
  refine ⟨?_, fun i j hij hj => ?_, fun v => ?_, fun i hi => ?_⟩
  · show ((c + 1 : Nat) : Int) = nz gr p + c01 _
    rw [c01_t (by omega)]; omega
  · unfold insF
    by_cases a1 : i < s
    · rw [if_pos a1]
      by_cases b1 : j < s
      · rw [if_pos b1]; exact q2 i j hij (by omega)
      · rw [if_neg b1]
        have := q2 i (s - 1) (by omega) (by omega)
        have := h2 (by omega)
        by_cases b2 : j = s
        · rw [if_pos b2]; omega
        · rw [if_neg b2]
          have := h1 (j - 1) (by omega) (by omega)
          omega
    · rw [if_neg a1, if_neg (show ¬ j < s by omega)]
      by_cases a2 : i = s
      · rw [if_pos a2]
        by_cases b2 : j = s
        · rw [if_pos b2]; exact Int.le_refl _
        · rw [if_neg b2]
          have := h1 (j - 1) (by omega) (by omega)
          omega
      · rw [if_neg a2, if_neg (show ¬ j = s by omega)]
        exact q2 (i - 1) (j - 1) (by omega) (by omega)
  · have := sm_ins (fun x => c01 (x < v)) r s (gr p) (c - s)
    rw [show s + (c - s) = c by omega] at this
    rw [this, q3 v]
    show dkc gr v p + c01 _ = dkc gr v p + c01 _
    unfold c01
    split <;> split <;> omega
  · unfold insF
    by_cases a1 : i < s
    · rw [if_pos a1]; exact q4 i (by omega)
    · rw [if_neg a1]
      by_cases a2 : i = s
      · rw [if_pos a2]; exact hg
      · rw [if_neg a2]; exact q4 (i - 1) (by omega)
theorem Srt.skip {gr r : Nat → Int} {c p : Nat} (h : Srt gr r c p) (hg : gr p = -1) : Srt gr r c (p + 1) := by
  obtain ⟨q1, q2, q3, q4⟩ := h
  refine ⟨?_, q2, fun v => ?_, q4⟩
  · show (c : Int) = nz gr p + c01 _
    rw [c01_f (by omega)]; omega
  · show _ = dkc gr v p + c01 _
    rw [c01_f (by omega), Int.add_zero]; exact q3 v
theorem sm_le {F : Nat → Int} {i : Nat} : ∀ d : Nat, (∀ k, F k ≤ 1 ∧ 0 ≤ F k) → (∀ k, i ≤ k → k < i + d → F k = 0) → sm F (i + d) ≤ i
  | 0, hb, _ => by
    have := sm_bd (f := F) (a := 0) (b := 1) i (fun k _ => ⟨(hb k).2, (hb k).1⟩)
    show sm F i ≤ i
    omega
  | d + 1, hb, hz => by
    show sm F (i + d) + F (i + d) ≤ i
    rw [hz (i + d) (by omega) (by omega), Int.add_zero]
    exact sm_le d hb (fun k a b => hz k a (by omega))
theorem sm_ge {F : Nat → Int} {i : Nat} : ∀ d : Nat, (∀ k, 0 ≤ F k) → (∀ k, k < i → F k = 1) → (i : Int) ≤ sm F (i + d)
  | 0, hb, h1 => by
    have := sm_bd (f := F) (a := 1) (b := 1) i (fun k hk => by rw [h1 k hk]; omega)
    show (i : Int) ≤ sm F i
    omega
  | d + 1, hb, h1 => by
    have := sm_ge d hb h1
    have := hb (i + d)
    show (i : Int) ≤ sm F (i + d) + F (i + d)
    omega
theorem Srt.isK {gr r : Nat → Int} {c N i : Nat} (h : Srt gr r c N) (hi : i < c) : isK gr N i (r i) := by
  obtain ⟨q1, q2, q3, q4⟩ := h
  refine ⟨(q4 i hi).1, (q4 i hi).2, ?_, ?_⟩
  · rw [← q3]
    have := sm_le (F := fun j => c01 (r j < r i)) (i := i) (c - i) (fun k => ⟨(c01_bd _).2, (c01_bd _).1⟩) (fun k a b => c01_f (by have := q2 i k a (by omega); omega))
    rw [show i + (c - i) = c by omega] at this
    exact this
  · rw [← q3]
    have := sm_ge (F := fun j => c01 (r j < r i + 1)) (i := i + 1) (c - (i + 1)) (fun k => (c01_bd _).1) (fun k a => c01_t (by have := q2 k i (by omega) hi; omega))
    rw [show i + 1 + (c - (i + 1)) = c by omega] at this
    omega
theorem Srt.nil {gr r : Nat → Int} : Srt gr r 0 0 := ⟨rfl, fun _ _ _ h => absurd h (by omega), fun _ => rfl, fun _ h => absurd h (by omega)⟩
section SO
variable {u : US} {h w f a : Nat} {g : Nat → Nat → Int} {S D E : Int} {post : Int32 → US → Prop}
theorem f_sort (hX : FX u h w f g S D E) (ha : a < f) (hp : ∀ (R : Nat → Int32) (r : Nat → Int) (m : Nat), (m : Int) = nz (g a) (h * w) → (∀ i, i < m → R i = iI (r i) ∧ isK (g a) (h * w) i (r i)) → post (iI m) (sA u 18 R)) : wp_X2_sortGreysOf (iI a) u post := by
  have hn := hX.1.n
  have e3 : u.1 3 = iI (h * w : Nat) := hX.1.2.2.2.2.2.1
  have inner : ∀ (k4 : Int32 → Int32 → Int32 → US → Prop) (c p : Nat) (r : Nat → Int) (v : Int), c < 36 → p < 36 → Srt (g a) r c p → v = g a p → 0 ≤ v ∧ v ≤ 63 → (∀ (R' : Nat → Int32) (r' : Nat → Int), (∀ i, i < c + 1 → R' i = iI (r' i)) → Srt (g a) r' (c + 1) (p + 1) → k4 (iI a) (iI (c + 1 : Nat)) (iI (p + 1 : Nat)) (sA u 18 R')) → ∀ (s : Nat) (R : Nat → Int32), s ≤ c → (∀ i, i < s → R i = iI (r i)) → (∀ i, s ≤ i → i < c → R (i + 1) = iI (r i) ∧ v < r i) → wp_X2_sortGreysOf_35 k4 post (s + 1) (iI a) (iI c) (iI p) (iI v) (iI s) (sA u 18 R) := by
    intro k4 c p r v hc hp36 hS ev hv hk s
    -- the grey is laid at its place
    have fin : ∀ (s : Nat) (R : Nat → Int32), s ≤ c → (∀ i, i < s → R i = iI (r i)) → (∀ i, s ≤ i → i < c → R (i + 1) = iI (r i) ∧ v < r i) → (0 < s → r (s - 1) ≤ v) → wp_X2_sortGreysOf_76 k4 post (iI a) (iI c) (iI p) (iI v) (iI s) (sA u 18 R) := by
      intro s R hs h1 h2 h3
      unfold wp_X2_sortGreysOf_76
      refine b_in (by omega) (by omega) (by omega) ?_
      rw [iI_clamp (by omega), Int.toNat_natCast, sA_same, sA_sA, iI_s c, iI_s p]
      refine hk _ (insF r s (g a p)) (fun i hi => ?_) (hS.ins hs (fun i a b => by rw [← ev]; exact (h2 i a b).2) (fun z => by rw [← ev]; exact h3 z) (by rw [← ev]; exact hv))
      unfold insF upd
      by_cases e1 : i = s
      · rw [if_pos e1, if_neg (by omega), if_pos e1, ev]
      · rw [if_neg e1]
        by_cases e2 : i < s
        · rw [if_pos e2]; exact h1 i e2
        · rw [if_neg e2, if_neg e1]
          have := (h2 (i - 1) (by omega) (by omega)).1
          rw [show i - 1 + 1 = i by omega] at this
          exact this
    induction s with
    | zero =>
      intro R hs h1 h2
      unfold wp_X2_sortGreysOf_35
      exact b_le (b := 0) (by omega) (by omega) (fun _ => fin 0 R hs h1 h2 (fun z => absurd z (by omega))) (fun e => absurd (by omega) e)
    | succ s ih =>
      intro R hs h1 h2
      have hr := hS.2.2.2 s (by omega)
      unfold wp_X2_sortGreysOf_35
      refine b_le (b := 0) (by omega) (by omega) (fun e => absurd e (by omega)) (fun _ => ?_)
      rw [show iI ((s + 1 : Nat) : Int) - (1 : Int32) = iI (s : Int) by rw [l1, iI_sub]; congr 1; omega, iI_m1, show ((s + 1 : Nat) : Int) - 1 = (s : Int) by omega]
      refine b_in (by omega) (by omega) (by omega) ?_
      rw [iI_clamp (by omega), iI_clamp (by omega), Int.toNat_natCast, Int.toNat_natCast, sA_same, h1 s (by omega), sA_sA]
      refine b_le (by omega) (by omega) (fun e => fin (s + 1) R hs h1 h2 (fun _ => by rw [show s + 1 - 1 = s by omega]; exact e)) (fun e => b_in (by omega) (by omega) (by omega) (b_in (by omega) (by omega) (by omega) ?_))
      refine ih _ (by omega) (fun i hi => ?_) (fun i a b => ?_)
      · rw [upd_n (by omega)]; exact h1 i (by omega)
      · by_cases e2 : i = s
        · rw [e2, upd_s]; exact ⟨rfl, by omega⟩
        · rw [upd_n (by omega)]; exact h2 i (by omega) b
  have key : ∀ (m p c : Nat) (R : Nat → Int32) (r : Nat → Int), p + m = h * w → (∀ i, i < c → R i = iI (r i)) → Srt (g a) r c p → wp_X2_sortGreysOf_4 post (m + 1) (iI a) (iI c) (iI p) (sA u 18 R) := by
    intro m
    induction m with
    | zero =>
      intro p c R r hpm hR hS
      unfold wp_X2_sortGreysOf_4
      rw [sA_1, e3]
      have hc := hS.1
      have hb := nz_bd (g a) p
      refine b_le (by omega) (by omega) (fun _ => ?_) (fun e => absurd (by omega) e)
      rw [show p = h * w by omega] at hS
      exact hp R r c hS.1 (fun i hi => ⟨hR i hi, hS.isK hi⟩)
    | succ m ih =>
      intro p c R r hpm hR hS
      have hc := hS.1
      have hb := nz_bd (g a) p
      have hg := hX.2.1 a p ha (by omega)
      unfold wp_X2_sortGreysOf_4
      rw [sA_1, e3]
      refine b_le (by omega) (by omega) (fun e => absurd e (by omega)) (fun _ => ?_)
      refine f_greyAt (u := sA u 18 R) (h := h) (w := w) (f := f) hX.1 ha (by omega) ?_
      rw [sA_other (by omega), hg.1, lm1]
      refine b_eq (by omega) (by omega) (fun e => ?_) (fun e => ⟨c + 1, ?_⟩)
      · rw [iI_s]
        exact ih (p + 1) c R r (by omega) hR (hS.skip e)
      · exact inner (wp_X2_sortGreysOf_4 post (m + 1)) c p r (g a p) (by omega) (by omega) hS rfl (by omega) (fun R' r' h1 h2 => ih (p + 1) (c + 1) R' r' (by omega) h1 h2) c R (Nat.le_refl _) hR (fun i a b => absurd b (by omega))
  refine ⟨h * w + 1, ?_⟩
  have := key (h * w) 0 0 (u.2 18) (fun _ => 0) (by omega) (fun i hi => absurd hi (by omega)) Srt.nil
  rw [sA_id] at this
  exact this
theorem f_countLost' {u' : US} {c : Nat → Int} (hX : FD u' h w f) (hc : gR (h * w) c) (hN : ∀ k, k < h * w → u'.2 16 k = iI (c k)) (hp : post (iI ((h * w : Nat) - nz c (h * w))) u') : wp_X2_countLost u' post := by
  have hn := hX.n
  have e3 : u'.1 3 = iI (h * w : Nat) := hX.2.2.2.2.2.1
  have key : ∀ (m k : Nat), k + m = h * w → wp_X2_countLost_4 post (m + 1) (iI ((k : Int) - nz c k)) (iI k) u' := by
    intro m
    induction m with
    | zero =>
      intro k hk
      unfold wp_X2_countLost_4
      rw [e3]
      refine b_le (by omega) (by omega) (fun _ => ?_) (fun e => absurd (by omega) e)
      rw [show k = h * w by omega]; exact hp
    | succ m ih =>
      intro k hk
      have nx := ih (k + 1) (by omega)
      have hck := hc k (by omega)
      rw [show nz c (k + 1) = nz c k + c01 (¬ c k = -1) from rfl] at nx
      unfold wp_X2_countLost_4
      rw [e3]
      refine b_le (by omega) (by omega) (fun e => absurd e (by omega)) (fun _ => b_in (by omega) (by omega) (by omega) ?_)
      rw [iI_clamp (by omega), Int.toNat_natCast, hN k (by omega), lm1, iI_s]
      refine b_eq (by omega) (by omega) (fun e => ?_) (fun e => ?_)
      · rw [c01_f (by omega)] at nx
        rw [l1, iI_add, show (k : Int) - nz c k + 1 = ((k + 1 : Nat) : Int) - (nz c k + 0) by omega]; exact nx
      · rw [c01_t e] at nx
        rw [show (k : Int) - nz c k = ((k + 1 : Nat) : Int) - (nz c k + 1) by omega]; exact nx
  exact ⟨h * w + 1, key (h * w) 0 (by omega)⟩
theorem f_middle {u' : US} {c : Nat → Int} {v : Int} (hX : FD u' h w f) (hc : gR (h * w) c) (hN : ∀ k, k < h * w → u'.2 17 k = iI (c k)) (hv : 0 ≤ v ∧ v ≤ 63) (h1 : 1 ≤ alc c v (h * w)) (hp : post (iI ((2 * dkc c v (h * w) + alc c v (h * w) - 1) / 2)) u') : wp_X2_middleRankOf (iI v) u' post := by
  have hn := hX.n
  have e3 : u'.1 3 = iI (h * w : Nat) := hX.2.2.2.2.2.1
  have key : ∀ (m k : Nat), k + m = h * w → wp_X2_middleRankOf_7 post (m + 1) (iI v) (iI (dkc c v k)) (iI (alc c v k)) (iI k) u' := by
    intro m
    induction m with
    | zero =>
      intro k hk
      have b1' := dkc_bd c v k
      have b2' := alc_bd c v k
      unfold wp_X2_middleRankOf_7
      rw [e3]
      have hkn : k = h * w := by omega
      subst hkn
      refine b_le (by omega) (by omega) (fun _ => ?_) (fun e => absurd (by omega) e)
      rw [l2, iI_mul, iI_add, l1, iI_sub, iI_div (by omega) (by omega)]
      exact hp
    | succ m ih =>
      intro k hk
      have nx := ih (k + 1) (by omega)
      have hck := hc k (by omega)
      rw [show dkc c v (k + 1) = dkc c v k + c01 (¬ c k = -1 ∧ c k < v) from rfl, show alc c v (k + 1) = alc c v k + c01 (c k = v) from rfl] at nx
      unfold wp_X2_middleRankOf_7
      rw [e3]
      refine b_le (by omega) (by omega) (fun e => absurd e (by omega)) (fun _ => b_in (by omega) (by omega) (by omega) ?_)
      rw [iI_clamp (by omega), Int.toNat_natCast, hN k (by omega), lm1, iI_s]
      refine b_eq (by omega) (by omega) (fun e => ?_) (fun e => b_in (by omega) (by omega) (by omega) (b_eq (by omega) (by omega) (fun e2 => ?_) (fun e2 => b_in (by omega) (by omega) (by omega) (b_le (by omega) (by omega) (fun e3 => ?_) (fun e3 => ?_)))))
      · rw [c01_f (by omega), c01_t e, Int.add_zero] at nx; rw [l1, iI_add]; exact nx
      · rw [c01_f (by omega), c01_f e, Int.add_zero, Int.add_zero] at nx; exact nx
      · rw [c01_f (by omega), c01_f e, Int.add_zero, Int.add_zero] at nx; exact nx
      · rw [c01_t ⟨e2, by omega⟩, c01_f e, Int.add_zero] at nx; rw [l1, iI_add]; exact nx
  exact ⟨h * w + 1, key (h * w) 0 (by omega)⟩
theorem f_match {u' : US} {postv : US → Prop} {b : Nat → Int} (hX : FX u h w f g S D E) (ha : a < f) (hb : gR (h * w) b) (hJ : JF u u' (h * w) b (fun k => mtV (h * w) (g a) b (b k)) 0) (hp : ∀ u2, JF u u2 (h * w) b (fun k => mtV (h * w) (g a) b (b k)) (h * w) → postv u2) : wp_X2_matchLevels (iI a) u' postv := by
  have hn := hX.1.n
  have bm := nz_bd (g a) (h * w)
  have bn := nz_bd b (h * w)
  unfold wp_X2_matchLevels
  refine f_sort (hX.sf hJ.1) ha (fun R r m hm hR => ?_)
  have hJ1 : JF u (sA u' 18 R) (h * w) b (fun k => mtV (h * w) (g a) b (b k)) 0 := hJ.b18
  have hX1 := hX.sf hJ1.1
  refine f_countLost' (c := b) hX1.1 hb (fun k hk => by rw [hJ1.2.2 k hk, if_neg (by omega)]) ?_
  rw [show (sA u' 18 R).1 3 = iI (h * w : Nat) from hX1.1.2.2.2.2.2.1, iI_sub, show ((h * w : Nat) : Int) - ((h * w : Nat) - nz b (h * w)) = nz b (h * w) by omega]
  have allLost : nz b (h * w) = 0 → ∀ k, k < h * w → b k = -1 := by
    intro e k hk
    by_cases q : b k = -1
    · exact q
    · have h1 := dk_al (c := b) q (h * w)
      have h2 := al_pos (c := b) (k := k) rfl (h * w) hk
      have h3 := dkc_bd b (b k) (h * w)
      omega
  refine b_le (b := 0) (by omega) (by omega) (fun e => hp _ (hJ1.same (fun k hk => ?_))) (fun e => b_lt (a := 0) (by omega) (by omega) (fun e2 => ?_) (fun e2 => hp _ (hJ1.same (fun k hk => ?_))))
  · show mtV _ _ _ _ = _
    unfold mtV
    rw [if_pos (Or.inl (allLost (by omega) k hk))]
  · have key : ∀ (q k : Nat) (u2 : US), k + q = h * w → u2.2 18 = R → JF u u2 (h * w) b (fun k => mtV (h * w) (g a) b (b k)) k → wp_X2_matchLevels_31 postv (q + 1) (iI m) (iI (nz b (h * w))) (iI k) u2 := by
      intro q
      induction q with
      | zero =>
        intro k u2 hk hr hJ
        unfold wp_X2_matchLevels_31
        rw [hJ.1.1 3 (by omega), show u.1 3 = iI (h * w : Nat) from hX.1.2.2.2.2.2.1]
        refine b_le (by omega) (by omega) (fun _ => ?_) (fun e => absurd (by omega) e)
        rw [show k = h * w by omega] at hJ; exact hp u2 hJ
      | succ q ih =>
        intro k u2 hk hr hJ
        have hbk := hb k (by omega)
        unfold wp_X2_matchLevels_31
        rw [hJ.1.1 3 (by omega), show u.1 3 = iI (h * w : Nat) from hX.1.2.2.2.2.2.1]
        refine b_le (by omega) (by omega) (fun e => absurd e (by omega)) (fun _ => b_in (by omega) (by omega) (by omega) ?_)
        rw [iI_clamp (by omega), Int.toNat_natCast, hJ.2.1 k (by omega), lm1, iI_s]
        refine b_eq (by omega) (by omega) (fun e3 => ih (k + 1) u2 (by omega) hr (hJ.keep ?_)) (fun e3 => b_in (by omega) (by omega) (by omega) ?_)
        · show mtV _ _ _ _ = _
          unfold mtV
          rw [if_pos (Or.inl e3)]
        have q1 := rnk_bd (gr := g a) (c := b) hn.2 (k := k) (by omega) e3 (by omega)
        refine f_middle (c := b) (hX.sf hJ.1).1 hb hJ.2.1 (by omega) (al_pos (c := b) (k := k) rfl _ (by omega)) ?_
        have mb := mul_bd (a := (2 * dkc b (b k) (h * w) + alc b (b k) (h * w) - 1) / 2) (b := (m : Int)) (A := 36) (B := 36) (by omega) (by omega)
        rw [iI_mul, iI_div (by omega) (by omega)]
        have er : (2 * dkc b (b k) (h * w) + alc b (b k) (h * w) - 1) / 2 * (m : Int) / nz b (h * w) = rnk (h * w) (g a) b (b k) := by unfold rnk; rw [hm]
        rw [er]
        refine ⟨by rw [l0, iI_eq (by omega) (by omega)]; omega, b_lt (b := 0) (by omega) (by omega) (fun z => absurd z (by omega)) (fun _ => b_le (by omega) (by omega) (fun z => absurd z (by omega)) (fun _ => b_in (by omega) (by omega) (by omega) (b_in (by omega) (by omega) (by omega) ?_)))⟩
        obtain ⟨i, hi⟩ := Int.eq_ofNat_of_zero_le q1.2.2.1
        have hRi := hR i (by omega)
        rw [iI_clamp (by omega), hi, Int.toNat_natCast, hr, hRi.1]
        have ev : r i = mtV (h * w) (g a) b (b k) := by
          unfold mtV
          rw [if_neg (by omega), hi, kthV_e hRi.2]
        rw [ev]
        exact ih (k + 1) _ (by omega) hr hJ.put
    exact ⟨h * w + 1, key (h * w) 0 _ (by omega) sA_same hJ1⟩
  · show mtV _ _ _ _ = _
    unfold mtV
    rw [if_pos (Or.inr (by omega))]
end SO
