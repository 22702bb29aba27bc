/-! ===== layers: the class ===== -/
/-- a row for work is written up to a place -/
def JF (u u' : US) (N : Nat) (b F : Nat → Int) (j : Nat) : Prop := SF u u' ∧ (∀ k, k < N → u'.2 17 k = iI (b k)) ∧ ∀ k, k < N → u'.2 16 k = iI (if k < j then F k else b k)
theorem JF.keep {u u' : US} {N : Nat} {b F : Nat → Int} {j : Nat} (h : JF u u' N b F j) (e : F j = b j) : JF u u' N b F (j + 1) := by
  refine ⟨h.1, h.2.1, fun k hk => ?_⟩
  rw [h.2.2 k hk]
  by_cases e2 : k = j
  · rw [e2, if_neg (by omega), if_pos (by omega), e]
  · by_cases e3 : k < j
    · rw [if_pos e3, if_pos (by omega)]
    · rw [if_neg e3, if_neg (by omega)]
theorem JF.put {u u' : US} {N : Nat} {b F : Nat → Int} {j : Nat} (h : JF u u' N b F j) : JF u (sA u' 16 (upd (u'.2 16) j (iI (F j)))) N b F (j + 1) := by
  refine ⟨h.1.sA (by omega), h.2.1, fun k hk => ?_⟩
  rw [sA_same]
  by_cases e2 : k = j
  · rw [e2, upd_s, if_pos (by omega)]
  · rw [upd_n e2, h.2.2 k hk]
    by_cases e3 : k < j
    · rw [if_pos e3, if_pos (by omega)]
    · rw [if_neg e3, if_neg (by omega)]
theorem JF.b18 {u u' : US} {N : Nat} {b F : Nat → Int} {j : Nat} (h : JF u u' N b F j) {R : Nat → Int32} : JF u (sA u' 18 R) N b F j := ⟨h.1.sA (by omega), h.2.1, h.2.2⟩
theorem JF.same {u u' : US} {N : Nat} {b F : Nat → Int} (h : JF u u' N b F 0) (e : ∀ k, k < N → F k = b k) : JF u u' N b F N := by
  refine ⟨h.1, h.2.1, fun k hk => ?_⟩
  rw [h.2.2 k hk, if_neg (by omega), if_pos hk, e k hk]
/-- what the class's side holds -/
def FX (u : US) (h w f : Nat) (g : Nat → Nat → Int) (S D E : Int) : Prop := FD u h w f ∧ CG (u.2 2) (h * w) f g ∧ RR (u.2 9) S D E
theorem FX.sf {u u' : US} {h w f : Nat} {g : Nat → Nat → Int} {S D E : Int} (hX : FX u h w f g S D E) (s : SF u u') : FX u' h w f g S D E := ⟨hX.1.sf s, by rw [s.2 2 (by omega)]; exact hX.2.1, by rw [s.2 9 (by omega)]; exact hX.2.2⟩
section LF0
variable {u u' : US} {h w f a : Nat} {g : Nat → Nat → Int} {S D E : Int} {post : Int32 → US → Prop} {postv : US → Prop} {b F : Nat → Int}
theorem f_nb (hX : FX u' h w f g S D E) {i : Int} {k : Nat} (hi : rg i) (hk : k < h * w) (hp : post (iI (nb f g i k)) u') : wp_X1_greyAt (iI i) (iI k) u' post := by
  have hn := hX.1.n
  refine f_greyAt' hX.1 hi (by omega) (fun hno => ?_) (fun i' k' e1 e2 c1 c2 => ?_)
  · rw [show nb f g i k = -1 from if_neg (fun z => hno ⟨z.1, z.2, by omega, by omega⟩)] at hp; exact hp
  · obtain rfl : k' = k := by omega
    rw [show nb f g i k' = g i' k' by unfold nb; rw [if_pos (by omega), e1]; rfl] at hp
    rw [(hX.2.1 i' k' c1 c2).1]
    exact hp
theorem f_isDust (hX : FX u' h w f g S D E) {k : Nat} {v : Int} (ha : a < f) (hk : k < h * w) (hv : -1 ≤ v ∧ v ≤ 63) (h0 : ¬ dustP f g D E a k v → post 0 u') (h1 : dustP f g D E a k v → post 1 u') : wp_X2_isDust (iI v) (iI a) (iI k) u' post := by
  have hf := hX.1.f
  have n1 := nb_bd hX.2.1 (i := (a : Int) - 1) hk
  have n2 := nb_bd hX.2.1 (i := (a : Int) + 1) hk
  obtain ⟨-, r1, r2, -, rd, re⟩ := hX.2.2
  unfold dustP at h0 h1
  unfold wp_X2_isDust
  rw [show iI (a : Int) - (1 : Int32) = iI ((a : Int) - 1) from iI_sub a 1, show iI (a : Int) + (1 : Int32) = iI ((a : Int) + 1) from iI_add a 1]
  refine f_nb hX (by omega) hk (f_nb hX (by omega) hk ?_)
  rw [show (1 : Int32).toNatClampNeg = 1 from rfl, show (2 : Int32).toNatClampNeg = 2 from rfl, r1, r2, lm1, iI_sub, iI_sub, iI_sub, iI_abs (by omega), iI_abs (by omega), iI_abs (by omega)]
  have z1 := zabs_le (a := nb f g ((a : Int) - 1) k - nb f g ((a : Int) + 1) k) (B := 64) (by omega)
  have z2 := zabs_le (a := v - nb f g ((a : Int) - 1) k) (B := 64) (by omega)
  have z3 := zabs_le (a := v - nb f g ((a : Int) + 1) k) (B := 64) (by omega)
  refine b_eq (by omega) (by omega) (fun e => h0 (fun z => z.1 e)) (fun e1 => ?_)
  refine b_eq (by omega) (by omega) (fun e => h0 (fun z => z.2.1 e)) (fun e2 => ?_)
  refine b_eq (by omega) (by omega) (fun e => h0 (fun z => z.2.2.1 e)) (fun e3 => ?_)
  refine b_lt (by omega) (by omega) (fun e => h0 (fun z => by omega)) (fun e4 => ?_)
  refine b_le (by omega) (by omega) (fun e => h0 (fun z => by omega)) (fun e5 => ?_)
  exact b_le (by omega) (by omega) (fun e => h0 (fun z => by omega)) (fun e6 => h1 ⟨e1, e2, e3, by omega, by omega, by omega⟩)
def dstC (f : Nat) (g : Nat → Nat → Int) (D E : Int) (a : Nat) : Nat → Int := sm (fun k => c01 (dustP f g D E a k (g a k)))
theorem f_dust {z : Int} (hX : FX u h w f g S D E) (hz : rg z) (h0 : ¬ (0 ≤ z ∧ z < f) → post (iI (-1)) u) (h1 : ∀ i : Nat, z = i → i < f → post (iI (dstC f g D E i (h * w))) u) : wp_X5_dust (iI z) u post := by
  have hn := hX.1.n
  have e3 : u.1 3 = iI (h * w : Nat) := hX.1.2.2.2.2.2.1
  unfold wp_X5_dust
  refine f_hasFrame hX.1 hz (fun _ => b0 (h0 (by omega))) (fun q1 q2 => b1 ?_)
  obtain ⟨i, rfl⟩ := Int.eq_ofNat_of_zero_le q1
  have hp := h1 i rfl (by omega)
  have key : ∀ (m k : Nat), k + m = h * w → wp_X5_dust_17 post (m + 1) (iI i) (iI (dstC f g D E i k)) (iI k) u := by
    intro m
    induction m with
    | zero =>
      intro k hk
      unfold wp_X5_dust_17
      rw [e3]
      refine b_le (by omega) (by omega) (fun _ => ?_) (fun e => absurd (by omega) e)
      rw [show k = h * w by omega]; exact hp
    | succ m ih =>
      intro k hk
      have nx := ih (k + 1) (by omega)
      have hg := hX.2.1 i k (by omega) (by omega)
      rw [show dstC f g D E i (k + 1) = dstC f g D E i k + c01 (dustP f g D E i k (g i k)) from rfl] at nx
      unfold wp_X5_dust_17
      rw [e3]
      refine b_le (by omega) (by omega) (fun e => absurd e (by omega)) (fun _ => ?_)
      refine f_greyAt hX.1 (by omega) (by omega) ?_
      rw [hg.1, iI_s]
      refine f_isDust hX (by omega) (by omega) hg.2 (fun hd => b0 ?_) (fun hd => b1 ?_)
      · rw [c01_f hd, Int.add_zero] at nx; exact nx
      · rw [c01_t hd] at nx; rw [l1, iI_add]; exact nx
  exact ⟨h * w + 1, key (h * w) 0 (by omega)⟩
theorem f_clean (hX : FX u h w f g S D E) (ha : a < f) (hb : gR (h * w) b) (hJ : JF u u' (h * w) b (fun k => clnV f g D E a k (b k)) 0) (hp : ∀ u2, JF u u2 (h * w) b (fun k => clnV f g D E a k (b k)) (h * w) → postv u2) : wp_X2_cleanDust (iI a) u' postv := by
  have hn := hX.1.n
  have hf := hX.1.f
  have key : ∀ (m k : Nat) (u2 : US), k + m = h * w → JF u u2 (h * w) b (fun k => clnV f g D E a k (b k)) k → wp_X2_cleanDust_2 postv (m + 1) (iI a) (iI k) u2 := by
    intro m
    induction m with
    | zero =>
      intro k u2 hk hJ
      unfold wp_X2_cleanDust_2
      rw [hJ.1.1 3 (by omega), show u.1 3 = iI (h * w : Nat) from hX.1.2.2.2.2.2.1]
      refine b_le (by omega) (by omega) (fun _ => ?_) (fun e => absurd (by omega) e)
      rw [show k = h * w by omega] at hJ; exact hp u2 hJ
    | succ m ih =>
      intro k u2 hk hJ
      have hX2 := hX.sf hJ.1
      have n1 := nb_bd hX.2.1 (i := (a : Int) - 1) (k := k) (by omega)
      have n2 := nb_bd hX.2.1 (i := (a : Int) + 1) (k := k) (by omega)
      unfold wp_X2_cleanDust_2
      rw [hJ.1.1 3 (by omega), show u.1 3 = iI (h * w : Nat) from hX.1.2.2.2.2.2.1]
      refine b_le (by omega) (by omega) (fun e => absurd e (by omega)) (fun _ => b_in (by omega) (by omega) (by omega) ?_)
      rw [iI_clamp (by omega), Int.toNat_natCast, hJ.2.1 k (by omega), iI_s k]
      refine f_isDust hX2 ha (by omega) (hb k (by omega)) (fun hd => b0 ?_) (fun hd => b1 ?_)
      · exact ih (k + 1) u2 (by omega) (hJ.keep (if_neg hd))
      · rw [show iI (a : Int) - (1 : Int32) = iI ((a : Int) - 1) from iI_sub a 1, show iI (a : Int) + (1 : Int32) = iI ((a : Int) + 1) from iI_add a 1]
        refine f_nb hX2 (by omega) (by omega) (f_nb hX2 (by omega) (by omega) (b_in (by omega) (by omega) (by omega) ?_))
        have hd2 := hd
        rw [iI_add, l2, iI_div (by unfold dustP at hd2; omega) (by omega)]
        have e : (nb f g ((a : Int) - 1) k + nb f g ((a : Int) + 1) k) / 2 = clnV f g D E a k (b k) := (if_pos hd).symm
        rw [e]
        exact ih (k + 1) _ (by omega) hJ.put
  exact ⟨h * w + 1, key (h * w) 0 u' (by omega) hJ⟩
theorem f_fill (hX : FX u h w f g S D E) (ha : a < f) (hb : gR (h * w) b) (hJ : JF u u' (h * w) b (fun k => filV f g a k (b k)) 0) (hp : ∀ u2, JF u u2 (h * w) b (fun k => filV f g a k (b k)) (h * w) → postv u2) : wp_X2_fillLost (iI a) u' postv := by
  have hn := hX.1.n
  have hf := hX.1.f
  have key : ∀ (m k : Nat) (u2 : US), k + m = h * w → JF u u2 (h * w) b (fun k => filV f g a k (b k)) k → wp_X2_fillLost_2 postv (m + 1) (iI a) (iI k) u2 := by
    intro m
    induction m with
    | zero =>
      intro k u2 hk hJ
      unfold wp_X2_fillLost_2
      rw [hJ.1.1 3 (by omega), show u.1 3 = iI (h * w : Nat) from hX.1.2.2.2.2.2.1]
      refine b_le (by omega) (by omega) (fun _ => ?_) (fun e => absurd (by omega) e)
      rw [show k = h * w by omega] at hJ; exact hp u2 hJ
    | succ m ih =>
      intro k u2 hk hJ
      have hX2 := hX.sf hJ.1
      have hbk := hb k (by omega)
      have n1 := nb_bd hX.2.1 (i := (a : Int) - 1) (k := k) (by omega)
      have n2 := nb_bd hX.2.1 (i := (a : Int) + 1) (k := k) (by omega)
      unfold wp_X2_fillLost_2
      rw [hJ.1.1 3 (by omega), show u.1 3 = iI (h * w : Nat) from hX.1.2.2.2.2.2.1]
      refine b_le (by omega) (by omega) (fun e => absurd e (by omega)) (fun _ => b_in (by omega) (by omega) (by omega) ?_)
      rw [iI_clamp (by omega), Int.toNat_natCast, hJ.2.1 k (by omega), iI_s k, lm1]
      refine b_eq (by omega) (by omega) (fun e => ?_) (fun e => ih (k + 1) u2 (by omega) (hJ.keep (if_neg e)))
      rw [show iI (a : Int) - (1 : Int32) = iI ((a : Int) - 1) from iI_sub a 1, show iI (a : Int) + (1 : Int32) = iI ((a : Int) + 1) from iI_add a 1]
      refine f_nb hX2 (by omega) (by omega) (b_eq (by omega) (by omega) (fun e2 => f_nb hX2 (by omega) (by omega) (b_in (by omega) (by omega) (by omega) ?_)) (fun e2 => b_in (by omega) (by omega) (by omega) ?_))
      · have ev : nb f g ((a : Int) + 1) k = filV f g a k (b k) := by unfold filV; rw [if_pos e, if_pos e2]
        rw [ev]
        exact ih (k + 1) _ (by omega) hJ.put
      · have ev : nb f g ((a : Int) - 1) k = filV f g a k (b k) := by unfold filV; rw [if_pos e, if_neg e2]
        rw [ev]
        exact ih (k + 1) _ (by omega) hJ.put
  exact ⟨h * w + 1, key (h * w) 0 u' (by omega) hJ⟩
theorem dm {y x w : Nat} (hx : x < w) : (y * w + x) / w = y ∧ (y * w + x) % w = x := by
  constructor
  · rw [Nat.mul_comm, Nat.mul_add_div (by omega), Nat.div_eq_of_lt hx, Nat.add_zero]
  · rw [Nat.mul_comm, Nat.mul_add_mod, Nat.mod_eq_of_lt hx]
theorem f_move (hX : FX u h w f g S D E) {A B : Int} (hA : -3 ≤ A ∧ A ≤ 9) (hB : -3 ≤ B ∧ B ≤ 3) (hb : gR (h * w) b) (hJ : JF u u' (h * w) b (movV h w A B b) 0) (hp : ∀ u2, JF u u2 (h * w) b (movV h w A B b) (h * w) → postv u2) : wp_X2_moveAll (iI A) (iI B) u' postv := by
  have hn := hX.1.n
  have c1 := hX.1.1
  have c2 := hX.1.2.1
  have inner : ∀ (k2 : Int32 → Int32 → Int32 → US → Prop) (y : Nat), y < h → (∀ u2, JF u u2 (h * w) b (movV h w A B b) ((y + 1) * w) → k2 (iI A) (iI B) (iI (y + 1 : Nat)) u2) → ∀ (m x : Nat) (u2 : US), x + m = w → JF u u2 (h * w) b (movV h w A B b) (y * w + x) → wp_X2_moveAll_16 k2 postv (m + 1) (iI A) (iI B) (iI y) (iI x) u2 := by
    intro k2 y hy hk2 m
    induction m with
    | zero =>
      intro x u2 hx hJ
      unfold wp_X2_moveAll_16
      rw [hJ.1.1 2 (by omega), show u.1 2 = iI w from hX.1.2.2.2.2.1, iI_s]
      refine b_le (by omega) (by omega) (fun _ => hk2 u2 ?_) (fun e => absurd (by omega) e)
      rw [Nat.add_mul, Nat.one_mul]
      rw [show x = w by omega] at hJ
      exact hJ
    | succ m ih =>
      intro x u2 hx hJ
      have hX2 := hX.sf hJ.1
      have lt1 := pl_lt (y := y) (x := x) (h := h) (w := w) hy (by omega)
      have hd := dm (y := y) (x := x) (w := w) (by omega)
      have nx := ih (x + 1) (sA u2 16 (upd (u2.2 16) (y * w + x) (iI (movV h w A B b (y * w + x))))) (by omega) hJ.put
      unfold wp_X2_moveAll_16
      rw [hJ.1.1 2 (by omega), show u.1 2 = iI w from hX.1.2.2.2.2.1]
      refine b_le (by omega) (by omega) (fun e => absurd e (by omega)) (fun _ => ?_)
      rw [iI_s x, iI_sub, iI_sub]
      refine f_placeOf hX2.1 (by omega) (by omega) (fun hno => ?_) (fun d1 d2 d3 d4 => ?_)
      · refine f_placeOf' hX2.1 hy (by omega) ?_
        refine f_hasPlace hX2.1 (by omega) (fun _ => b0 ?_) (fun e => absurd e (by omega))
        refine b_in (by omega) (by omega) (by omega) ?_
        rw [iI_clamp (by omega), Int.toNat_natCast, show (-1 : Int32) = iI (movV h w A B b (y * w + x)) by unfold movV; rw [hd.1, hd.2, if_neg hno]; rfl]
        exact nx
      · obtain ⟨y', hy'⟩ := Int.eq_ofNat_of_zero_le d1
        obtain ⟨x', hx'⟩ := Int.eq_ofNat_of_zero_le d3
        have lt2 := pl_lt (y := y') (x := x') (h := h) (w := w) (by omega) (by omega)
        rw [hy', hx', show ((y' : Int) * w + x') = ((y' * w + x' : Nat) : Int) by simp]
        refine f_placeOf' hX2.1 hy (by omega) ?_
        refine f_hasPlace hX2.1 (by omega) (fun hno => absurd ⟨by omega, by omega⟩ hno) (fun _ _ => b1 ?_)
        refine b_in (by omega) (by omega) (by omega) (b_in (by omega) (by omega) (by omega) ?_)
        rw [iI_clamp (by omega), iI_clamp (by omega), Int.toNat_natCast, Int.toNat_natCast, hJ.2.1 _ lt2, show b (y' * w + x') = movV h w A B b (y * w + x) by unfold movV; rw [hd.1, hd.2, if_pos ⟨by omega, by omega, by omega, by omega⟩, hy', hx']; rfl]
        exact nx
  have key : ∀ (m y : Nat) (u2 : US), y + m = h → JF u u2 (h * w) b (movV h w A B b) (y * w) → wp_X2_moveAll_2 postv (m + 1) (iI A) (iI B) (iI y) u2 := by
    intro m
    induction m with
    | zero =>
      intro y u2 hy hJ
      unfold wp_X2_moveAll_2
      rw [hJ.1.1 1 (by omega), show u.1 1 = iI h from hX.1.2.2.2.1]
      refine b_le (by omega) (by omega) (fun _ => ?_) (fun e => absurd (by omega) e)
      rw [show y = h by omega] at hJ; exact hp u2 hJ
    | succ m ih =>
      intro y u2 hy hJ
      unfold wp_X2_moveAll_2
      rw [hJ.1.1 1 (by omega), show u.1 1 = iI h from hX.1.2.2.2.1]
      refine b_le (by omega) (by omega) (fun e => absurd e (by omega)) (fun _ => ⟨w + 1, ?_⟩)
      exact inner (wp_X2_moveAll_2 postv (m + 1)) y (by omega) (fun u3 h3 => ih (y + 1) u3 (by omega) h3) w 0 u2 (by omega) hJ
  refine ⟨h + 1, key h 0 u' (by omega) ?_⟩
  rw [Nat.zero_mul]; exact hJ
end LF0
