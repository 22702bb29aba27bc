/-! ===== the class's frames: what is asked of the numbers, what its small methods do ===== -/
def FDr (i1 i2 i3 i4 : Int32) (h w f : Nat) : Prop := (2 ≤ h ∧ h ≤ 6) ∧ (2 ≤ w ∧ w ≤ 6) ∧ f ≤ 10 ∧ i1 = iI h ∧ i2 = iI w ∧ i3 = iI (h * w : Nat) ∧ i4 = iI f
abbrev FD (u : US) (h w f : Nat) : Prop := FDr (u.1 1) (u.1 2) (u.1 3) (u.1 4) h w f
def CG (G : Nat → Int32) (n f : Nat) (g : Nat → Nat → Int) : Prop := ∀ a k, a < f → k < n → G (36 * a + k) = iI (g a k) ∧ -1 ≤ g a k ∧ g a k ≤ 63
theorem FD.n {u : US} {h w f : Nat} (hC : FD u h w f) : 4 ≤ h * w ∧ h * w ≤ 36 := hw_bd hC.1 hC.2.1
theorem FD.f {u : US} {h w f : Nat} (hC : FD u h w f) : f ≤ 10 := hC.2.2.1
section F0
variable {u : US} {h w f : Nat} {g : Nat → Nat → Int} {a b c : Int} {post : Int32 → US → Prop} {postv : US → Prop}
theorem f_within (ha : rg a) (hb : rg b) (hc : rg c) (h0 : ¬ (b ≤ a ∧ a ≤ c) → post 0 u) (h1 : b ≤ a → a ≤ c → post 1 u) : wp_X5_isWithin (iI a) (iI b) (iI c) u post := by
  unfold wp_X5_isWithin
  exact b_lt ha hb (fun h => h0 (by omega)) (fun h => b_lt hc ha (fun h' => h0 (by omega)) (fun h' => h1 (by omega) (by omega)))
theorem f_hasFrame (hC : FD u h w f) (ha : rg a) (h0 : ¬ (0 ≤ a ∧ a < f) → post 0 u) (h1 : 0 ≤ a → a < f → post 1 u) : wp_X1_hasFrame (iI a) u post := by
  obtain ⟨-, -, a3, -, -, -, a7⟩ := hC
  unfold wp_X1_hasFrame
  rw [a7]
  exact b_lt (b := 0) ha (by omega) (fun h => h0 (by omega)) (fun h => b_le (by omega) ha (fun h' => h0 (by omega)) (fun h' => h1 (by omega) (by omega)))
theorem f_hasPlace (hC : FD u h w f) (ha : rg a) (h0 : ¬ (0 ≤ a ∧ a < (h * w : Nat)) → post 0 u) (h1 : 0 ≤ a → a < (h * w : Nat) → post 1 u) : wp_X1_hasPlace (iI a) u post := by
  have hn := hC.n
  obtain ⟨-, -, -, -, -, a6, -⟩ := hC
  unfold wp_X1_hasPlace
  rw [a6]
  generalize h * w = n at *
  exact b_lt (b := 0) ha (by omega) (fun h => h0 (by omega)) (fun h => b_le (by omega) ha (fun h' => h0 (by omega)) (fun h' => h1 (by omega) (by omega)))
theorem f_placeOf (hC : FD u h w f) (ha : rg a) (hb : rg b) (h0 : ¬ (0 ≤ a ∧ a < h ∧ 0 ≤ b ∧ b < w) → post (iI (-1000)) u) (h1 : 0 ≤ a → a < h → 0 ≤ b → b < w → post (iI (a * w + b)) u) : wp_X1_placeOf (iI a) (iI b) u post := by
  obtain ⟨a1, a2, a3, a4, a5, a6, a7⟩ := hC
  unfold wp_X1_placeOf
  rw [a4, a5, iI_mul, iI_add]
  exact b_lt (b := 0) ha (by omega) (fun h => h0 (by omega)) (fun h => b_le (by omega) ha (fun h => h0 (by omega)) (fun h => b_lt (b := 0) hb (by omega) (fun h => h0 (by omega)) (fun h => b_lt hb (by omega) (fun h' => h1 (by omega) (by omega) (by omega) (by omega)) (fun h' => h0 (by omega)))))
/-- of a square that is there -/
theorem f_placeOf' (hC : FD u h w f) {y x : Nat} (hy : y < h) (hx : x < w) (h1 : post (iI (y * w + x : Nat)) u) : wp_X1_placeOf (iI y) (iI x) u post := by
  have a1 := hC.1; have a2 := hC.2.1
  refine f_placeOf hC (by omega) (by omega) (fun hn => absurd ⟨by omega, by omega, by omega, by omega⟩ hn) (fun _ _ _ _ => ?_)
  have e : ((y : Int) * w + x) = ((y * w + x : Nat) : Int) := by simp
  rw [e]; exact h1
theorem f_greyAt (hC : FD u h w f) {a k : Nat} (ha : a < f) (hk : k < h * w) (hp : post (u.2 2 (36 * a + k)) u) : wp_X1_greyAt (iI a) (iI k) u post := by
  have hn := hC.n
  have hf := hC.f
  unfold wp_X1_greyAt
  refine f_hasFrame hC (by omega) (fun hn => absurd ⟨by omega, by omega⟩ hn) (fun _ _ => b1 ?_)
  refine f_hasPlace hC (by omega) (fun hn => absurd ⟨by omega, by omega⟩ hn) (fun _ _ => b1 ?_)
  rw [l36, iI_mul, iI_add]
  refine b_in (by omega) (by omega) (by omega) ?_
  rw [iI_clamp (by omega), show ((a : Int) * 36 + k).toNat = 36 * a + k by omega]
  exact hp
/-- any two numbers: what isn't there is told as lost -/
theorem f_greyAt' (hC : FD u h w f) (ha : rg a) (hb : rg b) (h0 : ¬ (0 ≤ a ∧ a < f ∧ 0 ≤ b ∧ b < (h * w : Nat)) → post (iI (-1)) u) (h1 : ∀ i k : Nat, a = i → b = k → i < f → k < h * w → post (u.2 2 (36 * i + k)) u) : wp_X1_greyAt (iI a) (iI b) u post := by
  by_cases hc : 0 ≤ a ∧ a < f ∧ 0 ≤ b ∧ b < (h * w : Nat)
  · obtain ⟨c1, c2, c3, c4⟩ := hc
    obtain ⟨i, rfl⟩ := Int.eq_ofNat_of_zero_le c1
    obtain ⟨k, rfl⟩ := Int.eq_ofNat_of_zero_le c3
    exact f_greyAt hC (by omega) (by omega) (h1 i k rfl rfl (by omega) (by omega))
  · have hz := h0 hc
    unfold wp_X1_greyAt
    refine f_hasFrame hC ha (fun _ => b0 hz) (fun c1 c2 => b1 ?_)
    refine f_hasPlace hC hb (fun _ => b0 hz) (fun c3 c4 => absurd ⟨c1, c2, c3, c4⟩ hc)
theorem f_setGrey (hC : FD u h w f) {a k : Nat} (ha : a < f) (hk : k < h * w) {v : Int32} (hp : postv (sA u 2 (upd (u.2 2) (36 * a + k) v))) : wp_X1_setGrey (iI a) (iI k) v u postv := by
  have hn := hC.n
  have hf := hC.f
  unfold wp_X1_setGrey
  refine f_hasFrame hC (by omega) (fun hn => absurd ⟨by omega, by omega⟩ hn) (fun _ _ => b1 ?_)
  refine f_hasPlace hC (by omega) (fun hn => absurd ⟨by omega, by omega⟩ hn) (fun _ _ => b1 ?_)
  rw [l36, iI_mul, iI_add]
  refine b_in (by omega) (by omega) (by omega) ?_
  rw [iI_clamp (by omega), show ((a : Int) * 36 + k).toNat = 36 * a + k by omega]
  exact hp
/-- a row of a frame written up to a place -/
def rowW (G : Nat → Int32) (b k : Nat) (F : Nat → Int32) : Nat → Int32 := fun j => if b ≤ j ∧ j < b + k then F (j - b) else G j
theorem rowW_0 {G F : Nat → Int32} {b : Nat} : rowW G b 0 F = G := by
  funext j; unfold rowW; rw [if_neg (by omega)]
theorem rowW_s {G F : Nat → Int32} {b k : Nat} {v : Int32} (hv : v = F k) : upd (rowW G b k F) (b + k) v = rowW G b (k + 1) F := by
  funext j
  unfold upd rowW
  by_cases h1 : j = b + k
  · rw [if_pos h1, if_pos (by omega), hv, h1]; congr 1; omega
  · rw [if_neg h1]
    by_cases h2 : b ≤ j ∧ j < b + k
    · rw [if_pos h2, if_pos (by omega)]
    · rw [if_neg h2, if_neg (by omega)]
theorem rowW_in {G F : Nat → Int32} {b k j : Nat} (h : j < k) : rowW G b k F (b + j) = F j := by
  unfold rowW
  rw [if_pos (by omega)]; congr 1; omega
theorem rowW_out {G F : Nat → Int32} {b k j : Nat} (h : ¬ (b ≤ j ∧ j < b + k)) : rowW G b k F j = G j := if_neg h
theorem f_addFrame (hC : FD u h w f) (hf : f < 10) (hp : post (iI f) (sA (si u 4 (iI (f + 1 : Nat))) 2 (rowW (u.2 2) (36 * f) (h * w) (fun _ => iI (-1))))) : wp_X1_addFrame u post := by
  have hn := hC.n
  have hC1 : FD (si u 4 (iI (f + 1 : Nat))) h w (f + 1) := ⟨hC.1, hC.2.1, by omega, hC.2.2.2.1, hC.2.2.2.2.1, hC.2.2.2.2.2.1, rfl⟩
  have a6 := hC.2.2.2.2.2.1
  have a7 := hC.2.2.2.2.2.2
  unfold wp_X1_addFrame
  rw [a7, l1, iI_add]
  generalize hu1 : si u 4 (iI ((f + 1 : Nat) : Int)) = u1 at hp hC1
  have e1 : si u 4 (iI ((f : Int) + 1)) = u1 := by rw [← hu1]; simp
  have e2 : u1.2 2 = u.2 2 := by rw [← hu1]; rfl
  have e3 : u1.1 3 = iI (h * w : Nat) := hC1.2.2.2.2.2.1
  rw [e1]
  have key : ∀ (m k : Nat), k + m = h * w → wp_X1_addFrame_17 post (m + 1) (iI f) (iI k) (sA u1 2 (rowW (u.2 2) (36 * f) k (fun _ => iI (-1)))) := by
    intro m
    induction m with
    | zero =>
      intro k hk
      unfold wp_X1_addFrame_17
      rw [sA_1, e3]
      refine b_le (by omega) (by omega) (fun _ => ?_) (fun hn => absurd (by omega) hn)
      rw [show k = h * w by omega]; exact hp
    | succ m ih =>
      intro k hk
      unfold wp_X1_addFrame_17
      rw [sA_1, e3]
      refine b_le (by omega) (by omega) (fun hn => absurd hn (by omega)) (fun _ => ?_)
      refine f_setGrey (h := h) (w := w) (f := f + 1) (u := sA u1 2 _) hC1 (by omega) (by omega) ?_
      rw [sA_same, sA_sA, rowW_s (F := fun _ => iI (-1)) (v := -1) rfl, l1, iI_add]
      have := ih (k + 1) (by omega)
      rw [Int.natCast_succ] at this
      exact this
  refine ⟨h * w + 1, ?_⟩
  have := key (h * w) 0 (by omega)
  rw [rowW_0, ← e2] at this
  have e4 : sA u1 2 (u1.2 2) = u1 := by
    unfold sA
    have : (fun j => if j = 2 then u1.2 2 else u1.2 j) = u1.2 := by funext j; by_cases h : j = 2 <;> simp [h]
    rw [this]
  rw [e4] at this
  exact this
theorem f_frame (hC : FD u h w f) (h0 : f = 10 → post (iI (-2)) u) (h1 : f < 10 → post (iI f) (sA (si u 4 (iI (f + 1 : Nat))) 2 (rowW (u.2 2) (36 * f) (h * w) (fun _ => iI (-1))))) : wp_X5_frame u post := by
  have hf := hC.f
  unfold wp_X5_frame
  rw [show u.1 4 = iI f from hC.2.2.2.2.2.2]
  exact b_lt (b := 10) (by omega) (by omega) (fun h => f_addFrame hC (by omega) (h1 (by omega))) (fun h => h0 (by omega))
theorem f_reel (ha : rg a) (hb : rg b) (h0 : ¬ ((2 ≤ a ∧ a ≤ 6) ∧ (2 ≤ b ∧ b ≤ 6)) → post (iI (-1)) u) (h1 : (2 ≤ a ∧ a ≤ 6) → (2 ≤ b ∧ b ≤ 6) → post (iI (a * b)) (si (si (si (si (si u 1 (iI a)) 2 (iI b)) 3 (iI (a * b))) 4 (iI 0)) 5 (iI 0))) : wp_X5_reel (iI a) (iI b) u post := by
  unfold wp_X5_reel
  refine f_within (b := 2) (c := 6) ha (by omega) (by omega) (fun hn => b0 (h0 (by omega))) (fun c1 c2 => b1 ?_)
  refine f_within (b := 2) (c := 6) hb (by omega) (by omega) (fun hn => b0 (h0 (by omega))) (fun c3 c4 => b1 ?_)
  unfold wp_X1_start
  rw [iI_mul]
  exact h1 ⟨c1, c2⟩ ⟨c3, c4⟩
theorem f_put (hC : FD u h w f) {y x : Int} (ha : rg a) (hy : rg y) (hx : rg x) (hc : rg c) (h0 : ¬ ((0 ≤ a ∧ a < f) ∧ (0 ≤ y ∧ y < h ∧ 0 ≤ x ∧ x < w) ∧ (-1 ≤ c ∧ c ≤ 63)) → post (iI (-1000)) u)
    (h1 : ∀ i j k : Nat, a = i → y = j → x = k → i < f → j < h → k < w → (-1 ≤ c ∧ c ≤ 63) → post (u.2 2 (36 * i + (j * w + k))) (sA u 2 (upd (u.2 2) (36 * i + (j * w + k)) (iI c)))) : wp_X5_put (iI a) (iI y) (iI x) (iI c) u post := by
  have b1' := hC.1; have b2' := hC.2.1
  unfold wp_X5_put
  refine f_placeOf hC hy hx (fun hn => ?_) (fun d1 d2 d3 d4 => ?_)
  · refine f_hasFrame hC ha (fun _ => b0 (h0 (by omega))) (fun _ _ => b1 ?_)
    exact b_t (by rw [l0, iI_lt (by omega) (by omega)]; omega) (h0 (by omega))
  · obtain ⟨j, rfl⟩ := Int.eq_ofNat_of_zero_le d1
    obtain ⟨k, rfl⟩ := Int.eq_ofNat_of_zero_le d3
    have e : ((j : Int) * w + k) = ((j * w + k : Nat) : Int) := by simp
    have hlt := pl_lt (y := j) (x := k) (h := h) (w := w) (by omega) (by omega)
    have hn := hC.n
    rw [e]
    refine f_hasFrame hC ha (fun _ => b0 (h0 (by omega))) (fun d5 d6 => b1 ?_)
    obtain ⟨i, rfl⟩ := Int.eq_ofNat_of_zero_le d5
    refine b_f (by rw [l0, iI_lt (by omega) (by omega)]; omega) ?_
    rw [lm1]
    refine f_within (b := -1) (c := 63) hc (by omega) (by omega) (fun _ => b0 (h0 (by omega))) (fun d7 d8 => b1 ?_)
    refine f_greyAt hC (by omega) hlt ?_
    refine f_setGrey hC (by omega) hlt ?_
    exact h1 i j k rfl rfl rfl (by omega) (by omega) (by omega) ⟨d7, d8⟩
theorem f_raw (hC : FD u h w f) {y x : Int} (ha : rg a) (hy : rg y) (hx : rg x) (h0 : ¬ ((0 ≤ a ∧ a < f) ∧ (0 ≤ y ∧ y < h ∧ 0 ≤ x ∧ x < w)) → post (iI (-1000)) u)
    (h1 : ∀ i j k : Nat, a = i → y = j → x = k → i < f → j < h → k < w → post (u.2 2 (36 * i + (j * w + k))) u) : wp_X5_raw (iI a) (iI y) (iI x) u post := by
  have b1' := hC.1; have b2' := hC.2.1
  unfold wp_X5_raw
  refine f_placeOf hC hy hx (fun hn => ?_) (fun d1 d2 d3 d4 => ?_)
  · refine f_hasFrame hC ha (fun _ => b0 (h0 (by omega))) (fun _ _ => b1 ?_)
    exact b_f (by rw [l0, iI_le (by omega) (by omega)]; omega) (h0 (by omega))
  · obtain ⟨j, rfl⟩ := Int.eq_ofNat_of_zero_le d1
    obtain ⟨k, rfl⟩ := Int.eq_ofNat_of_zero_le d3
    have e : ((j : Int) * w + k) = ((j * w + k : Nat) : Int) := by simp
    have hlt := pl_lt (y := j) (x := k) (h := h) (w := w) (by omega) (by omega)
    have hn := hC.n
    rw [e]
    refine f_hasFrame hC ha (fun _ => b0 (h0 (by omega))) (fun d5 d6 => b1 ?_)
    obtain ⟨i, rfl⟩ := Int.eq_ofNat_of_zero_le d5
    refine b_t (by rw [l0, iI_le (by omega) (by omega)]; omega) ?_
    refine f_greyAt hC (by omega) hlt ?_
    exact h1 i j k rfl rfl rfl (by omega) (by omega) (by omega)
end F0
