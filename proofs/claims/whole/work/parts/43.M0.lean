/-! ===== the reference's frames ===== -/
def MDr (i0 i1 i2 : Int32) (h w f : Nat) : Prop := (2 ≤ h ∧ h ≤ 6) ∧ (2 ≤ w ∧ w ≤ 6) ∧ f ≤ 10 ∧ i0 = iI h ∧ i1 = iI w ∧ i2 = iI f
abbrev MD (u : US) (h w f : Nat) : Prop := MDr (u.1 0) (u.1 1) (u.1 2) h w f
theorem MD.n {u : US} {h w f : Nat} (hC : MD u h w f) : 4 ≤ h * w ∧ h * w ≤ 36 := hw_bd hC.1 hC.2.1
theorem MD.f {u : US} {h w f : Nat} (hC : MD u h w f) : f ≤ 10 := hC.2.2.1
theorem sA_id {u : US} {k : Nat} : sA u k (u.2 k) = u := by
  unfold sA
  have : (fun j => if j = k then u.2 k else u.2 j) = u.2 := by funext j; by_cases h : j = k <;> simp [h]
  rw [this]
section M0
variable {u : US} {h w f : Nat} {g : Nat → Nat → Int} {a b c : Int} {post : Int32 → US → Prop} {postv : US → Prop}
theorem m_in (ha : rg a) (hb : rg b) (hc : rg c) (h0 : ¬ (b ≤ a ∧ a ≤ c) → post 0 u) (h1 : b ≤ a → a ≤ c → post 1 u) : wp_X6_in (iI a) (iI b) (iI c) u post := by
  unfold wp_X6_in
  exact b_lt ha hb (fun h => h0 (by omega)) (fun h => b_lt hc ha (fun h' => h0 (by omega)) (fun h' => h1 (by omega) (by omega)))
theorem m_isFrame (hC : MD u h w f) (ha : rg a) (h0 : ¬ (0 ≤ a ∧ a < f) → post 0 u) (h1 : 0 ≤ a → a < f → post 1 u) : wp_X6_isFrame (iI a) u post := by
  obtain ⟨-, -, a3, -, -, a6⟩ := hC
  unfold wp_X6_isFrame
  rw [a6, l1, l0, iI_sub]
  exact m_in ha (by omega) (by omega) (fun hn => ⟨isB0, h0 (by omega)⟩) (fun c1 c2 => ⟨isB1, h1 c1 (by omega)⟩)
theorem m_isSquare (hC : MD u h w f) (ha : rg a) (hb : rg b) (h0 : ¬ (0 ≤ a ∧ a < h ∧ 0 ≤ b ∧ b < w) → post 0 u) (h1 : 0 ≤ a → a < h → 0 ≤ b → b < w → post 1 u) : wp_X6_isSquare (iI a) (iI b) u post := by
  obtain ⟨a1, a2, a3, a4, a5, a6⟩ := hC
  unfold wp_X6_isSquare
  rw [a4, show (iI (h : Int) - (1 : Int32)) = iI (h - 1) from iI_sub h 1]
  refine m_in (b := 0) (c := h - 1) ha (by omega) (by omega) (fun hn => b0 (h0 (by omega))) (fun c1 c2 => b1 ?_)
  rw [a5, show (iI (w : Int) - (1 : Int32)) = iI (w - 1) from iI_sub w 1]
  exact m_in (b := 0) (c := w - 1) hb (by omega) (by omega) (fun hn => b0 (h0 (by omega))) (fun c3 c4 => b1 (h1 c1 (by omega) c3 (by omega)))
theorem m_at (hC : MD u h w f) {i y x : Nat} (hp : post (iI (36 * i + (y * w + x) : Nat)) u) : wp_X6_at (iI i) (iI y) (iI x) u post := by
  unfold wp_X6_at
  rw [hC.2.2.2.2.1, l36, iI_mul, iI_mul, iI_add, iI_add]
  have e : (36 : Int) * i + w * y + x = ((36 * i + (y * w + x) : Nat) : Int) := by
    have := Int.mul_comm (w : Int) (y : Int)
    simp; omega
  rw [e]; exact hp
theorem m_frame (hC : MD u h w f) (h0 : f = 10 → post (iI (-2)) u) (h1 : f < 10 → post (iI f) (si (sA u 3 (rowW (u.2 3) (36 * f) 36 (fun _ => iI (-1)))) 2 (iI (f + 1 : Nat)))) : wp_X6_frame u post := by
  have hf := hC.f
  have a6 : u.1 2 = iI f := hC.2.2.2.2.2
  unfold wp_X6_frame
  rw [a6]
  refine b_eq (b := 10) (by omega) (by omega) (fun h => h0 (by omega)) (fun hne => ?_)
  have hp := h1 (by omega)
  have key : ∀ (m k : Nat), k + m = 36 → wp_X6_frame_14 post (m + 1) (iI k) (sA u 3 (rowW (u.2 3) (36 * f) k (fun _ => iI (-1)))) := by
    intro m
    induction m with
    | zero =>
      intro k hk
      unfold wp_X6_frame_14
      rw [sA_1, a6]
      refine b_le (a := 36) (by omega) (by omega) (fun _ => ?_) (fun hn => absurd (by omega) hn)
      rw [l1, iI_add, iI_sub, show (f : Int) + 1 - 1 = f by omega, show k = 36 by omega]
      exact hp
    | succ m ih =>
      intro k hk
      unfold wp_X6_frame_14
      rw [sA_1, a6]
      refine b_le (a := 36) (by omega) (by omega) (fun hn => absurd hn (by omega)) (fun _ => ?_)
      rw [l36, iI_mul, iI_add]
      refine b_in (by omega) (by omega) (by omega) ?_
      rw [iI_clamp (by omega), show ((36 : Int) * f + k).toNat = 36 * f + k by omega, sA_same, sA_sA, rowW_s (F := fun _ => iI (-1)) (v := -1) rfl, l1, iI_add]
      exact ih (k + 1) (by omega)
  refine ⟨37, ?_⟩
  have := key 36 0 (by omega)
  rw [rowW_0, sA_id] at this
  exact this
theorem m_reel (ha : rg a) (hb : rg b) (h0 : ¬ ((2 ≤ a ∧ a ≤ 6) ∧ (2 ≤ b ∧ b ≤ 6)) → post (iI (-1)) u) (h1 : (2 ≤ a ∧ a ≤ 6) → (2 ≤ b ∧ b ≤ 6) → post (iI (a * b)) (si (si (si (si u 0 (iI a)) 1 (iI b)) 2 (iI 0)) 4 (iI 0))) : wp_X6_reel (iI a) (iI b) u post := by
  unfold wp_X6_reel
  refine m_in (b := 2) (c := 6) ha (by omega) (by omega) (fun hn => b0 (h0 (by omega))) (fun c1 c2 => b1 ?_)
  refine m_in (b := 2) (c := 6) hb (by omega) (by omega) (fun hn => b0 (h0 (by omega))) (fun c3 c4 => b1 ?_)
  rw [iI_mul]
  exact h1 ⟨c1, c2⟩ ⟨c3, c4⟩
theorem m_put (hC : MD u h w f) {y x : Int} (ha : rg a) (hy : rg y) (hx : rg x) (hc : rg c) (h0 : ¬ ((0 ≤ a ∧ a < f) ∧ (0 ≤ y ∧ y < h ∧ 0 ≤ x ∧ x < w) ∧ (-1 ≤ c ∧ c ≤ 63)) → post (iI (-1000)) u)
    (h1 : ∀ i j k : Nat, a = i → y = j → x = k → i < f → j < h → k < w → (-1 ≤ c ∧ c ≤ 63) → post (u.2 3 (36 * i + (j * w + k))) (sA u 3 (upd (u.2 3) (36 * i + (j * w + k)) (iI c)))) : wp_X6_put (iI a) (iI y) (iI x) (iI c) u post := by
  have b1' := hC.1; have b2' := hC.2.1
  unfold wp_X6_put
  refine m_isFrame hC ha (fun _ => b0 (h0 (by omega))) (fun d5 d6 => b1 ?_)
  obtain ⟨i, rfl⟩ := Int.eq_ofNat_of_zero_le d5
  refine m_isSquare hC hy hx (fun hn => b0 (h0 (by omega))) (fun d1 d2 d3 d4 => b1 ?_)
  obtain ⟨j, rfl⟩ := Int.eq_ofNat_of_zero_le d1
  obtain ⟨k, rfl⟩ := Int.eq_ofNat_of_zero_le d3
  have hlt := pl_lt (y := j) (x := k) (h := h) (w := w) (by omega) (by omega)
  have hn := hC.n
  rw [lm1]
  refine m_in (b := -1) (c := 63) hc (by omega) (by omega) (fun _ => b0 (h0 (by omega))) (fun d7 d8 => b1 ?_)
  have hf := hC.f
  refine m_at hC (b_in (by omega) (by omega) (by omega) (m_at hC (b_in (by omega) (by omega) (by omega) ?_)))
  rw [iI_clamp (by omega)]
  exact h1 i j k rfl rfl rfl (by omega) (by omega) (by omega) ⟨d7, d8⟩
theorem m_raw (hC : MD u h w f) {y x : Int} (ha : rg a) (hy : rg y) (hx : rg x) (h0 : ¬ ((0 ≤ a ∧ a < f) ∧ (0 ≤ y ∧ y < h ∧ 0 ≤ x ∧ x < w)) → post (iI (-1000)) u)
    (h1 : ∀ i j k : Nat, a = i → y = j → x = k → i < f → j < h → k < w → post (u.2 3 (36 * i + (j * w + k))) u) : wp_X6_raw (iI a) (iI y) (iI x) u post := by
  have b1' := hC.1; have b2' := hC.2.1
  unfold wp_X6_raw
  refine m_isFrame hC ha (fun _ => b0 (h0 (by omega))) (fun d5 d6 => b1 ?_)
  obtain ⟨i, rfl⟩ := Int.eq_ofNat_of_zero_le d5
  refine m_isSquare hC hy hx (fun hn => b0 (h0 (by omega))) (fun d1 d2 d3 d4 => b1 ?_)
  obtain ⟨j, rfl⟩ := Int.eq_ofNat_of_zero_le d1
  obtain ⟨k, rfl⟩ := Int.eq_ofNat_of_zero_le d3
  have hlt := pl_lt (y := j) (x := k) (h := h) (w := w) (by omega) (by omega)
  have hn := hC.n
  have hf := hC.f
  refine m_at hC (b_in (by omega) (by omega) (by omega) ?_)
  rw [iI_clamp (by omega)]
  exact h1 i j k rfl rfl rfl (by omega) (by omega) (by omega)
end M0
