/-! ===== rule, layer, on, peel, of ===== -/
def rlo (j : Nat) : Int := if j = 2 then 1 else 0
def rhi (j : Nat) : Int := if j = 0 then 3 else if j = 1 then 10 else 63
theorem rl_bd (j : Nat) : 0 ≤ rlo j ∧ rlo j ≤ 1 ∧ 0 ≤ rhi j ∧ rhi j ≤ 63 := by
  unfold rlo rhi
  split <;> split <;> (try split) <;> omega
theorem tbR1_e (j : Nat) : tbR1 j = iI (rlo j) := by
  unfold tbR1 rlo; split <;> rfl
theorem tbR2_e (j : Nat) : tbR2 j = iI (rhi j) := by
  unfold tbR2 rhi; split
  · rfl
  · split <;> rfl
theorem vn0 : vp_nar .boolean 0 = 0 := rfl
theorem vn1 : vp_nar .boolean 1 = 1 := rfl
section L0
variable {u : US} {h w f L : Nat} {g : Nat → Nat → Int} {K O A B N : Nat → Int} {a b c d : Int} {post : Int32 → US → Prop}
theorem f_rule (ha : rg a) (hc : rg c) (h0 : ¬ ((0 ≤ a ∧ a ≤ 2) ∧ rlo a.toNat ≤ c ∧ c ≤ rhi a.toNat) → post (iI (-1)) u) (h1 : ∀ j : Nat, a = j → j < 3 → rlo j ≤ c ∧ c ≤ rhi j → post (u.2 9 j) (sA u 9 (upd (u.2 9) j (iI c)))) : wp_X5_rule (iI a) (iI c) u post := by
  unfold wp_X5_rule
  refine f_within (b := 0) (c := 2) ha (by omega) (by omega) (fun _ => b0 (h0 (by omega))) (fun c1 c2 => b1 ?_)
  obtain ⟨j, rfl⟩ := Int.eq_ofNat_of_zero_le c1
  have hb := rl_bd j
  refine b_in (by omega) (by omega) (by omega) (b_in (by omega) (by omega) (by omega) ?_)
  rw [iI_clamp (by omega)]
  show wp_X5_isWithin (iI c) (tbR1 j) (tbR2 j) u _
  rw [tbR1_e, tbR2_e]
  refine f_within hc (by omega) (by omega) (fun hn => b0 (h0 (fun z => hn z.2))) (fun c3 c4 => b1 ?_)
  refine b_in (by omega) (by omega) (by omega) (b_in (by omega) (by omega) (by omega) ?_)
  exact h1 j rfl (by omega) ⟨c3, c4⟩
theorem m_rule (ha : rg a) (hc : rg c) (h0 : ¬ ((0 ≤ a ∧ a ≤ 2) ∧ rlo a.toNat ≤ c ∧ c ≤ rhi a.toNat) → post (iI (-1)) u) (h1 : ∀ j : Nat, a = j → j < 3 → rlo j ≤ c ∧ c ≤ rhi j → post (u.2 10 j) (sA u 10 (upd (u.2 10) j (iI c)))) : wp_X6_rule (iI a) (iI c) u post := by
  unfold wp_X6_rule
  refine m_in (b := 0) (c := 2) ha (by omega) (by omega) (fun _ => b0 (h0 (by omega))) (fun c1 c2 => b1 ?_)
  obtain ⟨j, rfl⟩ := Int.eq_ofNat_of_zero_le c1
  have hb := rl_bd j
  have fin : ∀ p q : Int, p = rlo j → q = rhi j → wp_X6_rule_40 post (iI q) (iI p) (iI c) (iI j) (iI c) u := by
    intro p q hp hq
    unfold wp_X6_rule_40
    refine m_in hc (by omega) (by omega) (fun hn => b0 (h0 (fun z => hn ⟨hp ▸ z.2.1, hq ▸ z.2.2⟩))) (fun c3 c4 => b1 ?_)
    refine b_in (by omega) (by omega) (by omega) (b_in (by omega) (by omega) (by omega) ?_)
    rw [iI_clamp (by omega)]
    exact h1 j rfl (by omega) ⟨hp ▸ c3, hq ▸ c4⟩
  have fin2 : ∀ p : Int, p = rlo j → wp_X6_rule_20 post (iI p) (iI c) (iI j) (iI c) u := by
    intro p hp
    unfold wp_X6_rule_20
    refine b_eq (b := 0) (by omega) (by omega) (fun e => fin p 3 hp ?_) (fun e => b_eq (b := 1) (by omega) (by omega) (fun e2 => fin p 10 hp ?_) (fun e2 => fin p 63 hp ?_))
    · unfold rhi; rw [if_pos (by omega)]
    · unfold rhi; rw [if_neg (by omega), if_pos (by omega)]
    · unfold rhi; rw [if_neg (by omega), if_neg (by omega)]
  refine b_eq (b := 2) (by omega) (by omega) (fun e => fin2 1 ?_) (fun e => fin2 0 ?_)
  · unfold rlo; rw [if_pos (by omega)]
  · unfold rlo; rw [if_neg (by omega)]
theorem f_has (hL : L ≤ 12) (e5 : u.1 5 = iI L) (ha : rg a) (h0 : ¬ (0 ≤ a ∧ a < L) → post 0 u) (h1 : ∀ i : Nat, a = i → i < L → post 1 u) : wp_X0_has (iI a) u post := by
  unfold wp_X0_has
  rw [e5]
  refine b_lt (b := 0) ha (by omega) (fun h => h0 (by omega)) (fun h => b_le (by omega) ha (fun h' => h0 (by omega)) (fun h' => ?_))
  obtain ⟨i, rfl⟩ := Int.eq_ofNat_of_zero_le (a := a) (by omega)
  exact h1 i rfl (by omega)
theorem m_isLayer (hL : L ≤ 12) (e5 : u.1 4 = iI L) (ha : rg a) (h0 : ¬ (0 ≤ a ∧ a < L) → post 0 u) (h1 : ∀ i : Nat, a = i → i < L → post 1 u) : wp_X6_isLayer (iI a) u post := by
  unfold wp_X6_isLayer
  rw [e5, show (iI (L : Int) - (1 : Int32)) = iI (L - 1) from iI_sub L 1]
  refine m_in (b := 0) (c := L - 1) ha (by omega) (by omega) (fun hn => ⟨isB0, h0 (by omega)⟩) (fun c1 c2 => ?_)
  obtain ⟨i, rfl⟩ := Int.eq_ofNat_of_zero_le c1
  exact ⟨isB1, h1 i rfl (by omega)⟩
/-- a layer that may not come -/
def badL (f : Nat) (k a c d : Int) : Prop := ¬ (0 ≤ k ∧ k ≤ 3) ∨ ¬ (0 ≤ a ∧ a < f) ∨ (k = 1 ∧ (¬ (0 ≤ c ∧ c < f) ∨ c = a)) ∨ (k = 3 ∧ ¬ ((-3 ≤ c ∧ c ≤ 3) ∧ (-3 ≤ d ∧ d ≤ 3)))
def la (k c : Int) : Int := if k = 1 ∨ k = 3 then c else 0
def lb (k d : Int) : Int := if k = 3 then d else 0
def fadd (u : US) (L : Nat) (k a c d : Int) : US := sA (sA (sA (sA (sA (si u 5 (iI (L + 1 : Nat))) 4 (upd (u.2 4) L (iI k))) 5 (upd (u.2 5) L (iI a))) 6 (upd (u.2 6) L (iI (la k c)))) 7 (upd (u.2 7) L (iI (lb k d)))) 8 (upd (u.2 8) L (iI 1))
def madd (u : US) (L : Nat) (k a c d : Int) : US := si (sA (sA (sA (sA (sA u 5 (upd (u.2 5) L (iI k))) 6 (upd (u.2 6) L (iI a))) 7 (upd (u.2 7) L (iI (la k c)))) 8 (upd (u.2 8) L (iI (lb k d)))) 9 (upd (u.2 9) L (iI 1))) 4 (iI (L + 1 : Nat))
theorem f_layer (hC : FD u h w f) (hL : L ≤ 12) (e5 : u.1 5 = iI L) {k : Int} (hk : rg k) (ha : rg a) (hc : rg c) (hd : rg d) (h0 : badL f k a c d → post (iI (-1)) u) (h1 : ¬ badL f k a c d → L = 12 → post (iI (-2)) u) (h2 : ¬ badL f k a c d → L < 12 → post (iI L) (fadd u L k a c d)) : wp_X5_layer (iI k) (iI a) (iI c) (iI d) u post := by
  have s120 : ¬ badL f k a c d → L < 12 → ∀ x y : Int, x = la k c → y = lb k d → wp_X5_layer_120 post (iI y) (iI x) (iI a) (iI k) u := by
    intro hb hl x y hx hy
    unfold wp_X5_layer_120 wp_X0_add
    rw [e5]
    refine b_in (by omega) (by omega) (by omega) (b_in (by omega) (by omega) (by omega) (b_in (by omega) (by omega) (by omega) (b_in (by omega) (by omega) (by omega) (b_in (by omega) (by omega) (by omega) ?_))))
    rw [iI_clamp (by omega), vn1, hx, hy, iI_s]
    exact h2 hb hl
  have s109 : ¬ badL f k a c d → L < 12 → ∀ x : Int, x = la k c → wp_X5_layer_109 post (iI x) (iI a) (iI k) (iI k) (iI d) u := by
    intro hb hl x hx
    unfold wp_X5_layer_109
    refine b_eq (b := 3) hk (by omega) (fun e => s120 hb hl x d hx ?_) (fun e => s120 hb hl x 0 hx ?_)
    · unfold lb; rw [if_pos e]
    · unfold lb; rw [if_neg e]
  have s73 : ¬ badL f k a c d → wp_X5_layer_73 post (iI k) (iI a) (iI c) (iI d) u := by
    intro hb
    unfold wp_X5_layer_73
    rw [e5]
    refine b_lt (b := 12) (by omega) (by omega) (fun hl => ?_) (fun hl => h1 hb (by omega))
    unfold wp_X5_layer_104
    refine b_eq (b := 1) hk (by omega) (fun e => s109 hb (by omega) c ?_) (fun e => b_eq (b := 3) hk (by omega) (fun e2 => s109 hb (by omega) c ?_) (fun e2 => s109 hb (by omega) 0 ?_))
    · unfold la; rw [if_pos (Or.inl e)]
    · unfold la; rw [if_pos (Or.inr e2)]
    · unfold la; rw [if_neg (by omega)]
  have s45 : (0 ≤ k ∧ k ≤ 3) → (0 ≤ a ∧ a < f) → ¬ (k = 1 ∧ (¬ (0 ≤ c ∧ c < f) ∨ c = a)) → wp_X5_layer_45 post (iI k) (iI a) (iI c) (iI d) u := by
    intro q1 q2 q3
    unfold wp_X5_layer_45
    rw [lm3]
    refine b_eq (b := 3) hk (by omega) (fun e => ?_) (fun e => s73 (by unfold badL; omega))
    refine f_within (b := -3) (c := 3) hc (by omega) (by omega) (fun _ => b0 (h0 (by unfold badL; omega))) (fun _ _ => b1 ?_)
    refine f_within (b := -3) (c := 3) hd (by omega) (by omega) (fun _ => b0 (h0 (by unfold badL; omega))) (fun _ _ => b1 ?_)
    exact s73 (by unfold badL; omega)
  unfold wp_X5_layer
  refine f_within (b := 0) (c := 3) hk (by omega) (by omega) (fun _ => b0 (h0 (by unfold badL; omega))) (fun _ _ => b1 ?_)
  refine f_hasFrame hC ha (fun _ => b0 (h0 (by unfold badL; omega))) (fun _ _ => b1 ?_)
  refine b_eq (b := 1) hk (by omega) (fun e => ?_) (fun e => s45 (by omega) (by omega) (by omega))
  refine f_hasFrame hC hc (fun _ => b0 (h0 (by unfold badL; omega))) (fun _ _ => b1 ?_)
  exact b_eq hc ha (fun e => h0 (by unfold badL; omega)) (fun e => s45 (by omega) (by omega) (by omega))
theorem m_layer (hC : MD u h w f) (hL : L ≤ 12) (e5 : u.1 4 = iI L) {k : Int} (hk : rg k) (ha : rg a) (hc : rg c) (hd : rg d) (h0 : badL f k a c d → post (iI (-1)) u) (h1 : ¬ badL f k a c d → L = 12 → post (iI (-2)) u) (h2 : ¬ badL f k a c d → L < 12 → post (iI L) (madd u L k a c d)) : wp_X6_layer (iI k) (iI a) (iI c) (iI d) u post := by
  have s65 : ¬ badL f k a c d → wp_X6_layer_65 post (iI k) (iI a) (iI c) (iI d) u := by
    intro hb
    unfold wp_X6_layer_65
    rw [e5]
    refine b_eq (b := 12) (by omega) (by omega) (fun hl => h1 hb (by omega)) (fun hl => ?_)
    have hl : L < 12 := by omega
    rw [iI_clamp (by omega)]
    generalize hu1 : sA (sA u 5 (upd (u.2 5) (L : Int).toNat (iI k))) 6 (upd (u.2 6) (L : Int).toNat (iI a)) = u1
    have e1 : u1.1 4 = iI L := by rw [← hu1]; exact e5
    have s140 : ∀ x y : Int, x = la k c → y = lb k d → wp_X6_layer_140 post (iI y) (iI L) (sA u1 7 (upd (u1.2 7) L (iI x))) := by
      intro x y hx hy
      unfold wp_X6_layer_140
      rw [sA_1, e1]
      refine b_in (by omega) (by omega) (by omega) (b_in (by omega) (by omega) (by omega) ?_)
      rw [iI_clamp (by omega), vn1, hx, hy, l1, iI_add, iI_sub, show (L : Int) + 1 - 1 = L by omega, ← hu1]
      exact h2 hb hl
    have s120 : ∀ x : Int, x = la k c → wp_X6_layer_120 post (iI x) (iI L) (iI k) (iI d) u1 := by
      intro x hx
      unfold wp_X6_layer_120
      rw [e1]
      refine b_in (by omega) (by omega) (by omega) ?_
      rw [iI_clamp (by omega)]
      refine b_eq (b := 3) hk (by omega) (fun e => s140 x d hx ?_) (fun e => s140 x 0 hx ?_)
      · unfold lb; rw [if_pos e]
      · unfold lb; rw [if_neg e]
    refine b_in (by omega) (by omega) (by omega) (b_in (by omega) (by omega) (by omega) ?_)
    unfold wp_X6_layer_115
    refine b_eq (b := 1) hk (by omega) (fun e => s120 c ?_) (fun e => b_eq (b := 3) hk (by omega) (fun e2 => s120 c ?_) (fun e2 => s120 0 ?_))
    · unfold la; rw [if_pos (Or.inl e)]
    · unfold la; rw [if_pos (Or.inr e2)]
    · unfold la; rw [if_neg (by omega)]
  have s37 : (0 ≤ k ∧ k ≤ 3) → (0 ≤ a ∧ a < f) → ¬ (k = 1 ∧ (¬ (0 ≤ c ∧ c < f) ∨ c = a)) → wp_X6_layer_37 post (iI k) (iI a) (iI c) (iI d) u := by
    intro q1 q2 q3
    unfold wp_X6_layer_37
    rw [lm3]
    refine b_eq (b := 3) hk (by omega) (fun e => ?_) (fun e => s65 (by unfold badL; omega))
    refine m_in (b := -3) (c := 3) hc (by omega) (by omega) (fun _ => b0 (h0 (by unfold badL; omega))) (fun _ _ => b1 ?_)
    refine m_in (b := -3) (c := 3) hd (by omega) (by omega) (fun _ => b0 (h0 (by unfold badL; omega))) (fun _ _ => b1 ?_)
    exact s65 (by unfold badL; omega)
  unfold wp_X6_layer
  refine m_in (b := 0) (c := 3) hk (by omega) (by omega) (fun _ => b0 (h0 (by unfold badL; omega))) (fun _ _ => b1 ?_)
  refine m_isFrame hC ha (fun _ => b0 (h0 (by unfold badL; omega))) (fun _ _ => b1 ?_)
  refine b_eq (b := 1) hk (by omega) (fun e => ?_) (fun e => s37 (by omega) (by omega) (by omega))
  refine m_isFrame hC hc (fun _ => b0 (h0 (by unfold badL; omega))) (fun _ _ => b1 ?_)
  exact b_eq hc ha (fun e => h0 (by unfold badL; omega)) (fun e => s37 (by omega) (by omega) (by omega))
end L0
def upz (f : Nat → Int) (k : Nat) (x : Int) : Nat → Int := fun j => if j = k then x else f j
theorem upz_s {f : Nat → Int} {k : Nat} {x : Int} : upz f k x k = x := if_pos rfl
theorem upz_n {f : Nat → Int} {k j : Nat} {x : Int} (h : j ≠ k) : upz f k x j = f j := if_neg h
theorem LR.add {x : Int32} {k o a b n : Nat → Int32} {f L : Nat} {K O A B N : Nat → Int} (h : LR x k o a b n f L K O A B N) {k' a' c d : Int} (hf : f ≤ 10) (hl : L < 12) (hb : ¬ badL f k' a' c d) :
    LR (iI (L + 1 : Nat)) (upd k L (iI k')) (upd o L (iI a')) (upd a L (iI (la k' c))) (upd b L (iI (lb k' d))) (upd n L (iI 1)) f (L + 1) (upz K L k') (upz O L a') (upz A L (la k' c)) (upz B L (lb k' d)) (upz N L 1) := by
  refine ⟨by omega, rfl, fun i hi => ?_⟩
  by_cases e : i = L
  · subst e
    rw [upd_s, upd_s, upd_s, upd_s, upd_s, upz_s, upz_s, upz_s, upz_s, upz_s]
    unfold badL at hb
    refine ⟨⟨rfl, rfl, rfl, rfl, rfl⟩, by omega, by omega, ?_, ?_, by omega, ?_, ?_⟩
    · unfold la; split <;> omega
    · unfold lb; split <;> omega
    · unfold la; intro e; rw [if_pos (Or.inl e)]; omega
    · unfold la; intro e; rw [if_pos (Or.inr e)]; omega
  · rw [upd_n e, upd_n e, upd_n e, upd_n e, upd_n e, upz_n e, upz_n e, upz_n e, upz_n e, upz_n e]
    exact h.2.2 i (by omega)
theorem RR.put {r : Nat → Int32} {S D E : Int} (h : RR r S D E) {j : Nat} {c : Int} (hj : j < 3) (hc : rlo j ≤ c ∧ c ≤ rhi j) : RR (upd r j (iI c)) (if j = 0 then c else S) (if j = 1 then c else D) (if j = 2 then c else E) := by
  obtain ⟨h1, h2, h3, h4, h5, h6⟩ := h
  have hh : j = 0 ∨ j = 1 ∨ j = 2 := by omega
  rcases hh with rfl | rfl | rfl
  · exact ⟨rfl, h2, h3, by simpa [rlo, rhi] using hc, h5, h6⟩
  · exact ⟨h1, rfl, h3, h4, by simpa [rlo, rhi] using hc, h6⟩
  · exact ⟨h1, h2, rfl, h4, h5, by simpa [rlo, rhi] using hc⟩
section I2
variable {u v : US}
theorem i_rule (hI : INV u v) (x1 x2 : Int32) : wp_X5_rule x1 x2 u (fun r u' => wp_X6_rule x1 x2 v (fun r' v' => r = r' ∧ INV u' v')) := by
  have hI0 := hI
  obtain ⟨hK, h, w, f, L, g, K, O, A, B, N, S, D, E, ⟨a1, a2, a3, a4⟩, b1, b2, b3, b4⟩ := hI
  obtain ⟨a, ha, rfl⟩ := iI_of x1
  obtain ⟨c, hc, rfl⟩ := iI_of x2
  refine f_rule ha hc (fun hn => m_rule ha hc (fun _ => ⟨rfl, hI0⟩) (fun j e c1 c2 => absurd ⟨by omega, by subst e; exact c2⟩ hn)) (fun j e c1 c2 => ?_)
  subst e
  refine m_rule ha hc (fun hn => absurd ⟨by omega, c2⟩ hn) (fun i e _ _ => ?_)
  obtain rfl : i = j := by omega
  refine ⟨?_, hK.mono (fun k hk => rfl) (fun k hk => sA_other (by omega)) (fun k h1 h2 => rfl) (fun k h1 h2 => sA_other (by omega)), h, w, f, L, g, K, O, A, B, N, (if i = 0 then c else S), (if i = 1 then c else D), (if i = 2 then c else E), ⟨a1, a2, a3, ?_⟩, b1, b2, b3, ?_⟩
  · have hh : i = 0 ∨ i = 1 ∨ i = 2 := by omega
    rcases hh with rfl | rfl | rfl
    · rw [a4.1, b4.1]
    · rw [a4.2.1, b4.2.1]
    · rw [a4.2.2.1, b4.2.2.1]
  · rw [sA_same]; exact a4.put c1 c2
  · rw [sA_same]; exact b4.put c1 c2
theorem i_layer (hI : INV u v) (x1 x2 x3 x4 : Int32) : wp_X5_layer x1 x2 x3 x4 u (fun r u' => wp_X6_layer x1 x2 x3 x4 v (fun r' v' => r = r' ∧ INV u' v')) := by
  have hI0 := hI
  obtain ⟨hK, h, w, f, L, g, K, O, A, B, N, S, D, E, ⟨a1, a2, a3, a4⟩, b1, b2, b3, b4⟩ := hI
  obtain ⟨k, hk, rfl⟩ := iI_of x1
  obtain ⟨a, ha, rfl⟩ := iI_of x2
  obtain ⟨c, hc, rfl⟩ := iI_of x3
  obtain ⟨d, hd, rfl⟩ := iI_of x4
  have hf := a1.f
  refine f_layer a1 a3.1 a3.2.1 hk ha hc hd (fun hb => m_layer b1 b3.1 b3.2.1 hk ha hc hd (fun _ => ⟨rfl, hI0⟩) (fun hn => absurd hb hn) (fun hn => absurd hb hn)) (fun hb e => m_layer b1 b3.1 b3.2.1 hk ha hc hd (fun h => absurd h hb) (fun _ _ => ⟨rfl, hI0⟩) (fun _ hl => by omega)) (fun hb hl => m_layer b1 b3.1 b3.2.1 hk ha hc hd (fun h => absurd h hb) (fun _ e => by omega) (fun _ _ => ⟨rfl, ?_⟩))
  refine ⟨hK.mono (fun j hj => ?_) (fun j hj => ?_) (fun j h1 h2 => ?_) (fun j h1 h2 => ?_), h, w, f, L + 1, g, _, _, _, _, _, S, D, E, ⟨a1, a2, a3.add hf hl hb, a4⟩, b1, b2, b3.add hf hl hb, b4⟩
  · show (si u 5 _).1 j = _
    rw [si_other (by omega)]
  · unfold fadd
    rw [sA_other (by omega), sA_other (by omega), sA_other (by omega), sA_other (by omega), sA_other (by omega), si_2]
  · unfold madd
    rw [si_other (by omega)]
    rfl
  · unfold madd
    rw [si_2, sA_other (by omega), sA_other (by omega), sA_other (by omega), sA_other (by omega), sA_other (by omega)]
theorem i_peel (hI : INV u v) : wp_X5_peel u (fun r u' => wp_X6_peel v (fun r' v' => r = r' ∧ INV u' v')) := by
  have hI0 := hI
  obtain ⟨hK, h, w, f, L, g, K, O, A, B, N, S, D, E, ⟨a1, a2, a3, a4⟩, b1, b2, b3, b4⟩ := hI
  have hL := a3.1
  unfold wp_X5_peel wp_X6_peel
  rw [a3.2.1, b3.2.1, l1, iI_sub]
  refine b_lt (a := 0) (by omega) (by omega) (fun e => b_eq (b := 0) (by omega) (by omega) (fun e2 => by omega) (fun _ => ⟨rfl, ?_⟩)) (fun e => b_eq (b := 0) (by omega) (by omega) (fun e2 => ⟨rfl, hI0⟩) (fun e2 => by omega))
  have e2 : (L : Int) - 1 = ((L - 1 : Nat) : Int) := by omega
  rw [e2]
  refine ⟨hK.mono (fun j hj => si_other (by omega)) (fun j hj => rfl) (fun j h1 h2 => si_other (by omega)) (fun j h1 h2 => rfl), h, w, f, L - 1, g, K, O, A, B, N, S, D, E, ⟨a1, a2, ⟨by omega, rfl, fun i hi => a3.2.2 i (by omega)⟩, a4⟩, b1, b2, ⟨by omega, rfl, fun i hi => b3.2.2 i (by omega)⟩, b4⟩
theorem i_of (hI : INV u v) (x1 x2 : Int32) : wp_X5_of x1 x2 u (fun r u' => wp_X6_of x1 x2 v (fun r' v' => r = r' ∧ INV u' v')) := by
  have hI0 := hI
  obtain ⟨hK, h, w, f, L, g, K, O, A, B, N, S, D, E, ⟨a1, a2, a3, a4⟩, b1, b2, b3, b4⟩ := hI
  have hL := a3.1
  obtain ⟨a, ha, rfl⟩ := iI_of x1
  unfold wp_X5_of wp_X6_of
  refine f_has hL a3.2.1 ha (fun hn => b0 ?_) (fun i e hi => b1' ?_)
  · exact m_isLayer hL b3.2.1 ha (fun _ => b0 ⟨rfl, hI0⟩) (fun i e hi => absurd ⟨by omega, by omega⟩ hn)
  · subst e
    obtain ⟨⟨p1, p2, p3, p4, p5⟩, -, -, -, -, pN, -⟩ := a3.2.2 i hi
    obtain ⟨⟨q1, q2, q3, q4, q5⟩, -⟩ := b3.2.2 i hi
    have fr : ∀ {C : Prop}, (∀ j : Nat, (i : Int) = j → j < L → C) → C := fun h => h i rfl hi
    rw [iI_clamp (by omega), Int.toNat_natCast, p1, p2, p3, p4, p5]
    refine ⟨fun hc => ?_, fun hc => b_in (by omega) (by omega) (by omega) ?_, fun hc => b_in (by omega) (by omega) (by omega) ?_, fun hc => b_in (by omega) (by omega) (by omega) ?_, fun hc => b_in (by omega) (by omega) (by omega) ?_, fun hc => b_in (by omega) (by omega) (by omega) ?_⟩
    · refine m_isLayer hL b3.2.1 ha (fun hn => absurd ⟨by omega, by omega⟩ hn) (fun j e hj => b1' ?_)
      exact ⟨fun _ => ⟨rfl, hI0⟩, fun e => by omega, fun e => by omega, fun e => by omega, fun e => by omega, fun e => by omega⟩
    · refine m_isLayer hL b3.2.1 ha (fun hn => absurd ⟨by omega, by omega⟩ hn) (fun j e hj => b1' ?_)
      rw [q1, q2, q3, q4, q5]
      exact ⟨fun _ => by omega, fun e => b_in (by omega) (by omega) (by omega) ⟨rfl, hI0⟩, fun e => by omega, fun e => by omega, fun e => by omega, fun e => by omega⟩
    · refine m_isLayer hL b3.2.1 ha (fun hn => absurd ⟨by omega, by omega⟩ hn) (fun j e hj => b1' ?_)
      rw [q1, q2, q3, q4, q5]
      exact ⟨fun _ => by omega, fun e => by omega, fun e => b_in (by omega) (by omega) (by omega) ⟨rfl, hI0⟩, fun e => by omega, fun e => by omega, fun e => by omega⟩
    · refine m_isLayer hL b3.2.1 ha (fun hn => absurd ⟨by omega, by omega⟩ hn) (fun j e hj => b1' ?_)
      rw [q1, q2, q3, q4, q5]
      exact ⟨fun _ => by omega, fun e => by omega, fun e => by omega, fun e => b_in (by omega) (by omega) (by omega) ⟨rfl, hI0⟩, fun e => by omega, fun e => by omega⟩
    · refine m_isLayer hL b3.2.1 ha (fun hn => absurd ⟨by omega, by omega⟩ hn) (fun j e hj => b1' ?_)
      rw [q1, q2, q3, q4, q5]
      exact ⟨fun _ => by omega, fun e => by omega, fun e => by omega, fun e => by omega, fun e => b_in (by omega) (by omega) (by omega) ⟨rfl, hI0⟩, fun e => by omega⟩
    · refine ⟨fun ez => ?_, fun ez => ?_⟩
      · refine m_isLayer hL b3.2.1 ha (fun hn => absurd ⟨by omega, by omega⟩ hn) (fun j e hj => b1' ?_)
        rw [q1, q2, q3, q4, q5]
        exact ⟨fun _ => by omega, fun e => by omega, fun e => by omega, fun e => by omega, fun e => by omega, fun e => b_in (by omega) (by omega) (by omega) (b_t ez ⟨rfl, hI0⟩)⟩
      · refine m_isLayer hL b3.2.1 ha (fun hn => absurd ⟨by omega, by omega⟩ hn) (fun j e hj => b1' ?_)
        rw [q1, q2, q3, q4, q5]
        exact ⟨fun _ => by omega, fun e => by omega, fun e => by omega, fun e => by omega, fun e => by omega, fun e => b_in (by omega) (by omega) (by omega) (b_f ez ⟨rfl, hI0⟩)⟩
theorem LR.on {x : Int32} {k o a b n : Nat → Int32} {f L : Nat} {K O A B N : Nat → Int} (h : LR x k o a b n f L K O A B N) {i : Nat} {z : Int} (hz : z = 0 ∨ z = 1) : LR x k o a b (upd n i (iI z)) f L K O A B (upz N i z) := by
  refine ⟨h.1, h.2.1, fun j hj => ?_⟩
  obtain ⟨⟨p1, p2, p3, p4, p5⟩, p6, p7, p8, p9, p10, p11, p12⟩ := h.2.2 j hj
  by_cases e : j = i
  · subst e
    rw [upd_s, upz_s]
    exact ⟨⟨p1, p2, p3, p4, rfl⟩, p6, p7, p8, p9, hz, p11, p12⟩
  · rw [upd_n e, upz_n e]
    exact ⟨⟨p1, p2, p3, p4, p5⟩, p6, p7, p8, p9, p10, p11, p12⟩
theorem i_on (hI : INV u v) (x1 x2 : Int32) (h2 : x2 = 0 ∨ x2 = 1) : wp_X5_on x1 x2 u (fun r u' => wp_X6_on x1 x2 v (fun r' v' => r = r' ∧ INV u' v')) := by
  have hI0 := hI
  obtain ⟨hK, h, w, f, L, g, K, O, A, B, N, S, D, E, ⟨a1, a2, a3, a4⟩, b1, b2, b3, b4⟩ := hI
  have hL := a3.1
  obtain ⟨a, ha, rfl⟩ := iI_of x1
  obtain ⟨z, hz, rfl⟩ : ∃ z : Int, (z = 0 ∨ z = 1) ∧ x2 = iI z := by
    rcases h2 with rfl | rfl
    · exact ⟨0, Or.inl rfl, rfl⟩
    · exact ⟨1, Or.inr rfl, rfl⟩
  have hnar : vp_nar .boolean (iI z) = iI z := by rcases hz with rfl | rfl <;> rfl
  unfold wp_X5_on wp_X6_on
  refine f_has hL a3.2.1 ha (fun hn => b0 ?_) (fun i e hi => b1' ?_)
  · exact m_isLayer hL b3.2.1 ha (fun _ => b0 ⟨rfl, hI0⟩) (fun i e hi => absurd ⟨by omega, by omega⟩ hn)
  · subst e
    obtain ⟨⟨p1, p2, p3, p4, p5⟩, -, -, -, -, pN, -⟩ := a3.2.2 i hi
    obtain ⟨⟨q1, q2, q3, q4, q5⟩, -⟩ := b3.2.2 i hi
    have fin : INV (sA u 8 (upd (u.2 8) i (iI z))) (sA v 9 (upd (v.2 9) i (iI z))) :=
      ⟨hK.mono (fun j hj => rfl) (fun j hj => sA_other (by omega)) (fun j h1 h2 => rfl) (fun j h1 h2 => sA_other (by omega)), h, w, f, L, g, K, O, A, B, upz N i z, S, D, E, ⟨a1, a2, a3.on hz, a4⟩, b1, b2, b3.on hz, b4⟩
    unfold wp_X5_on_31 wp_X6_on_25
    rw [iI_clamp (by omega), Int.toNat_natCast, p5, hnar]
    refine b_in (by omega) (by omega) (by omega) ⟨fun ez => b_in (by omega) (by omega) (by omega) (b0 ?_), fun ez => b_in (by omega) (by omega) (by omega) (b1' ?_)⟩
    · refine m_isLayer hL b3.2.1 ha (fun hn => absurd ⟨by omega, by omega⟩ hn) (fun j e hj => b1' ?_)
      rw [q5]
      exact b_in (by omega) (by omega) (by omega) (b_t ez (b_in (by omega) (by omega) (by omega) ⟨rfl, fin⟩))
    · refine m_isLayer hL b3.2.1 ha (fun hn => absurd ⟨by omega, by omega⟩ hn) (fun j e hj => b1' ?_)
      rw [q5]
      exact b_in (by omega) (by omega) (by omega) (b_f ez (b_in (by omega) (by omega) (by omega) ⟨rfl, fin⟩))
end I2
