/-! ===== again, row ===== -/
def agv (x c : Int) : Int := if x = -1 then -1 else if x + c < 0 then 0 else if 63 < x + c then 63 else x + c
theorem agv_bd {x c : Int} (hx : -1 ≤ x ∧ x ≤ 63) : -1 ≤ agv x c ∧ agv x c ≤ 63 := by
  unfold agv
  split
  · omega
  · split
    · omega
    · split <;> omega
theorem rowW_same {G F : Nat → Int32} {b k : Nat} (h : G (b + k) = F k) : rowW G b (k + 1) F = rowW G b k F := by
  rw [← rowW_s (v := F k) rfl]
  funext j
  unfold upd
  by_cases e : j = b + k
  · rw [if_pos e, e, rowW_out (by omega), h]
  · rw [if_neg e]
section A0
variable {u : US} {h w f : Nat} {g : Nat → Nat → Int} {a b c : Int} {post : Int32 → US → Prop} {postv : US → Prop}
theorem f_again (hC : FD u h w f) (hG : CG (u.2 2) (h * w) f g) (ha : rg a) (hc : rg c) (h0 : ¬ ((0 ≤ a ∧ a < f) ∧ (-63 ≤ c ∧ c ≤ 63)) → post (iI (-1)) u) (h1 : (0 ≤ a ∧ a < f) → (-63 ≤ c ∧ c ≤ 63) → f = 10 → post (iI (-2)) u)
    (h2 : ∀ i : Nat, a = i → i < f → (-63 ≤ c ∧ c ≤ 63) → f < 10 → post (iI f) (sA (si u 4 (iI (f + 1 : Nat))) 2 (rowW (rowW (u.2 2) (36 * f) (h * w) (fun _ => iI (-1))) (36 * f) (h * w) (fun k => iI (agv (g i k) c))))) : wp_X5_again (iI a) (iI c) u post := by
  have hn := hC.n
  have hf := hC.f
  have a7 : u.1 4 = iI f := hC.2.2.2.2.2.2
  unfold wp_X5_again
  refine f_hasFrame hC ha (fun _ => b0 (h0 (by omega))) (fun c1 c2 => b1 ?_)
  obtain ⟨i, rfl⟩ := Int.eq_ofNat_of_zero_le c1
  rw [lm63]
  refine f_within (b := -63) (c := 63) hc (by omega) (by omega) (fun _ => b0 (h0 (by omega))) (fun c3 c4 => b1 ?_)
  rw [a7]
  refine b_lt (b := 10) (by omega) (by omega) (fun c5 => ?_) (fun c5 => h1 (by omega) (by omega) (by omega))
  refine f_addFrame hC (by omega) ?_
  have hp := h2 i rfl (by omega) ⟨c3, c4⟩ (by omega)
  have hC1 : FD (si u 4 (iI (f + 1 : Nat))) h w (f + 1) := ⟨hC.1, hC.2.1, by omega, hC.2.2.2.1, hC.2.2.2.2.1, hC.2.2.2.2.2.1, rfl⟩
  generalize si u 4 (iI ((f + 1 : Nat) : Int)) = u1 at hp hC1 ⊢
  generalize hR : rowW (u.2 2) (36 * f) (h * w) (fun _ => iI (-1)) = R0 at hp ⊢
  have e3 : u1.1 3 = iI (h * w : Nat) := hC1.2.2.2.2.2.1
  have key : ∀ (m k : Nat), k + m = h * w → wp_X5_again_50 post (m + 1) (iI i) (iI c) (iI f) (iI k) (sA u1 2 (rowW R0 (36 * f) k (fun k => iI (agv (g i k) c)))) := by
    intro m
    induction m with
    | zero =>
      intro k hk
      unfold wp_X5_again_50
      rw [sA_1, e3]
      refine b_le (by omega) (by omega) (fun _ => ?_) (fun hn => absurd (by omega) hn)
      rw [show k = h * w by omega]; exact hp
    | succ m ih =>
      intro k hk
      have nx := ih (k + 1) (by omega)
      have hg := hG i k (by omega) (by omega)
      unfold wp_X5_again_50
      rw [sA_1, e3]
      refine b_le (by omega) (by omega) (fun hn => absurd hn (by omega)) (fun _ => ?_)
      refine f_greyAt (h := h) (w := w) (f := f + 1) (u := sA u1 2 _) hC1 (by omega) (by omega) ?_
      rw [sA_same, rowW_out (by omega), ← hR, rowW_out (by omega), hg.1, lm1, hR]
      refine b_eq (by omega) (by omega) (fun e => ?_) (fun e => ?_)
      · have hs : R0 (36 * f + k) = iI (agv (g i k) c) := by
          rw [← hR, rowW_in (by omega)]; unfold agv; rw [if_pos e]
        rw [rowW_same hs] at nx
        rw [iI_s]; exact nx
      · refine f_setGrey (h := h) (w := w) (f := f + 1) (u := sA u1 2 _) hC1 (by omega) (by omega) ?_
        rw [iI_add, l63, iI_min (by omega) (by omega), l0, iI_max (by omega) (by unfold zmin; split <;> omega), sA_same, sA_sA]
        have hv : iI (zmax 0 (zmin 63 (g i k + c))) = iI (agv (g i k) c) := by
          congr 1
          unfold agv zmax zmin
          rw [if_neg e]
          split <;> split <;> (try split) <;> omega
        rw [rowW_s (F := fun k => iI (agv (g i k) c)) hv, iI_s]
        exact nx
  refine ⟨h * w + 1, ?_⟩
  have := key (h * w) 0 (by omega)
  rw [rowW_0] at this
  exact this
def agI (x c : Int32) : Int32 := if x = -1 then -1 else if 0 ≤ x + c then (if x + c ≤ 63 then x + c else 63) else 0
theorem agI_iI {x c : Int} (hx : -1 ≤ x ∧ x ≤ 63) (hc : -63 ≤ c ∧ c ≤ 63) : agI (iI x) (iI c) = iI (agv x c) := by
  unfold agI agv
  rw [iI_add, lm1, l0, l63]
  have q1 := iI_eq (a := x) (b := -1) ⟨by omega, by omega⟩ ⟨by omega, by omega⟩
  have q2 := iI_le (a := 0) (b := x + c) ⟨by omega, by omega⟩ ⟨by omega, by omega⟩
  have q3 := iI_le (a := x + c) (b := 63) ⟨by omega, by omega⟩ ⟨by omega, by omega⟩
  by_cases e1 : x = -1
  · rw [if_pos (q1.mpr e1), if_pos e1]
  · rw [if_neg (fun z => e1 (q1.mp z)), if_neg e1]
    by_cases e2 : 0 ≤ x + c
    · rw [if_pos (q2.mpr e2), if_neg (show ¬ x + c < 0 by omega)]
      by_cases e3 : x + c ≤ 63
      · rw [if_pos (q3.mpr e3), if_neg (show ¬ 63 < x + c by omega)]
      · rw [if_neg (fun z => e3 (q3.mp z)), if_pos (show 63 < x + c by omega)]
    · rw [if_neg (fun z => e2 (q2.mp z)), if_pos (show x + c < 0 by omega)]
theorem m_again (hC : MD u h w f) (ha : rg a) (hc : rg c) (h0 : ¬ ((0 ≤ a ∧ a < f) ∧ (-63 ≤ c ∧ c ≤ 63)) → post (iI (-1)) u) (h1 : (0 ≤ a ∧ a < f) → (-63 ≤ c ∧ c ≤ 63) → f = 10 → post (iI (-2)) u)
    (h2 : ∀ i : Nat, a = i → i < f → (-63 ≤ c ∧ c ≤ 63) → f < 10 → post (iI f) (si (sA u 3 (rowW (u.2 3) (36 * f) 36 (fun k => agI (u.2 3 (36 * i + k)) (iI c)))) 2 (iI (f + 1 : Nat)))) : wp_X6_again (iI a) (iI c) u post := by
  have hf := hC.f
  have a6 : u.1 2 = iI f := hC.2.2.2.2.2
  unfold wp_X6_again
  refine m_isFrame hC ha (fun _ => b0 (h0 (by omega))) (fun c1 c2 => b1 ?_)
  obtain ⟨i, rfl⟩ := Int.eq_ofNat_of_zero_le c1
  rw [lm63]
  refine m_in (b := -63) (c := 63) hc (by omega) (by omega) (fun _ => b0 (h0 (by omega))) (fun c3 c4 => b1 ?_)
  rw [a6]
  refine b_eq (b := 10) (by omega) (by omega) (fun e => h1 (by omega) (by omega) (by omega)) (fun c5 => ?_)
  have hp := h2 i rfl (by omega) ⟨c3, c4⟩ (by omega)
  have key : ∀ (m k : Nat), k + m = 36 → wp_X6_again_35 post (m + 1) (iI i) (iI c) (iI k) (sA u 3 (rowW (u.2 3) (36 * f) k (fun k => agI (u.2 3 (36 * i + k)) (iI c)))) := by
    intro m
    induction m with
    | zero =>
      intro k hk
      unfold wp_X6_again_35
      rw [sA_1, a6]
      refine b_le (a := 36) (by omega) (by omega) (fun _ => ?_) (fun hn => absurd (by omega) hn)
      rw [l1, iI_add, iI_sub, show (f : Int) + 1 - 1 = f by omega, show k = 36 by omega]
      exact hp
    | succ m ih =>
      intro k hk
      have nx := ih (k + 1) (by omega)
      unfold wp_X6_again_35
      rw [sA_1]
      refine b_le (a := 36) (by omega) (by omega) (fun hn => absurd hn (by omega)) (fun _ => ?_)
      rw [l36, iI_mul, iI_add]
      refine b_in (by omega) (by omega) (by omega) ?_
      rw [iI_clamp (by omega), show ((36 : Int) * i + k).toNat = 36 * i + k by omega, sA_same, rowW_out (by omega)]
      have fin : ∀ s0 : Int32, (¬ u.2 3 (36 * i + k) = -1 → s0 = agI (u.2 3 (36 * i + k)) (iI c)) → wp_X6_again_83 (wp_X6_again_35 post (m + 1)) post s0 (iI i) (iI c) (iI k) (u.2 3 (36 * i + k)) (sA u 3 (rowW (u.2 3) (36 * f) k (fun k => agI (u.2 3 (36 * i + k)) (iI c)))) := by
        intro s0 hs
        unfold wp_X6_again_83
        rw [sA_1, a6, l36, iI_mul, iI_add, iI_clamp (by omega), show ((36 : Int) * f + k).toNat = 36 * f + k by omega, sA_same, sA_sA, sA_sA]
        refine ⟨fun e => b_in (by omega) (by omega) (by omega) ?_, fun e => b_in (by omega) (by omega) (by omega) ?_⟩
        · rw [rowW_s (F := fun k => agI (u.2 3 (36 * i + k)) (iI c)) (v := -1) (by unfold agI; rw [if_pos e]), iI_s]
          exact nx
        · rw [rowW_s (F := fun k => agI (u.2 3 (36 * i + k)) (iI c)) (hs e), iI_s]
          exact nx
      refine ⟨fun e1 => ⟨fun e2 => fin _ (fun e => ?_), fun e2 => fin _ (fun e => ?_)⟩, fun e1 => fin _ (fun e => ?_)⟩
      · unfold agI; rw [if_neg e, if_pos e1, if_pos e2]
      · unfold agI; rw [if_neg e, if_pos e1, if_neg e2]
      · unfold agI; rw [if_neg e, if_neg e1]
  refine ⟨37, ?_⟩
  have := key 36 0 (by omega)
  rw [rowW_0, sA_id] at this
  exact this
end A0
section I1
variable {u v : US}
theorem i_again (hI : INV u v) (x1 x2 : Int32) : wp_X5_again x1 x2 u (fun r u' => wp_X6_again x1 x2 v (fun r' v' => r = r' ∧ INV u' v')) := by
  have hI0 := hI
  obtain ⟨hK, h, w, f, L, g, K, O, A, B, N, S, D, E, ⟨a1, a2, a3, a4⟩, b1, b2, b3, b4⟩ := hI
  have hn := a1.n
  obtain ⟨a, ha, rfl⟩ := iI_of x1
  obtain ⟨c, hc, rfl⟩ := iI_of x2
  refine f_again a1 a2 ha hc (fun hn => m_again b1 ha hc (fun _ => ⟨rfl, hI0⟩) (fun d1 d2 => absurd ⟨d1, d2⟩ hn) (fun i e d1 d2 => absurd ⟨by omega, d2⟩ hn)) (fun d1 d2 e => m_again b1 ha hc (fun hn => absurd ⟨d1, d2⟩ hn) (fun _ _ _ => ⟨rfl, hI0⟩) (fun i e d1 d2 d3 => by omega)) (fun i e d1 d2 d3 => ?_)
  subst e
  refine m_again b1 ha hc (fun hn => absurd ⟨by omega, d2⟩ hn) (fun _ _ _ => by omega) (fun j e _ _ _ => ?_)
  obtain rfl : j = i := by omega
  refine ⟨rfl, hK.mono (fun k hk => ?_) (fun k hk => ?_) (fun k h1 h2 => ?_) (fun k h1 h2 => ?_), h, w, f + 1, L, gadd g f (fun k => agv (g j k) c), K, O, A, B, N, S, D, E, ⟨⟨a1.1, a1.2.1, by omega, a1.2.2.2.1, a1.2.2.2.2.1, a1.2.2.2.2.2.1, rfl⟩, ?_, a3.more, a4⟩, ⟨b1.1, b1.2.1, by omega, b1.2.2.2.1, b1.2.2.2.2.1, rfl⟩, ?_, b3.more, b4⟩
  · rw [sA_1, si_other (by omega)]
  · rw [sA_other (by omega), si_2]
  · rw [si_other (by omega), sA_1]
  · rw [si_2, sA_other (by omega)]
  · rw [sA_same]
    exact a2.add hn.2 (fun j hj => by rw [rowW_out (by omega), rowW_out (by omega)]) (fun k hk => ⟨rowW_in hk, agv_bd (a2 j k d1 hk).2⟩)
  · rw [si_2, sA_same]
    exact b2.add hn.2 (fun j hj => rowW_out (by omega)) (fun k hk => ⟨by rw [rowW_in (by omega), (b2 j k d1 hk).1, agI_iI (b2 j k d1 hk).2 d2], agv_bd (a2 j k d1 hk).2⟩)
end I1
