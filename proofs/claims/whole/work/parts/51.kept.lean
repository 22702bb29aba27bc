/-! ===== keep, back ===== -/
theorem LR.copy {x x' : Int32} {k o a b n k' o' a' b' n' : Nat → Int32} {f L : Nat} {K O A B N : Nat → Int} (h : LR x k o a b n f L K O A B N) (hx : x' = x) (hk : ∀ i, i < 12 → k' i = k i ∧ o' i = o i ∧ a' i = a i ∧ b' i = b i ∧ n' i = vp_nar .boolean (n i)) : LR x' k' o' a' b' n' f L K O A B N := by
  refine ⟨h.1, hx.trans h.2.1, fun i hi => ?_⟩
  have hl := h.1
  obtain ⟨⟨p1, p2, p3, p4, p5⟩, p6, p7, p8, p9, p10, p11, p12⟩ := h.2.2 i hi
  obtain ⟨q1, q2, q3, q4, q5⟩ := hk i (by omega)
  have e : vp_nar .boolean (iI (N i)) = iI (N i) := by rcases p10 with e | e <;> rw [e] <;> rfl
  exact ⟨⟨q1.trans p1, q2.trans p2, q3.trans p3, q4.trans p4, by rw [q5, p5, e]⟩, p6, p7, p8, p9, p10, p11, p12⟩
theorem CG.copy {G G' : Nat → Int32} {n f : Nat} {g : Nat → Nat → Int} (h : CG G n f g) (hn : n ≤ 36) (hf : f ≤ 10) (e : ∀ j, j < 360 → G' j = G j) : CG G' n f g := by
  intro a k ha hk
  rw [e _ (by omega)]
  exact h a k ha hk
theorem gcp_at {F G : Nat → Int32} {j : Nat} (h : j < 360) : gcp F G (0 : Int32) (0 : Int32) (360 : Int32) j = F j := by
  unfold gcp
  show va_cpy F G 0 0 360 j = F j
  unfold va_cpy
  rw [if_pos (by omega)]
  congr 1
  omega
section K0
variable {u : US} {post : US → Prop} {posti : Int32 → US → Prop}
/-- twelve places of five rows, copied one by one -/
def cpd (u u' : US) (s1 s2 s3 s4 s5 t1 t2 t3 t4 t5 k : Nat) : Prop := u'.1 = u.1 ∧ (∀ j, j ≠ t1 → j ≠ t2 → j ≠ t3 → j ≠ t4 → j ≠ t5 → u'.2 j = u.2 j) ∧ ∀ i, i < k → u'.2 t1 i = u.2 s1 i ∧ u'.2 t2 i = u.2 s2 i ∧ u'.2 t3 i = u.2 s3 i ∧ u'.2 t4 i = u.2 s4 i ∧ u'.2 t5 i = vp_nar .boolean (u.2 s5 i)
theorem cpd_s {u u' : US} {s1 s2 s3 s4 s5 t1 t2 t3 t4 t5 k : Nat} (h : cpd u u' s1 s2 s3 s4 s5 t1 t2 t3 t4 t5 k) (hs : ∀ s ∈ [s1, s2, s3, s4, s5], ∀ t ∈ [t1, t2, t3, t4, t5], s ≠ t) (ht : [t1, t2, t3, t4, t5].Nodup) :
    cpd u (sA (sA (sA (sA (sA u' t1 (upd (u'.2 t1) k (u'.2 s1 k))) t2 (upd (u'.2 t2) k (u'.2 s2 k))) t3 (upd (u'.2 t3) k (u'.2 s3 k))) t4 (upd (u'.2 t4) k (u'.2 s4 k))) t5 (upd (u'.2 t5) k (vp_nar .boolean (u'.2 s5 k)))) s1 s2 s3 s4 s5 t1 t2 t3 t4 t5 (k + 1) := by
  obtain ⟨h1, h2, h3⟩ := h
  simp only [List.mem_cons, List.not_mem_nil, or_false, forall_eq_or_imp, forall_eq] at hs
  simp only [List.nodup_cons, List.mem_cons, List.not_mem_nil, or_false, not_or] at ht
  obtain ⟨⟨d12, d13, d14, d15⟩, ⟨d23, d24, d25⟩, ⟨d34, d35⟩, d45, -⟩ := ht
  obtain ⟨⟨a1, a2, a3, a4, a5⟩, ⟨b1, b2, b3, b4, b5⟩, ⟨c1, c2, c3, c4, c5⟩, ⟨e1, e2, e3, e4, e5⟩, ⟨f1, f2, f3, f4, f5⟩⟩ := hs
  refine ⟨h1, fun j j1 j2 j3 j4 j5 => ?_, fun i hi => ?_⟩
  · rw [sA_other j5, sA_other j4, sA_other j3, sA_other j2, sA_other j1]; exact h2 j j1 j2 j3 j4 j5
  · rw [sA_other d15, sA_other d14, sA_other d13, sA_other d12, sA_same, sA_other d25, sA_other d24, sA_other d23, sA_same, sA_other d35, sA_other d34, sA_same, sA_other d45, sA_same, sA_same]
    rw [h2 s1 a1 a2 a3 a4 a5, h2 s2 b1 b2 b3 b4 b5, h2 s3 c1 c2 c3 c4 c5, h2 s4 e1 e2 e3 e4 e5, h2 s5 f1 f2 f3 f4 f5]
    by_cases e : i = k
    · subst e; rw [upd_s, upd_s, upd_s, upd_s, upd_s]; exact ⟨rfl, rfl, rfl, rfl, rfl⟩
    · rw [upd_n e, upd_n e, upd_n e, upd_n e, upd_n e]; exact h3 i (by omega)
theorem cpd_0 {s1 s2 s3 s4 s5 t1 t2 t3 t4 t5 : Nat} : cpd u u s1 s2 s3 s4 s5 t1 t2 t3 t4 t5 0 := ⟨rfl, fun _ _ _ _ _ _ => rfl, fun i hi => absurd hi (by omega)⟩
theorem f_cp21 (hp : ∀ u', cpd u u' 4 5 6 7 8 22 23 24 25 26 12 → post u') : ∃ j, wp_X0_copyFrom_21_10 post j (0 : Int32) u := by
  have key : ∀ (m k : Nat) (u' : US), k + m = 12 → cpd u u' 4 5 6 7 8 22 23 24 25 26 k → wp_X0_copyFrom_21_10 post (m + 1) (iI k) u' := by
    intro m
    induction m with
    | zero =>
      intro k u' hk hu
      unfold wp_X0_copyFrom_21_10
      refine b_le (a := 12) (by omega) (by omega) (fun _ => hp u' (by rw [show k = 12 by omega] at hu; exact hu)) (fun hn => absurd (by omega) hn)
    | succ m ih =>
      intro k u' hk hu
      unfold wp_X0_copyFrom_21_10
      refine b_le (a := 12) (by omega) (by omega) (fun hn => absurd hn (by omega)) (fun _ => ?_)
      have hi : vp_in (iI (k : Int)) 12 := (iI_in (by omega)).mpr ⟨by omega, by omega⟩
      refine ⟨hi, hi, hi, hi, hi, hi, hi, hi, hi, hi, ?_⟩
      rw [iI_clamp (by omega), Int.toNat_natCast, iI_s]
      exact ih (k + 1) _ (by omega) (cpd_s hu (by decide) (by decide))
  exact ⟨13, key 12 0 u (by omega) cpd_0⟩
theorem f_cp3 (hp : ∀ u', cpd u u' 22 23 24 25 26 4 5 6 7 8 12 → post u') : ∃ j, wp_X0_copyFrom_3_10 post j (0 : Int32) u := by
  have key : ∀ (m k : Nat) (u' : US), k + m = 12 → cpd u u' 22 23 24 25 26 4 5 6 7 8 k → wp_X0_copyFrom_3_10 post (m + 1) (iI k) u' := by
    intro m
    induction m with
    | zero =>
      intro k u' hk hu
      unfold wp_X0_copyFrom_3_10
      refine b_le (a := 12) (by omega) (by omega) (fun _ => hp u' (by rw [show k = 12 by omega] at hu; exact hu)) (fun hn => absurd (by omega) hn)
    | succ m ih =>
      intro k u' hk hu
      unfold wp_X0_copyFrom_3_10
      refine b_le (a := 12) (by omega) (by omega) (fun hn => absurd hn (by omega)) (fun _ => ?_)
      have hi : vp_in (iI (k : Int)) 12 := (iI_in (by omega)).mpr ⟨by omega, by omega⟩
      refine ⟨hi, hi, hi, hi, hi, hi, hi, hi, hi, hi, ?_⟩
      rw [iI_clamp (by omega), Int.toNat_natCast, iI_s]
      exact ih (k + 1) _ (by omega) (cpd_s hu (by decide) (by decide))
  exact ⟨13, key 12 0 u (by omega) cpd_0⟩
theorem m_cpk (hp : ∀ u', cpd u u' 5 6 7 8 9 17 18 19 20 21 12 → posti 1 u') : ∃ j, wp_X6_keep_66 posti j (0 : Int32) u := by
  have key : ∀ (m k : Nat) (u' : US), k + m = 12 → cpd u u' 5 6 7 8 9 17 18 19 20 21 k → wp_X6_keep_66 posti (m + 1) (iI k) u' := by
    intro m
    induction m with
    | zero =>
      intro k u' hk hu
      unfold wp_X6_keep_66
      refine b_le (a := 12) (by omega) (by omega) (fun _ => hp u' (by rw [show k = 12 by omega] at hu; exact hu)) (fun hn => absurd (by omega) hn)
    | succ m ih =>
      intro k u' hk hu
      unfold wp_X6_keep_66
      refine b_le (a := 12) (by omega) (by omega) (fun hn => absurd hn (by omega)) (fun _ => ?_)
      have hi : vp_in (iI (k : Int)) 12 := (iI_in (by omega)).mpr ⟨by omega, by omega⟩
      refine ⟨hi, hi, hi, hi, hi, hi, hi, hi, hi, hi, ?_⟩
      rw [iI_clamp (by omega), Int.toNat_natCast, iI_s]
      exact ih (k + 1) _ (by omega) (cpd_s hu (by decide) (by decide))
  exact ⟨13, key 12 0 u (by omega) cpd_0⟩
theorem m_cpb (hp : ∀ u', cpd u u' 17 18 19 20 21 5 6 7 8 9 12 → posti 1 u') : ∃ j, wp_X6_back_71 posti j (0 : Int32) u := by
  have key : ∀ (m k : Nat) (u' : US), k + m = 12 → cpd u u' 17 18 19 20 21 5 6 7 8 9 k → wp_X6_back_71 posti (m + 1) (iI k) u' := by
    intro m
    induction m with
    | zero =>
      intro k u' hk hu
      unfold wp_X6_back_71
      refine b_le (a := 12) (by omega) (by omega) (fun _ => hp u' (by rw [show k = 12 by omega] at hu; exact hu)) (fun hn => absurd (by omega) hn)
    | succ m ih =>
      intro k u' hk hu
      unfold wp_X6_back_71
      refine b_le (a := 12) (by omega) (by omega) (fun hn => absurd hn (by omega)) (fun _ => ?_)
      have hi : vp_in (iI (k : Int)) 12 := (iI_in (by omega)).mpr ⟨by omega, by omega⟩
      refine ⟨hi, hi, hi, hi, hi, hi, hi, hi, hi, hi, ?_⟩
      rw [iI_clamp (by omega), Int.toNat_natCast, iI_s]
      exact ih (k + 1) _ (by omega) (cpd_s hu (by decide) (by decide))
  exact ⟨13, key 12 0 u (by omega) cpd_0⟩
theorem m_cpK (hp : ∃ j, wp_X6_keep_66 posti j (0 : Int32) (sA u 15 (rowW (u.2 15) 0 360 (u.2 3)))) : ∃ j, wp_X6_keep_39 posti j (0 : Int32) u := by
  have key : ∀ (m k : Nat), k + m = 360 → wp_X6_keep_39 posti (m + 1) (iI k) (sA u 15 (rowW (u.2 15) 0 k (u.2 3))) := by
    intro m
    induction m with
    | zero =>
      intro k hk
      unfold wp_X6_keep_39
      refine b_le (a := 360) (by omega) (by omega) (fun _ => ?_) (fun hn => absurd (by omega) hn)
      rw [show k = 360 by omega]; exact hp
    | succ m ih =>
      intro k hk
      unfold wp_X6_keep_39
      refine b_le (a := 360) (by omega) (by omega) (fun hn => absurd hn (by omega)) (fun _ => ?_)
      have hi : vp_in (iI (k : Int)) 360 := (iI_in (by omega)).mpr ⟨by omega, by omega⟩
      refine ⟨hi, hi, ?_⟩
      rw [iI_clamp (by omega), Int.toNat_natCast, iI_s, sA_same, sA_other (by omega), sA_sA]
      have := rowW_s (G := u.2 15) (F := u.2 3) (b := 0) (k := k) rfl
      rw [Nat.zero_add] at this
      rw [this]
      exact ih (k + 1) (by omega)
  have := key 360 0 (by omega)
  rw [rowW_0, sA_id] at this
  exact ⟨361, this⟩
theorem m_cpB (hp : ∃ j, wp_X6_back_71 posti j (0 : Int32) (sA u 3 (rowW (u.2 3) 0 360 (u.2 15)))) : ∃ j, wp_X6_back_44 posti j (0 : Int32) u := by
  have key : ∀ (m k : Nat), k + m = 360 → wp_X6_back_44 posti (m + 1) (iI k) (sA u 3 (rowW (u.2 3) 0 k (u.2 15))) := by
    intro m
    induction m with
    | zero =>
      intro k hk
      unfold wp_X6_back_44
      refine b_le (a := 360) (by omega) (by omega) (fun _ => ?_) (fun hn => absurd (by omega) hn)
      rw [show k = 360 by omega]; exact hp
    | succ m ih =>
      intro k hk
      unfold wp_X6_back_44
      refine b_le (a := 360) (by omega) (by omega) (fun hn => absurd hn (by omega)) (fun _ => ?_)
      have hi : vp_in (iI (k : Int)) 360 := (iI_in (by omega)).mpr ⟨by omega, by omega⟩
      refine ⟨hi, hi, ?_⟩
      rw [iI_clamp (by omega), Int.toNat_natCast, iI_s, sA_same, sA_other (by omega), sA_sA]
      have := rowW_s (G := u.2 3) (F := u.2 15) (b := 0) (k := k) rfl
      rw [Nat.zero_add] at this
      rw [this]
      exact ih (k + 1) (by omega)
  have := key 360 0 (by omega)
  rw [rowW_0, sA_id] at this
  exact ⟨361, this⟩
end K0
theorem row360 {G F : Nat → Int32} {j : Nat} (h : j < 360) : rowW G 0 360 F j = F j := by
  have := rowW_in (G := G) (F := F) (b := 0) (k := 360) (j := j) h
  rw [Nat.zero_add] at this
  exact this
theorem i_keep {u v : US} (hI : INV u v) : wp_X5_keep u (fun r u' => wp_X6_keep v (fun r' v' => r = r' ∧ INV u' v')) := by
  obtain ⟨hK, h, w, f, L, g, K, O, A, B, N, S, D, E, ⟨a1, a2, a3, a4⟩, b1, b2, b3, b4⟩ := hI
  have hn := a1.n
  have hf := a1.f
  unfold wp_X5_keep wp_X1_copyFrom_19 wp_X0_copyFrom_21
  refine f_cp21 (fun u' hu => ?_)
  unfold wp_X6_keep
  refine m_cpK (m_cpk (fun v' hv => ⟨rfl, Or.inr ⟨rfl, ?_, h, w, f, L, g, K, O, A, B, N, ?_, ?_, ?_, ?_, ?_, ?_⟩, h, w, f, L, g, K, O, A, B, N, S, D, E, ⟨?_, ?_, ?_, ?_⟩, ?_, ?_, ?_, ?_⟩))
  · rw [hv.1]; rfl
  · show FDr (u'.1 15) (u'.1 16) (u'.1 17) (u'.1 18) h w f
    rw [hu.1]; exact a1
  · show CG (u'.2 20) (h * w) f g
    rw [hu.2.1 20 (by omega) (by omega) (by omega) (by omega) (by omega)]
    exact a2.copy hn.2 hf (fun j hj => gcp_at hj)
  · rw [hv.1]; exact b1
  · rw [hv.2.1 15 (by omega) (by omega) (by omega) (by omega) (by omega)]
    exact b2.copy hn.2 hf (fun j hj => row360 hj)
  · show LR (u'.1 19) (u'.2 22) (u'.2 23) (u'.2 24) (u'.2 25) (u'.2 26) f L K O A B N
    rw [hu.1]
    exact a3.copy rfl hu.2.2
  · rw [hv.1]
    exact b3.copy rfl hv.2.2
  · show FDr (u'.1 1) (u'.1 2) (u'.1 3) (u'.1 4) h w f
    rw [hu.1]; exact a1
  · show CG (u'.2 2) (h * w) f g
    rw [hu.2.1 2 (by omega) (by omega) (by omega) (by omega) (by omega)]; exact a2
  · show LR (u'.1 5) (u'.2 4) (u'.2 5) (u'.2 6) (u'.2 7) (u'.2 8) f L K O A B N
    rw [hu.1, hu.2.1 4 (by omega) (by omega) (by omega) (by omega) (by omega), hu.2.1 5 (by omega) (by omega) (by omega) (by omega) (by omega), hu.2.1 6 (by omega) (by omega) (by omega) (by omega) (by omega), hu.2.1 7 (by omega) (by omega) (by omega) (by omega) (by omega), hu.2.1 8 (by omega) (by omega) (by omega) (by omega) (by omega)]
    exact a3
  · show RR (u'.2 9) S D E
    rw [hu.2.1 9 (by omega) (by omega) (by omega) (by omega) (by omega)]; exact a4
  · unfold MD; rw [hv.1]; exact b1
  · rw [hv.2.1 3 (by omega) (by omega) (by omega) (by omega) (by omega)]; exact b2
  · unfold ML
    rw [hv.1, hv.2.1 5 (by omega) (by omega) (by omega) (by omega) (by omega), hv.2.1 6 (by omega) (by omega) (by omega) (by omega) (by omega), hv.2.1 7 (by omega) (by omega) (by omega) (by omega) (by omega), hv.2.1 8 (by omega) (by omega) (by omega) (by omega) (by omega), hv.2.1 9 (by omega) (by omega) (by omega) (by omega) (by omega)]
    exact b3
  · rw [hv.2.1 10 (by omega) (by omega) (by omega) (by omega) (by omega)]; exact b4
theorem i_back {u v : US} (hI : INV u v) : wp_X5_back u (fun r u' => wp_X6_back v (fun r' v' => r = r' ∧ INV u' v')) := by
  have hI0 := hI
  obtain ⟨hK, h0, w0, f0, L0, g0, K0, O0, A0, B0, N0, S, D, E, ⟨-, -, -, a4⟩, -, -, -, b4⟩ := hI
  unfold wp_X5_back wp_X6_back
  rcases hK with ⟨k1, k2⟩ | ⟨k1, k2, h, w, f, L, g, K, O, A, B, N, a1, a2, b1, b2, a3, b3⟩
  · rw [k1, k2]
    exact b0 (b0 ⟨rfl, hI0⟩)
  · have hn := hw_bd a1.1 a1.2.1
    have hf := a1.2.2.1
    rw [k1, k2]
    refine b1' ?_
    unfold wp_X1_copyFrom_1 wp_X0_copyFrom_3
    refine f_cp3 (fun u' hu => b1' (m_cpB (m_cpb (fun v' hv => ⟨rfl, Or.inr ⟨?_, ?_, h, w, f, L, g, K, O, A, B, N, ?_, ?_, ?_, ?_, ?_, ?_⟩, h, w, f, L, g, K, O, A, B, N, S, D, E, ⟨?_, ?_, ?_, ?_⟩, ?_, ?_, ?_, ?_⟩))))
    · rw [hu.1]; exact k1
    · rw [hv.1]; exact k2
    · rw [hu.1]; exact a1
    · rw [hu.2.1 20 (by omega) (by omega) (by omega) (by omega) (by omega)]; exact a2
    · rw [hv.1]; exact b1
    · rw [hv.2.1 15 (by omega) (by omega) (by omega) (by omega) (by omega)]; exact b2
    · rw [hu.1, hu.2.1 22 (by omega) (by omega) (by omega) (by omega) (by omega), hu.2.1 23 (by omega) (by omega) (by omega) (by omega) (by omega), hu.2.1 24 (by omega) (by omega) (by omega) (by omega) (by omega), hu.2.1 25 (by omega) (by omega) (by omega) (by omega) (by omega), hu.2.1 26 (by omega) (by omega) (by omega) (by omega) (by omega)]
      exact a3
    · rw [hv.1, hv.2.1 17 (by omega) (by omega) (by omega) (by omega) (by omega), hv.2.1 18 (by omega) (by omega) (by omega) (by omega) (by omega), hv.2.1 19 (by omega) (by omega) (by omega) (by omega) (by omega), hv.2.1 20 (by omega) (by omega) (by omega) (by omega) (by omega), hv.2.1 21 (by omega) (by omega) (by omega) (by omega) (by omega)]
      exact b3
    · unfold FD; rw [hu.1]; exact a1
    · rw [hu.2.1 2 (by omega) (by omega) (by omega) (by omega) (by omega)]
      exact a2.copy hn.2 hf (fun j hj => gcp_at hj)
    · unfold FL; rw [hu.1]; exact a3.copy rfl hu.2.2
    · rw [hu.2.1 9 (by omega) (by omega) (by omega) (by omega) (by omega)]; exact a4
    · unfold MD; rw [hv.1]; exact b1
    · rw [hv.2.1 3 (by omega) (by omega) (by omega) (by omega) (by omega)]
      exact b2.copy hn.2 hf (fun j hj => row360 hj)
    · unfold ML; rw [hv.1]; exact b3.copy rfl hv.2.2
    · rw [hv.2.1 10 (by omega) (by omega) (by omega) (by omega) (by omega)]; exact b4
