/-! ===== the two sides' answers are alike: reel, frame, put, raw ===== -/
section I0
variable {u v : US}
theorem i_reel (hI : INV u v) (x y : Int32) : wp_X5_reel x y u (fun r u' => wp_X6_reel x y v (fun r' v' => r = r' ∧ INV u' v')) := by
  obtain ⟨a, ha, rfl⟩ := iI_of x
  obtain ⟨b, hb, rfl⟩ := iI_of y
  refine f_reel ha hb (fun hn => m_reel ha hb (fun _ => ⟨rfl, hI⟩) (fun c1 c2 => absurd ⟨c1, c2⟩ hn)) (fun c1 c2 => m_reel ha hb (fun hn => absurd ⟨c1, c2⟩ hn) (fun _ _ => ⟨rfl, ?_⟩))
  obtain ⟨hK, h, w, f, L, g, K, O, A, B, N, S, D, E, ⟨a1, a2, a3, a4⟩, b1, b2, b3, b4⟩ := hI
  obtain ⟨i, rfl⟩ := Int.eq_ofNat_of_zero_le (a := a) (by omega)
  obtain ⟨j, rfl⟩ := Int.eq_ofNat_of_zero_le (a := b) (by omega)
  have e : iI ((i : Int) * j) = iI ((i * j : Nat) : Int) := by rw [Int.natCast_mul]
  rw [e]
  refine ⟨hK.mono (fun k hk => ?_) (fun k hk => rfl) (fun k h1 h2 => ?_) (fun k _ _ => rfl), i, j, 0, 0, g, K, O, A, B, N, S, D, E, ⟨⟨by omega, by omega, by omega, rfl, rfl, rfl, rfl⟩, CG.nil, LR.nil, a4⟩, ⟨by omega, by omega, by omega, rfl, rfl, rfl⟩, CG.nil, LR.nil, b4⟩
  · rw [si_other (by omega), si_other (by omega), si_other (by omega), si_other (by omega), si_other (by omega)]
  · rw [si_other (by omega), si_other (by omega), si_other (by omega), si_other (by omega)]
theorem i_frame (hI : INV u v) : wp_X5_frame u (fun r u' => wp_X6_frame v (fun r' v' => r = r' ∧ INV u' v')) := by
  have hI0 := hI
  obtain ⟨hK, h, w, f, L, g, K, O, A, B, N, S, D, E, ⟨a1, a2, a3, a4⟩, b1, b2, b3, b4⟩ := hI
  have hn := a1.n
  refine f_frame a1 (fun e => m_frame b1 (fun _ => ⟨rfl, hI0⟩) (fun c => absurd e (by omega))) (fun c => m_frame b1 (fun e => absurd e (by omega)) (fun _ => ⟨rfl, ?_⟩))
  refine ⟨hK.mono (fun k hk => ?_) (fun k hk => ?_) (fun k h1 h2 => ?_) (fun k h1 h2 => ?_), h, w, f + 1, L, gadd g f (fun _ => -1), K, O, A, B, N, S, D, E, ⟨⟨a1.1, a1.2.1, by omega, a1.2.2.2.1, a1.2.2.2.2.1, a1.2.2.2.2.2.1, rfl⟩, ?_, a3.more, a4⟩, ⟨b1.1, b1.2.1, by omega, b1.2.2.2.1, b1.2.2.2.2.1, rfl⟩, ?_, b3.more, b4⟩
  · rw [sA_1, si_other (by omega)]
  · rw [sA_other (by omega), si_2]
  · rw [si_other (by omega), sA_1]
  · rw [si_2, sA_other (by omega)]
  · rw [sA_same]
    exact a2.add hn.2 (fun j hj => rowW_out (by omega)) (fun k hk => ⟨rowW_in hk, by omega, by omega⟩)
  · rw [si_2, sA_same]
    exact b2.add hn.2 (fun j hj => rowW_out (by omega)) (fun k hk => ⟨rowW_in (by omega), by omega, by omega⟩)
theorem i_put (hI : INV u v) (x1 x2 x3 x4 : Int32) : wp_X5_put x1 x2 x3 x4 u (fun r u' => wp_X6_put x1 x2 x3 x4 v (fun r' v' => r = r' ∧ INV u' v')) := by
  have hI0 := hI
  obtain ⟨hK, h, w, f, L, g, K, O, A, B, N, S, D, E, ⟨a1, a2, a3, a4⟩, b1, b2, b3, b4⟩ := hI
  have hn := a1.n
  obtain ⟨a, ha, rfl⟩ := iI_of x1
  obtain ⟨y, hy, rfl⟩ := iI_of x2
  obtain ⟨x, hx, rfl⟩ := iI_of x3
  obtain ⟨c, hc, rfl⟩ := iI_of x4
  refine f_put a1 ha hy hx hc (fun hn => m_put b1 ha hy hx hc (fun _ => ⟨rfl, hI0⟩) (fun i j k e1 e2 e3 c1 c2 c3 c4 => absurd ⟨by omega, by omega, by omega⟩ hn)) (fun i j k e1 e2 e3 c1 c2 c3 c4 => ?_)
  subst e1; subst e2; subst e3
  refine m_put b1 ha hy hx hc (fun hn => absurd ⟨by omega, by omega, by omega⟩ hn) (fun i' j' k' e1 e2 e3 _ _ _ _ => ?_)
  obtain rfl : i' = i := by omega
  obtain rfl : j' = j := by omega
  obtain rfl : k' = k := by omega
  have hlt := pl_lt (y := j') (x := k') (h := h) (w := w) (by omega) (by omega)
  refine ⟨by rw [a2.cut c1 hlt, b2.cut c1 hlt], hK.mono (fun k hk => rfl) (fun k hk => sA_other (by omega)) (fun k h1 h2 => rfl) (fun k h1 h2 => sA_other (by omega)), h, w, f, L, gput g i' (j' * w + k') c, K, O, A, B, N, S, D, E, ⟨a1, ?_, a3, a4⟩, b1, ?_, b3, b4⟩
  · rw [sA_same]; exact a2.put hn.2 hlt c4
  · rw [sA_same]; exact b2.put hn.2 hlt c4
theorem i_raw (hI : INV u v) (x1 x2 x3 : Int32) : wp_X5_raw x1 x2 x3 u (fun r u' => wp_X6_raw x1 x2 x3 v (fun r' v' => r = r' ∧ INV u' v')) := by
  have hI0 := hI
  obtain ⟨hK, h, w, f, L, g, K, O, A, B, N, S, D, E, ⟨a1, a2, a3, a4⟩, b1, b2, b3, b4⟩ := hI
  obtain ⟨a, ha, rfl⟩ := iI_of x1
  obtain ⟨y, hy, rfl⟩ := iI_of x2
  obtain ⟨x, hx, rfl⟩ := iI_of x3
  refine f_raw a1 ha hy hx (fun hn => m_raw b1 ha hy hx (fun _ => ⟨rfl, hI0⟩) (fun i j k e1 e2 e3 c1 c2 c3 => absurd ⟨by omega, by omega⟩ hn)) (fun i j k e1 e2 e3 c1 c2 c3 => ?_)
  subst e1; subst e2; subst e3
  refine m_raw b1 ha hy hx (fun hn => absurd ⟨by omega, by omega⟩ hn) (fun i' j' k' e1 e2 e3 _ _ _ => ?_)
  obtain rfl : i' = i := by omega
  obtain rfl : j' = j := by omega
  obtain rfl : k' = k := by omega
  have hlt := pl_lt (y := j') (x := k') (h := h) (w := w) (by omega) (by omega)
  exact ⟨by rw [a2.cut c1 hlt, b2.cut c1 hlt], hI0⟩
end I0
