/-! ===== row: seven bits a square ===== -/
theorem bits_bv (B : BitVec 64) (k : Nat) (hk : k ≤ 57) : ((B.sshiftRight k) &&& 127#64).signExtend 32 = ((B >>> k).signExtend 32) &&& 127#32 := by
  have m64 : ∀ i, i < 32 → (127#64).getLsbD i = decide (i < 7) := by decide
  have m32 : ∀ i, i < 32 → (127#32).getLsbD i = decide (i < 7) := by decide
  rw [BitVec.signExtend_eq_setWidth_of_le _ (by decide), BitVec.signExtend_eq_setWidth_of_le _ (by decide)]
  apply BitVec.eq_of_getLsbD_eq
  intro i hi
  rw [BitVec.getLsbD_setWidth, BitVec.getLsbD_and, BitVec.getLsbD_and, BitVec.getLsbD_setWidth, m64 i hi, m32 i hi, BitVec.getLsbD_sshiftRight, BitVec.getLsbD_ushiftRight]
  by_cases h7 : i < 7
  · rw [if_pos (by omega)]
    simp [hi, h7]
    omega
  · simp [h7]
def rbit (s : Int64) (x : Nat) : Int32 := ((s.toUInt64 >>> (((7 : Int32) * iI x).toInt64.toUInt64 &&& Int64.toUInt64 63)).toInt64).toInt32 &&& (127 : Int32)
theorem rbit_eq (s : Int64) {x : Nat} (hx : x < 6) : (((s >>> (((7 : Int32) * iI x).toInt64 &&& 63)) &&& (127 : Int64))).toInt32 = rbit s x := by
  have h : x = 0 ∨ x = 1 ∨ x = 2 ∨ x = 3 ∨ x = 4 ∨ x = 5 := by omega
  rcases h with rfl | rfl | rfl | rfl | rfl | rfl <;> apply Int32.toBitVec.inj
  · exact bits_bv s.toBitVec 0 (by omega)
  · exact bits_bv s.toBitVec 7 (by omega)
  · exact bits_bv s.toBitVec 14 (by omega)
  · exact bits_bv s.toBitVec 21 (by omega)
  · exact bits_bv s.toBitVec 28 (by omega)
  · exact bits_bv s.toBitVec 35 (by omega)
theorem rbit_bd (s : Int64) (x : Nat) : ∃ z : Int, (0 ≤ z ∧ z < 128) ∧ rbit s x = iI z := by
  obtain ⟨j, hj, e⟩ := pk_andE (((s.toUInt64 >>> (((7 : Int32) * iI x).toInt64.toUInt64 &&& Int64.toUInt64 63)).toInt64).toInt32) (m := 127) 7 (by decide)
  exact ⟨j, by omega, e⟩
def zb (s : Int64) (x : Nat) : Int := (rbit s x).toInt
theorem zb_e (s : Int64) (x : Nat) : rbit s x = iI (zb s x) ∧ 0 ≤ zb s x ∧ zb s x < 128 := by
  obtain ⟨z, hz, e⟩ := rbit_bd s x
  have e2 : zb s x = z := by unfold zb; rw [e, iI_toInt (by omega)]
  rw [e2]
  exact ⟨e, hz⟩
def rgv (s : Int64) (x : Nat) : Int := if zb s x ≤ 63 then zb s x else -1
theorem rgv_bd (s : Int64) (x : Nat) : -1 ≤ rgv s x ∧ rgv s x ≤ 63 := by
  have := zb_e s x
  unfold rgv
  split <;> omega
def rct (s : Int64) : Nat → Int := sm (fun x => c01 (zb s x ≤ 63))
theorem rct_s (s : Int64) (k : Nat) : rct s (k + 1) = rct s k + c01 (zb s k ≤ 63) := rfl
section R0
variable {u : US} {h w f : Nat} {g : Nat → Nat → Int} {a b c : Int} {post : Int32 → US → Prop}
theorem f_row (hC : FD u h w f) (s : Int64) {y : Int} (ha : rg a) (hy : rg y) (h0 : ¬ ((0 ≤ a ∧ a < f) ∧ (0 ≤ y ∧ y < h)) → post (iI (-1)) u) (h1 : ∀ i j : Nat, a = i → y = j → i < f → j < h → post (iI (rct s w)) (sA u 2 (rowW (u.2 2) (36 * i + j * w) w (fun x => iI (rgv s x))))) : wp_X5_row (iI a) (iI y) s u post := by
  have hn := hC.n
  have hf := hC.f
  have a1 := hC.1
  have a2 := hC.2.1
  have e2 : u.1 2 = iI w := hC.2.2.2.2.1
  unfold wp_X5_row
  refine f_hasFrame hC ha (fun _ => b0 (h0 (by omega))) (fun c1 c2 => b1 ?_)
  obtain ⟨i, rfl⟩ := Int.eq_ofNat_of_zero_le c1
  rw [l0]
  refine f_placeOf hC hy (by omega) (fun hn => ?_) (fun d1 d2 d3 d4 => ?_)
  · exact b_le (by omega) (by omega) (fun e => absurd e (by omega)) (fun _ => h0 (by omega))
  obtain ⟨j, rfl⟩ := Int.eq_ofNat_of_zero_le d1
  have hjw : j * w ≤ 30 := by
    have : j * w ≤ 5 * 6 := Nat.mul_le_mul (by omega) (by omega)
    omega
  have e : ((j : Int) * w + 0) = ((j * w : Nat) : Int) := by simp
  rw [e]
  refine b_le (by omega) (by omega) (fun _ => ?_) (fun e => absurd (by omega) e)
  have hp := h1 i j rfl rfl (by omega) (by omega)
  have key : ∀ (m k : Nat), k + m = w → wp_X5_row_31 post (m + 1) (iI i) (iI j) s (iI (rct s k)) (iI k) (sA u 2 (rowW (u.2 2) (36 * i + j * w) k (fun x => iI (rgv s x)))) := by
    intro m
    induction m with
    | zero =>
      intro k hk
      unfold wp_X5_row_31
      rw [sA_1, e2]
      refine b_le (by omega) (by omega) (fun _ => ?_) (fun hn => absurd (by omega) hn)
      rw [show k = w by omega]; exact hp
    | succ m ih =>
      intro k hk
      have nx := ih (k + 1) (by omega)
      have hz := zb_e s k
      have hlt := pl_lt (y := j) (x := k) (h := h) (w := w) (by omega) (by omega)
      rw [rct_s] at nx
      unfold wp_X5_row_31
      rw [sA_1, e2]
      refine b_le (by omega) (by omega) (fun hn => absurd hn (by omega)) (fun _ => ?_)
      have fin : ∀ s0 : Int, s0 = rgv s k → wp_X5_row_69 (wp_X5_row_31 post (m + 1)) post (iI s0) (iI i) (iI j) s (iI (rct s k)) (iI k) (sA u 2 (rowW (u.2 2) (36 * i + j * w) k (fun x => iI (rgv s x)))) := by
        intro s0 hs
        have hb := rgv_bd s k
        unfold wp_X5_row_69
        refine f_placeOf' (u := sA u 2 _) (f := f) (h := h) (w := w) hC (by omega) (by omega) ?_
        refine f_setGrey (u := sA u 2 _) (f := f) (h := h) (w := w) hC (by omega) (by omega) ?_
        rw [sA_same, sA_sA, show 36 * i + (j * w + k) = 36 * i + j * w + k by omega, rowW_s (F := fun x => iI (rgv s x)) (by rw [hs]), lm1, iI_s]
        refine b_eq (by omega) (by omega) (fun e => ?_) (fun e => ?_)
        · rw [c01_f (by unfold rgv at hs; split at hs <;> omega), Int.add_zero] at nx
          exact nx
        · rw [c01_t (by unfold rgv at hs; split at hs <;> omega)] at nx
          rw [l1, iI_add]
          exact nx
      refine ⟨fun e1 => ?_, fun e1 => ?_⟩
      · have e3 : iI (zb s k) ≤ iI 63 := hz.1 ▸ e1
        rw [iI_le (by omega) (by omega)] at e3
        have := fin (zb s k) (by unfold rgv; rw [if_pos e3])
        rw [← hz.1] at this
        exact this
      · have e3 : ¬ iI (zb s k) ≤ iI 63 := hz.1 ▸ e1
        rw [iI_le (by omega) (by omega)] at e3
        exact fin (-1) (by unfold rgv; rw [if_neg e3])
  refine ⟨w + 1, ?_⟩
  have := key w 0 (by omega)
  rw [rowW_0, sA_id] at this
  exact this
theorem m_row (hC : MD u h w f) (s : Int64) {y : Int} (ha : rg a) (hy : rg y) (h0 : ¬ ((0 ≤ a ∧ a < f) ∧ (0 ≤ y ∧ y < h)) → post (iI (-1)) u) (h1 : ∀ i j : Nat, a = i → y = j → i < f → j < h → post (iI (rct s w)) (sA u 3 (rowW (u.2 3) (36 * i + j * w) w (fun x => iI (rgv s x))))) : wp_X6_row (iI a) (iI y) s u post := by
  have hn := hC.n
  have hf := hC.f
  have a1 := hC.1
  have a2 := hC.2.1
  have e2 : u.1 1 = iI w := hC.2.2.2.2.1
  have e4 : u.1 0 = iI h := hC.2.2.2.1
  unfold wp_X6_row
  refine m_isFrame hC ha (fun _ => b0 (h0 (by omega))) (fun c1 c2 => b1 ?_)
  obtain ⟨i, rfl⟩ := Int.eq_ofNat_of_zero_le c1
  rw [e4, show (iI (h : Int) - (1 : Int32)) = iI (h - 1) from iI_sub h 1]
  refine m_in (b := 0) (c := h - 1) hy (by omega) (by omega) (fun hn => b0 (h0 (by omega))) (fun d1 d2 => b1 ?_)
  obtain ⟨j, rfl⟩ := Int.eq_ofNat_of_zero_le d1
  have hjw : j * w ≤ 30 := by
    have : j * w ≤ 5 * 6 := Nat.mul_le_mul (by omega) (by omega)
    omega
  have hp := h1 i j rfl rfl (by omega) (by omega)
  have key : ∀ (m k : Nat), k + m = w → wp_X6_row_30 post (m + 1) (iI i) (iI j) s (iI (rct s k)) (iI k) (sA u 3 (rowW (u.2 3) (36 * i + j * w) k (fun x => iI (rgv s x)))) := by
    intro m
    induction m with
    | zero =>
      intro k hk
      unfold wp_X6_row_30
      rw [sA_1, e2]
      refine b_le (by omega) (by omega) (fun _ => ?_) (fun hn => absurd (by omega) hn)
      rw [show k = w by omega]; exact hp
    | succ m ih =>
      intro k hk
      have nx := ih (k + 1) (by omega)
      have hz := zb_e s k
      have hlt := pl_lt (y := j) (x := k) (h := h) (w := w) (by omega) (by omega)
      rw [rct_s] at nx
      unfold wp_X6_row_30
      rw [sA_1, e2]
      refine b_le (by omega) (by omega) (fun hn => absurd hn (by omega)) (fun _ => ?_)
      refine m_at (u := sA u 3 _) (f := f) (h := h) (w := w) hC ?_
      rw [rbit_eq s (show k < 6 by omega), hz.1, l64]
      have fin : ∀ s0 : Int, s0 = rgv s k → wp_X6_row_78 (wp_X6_row_30 post (m + 1)) post (iI s0) (iI (36 * i + (j * w + k) : Nat)) (iI i) (iI j) s (iI (rct s k)) (iI k) (iI (zb s k)) (sA u 3 (rowW (u.2 3) (36 * i + j * w) k (fun x => iI (rgv s x)))) := by
        intro s0 hs
        unfold wp_X6_row_78
        refine b_in (by omega) (by omega) (by omega) ?_
        rw [iI_clamp (by omega), Int.toNat_natCast, sA_same, sA_sA, show 36 * i + (j * w + k) = 36 * i + j * w + k by omega, rowW_s (F := fun x => iI (rgv s x)) (by rw [hs]), l64, iI_s]
        refine b_le (by omega) (by omega) (fun e => ?_) (fun e => ?_)
        · rw [c01_f (by omega), Int.add_zero] at nx
          rw [l0, iI_add, Int.add_zero]
          exact nx
        · rw [c01_t (by omega)] at nx
          rw [l1, iI_add]
          exact nx
      refine b_le (by omega) (by omega) (fun e1 => ?_) (fun e1 => ?_)
      · exact fin (-1) (by unfold rgv; rw [if_neg (by omega)])
      · exact fin (zb s k) (by unfold rgv; rw [if_pos (by omega)])
  refine ⟨w + 1, ?_⟩
  have := key w 0 (by omega)
  rw [rowW_0, sA_id] at this
  exact this
end R0
def grow (g : Nat → Nat → Int) (i b w : Nat) (F : Nat → Int) : Nat → Nat → Int := fun a k => if a = i ∧ b ≤ k ∧ k < b + w then F (k - b) else g a k
theorem CG.row {G : Nat → Int32} {n f : Nat} {g : Nat → Nat → Int} (h : CG G n f g) {i b w : Nat} {F : Nat → Int} (hn : n ≤ 36) (hb : b + w ≤ n) (hF : ∀ k, -1 ≤ F k ∧ F k ≤ 63) : CG (rowW G (36 * i + b) w (fun x => iI (F x))) n f (grow g i b w F) := by
  intro a k ha hk
  unfold grow
  by_cases e : a = i ∧ b ≤ k ∧ k < b + w
  · obtain ⟨rfl, e2, e3⟩ := e
    rw [if_pos ⟨rfl, e2, e3⟩, show 36 * a + k = 36 * a + b + (k - b) by omega, rowW_in (by omega)]
    exact ⟨rfl, hF _⟩
  · rw [if_neg e, rowW_out (by omega)]; exact h a k ha hk
theorem i_row {u v : US} (hI : INV u v) (x1 x2 : Int32) (s : Int64) : wp_X5_row x1 x2 s u (fun r u' => wp_X6_row x1 x2 s v (fun r' v' => r = r' ∧ INV u' v')) := by
  have hI0 := hI
  obtain ⟨hK, h, w, f, L, g, K, O, A, B, N, S, D, E, ⟨a1, a2, a3, a4⟩, b1, b2, b3, b4⟩ := hI
  have hn := a1.n
  obtain ⟨a, ha, rfl⟩ := iI_of x1
  obtain ⟨y, hy, rfl⟩ := iI_of x2
  refine f_row a1 s ha hy (fun hn => m_row b1 s ha hy (fun _ => ⟨rfl, hI0⟩) (fun i j e1 e2 c1 c2 => absurd ⟨by omega, by omega⟩ hn)) (fun i j e1 e2 c1 c2 => ?_)
  subst e1; subst e2
  refine m_row b1 s ha hy (fun hn => absurd ⟨by omega, by omega⟩ hn) (fun i' j' e1 e2 _ _ => ?_)
  obtain rfl : i' = i := by omega
  obtain rfl : j' = j := by omega
  have hb : j' * w + w ≤ h * w := by
    have : (j' + 1) * w ≤ h * w := Nat.mul_le_mul_right w (by omega)
    rw [Nat.add_mul, Nat.one_mul] at this
    exact this
  refine ⟨rfl, hK.mono (fun k hk => rfl) (fun k hk => sA_other (by omega)) (fun k h1 h2 => rfl) (fun k h1 h2 => sA_other (by omega)), h, w, f, L, grow g i' (j' * w) w (rgv s), K, O, A, B, N, S, D, E, ⟨a1, ?_, a3, a4⟩, b1, ?_, b3, b4⟩
  · rw [sA_same]; exact a2.row hn.2 hb (rgv_bd s)
  · rw [sA_same]; exact b2.row hn.2 hb (rgv_bd s)
