/-! ===== miss: the reference, the common divisor, both together ===== -/
section MS2
variable {u : US} {h w f a : Nat} {g : Nat → Nat → Int} {dx dy : Int} {post : Int32 → US → Prop} {postv : US → Prop}
theorem m_findMiss (hC : MD u h w f) (hG : CG (u.2 3) (h * w) f g) (h1 : 1 ≤ a) (ha : a < f) (hx : -2 ≤ dx ∧ dx ≤ 2) (hy : -2 ≤ dy ∧ dy ≤ 2)
    (hp0 : ¬ (h * w : Nat) ≤ 4 * mP h w (g (a - 1)) (g a) dx dy → post 0 (nU u (mS h w (g (a - 1)) (g a) dx dy) (mP h w (g (a - 1)) (g a) dx dy)))
    (hp1 : (h * w : Nat) ≤ 4 * mP h w (g (a - 1)) (g a) dx dy → post 1 (nU u (mS h w (g (a - 1)) (g a) dx dy) (mP h w (g (a - 1)) (g a) dx dy))) : wp_X6_findMiss (iI a) (iI dx) (iI dy) u post := by
  have hn := hC.n
  have hf := hC.f
  have c1 := hC.1
  have c2 := hC.2.1
  have e1 : u.1 0 = iI h := hC.2.2.2.1
  have e2 : u.1 1 = iI w := hC.2.2.2.2.1
  have r1 := hG.gR (a := a - 1) (by omega)
  have r2 := hG.gR ha
  have ea : iI (a : Int) - (1 : Int32) = iI ((a - 1 : Nat) : Int) := by rw [l1, iI_sub]; congr 1; omega
  unfold wp_X6_findMiss
  have inner : ∀ (k13 : Int32 → Int32 → Int32 → Int32 → US → Prop) (y : Nat) (S0 P0 : Int), y < h → 0 ≤ S0 → S0 ≤ 3000 → 0 ≤ P0 → P0 ≤ 40 → k13 (iI a) (iI dx) (iI dy) (iI (y + 1 : Nat)) (nU u (S0 + rS h w (g (a - 1)) (g a) dx dy y) (P0 + rP h w (g (a - 1)) (g a) dx dy y)) → ∀ (m k : Nat), k + m = w → wp_X6_findMiss_25 k13 post (m + 1) (iI a) (iI dx) (iI dy) (iI y) (iI k) (nU u (S0 + sm (tS h w (g (a - 1)) (g a) dx dy y) k) (P0 + sm (tP h w (g (a - 1)) (g a) dx dy y) k)) := by
    intro k13 y S0 P0 y1 s1 s2 p1 p2 hk13 m
    induction m with
    | zero =>
      intro k hk
      unfold wp_X6_findMiss_25
      rw [show (nU u (S0 + sm (tS h w (g (a - 1)) (g a) dx dy y) k) (P0 + sm (tP h w (g (a - 1)) (g a) dx dy y) k)).1 1 = iI w from e2]
      refine b_le (by omega) (by omega) (fun _ => ?_) (fun hn => absurd (by omega) hn)
      unfold rS rP at hk13
      rw [show k = w by omega, iI_s]
      exact hk13
    | succ m ih =>
      intro k hk
      have nx := ih (k + 1) (by omega)
      have bS := rS_bd (dx := dx) (dy := dy) r1 r2 (y := y) (by omega) (k := k) (by omega)
      have bP := rP_bd (h := h) (w := w) (g1 := g (a - 1)) (g2 := g a) (dx := dx) (dy := dy) (y := y) (k := k)
      rw [sm_s, sm_s] at nx
      unfold wp_X6_findMiss_25
      rw [show (nU u (S0 + sm (tS h w (g (a - 1)) (g a) dx dy y) k) (P0 + sm (tP h w (g (a - 1)) (g a) dx dy y) k)).1 1 = iI w from e2]
      refine b_le (by omega) (by omega) (fun hn => absurd hn (by omega)) (fun _ => ?_)
      rw [iI_s, iI_add, iI_add]
      refine m_isSquare (u := nU u _ _) (h := h) (w := w) (f := f) hC (by omega) (by omega) (fun hno => b0 ?_) (fun d1 d2 d3 d4 => b1 ?_)
      · rw [tS_no hno, tP_no hno, Int.add_zero, Int.add_zero] at nx
        exact nx
      obtain ⟨y', hy'⟩ := Int.eq_ofNat_of_zero_le d1
      obtain ⟨x', hx'⟩ := Int.eq_ofNat_of_zero_le d3
      have lt1 := pl_lt (y := y) (x := k) (h := h) (w := w) (by omega) (by omega)
      have lt2 := pl_lt (y := y') (x := x') (h := h) (w := w) (by omega) (by omega)
      have gA := hG (a - 1) (y * w + k) (by omega) lt1
      have gB := hG a (y' * w + x') ha lt2
      rw [ea, hy', hx']
      refine m_at (u := nU u _ _) (h := h) (w := w) (f := f) hC (b_in (by omega) (by omega) (by omega) (m_at (u := nU u _ _) (h := h) (w := w) (f := f) hC (b_in (by omega) (by omega) (by omega) ?_)))
      rw [iI_clamp (by omega), iI_clamp (by omega), Int.toNat_natCast, Int.toNat_natCast, show (nU u (S0 + sm (tS h w (g (a - 1)) (g a) dx dy y) k) (P0 + sm (tP h w (g (a - 1)) (g a) dx dy y) k)).2 = u.2 from rfl, gA.1, gB.1, lm1]
      refine b_eq (by omega) (by omega) (fun e => ?_) (fun e => b_eq (by omega) (by omega) (fun e2 => ?_) (fun e2 => ?_))
      · rw [show tS h w (g (a - 1)) (g a) dx dy y k = 0 from if_neg (fun z => z.2.1 e), show tP h w (g (a - 1)) (g a) dx dy y k = 0 from if_neg (fun z => z.2.1 e), Int.add_zero, Int.add_zero] at nx
        exact nx
      · have ne : ¬ okP h w (g (a - 1)) (g a) dx dy y k := fun z => z.2.2 (by rw [hy', hx']; exact e2)
        rw [show tS h w (g (a - 1)) (g a) dx dy y k = 0 from if_neg ne, show tP h w (g (a - 1)) (g a) dx dy y k = 0 from if_neg ne, Int.add_zero, Int.add_zero] at nx
        exact nx
      · have ok : okP h w (g (a - 1)) (g a) dx dy y k := ⟨⟨d1, d2, d3, d4⟩, e, by rw [hy', hx']; exact e2⟩
        rw [show tS h w (g (a - 1)) (g a) dx dy y k = zabs (g a (y' * w + x') - g (a - 1) (y * w + k)) by unfold tS; rw [if_pos ok, hy', hx']; rfl, show tP h w (g (a - 1)) (g a) dx dy y k = 1 from if_pos ok] at nx
        unfold wp_X6_findMiss_130
        rw [show (nU u (S0 + sm (tS h w (g (a - 1)) (g a) dx dy y) k) (P0 + sm (tP h w (g (a - 1)) (g a) dx dy y) k)).1 22 = iI (S0 + sm (tS h w (g (a - 1)) (g a) dx dy y) k) from rfl, show (nU u (S0 + sm (tS h w (g (a - 1)) (g a) dx dy y) k) (P0 + sm (tP h w (g (a - 1)) (g a) dx dy y) k)).1 23 = iI (P0 + sm (tP h w (g (a - 1)) (g a) dx dy y) k) from rfl, iI_s, l1, iI_sub, iI_sub, iI_add, iI_add, iI_add, nU_nU, nU_nU, Int.add_assoc, Int.add_assoc, Int.add_assoc]
        refine b_le (by omega) (by omega) (fun e3 => ?_) (fun e3 => ?_)
        · rw [show zabs (g a (y' * w + x') - g (a - 1) (y * w + k)) = g (a - 1) (y * w + k) - g a (y' * w + x') by unfold zabs; split <;> omega] at nx
          exact nx
        · rw [show zabs (g a (y' * w + x') - g (a - 1) (y * w + k)) = g a (y' * w + x') - g (a - 1) (y * w + k) by unfold zabs; split <;> omega] at nx
          exact nx
  have key : ∀ (m y : Nat), y + m = h → wp_X6_findMiss_13 post (m + 1) (iI a) (iI dx) (iI dy) (iI y) (nU u (sm (rS h w (g (a - 1)) (g a) dx dy) y) (sm (rP h w (g (a - 1)) (g a) dx dy) y)) := by
    intro m
    induction m with
    | zero =>
      intro y hy'
      have bP := mP_bd (h := h) (g1 := g (a - 1)) (g2 := g a) (dx := dx) (dy := dy) c2.2 (k := y)
      unfold wp_X6_findMiss_13
      rw [show (nU u (sm (rS h w (g (a - 1)) (g a) dx dy) y) (sm (rP h w (g (a - 1)) (g a) dx dy) y)).1 0 = iI h from e1, show (nU u (sm (rS h w (g (a - 1)) (g a) dx dy) y) (sm (rP h w (g (a - 1)) (g a) dx dy) y)).1 1 = iI w from e2, show (nU u (sm (rS h w (g (a - 1)) (g a) dx dy) y) (sm (rP h w (g (a - 1)) (g a) dx dy) y)).1 23 = iI (sm (rP h w (g (a - 1)) (g a) dx dy) y) from rfl, l4, iI_mul, iI_mul, ← Int.natCast_mul]
      unfold mS mP at hp0 hp1
      have hyh : y = h := by omega
      subst hyh
      refine b_le (by omega) (by omega) (fun _ => ?_) (fun hn => absurd (by omega) hn)
      exact b_lt (by omega) (by omega) (fun e => hp0 (by omega)) (fun e => hp1 (by omega))
    | succ m ih =>
      intro y hy'
      have nx := ih (y + 1) (by omega)
      have bS := mS_bd (dx := dx) (dy := dy) c2.2 r1 r2 (k := y) (by omega)
      have bP := mP_bd (h := h) (g1 := g (a - 1)) (g2 := g a) (dx := dx) (dy := dy) c2.2 (k := y)
      rw [sm_s, sm_s] at nx
      unfold wp_X6_findMiss_13
      rw [show (nU u (sm (rS h w (g (a - 1)) (g a) dx dy) y) (sm (rP h w (g (a - 1)) (g a) dx dy) y)).1 0 = iI h from e1]
      refine b_le (by omega) (by omega) (fun hn => absurd hn (by omega)) (fun _ => ⟨w + 1, ?_⟩)
      have z := inner (wp_X6_findMiss_13 post (m + 1)) y _ _ (by omega) bS.1 (by omega) bP.1 (by omega) nx w 0 (by omega)
      rw [sm_0, sm_0, Int.add_zero, Int.add_zero] at z
      exact z
  exact ⟨h + 1, key h 0 (by omega)⟩
theorem gcd_step (a b : Nat) : Nat.gcd b (a % b) = Nat.gcd a b := by
  rw [Nat.gcd_comm a b, Nat.gcd_rec b a, Nat.gcd_comm]
theorem f_gcd : ∀ (b a t : Nat), a < 5000 → b < 60 → t + b < 100 → post (iI (Nat.gcd a b : Nat)) u → wp_X5_commonDivisor_7 post (b + 1) (iI a) (iI b) (iI t) u := by
  intro b
  induction b using Nat.strongRecOn with
  | _ b ih =>
    intro a t ha hb ht hp
    have step : ∀ n : Nat, (0 < b → wp_X5_commonDivisor_7 post n (iI b) (iI (a % b : Nat)) (iI (t + 1 : Nat)) u) → wp_X5_commonDivisor_7 post (n + 1) (iI a) (iI b) (iI t) u := by
      intro n hstep
      unfold wp_X5_commonDivisor_7
      refine b_le (a := 100) (by omega) (by omega) (fun e => absurd e (by omega)) (fun _ => b_eq (b := 0) (by omega) (by omega) (fun e => ?_) (fun e => ⟨?_, ?_⟩))
      · have e0 : b = 0 := by omega
        rw [e0, Nat.gcd_zero_right] at hp
        exact hp
      · rw [l0, iI_eq (by omega) (by omega)]; exact e
      · rw [iI_rem (by omega) (by omega), iI_s, ← Int.natCast_emod]
        exact hstep (by omega)
    by_cases e : b = 0
    · subst e
      exact step 0 (fun h => absurd h (by omega))
    · have hlt := Nat.mod_lt a (show 0 < b by omega)
      have z := ih (a % b) hlt b (t + 1) (by omega) (by omega) (by omega) (by rw [gcd_step]; exact hp)
      refine step b (fun _ => ?_)
      have mono : ∀ (n d : Nat) (x2 x3 x4 : Int32) (v : US), wp_X5_commonDivisor_7 post n x2 x3 x4 v → wp_X5_commonDivisor_7 post (n + d) x2 x3 x4 v := by
        intro n
        induction n with
        | zero => intro d x2 x3 x4 v h; exact False.elim h
        | succ n ihn =>
          intro d x2 x3 x4 v h
          rw [show n + 1 + d = n + d + 1 by omega]
          unfold wp_X5_commonDivisor_7 at h ⊢
          exact ⟨h.1, fun c => ⟨(h.2 c).1, fun c2 => ⟨((h.2 c).2 c2).1, ihn d _ _ _ _ ((h.2 c).2 c2).2⟩⟩⟩
      have := mono (a % b + 1) (b - (a % b + 1)) _ _ _ _ z
      rw [show a % b + 1 + (b - (a % b + 1)) = b by omega] at this
      exact this
theorem m_gcd : ∀ (b a : Nat), a < 5000 → b < 60 → post (iI (Nat.gcd a b : Nat)) u → ∃ n, wp_X6_common_4 post n (iI a) (iI b) u := by
  intro b
  induction b using Nat.strongRecOn with
  | _ b ih =>
    intro a ha hb hp
    by_cases e : b = 0
    · refine ⟨1, ?_⟩
      unfold wp_X6_common_4
      subst e
      rw [Nat.gcd_zero_right] at hp
      exact b_t rfl hp
    · have hlt := Nat.mod_lt a (show 0 < b by omega)
      obtain ⟨n, z⟩ := ih (a % b) hlt b (by omega) (by omega) (by rw [gcd_step]; exact hp)
      refine ⟨n + 1, ?_⟩
      unfold wp_X6_common_4
      refine b_eq (b := 0) (by omega) (by omega) (fun e => absurd e (by omega)) (fun e2 => ⟨?_, ?_⟩)
      · rw [l0, iI_eq (by omega) (by omega)]; exact e2
      · rw [iI_rem (by omega) (by omega), ← Int.natCast_emod]
        exact z
end MS2
theorem SF_mU {u : US} {S P : Int} : SF u (mU u S P) := (SF.rf.si (by omega)).si (by omega)
theorem SM_nU {u : US} {S P : Int} : SM u (nU u S P) := (SM.rf.si (by omega)).si (by omega)
/-- the part above or below the line, cleared -/
def missV (h w : Nat) (g1 g2 : Nat → Int) (dx dy z : Int) : Int := if (h * w : Nat) ≤ 4 * mP h w g1 g2 dx dy then (if z = 0 then mS h w g1 g2 dx dy else mP h w g1 g2 dx dy) / (Nat.gcd (mS h w g1 g2 dx dy).toNat (mP h w g1 g2 dx dy).toNat : Nat) else -3
section MS3
variable {u : US} {h w f : Nat} {g : Nat → Nat → Int} {a dx dy z : Int} {post : Int32 → US → Prop} {postv : US → Prop}
abbrev okM (f : Nat) (a dx dy z : Int) : Prop := (1 ≤ a ∧ a < f) ∧ (-2 ≤ dx ∧ dx ≤ 2) ∧ (-2 ≤ dy ∧ dy ≤ 2) ∧ (0 ≤ z ∧ z ≤ 1)
theorem f_miss (hC : FD u h w f) (hG : CG (u.2 2) (h * w) f g) (ha : rg a) (hdx : rg dx) (hdy : rg dy) (hz : rg z) (h0 : ¬ okM f a dx dy z → post (iI (-1)) u) (h1 : okM f a dx dy z → ∀ u', SF u u' → post (iI (missV h w (g (a.toNat - 1)) (g a.toNat) dx dy z)) u') : wp_X5_miss (iI a) (iI dx) (iI dy) (iI z) u post := by
  unfold okM at h0 h1
  unfold wp_X5_miss
  refine f_hasFrame hC ha (fun _ => b0 (h0 (by omega))) (fun q1 q2 => b1 ?_)
  refine b_eq (b := 0) (by omega) (by omega) (fun e => h0 (by omega)) (fun e => ?_)
  refine f_within (b := 0) (c := 1) hz (by omega) (by omega) (fun _ => b0 (h0 (by omega))) (fun q3 q4 => b1 ?_)
  rw [lm2]
  refine f_within (b := -2) (c := 2) hdx (by omega) (by omega) (fun _ => b0 (h0 (by omega))) (fun q5 q6 => b1 ?_)
  refine f_within (b := -2) (c := 2) hdy (by omega) (by omega) (fun _ => b0 (h0 (by omega))) (fun q7 q8 => b1 ?_)
  have hp := h1 (by omega)
  obtain ⟨i, rfl⟩ := Int.eq_ofNat_of_zero_le q1
  rw [Int.toNat_natCast] at hp
  refine f_measure hC hG (by omega) (by omega) ⟨q5, q6⟩ ⟨q7, q8⟩ ?_
  have hn := hC.n
  have c1 := hC.1
  have c2 := hC.2.1
  have e3 : u.1 3 = iI (h * w : Nat) := hC.2.2.2.2.2.1
  have bS := mS_bd (dx := dx) (dy := dy) c2.2 (hG.gR (a := i - 1) (by omega)) (hG.gR (a := i) (by omega)) (Nat.le_refl h)
  have bP := mP_bd (h := h) (g1 := g (i - 1)) (g2 := g i) (dx := dx) (dy := dy) c2.2 (k := h)
  have sf : SF u (mU u (mS h w (g (i - 1)) (g i) dx dy) (mP h w (g (i - 1)) (g i) dx dy)) := SF_mU
  have hp := hp _ sf
  unfold missV at hp
  unfold wp_X3_isEnough
  have u3 : (mU u (mS h w (g (i - 1)) (g i) dx dy) (mP h w (g (i - 1)) (g i) dx dy)).1 3 = iI (h * w : Nat) := e3
  have u7 : (mU u (mS h w (g (i - 1)) (g i) dx dy) (mP h w (g (i - 1)) (g i) dx dy)).1 7 = iI (mP h w (g (i - 1)) (g i) dx dy) := rfl
  have u6 : (mU u (mS h w (g (i - 1)) (g i) dx dy) (mP h w (g (i - 1)) (g i) dx dy)).1 6 = iI (mS h w (g (i - 1)) (g i) dx dy) := rfl
  change 0 ≤ mS h w (g (i - 1)) (g i) dx dy ∧ mS h w (g (i - 1)) (g i) dx dy ≤ 384 * h at bS
  change 0 ≤ mP h w (g (i - 1)) (g i) dx dy ∧ mP h w (g (i - 1)) (g i) dx dy ≤ 6 * h at bP
  generalize mU u (mS h w (g (i - 1)) (g i) dx dy) (mP h w (g (i - 1)) (g i) dx dy) = u' at *
  generalize mS h w (g (i - 1)) (g i) dx dy = S at *
  generalize mP h w (g (i - 1)) (g i) dx dy = P at *
  rw [u3, u7, l4, iI_mul]
  refine b_lt (by omega) (by omega) (fun e => b0 ?_) (fun e => b1 ?_)
  · rw [if_neg (by omega)] at hp; exact hp
  rw [if_pos (by omega)] at hp
  obtain ⟨s, rfl⟩ := Int.eq_ofNat_of_zero_le bS.1
  obtain ⟨p, rfl⟩ := Int.eq_ofNat_of_zero_le bP.1
  rw [Int.toNat_natCast, Int.toNat_natCast] at hp
  have hgp : 0 < Nat.gcd s p := Nat.gcd_pos_of_pos_right s (by omega)
  have hgl : Nat.gcd s p ≤ p := Nat.gcd_le_right s (by omega)
  rw [u6, u7]
  refine ⟨p + 1, f_gcd p s 0 (by omega) (by omega) (by omega) ?_⟩
  rw [u6, u7]
  refine b_le (a := 1) (by omega) (by omega) (fun _ => ?_) (fun e => absurd (by omega) e)
  have ne : ¬ iI (Nat.gcd s p : Nat) = 0 := by rw [l0, iI_eq (by omega) (by omega)]; omega
  refine b_eq (b := 0) (by omega) (by omega) (fun e2 => ⟨ne, ?_⟩) (fun e2 => ⟨ne, ?_⟩)
  · rw [if_pos e2] at hp; rw [iI_div (by omega) (by omega)]; exact hp
  · rw [if_neg e2] at hp; rw [iI_div (by omega) (by omega)]; exact hp
theorem m_miss (hC : MD u h w f) (hG : CG (u.2 3) (h * w) f g) (ha : rg a) (hdx : rg dx) (hdy : rg dy) (hz : rg z) (h0 : ¬ okM f a dx dy z → post (iI (-1)) u) (h1 : okM f a dx dy z → ∀ u', SM u u' → post (iI (missV h w (g (a.toNat - 1)) (g a.toNat) dx dy z)) u') : wp_X6_miss (iI a) (iI dx) (iI dy) (iI z) u post := by
  unfold okM at h0 h1
  unfold wp_X6_miss
  refine m_isFrame hC ha (fun _ => b0 (h0 (by omega))) (fun q1 q2 => b1 ?_)
  refine b_eq (b := 0) (by omega) (by omega) (fun e => h0 (by omega)) (fun e => ?_)
  rw [lm2]
  refine m_in (b := -2) (c := 2) hdx (by omega) (by omega) (fun _ => b0 (h0 (by omega))) (fun q5 q6 => b1 ?_)
  refine m_in (b := -2) (c := 2) hdy (by omega) (by omega) (fun _ => b0 (h0 (by omega))) (fun q7 q8 => b1 ?_)
  refine m_in (b := 0) (c := 1) hz (by omega) (by omega) (fun _ => b0 (h0 (by omega))) (fun q3 q4 => b1 ?_)
  have hp := h1 (by omega)
  obtain ⟨i, rfl⟩ := Int.eq_ofNat_of_zero_le q1
  rw [Int.toNat_natCast] at hp
  have hn := hC.n
  have c1 := hC.1
  have c2 := hC.2.1
  have bS := mS_bd (dx := dx) (dy := dy) c2.2 (hG.gR (a := i - 1) (by omega)) (hG.gR (a := i) (by omega)) (Nat.le_refl h)
  have bP := mP_bd (h := h) (g1 := g (i - 1)) (g2 := g i) (dx := dx) (dy := dy) c2.2 (k := h)
  have sf : SM u (nU u (mS h w (g (i - 1)) (g i) dx dy) (mP h w (g (i - 1)) (g i) dx dy)) := SM_nU
  have hp := hp _ sf
  unfold missV at hp
  refine m_findMiss hC hG (by omega) (by omega) ⟨q5, q6⟩ ⟨q7, q8⟩ (fun e => b0 ?_) (fun e => b1 ?_)
  · rw [if_neg e] at hp; exact hp
  rw [if_pos e] at hp
  have u7 : (nU u (mS h w (g (i - 1)) (g i) dx dy) (mP h w (g (i - 1)) (g i) dx dy)).1 23 = iI (mP h w (g (i - 1)) (g i) dx dy) := rfl
  have u6 : (nU u (mS h w (g (i - 1)) (g i) dx dy) (mP h w (g (i - 1)) (g i) dx dy)).1 22 = iI (mS h w (g (i - 1)) (g i) dx dy) := rfl
  change 0 ≤ mS h w (g (i - 1)) (g i) dx dy ∧ mS h w (g (i - 1)) (g i) dx dy ≤ 384 * h at bS
  change 0 ≤ mP h w (g (i - 1)) (g i) dx dy ∧ mP h w (g (i - 1)) (g i) dx dy ≤ 6 * h at bP
  generalize nU u (mS h w (g (i - 1)) (g i) dx dy) (mP h w (g (i - 1)) (g i) dx dy) = u' at *
  generalize mS h w (g (i - 1)) (g i) dx dy = S at *
  generalize mP h w (g (i - 1)) (g i) dx dy = P at *
  obtain ⟨s, rfl⟩ := Int.eq_ofNat_of_zero_le bS.1
  obtain ⟨p, rfl⟩ := Int.eq_ofNat_of_zero_le bP.1
  rw [Int.toNat_natCast, Int.toNat_natCast] at hp
  have hgp : 0 < Nat.gcd s p := Nat.gcd_pos_of_pos_right s (by omega)
  have hgl : Nat.gcd s p ≤ p := Nat.gcd_le_right s (by omega)
  rw [u6, u7]
  refine m_gcd p s (by omega) (by omega) ?_
  rw [u6, u7]
  have ne : ¬ iI (Nat.gcd s p : Nat) = 0 := by rw [l0, iI_eq (by omega) (by omega)]; omega
  refine b_eq (b := 0) (by omega) (by omega) (fun e2 => ⟨ne, ?_⟩) (fun e2 => ⟨ne, ?_⟩)
  · rw [if_pos e2] at hp; rw [iI_div (by omega) (by omega)]; exact hp
  · rw [if_neg e2] at hp; rw [iI_div (by omega) (by omega)]; exact hp
end MS3
theorem i_miss {u v : US} (hI : INV u v) (x1 x2 x3 x4 : Int32) : wp_X5_miss x1 x2 x3 x4 u (fun r u' => wp_X6_miss x1 x2 x3 x4 v (fun r' v' => r = r' ∧ INV u' v')) := by
  have hI0 := hI
  obtain ⟨hK, h, w, f, L, g, K, O, A, B, N, S, D, E, ⟨a1, a2, a3, a4⟩, b1, b2, b3, b4⟩ := hI
  obtain ⟨a, ha, rfl⟩ := iI_of x1
  obtain ⟨dx, hdx, rfl⟩ := iI_of x2
  obtain ⟨dy, hdy, rfl⟩ := iI_of x3
  obtain ⟨z, hz, rfl⟩ := iI_of x4
  refine f_miss a1 a2 ha hdx hdy hz (fun hn => m_miss b1 b2 ha hdx hdy hz (fun _ => ⟨rfl, hI0⟩) (fun ok => absurd ok hn)) (fun ok u' su => m_miss b1 b2 ha hdx hdy hz (fun hn => absurd ok hn) (fun _ v' sv => ⟨rfl, hI0.mono su sv⟩))
