/-! ===== shift, drift ===== -/
theorem mul_bd {a b A B : Int} (ha : 0 ≤ a ∧ a ≤ A) (hb : 0 ≤ b ∧ b ≤ B) : 0 ≤ a * b ∧ a * b ≤ A * B := ⟨Int.mul_nonneg ha.1 hb.1, Int.mul_le_mul ha.2 hb.2 hb.1 (by omega)⟩
theorem zabs_bd {a : Int} (h : -2 ≤ a ∧ a ≤ 2) : 0 ≤ zabs a ∧ zabs a ≤ 2 := by
  unfold zabs; split <;> omega
abbrev BT : Type := Int × Int × Int × Int
abbrev bet (B : BT) (dx dy S P : Int) : Prop := B.2.2.2 = 0 ∨ S * B.2.2.2 < B.2.2.1 * P ∨ (S * B.2.2.2 = B.2.2.1 * P ∧ zabs dx + zabs dy < zabs B.1 + zabs B.2.1)
def stepB (h w : Nat) (g1 g2 : Nat → Int) (B : BT) (dx dy : Int) : BT := if ((h * w : Nat) : Int) ≤ 4 * mP h w g1 g2 dx dy ∧ bet B dx dy (mS h w g1 g2 dx dy) (mP h w g1 g2 dx dy) then (dx, dy, mS h w g1 g2 dx dy, mP h w g1 g2 dx dy) else B
def inB (h w : Nat) (g1 g2 : Nat → Int) (B : BT) (dy : Int) : Nat → BT
  | 0 => B
  | i + 1 => stepB h w g1 g2 (inB h w g1 g2 B dy i) ((i : Int) - 2) dy
def outB (h w : Nat) (g1 g2 : Nat → Int) : Nat → BT
  | 0 => (0, 0, 0, 0)
  | j + 1 => inB h w g1 g2 (outB h w g1 g2 j) ((j : Int) - 2) 5
def BI (B : BT) : Prop := (-2 ≤ B.1 ∧ B.1 ≤ 2) ∧ (-2 ≤ B.2.1 ∧ B.2.1 ≤ 2) ∧ (0 ≤ B.2.2.1 ∧ B.2.2.1 ≤ 2304) ∧ (0 ≤ B.2.2.2 ∧ B.2.2.2 ≤ 36)
theorem BI_0 : BI (0, 0, 0, 0) := by unfold BI; decide
section SH0
variable {h w : Nat} {g1 g2 : Nat → Int} {dx dy : Int}
theorem mS_b (hh : h ≤ 6) (hw : w ≤ 6) (r1 : gR (h * w) g1) (r2 : gR (h * w) g2) : 0 ≤ mS h w g1 g2 dx dy ∧ mS h w g1 g2 dx dy ≤ 2304 := by
  have := mS_bd (dx := dx) (dy := dy) hw r1 r2 (Nat.le_refl h)
  unfold mS; omega
theorem mP_b (hh : h ≤ 6) (hw : w ≤ 6) : 0 ≤ mP h w g1 g2 dx dy ∧ mP h w g1 g2 dx dy ≤ 36 := by
  have := mP_bd (h := h) (g1 := g1) (g2 := g2) (dx := dx) (dy := dy) hw (k := h)
  unfold mP; omega
theorem stepB_I (hh : h ≤ 6) (hw : w ≤ 6) (r1 : gR (h * w) g1) (r2 : gR (h * w) g2) {B : BT} (hB : BI B) (hx : -2 ≤ dx ∧ dx ≤ 2) (hy : -2 ≤ dy ∧ dy ≤ 2) : BI (stepB h w g1 g2 B dx dy) := by
  unfold stepB
  split
  · exact ⟨hx, hy, mS_b hh hw r1 r2, mP_b hh hw⟩
  · exact hB
theorem inB_I (hh : h ≤ 6) (hw : w ≤ 6) (r1 : gR (h * w) g1) (r2 : gR (h * w) g2) {B : BT} (hB : BI B) (hy : -2 ≤ dy ∧ dy ≤ 2) : ∀ i : Nat, i ≤ 5 → BI (inB h w g1 g2 B dy i)
  | 0, _ => hB
  | i + 1, hi => stepB_I hh hw r1 r2 (inB_I hh hw r1 r2 hB hy i (by omega)) (by omega) hy
theorem outB_I (hh : h ≤ 6) (hw : w ≤ 6) (r1 : gR (h * w) g1) (r2 : gR (h * w) g2) : ∀ j : Nat, j ≤ 5 → BI (outB h w g1 g2 j)
  | 0, _ => BI_0
  | j + 1, hj => inB_I hh hw r1 r2 (outB_I hh hw r1 r2 j (by omega)) (by omega) 5 (by omega)
end SH0
def EQ2 (v v' : US) : Prop := v'.2 = v.2 ∧ ∀ k, 26 ≤ k → v'.1 k = v.1 k
theorem EQ2.rf {v : US} : EQ2 v v := ⟨rfl, fun _ _ => rfl⟩
theorem EQ2.tr {u v w : US} (a : EQ2 u v) (b : EQ2 v w) : EQ2 u w := ⟨b.1.trans a.1, fun k h => (b.2 k h).trans (a.2 k h)⟩
theorem EQ2.si {u v : US} (a : EQ2 u v) {k : Nat} {x : Int32} (h : k < 26) : EQ2 u (si v k x) := ⟨a.1, fun j hj => (si_other (by omega)).trans (a.2 j hj)⟩
theorem EQ2.nU {u v : US} (a : EQ2 u v) {S P : Int} : EQ2 u (nU v S P) := (a.si (by omega)).si (by omega)
def FB (u u' : US) (B : BT) : Prop := (SF u u' ∧ u'.2 = u.2) ∧ u'.1 8 = iI B.1 ∧ u'.1 9 = iI B.2.1 ∧ u'.1 11 = iI B.2.2.2 ∧ (B.2.2.2 ≠ 0 → u'.1 10 = iI B.2.2.1)
def MB (v v' : US) (B : BT) (x2 x3 x4 : Int32) : Prop := (SM v v' ∧ EQ2 v v') ∧ v'.1 24 = iI B.1 ∧ v'.1 25 = iI B.2.1 ∧ ((B.2.2.2 = 0 ∧ x2 = 0) ∨ (¬ B.2.2.2 = 0 ∧ x2 = 1 ∧ x3 = iI B.2.2.1 ∧ x4 = iI B.2.2.2))
section SH1
variable {u u' : US} {h w f a : Nat} {g : Nat → Nat → Int} {dx dy : Int} {post : Int32 → US → Prop} {postv : US → Prop} {B : BT} {S P : Int}
theorem f_isBetter (hB : BI B) (hS : 0 ≤ S ∧ S ≤ 2304) (hP : 0 ≤ P ∧ P ≤ 36) (hx : -2 ≤ dx ∧ dx ≤ 2) (hy : -2 ≤ dy ∧ dy ≤ 2) (hF : FB u u' B) (e6 : u'.1 6 = iI S) (e7 : u'.1 7 = iI P) (h0 : ¬ bet B dx dy S P → post 0 u') (h1 : bet B dx dy S P → post 1 u') : wp_X3_isBetter (iI dx) (iI dy) u' post := by
  obtain ⟨-, f8, f9, f11, f10⟩ := hF
  obtain ⟨i1, i2, i3, i4⟩ := hB
  have m1 := mul_bd hS i4
  have m2 := mul_bd i3 hP
  have z1 := zabs_bd hx
  have z2 := zabs_bd hy
  have z3 := zabs_bd i1
  have z4 := zabs_bd i2
  unfold wp_X3_isBetter
  rw [f11, f8, f9, e6, e7]
  refine b_eq (b := 0) (by omega) (by omega) (fun e => h1 (Or.inl e)) (fun e => ?_)
  rw [f10 e, iI_mul, iI_mul, iI_abs (by omega), iI_abs (by omega), iI_abs (by omega), iI_abs (by omega), iI_add, iI_add]
  refine b_eq (by omega) (by omega) (fun e2 => b_le (by omega) (by omega) (fun e3 => h0 ?_) (fun e3 => h1 ?_)) (fun e2 => b_le (by omega) (by omega) (fun e3 => h0 ?_) (fun e3 => h1 ?_))
  · rintro (q | q | q) <;> omega
  · exact Or.inr (Or.inr ⟨e2, by omega⟩)
  · rintro (q | q | q) <;> omega
  · exact Or.inr (Or.inl (by omega))
theorem f_find (hC : FD u h w f) (hG : CG (u.2 2) (h * w) f g) (h1 : 1 ≤ a) (ha : a < f) (hp : ∀ u', FB u u' (outB h w (g (a - 1)) (g a) 5) → postv u') : wp_X3_find (iI a) u postv := by
  have hn := hC.n
  have c1 := hC.1
  have c2 := hC.2.1
  have r1 := hG.gR (a := a - 1) (by omega)
  have r2 := hG.gR ha
  have inner : ∀ (k18 : Int32 → Int32 → US → Prop) (dy : Int) (B : BT), -2 ≤ dy → dy ≤ 2 → BI B → (∀ u', FB u u' (inB h w (g (a - 1)) (g a) B dy 5) → k18 (iI a) (iI (dy + 1)) u') → ∀ (m i : Nat) (u' : US), i + m = 5 → FB u u' (inB h w (g (a - 1)) (g a) B dy i) → wp_X3_find_26 k18 postv (m + 1) (iI a) (iI dy) (iI ((i : Int) - 2)) u' := by
    intro k18 dy B y1 y2 hB hk m
    induction m with
    | zero =>
      intro i u' hi hF
      unfold wp_X3_find_26
      refine b_lt (a := 2) (by omega) (by omega) (fun _ => ?_) (fun e => absurd (by omega) e)
      rw [l1, iI_add]
      rw [show i = 5 by omega] at hF
      exact hk u' hF
    | succ m ih =>
      intro i u' hi hF
      have hI := inB_I (dy := dy) c1.2 c2.2 r1 r2 hB ⟨y1, y2⟩ i (by omega)
      have sf := hF.1.1
      have bS := mS_b (dx := (i : Int) - 2) (dy := dy) c1.2 c2.2 r1 r2
      have bP := mP_b (dx := (i : Int) - 2) (dy := dy) (g1 := g (a - 1)) (g2 := g a) c1.2 c2.2
      have sF : FB u (mU u' (mS h w (g (a - 1)) (g a) ((i : Int) - 2) dy) (mP h w (g (a - 1)) (g a) ((i : Int) - 2) dy)) (inB h w (g (a - 1)) (g a) B dy i) := ⟨⟨sf.tr SF_mU, hF.1.2⟩, hF.2.1, hF.2.2.1, hF.2.2.2.1, hF.2.2.2.2⟩
      have nx := fun u2 => ih (i + 1) u2 (by omega)
      have ei : iI ((i : Int) - 2) + (1 : Int32) = iI (((i + 1 : Nat) : Int) - 2) := by rw [l1, iI_add]; congr 1; omega
      unfold wp_X3_find_26
      refine b_lt (a := 2) (by omega) (by omega) (fun e => absurd e (by omega)) (fun _ => ?_)
      refine f_measure (hC.sf sf) (by rw [sf.2 2 (by omega)]; exact hG) h1 ha (by omega) ⟨y1, y2⟩ ?_
      rw [ei]
      have e3 : (mU u' (mS h w (g (a - 1)) (g a) ((i : Int) - 2) dy) (mP h w (g (a - 1)) (g a) ((i : Int) - 2) dy)).1 3 = iI (h * w : Nat) := (hC.sf sf).2.2.2.2.2.1
      have e6 : (mU u' (mS h w (g (a - 1)) (g a) ((i : Int) - 2) dy) (mP h w (g (a - 1)) (g a) ((i : Int) - 2) dy)).1 6 = iI (mS h w (g (a - 1)) (g a) ((i : Int) - 2) dy) := rfl
      have e7 : (mU u' (mS h w (g (a - 1)) (g a) ((i : Int) - 2) dy) (mP h w (g (a - 1)) (g a) ((i : Int) - 2) dy)).1 7 = iI (mP h w (g (a - 1)) (g a) ((i : Int) - 2) dy) := rfl
      have st : inB h w (g (a - 1)) (g a) B dy (i + 1) = stepB h w (g (a - 1)) (g a) (inB h w (g (a - 1)) (g a) B dy i) ((i : Int) - 2) dy := rfl
      rw [st] at nx
      unfold stepB at nx
      generalize mU u' (mS h w (g (a - 1)) (g a) ((i : Int) - 2) dy) (mP h w (g (a - 1)) (g a) ((i : Int) - 2) dy) = u2 at *
      generalize inB h w (g (a - 1)) (g a) B dy i = B1 at *
      generalize mS h w (g (a - 1)) (g a) ((i : Int) - 2) dy = S at *
      generalize mP h w (g (a - 1)) (g a) ((i : Int) - 2) dy = P at *
      unfold wp_X3_isEnough
      rw [e3, e7, l4, iI_mul]
      refine b_lt (by omega) (by omega) (fun e => b0 (nx u2 ?_)) (fun e => b1 ?_)
      · rw [if_neg (fun z => by omega)]; exact sF
      refine f_isBetter hI bS bP (by omega) ⟨y1, y2⟩ sF e6 e7 (fun hb => b0 (nx u2 ?_)) (fun hb => b1 (nx _ ?_))
      · rw [if_neg (fun z => hb z.2)]; exact sF
      · rw [if_pos ⟨by omega, hb⟩]
        exact ⟨⟨(((sF.1.1.si (by omega)).si (by omega)).si (by omega)).si (by omega), sF.1.2⟩, rfl, rfl, e7, fun _ => e6⟩
  have key : ∀ (m j : Nat) (u' : US), j + m = 5 → FB u u' (outB h w (g (a - 1)) (g a) j) → wp_X3_find_18 postv (m + 1) (iI a) (iI ((j : Int) - 2)) u' := by
    intro m
    induction m with
    | zero =>
      intro j u' hj hF
      unfold wp_X3_find_18
      refine b_lt (a := 2) (by omega) (by omega) (fun _ => ?_) (fun e => absurd (by omega) e)
      rw [show j = 5 by omega] at hF
      exact hp u' hF
    | succ m ih =>
      intro j u' hj hF
      unfold wp_X3_find_18
      refine b_lt (a := 2) (by omega) (by omega) (fun e => absurd e (by omega)) (fun _ => ⟨6, ?_⟩)
      refine inner (wp_X3_find_18 postv (m + 1)) ((j : Int) - 2) (outB h w (g (a - 1)) (g a) j) (by omega) (by omega) (outB_I c1.2 c2.2 r1 r2 j (by omega)) (fun u2 h2 => ?_) 5 0 u' (by omega) hF
      have := ih (j + 1) u2 (by omega) h2
      rw [show ((j + 1 : Nat) : Int) - 2 = (j : Int) - 2 + 1 by omega] at this
      exact this
  refine ⟨6, key 5 0 _ (by omega) ⟨⟨((SF.rf.si (by omega)).si (by omega)).si (by omega), rfl⟩, rfl, rfl, rfl, fun h => absurd rfl h⟩⟩
theorem m_size {z : Int} (hz : rg z) (hp : post (iI (zabs z)) u) : wp_X6_size (iI z) u post := by
  unfold wp_X6_size
  refine b_le (a := 0) (by omega) hz (fun e => ?_) (fun e => ?_)
  · rw [show zabs z = z from if_pos e] at hp; exact hp
  · rw [show zabs z = -z from if_neg e] at hp; rw [iI_neg]; exact hp
theorem m_findShift (hC : MD u h w f) (hG : CG (u.2 3) (h * w) f g) (h1 : 1 ≤ a) (ha : a < f) (hp : ∀ u', SM u u' → EQ2 u u' → u'.1 24 = iI (outB h w (g (a - 1)) (g a) 5).1 → u'.1 25 = iI (outB h w (g (a - 1)) (g a) 5).2.1 → postv u') : wp_X6_findShift (iI a) u postv := by
  have hn := hC.n
  have c1 := hC.1
  have c2 := hC.2.1
  have r1 := hG.gR (a := a - 1) (by omega)
  have r2 := hG.gR ha
  have inner : ∀ (k21 : Int32 → Int32 → Int32 → Int32 → Int32 → US → Prop) (dy : Int) (B : BT), -2 ≤ dy → dy ≤ 2 → BI B → (∀ u' x2 x3 x4, MB u u' (inB h w (g (a - 1)) (g a) B dy 5) x2 x3 x4 → k21 (iI a) x2 x3 x4 (iI (dy + 1)) u') → ∀ (m i : Nat) (u' : US) (x2 x3 x4 : Int32), i + m = 5 → MB u u' (inB h w (g (a - 1)) (g a) B dy i) x2 x3 x4 → wp_X6_findShift_31 k21 postv (m + 1) (iI a) x2 x3 x4 (iI dy) (iI ((i : Int) - 2)) u' := by
    intro k21 dy B y1 y2 hB hk m
    induction m with
    | zero =>
      intro i u' x2 x3 x4 hi hF
      unfold wp_X6_findShift_31
      refine b_lt (a := 2) (by omega) (by omega) (fun _ => ?_) (fun e => absurd (by omega) e)
      rw [l1, iI_add]
      rw [show i = 5 by omega] at hF
      exact hk u' x2 x3 x4 hF
    | succ m ih =>
      intro i u' x2 x3 x4 hi hF
      have hI := inB_I (dy := dy) c1.2 c2.2 r1 r2 hB ⟨y1, y2⟩ i (by omega)
      have sf := hF.1.1
      have bS := mS_b (dx := (i : Int) - 2) (dy := dy) c1.2 c2.2 r1 r2
      have bP := mP_b (dx := (i : Int) - 2) (dy := dy) (g1 := g (a - 1)) (g2 := g a) c1.2 c2.2
      have sF : MB u (nU u' (mS h w (g (a - 1)) (g a) ((i : Int) - 2) dy) (mP h w (g (a - 1)) (g a) ((i : Int) - 2) dy)) (inB h w (g (a - 1)) (g a) B dy i) x2 x3 x4 := ⟨⟨sf.tr SM_nU, hF.1.2.nU⟩, hF.2.1, hF.2.2.1, hF.2.2.2⟩
      have nx := fun u2 y2 y3 y4 => ih (i + 1) u2 y2 y3 y4 (by omega)
      have ei : iI ((i : Int) - 2) + (1 : Int32) = iI (((i + 1 : Nat) : Int) - 2) := by rw [l1, iI_add]; congr 1; omega
      have st : inB h w (g (a - 1)) (g a) B dy (i + 1) = stepB h w (g (a - 1)) (g a) (inB h w (g (a - 1)) (g a) B dy i) ((i : Int) - 2) dy := rfl
      rw [st] at nx
      unfold stepB at nx
      unfold wp_X6_findShift_31
      refine b_lt (a := 2) (by omega) (by omega) (fun e => absurd e (by omega)) (fun _ => ?_)
      have e6 : (nU u' (mS h w (g (a - 1)) (g a) ((i : Int) - 2) dy) (mP h w (g (a - 1)) (g a) ((i : Int) - 2) dy)).1 22 = iI (mS h w (g (a - 1)) (g a) ((i : Int) - 2) dy) := rfl
      have e7 : (nU u' (mS h w (g (a - 1)) (g a) ((i : Int) - 2) dy) (mP h w (g (a - 1)) (g a) ((i : Int) - 2) dy)).1 23 = iI (mP h w (g (a - 1)) (g a) ((i : Int) - 2) dy) := rfl
      refine m_findMiss (hC.sm sf) (by rw [sf.2 3 (by omega)]; exact hG) h1 ha (by omega) ⟨y1, y2⟩ (fun e => b0 ?_) (fun e => b1 ?_)
      · rw [ei]
        refine nx _ _ _ _ ?_
        rw [if_neg (fun z => e z.1)]; exact sF
      rw [ei]
      generalize nU u' (mS h w (g (a - 1)) (g a) ((i : Int) - 2) dy) (mP h w (g (a - 1)) (g a) ((i : Int) - 2) dy) = u2 at *
      generalize inB h w (g (a - 1)) (g a) B dy i = B1 at *
      generalize mS h w (g (a - 1)) (g a) ((i : Int) - 2) dy = S at *
      generalize mP h w (g (a - 1)) (g a) ((i : Int) - 2) dy = P at *
      obtain ⟨i1, i2, i3, i4⟩ := id hI
      have m1 := mul_bd bS i4
      have m2 := mul_bd i3 bP
      have z1 := zabs_bd (a := (i : Int) - 2) (by omega)
      have z2 := zabs_bd (a := dy) ⟨y1, y2⟩
      have z3 := zabs_bd i1
      have z4 := zabs_bd i2
      refine m_size (by omega) (m_size (by omega) ?_)
      rw [sF.2.1]
      refine m_size (by omega) ?_
      rw [sF.2.2.1]
      refine m_size (by omega) ?_
      have up : bet B1 ((i : Int) - 2) dy S P → wp_X6_findShift_116 (wp_X6_findShift_31 k21 postv (m + 1)) postv (iI a) (iI dy) (iI ((i : Int) - 2)) u2 := by
        intro hb
        unfold wp_X6_findShift_116
        rw [ei]
        refine nx _ _ _ _ ?_
        rw [if_pos ⟨e, hb⟩]
        exact ⟨⟨(sF.1.1.si (by omega)).si (by omega), (sF.1.2.si (by omega)).si (by omega)⟩, rfl, rfl, Or.inr ⟨by show ¬ P = 0; omega, rfl, e6, e7⟩⟩
      have kp : ¬ bet B1 ((i : Int) - 2) dy S P → wp_X6_findShift_31 k21 postv (m + 1) (iI a) x2 x3 x4 (iI dy) (iI (((i + 1 : Nat) : Int) - 2)) u2 := by
        intro hb
        refine nx _ _ _ _ ?_
        rw [if_neg (fun z => hb z.2)]; exact sF
      rcases sF.2.2.2 with ⟨q1, q2⟩ | ⟨q1, q2, q3, q4⟩
      · rw [q2]
        exact b0 (up (Or.inl q1))
      · rw [q2] at kp ⊢
        refine b1 ?_
        rw [q3, q4] at kp ⊢
        rw [e6, e7, iI_mul, iI_mul, iI_sub, iI_add, iI_sub, iI_sub]
        refine b_lt (b := 0) (by omega) (by omega) (fun e3 => up (Or.inr (Or.inl (by omega)))) (fun e3 => b_eq (b := 0) (by omega) (by omega) (fun e4 => b_le (a := 0) (by omega) (by omega) (fun e5 => kp ?_) (fun e5 => up (Or.inr (Or.inr ⟨by omega, by omega⟩)))) (fun e4 => kp ?_))
        · rintro (q | q | q) <;> omega
        · rintro (q | q | q) <;> omega
  have key : ∀ (m j : Nat) (u' : US) (x2 x3 x4 : Int32), j + m = 5 → MB u u' (outB h w (g (a - 1)) (g a) j) x2 x3 x4 → wp_X6_findShift_21 postv (m + 1) (iI a) x2 x3 x4 (iI ((j : Int) - 2)) u' := by
    intro m
    induction m with
    | zero =>
      intro j u' x2 x3 x4 hj hF
      unfold wp_X6_findShift_21
      refine b_lt (a := 2) (by omega) (by omega) (fun _ => ?_) (fun e => absurd (by omega) e)
      rw [show j = 5 by omega] at hF
      exact hp u' hF.1.1 hF.1.2 hF.2.1 hF.2.2.1
    | succ m ih =>
      intro j u' x2 x3 x4 hj hF
      unfold wp_X6_findShift_21
      refine b_lt (a := 2) (by omega) (by omega) (fun e => absurd e (by omega)) (fun _ => ⟨6, ?_⟩)
      refine inner (wp_X6_findShift_21 postv (m + 1)) ((j : Int) - 2) (outB h w (g (a - 1)) (g a) j) (by omega) (by omega) (outB_I c1.2 c2.2 r1 r2 j (by omega)) (fun u2 y2 y3 y4 h2 => ?_) 5 0 u' x2 x3 x4 (by omega) hF
      have := ih (j + 1) u2 y2 y3 y4 (by omega) h2
      rw [show ((j + 1 : Nat) : Int) - 2 = (j : Int) - 2 + 1 by omega] at this
      exact this
  refine ⟨6, key 5 0 _ _ _ _ (by omega) ⟨⟨(SM.rf.si (by omega)).si (by omega), (EQ2.rf.si (by omega)).si (by omega)⟩, rfl, rfl, Or.inl ⟨rfl, rfl⟩⟩⟩
end SH1
/-- the shift of a frame along an axis, and the drift -/
def shV (h w : Nat) (g : Nat → Nat → Int) (ax : Int) (a : Nat) : Int := if ax = 0 then (outB h w (g (a - 1)) (g a) 5).1 else (outB h w (g (a - 1)) (g a) 5).2.1
def drV (h w : Nat) (g : Nat → Nat → Int) (ax : Int) : Nat → Int := sm (fun k => shV h w g ax (k + 1))
section SH2
variable {u u' : US} {h w f : Nat} {g : Nat → Nat → Int} {a z : Int} {post : Int32 → US → Prop} {postv : US → Prop}
theorem shV_bd {G : Nat → Int32} (hh : h ≤ 6) (hw : w ≤ 6) (hG : CG G (h * w) f g) {i : Nat} (h1 : 1 ≤ i) (hi : i < f) (ax : Int) : -2 ≤ shV h w g ax i ∧ shV h w g ax i ≤ 2 := by
  have := outB_I hh hw (hG.gR (a := i - 1) (by omega)) (hG.gR hi) 5 (by omega)
  unfold shV
  split
  · exact this.1
  · exact this.2.1
theorem drV_bd {G : Nat → Int32} (hh : h ≤ 6) (hw : w ≤ 6) (hG : CG G (h * w) f g) (ax : Int) {i : Nat} (hi : i < f) : -2 * (i : Int) ≤ drV h w g ax i ∧ drV h w g ax i ≤ 2 * i := sm_bd i (fun k hk => shV_bd hh hw hG (by omega) (by omega) ax)
theorem f_along (hz : z = 0 ∨ z = 1) {B : BT} (hF : FB u u' B) (hp : post (iI (if z = 0 then B.1 else B.2.1)) u') : wp_X3_along (iI z) u' post := by
  unfold wp_X3_along
  rw [hF.2.1, hF.2.2.1]
  refine b_eq (b := 0) (by omega) (by omega) (fun e => ?_) (fun e => ?_)
  · rw [if_pos e] at hp; exact hp
  · rw [if_neg e] at hp; exact hp
theorem f_shift (hC : FD u h w f) (hG : CG (u.2 2) (h * w) f g) (ha : rg a) (hz : rg z) (h0 : ¬ ((1 ≤ a ∧ a < f) ∧ (0 ≤ z ∧ z ≤ 1)) → post (iI (-1000)) u) (h1 : ∀ i : Nat, a = i → 1 ≤ i → i < f → (0 ≤ z ∧ z ≤ 1) → ∀ u', SF u u' → post (iI (shV h w g z i)) u') : wp_X5_shift (iI a) (iI z) u post := by
  unfold wp_X5_shift
  refine f_hasFrame hC ha (fun _ => b0 (h0 (by omega))) (fun q1 q2 => b1 ?_)
  refine b_eq (b := 0) (by omega) (by omega) (fun e => h0 (by omega)) (fun e => ?_)
  refine f_within (b := 0) (c := 1) hz (by omega) (by omega) (fun _ => b0 (h0 (by omega))) (fun q3 q4 => b1 ?_)
  obtain ⟨i, rfl⟩ := Int.eq_ofNat_of_zero_le q1
  refine f_find hC hG (by omega) (by omega) (fun u' hF => f_along (by omega) hF ?_)
  exact h1 i rfl (by omega) (by omega) ⟨q3, q4⟩ u' hF.1.1
theorem m_shift (hC : MD u h w f) (hG : CG (u.2 3) (h * w) f g) (ha : rg a) (hz : rg z) (h0 : ¬ ((1 ≤ a ∧ a < f) ∧ (0 ≤ z ∧ z ≤ 1)) → post (iI (-1000)) u) (h1 : ∀ i : Nat, a = i → 1 ≤ i → i < f → (0 ≤ z ∧ z ≤ 1) → ∀ u', SM u u' → post (iI (shV h w g z i)) u') : wp_X6_shift (iI a) (iI z) u post := by
  unfold wp_X6_shift
  refine m_isFrame hC ha (fun _ => b0 (h0 (by omega))) (fun q1 q2 => b1 ?_)
  refine b_eq (b := 0) (by omega) (by omega) (fun e => h0 (by omega)) (fun e => ?_)
  refine m_in (b := 0) (c := 1) hz (by omega) (by omega) (fun _ => b0 (h0 (by omega))) (fun q3 q4 => b1 ?_)
  obtain ⟨i, rfl⟩ := Int.eq_ofNat_of_zero_le q1
  refine m_findShift hC hG (by omega) (by omega) (fun u' sm _ e1 e2 => ?_)
  have hp := h1 i rfl (by omega) (by omega) ⟨q3, q4⟩ u' sm
  unfold shV at hp
  rw [e1, e2]
  refine b_eq (b := 0) (by omega) (by omega) (fun e => ?_) (fun e => ?_)
  · rw [if_pos e] at hp; exact hp
  · rw [if_neg e] at hp; exact hp
theorem f_drift (hC : FD u h w f) (hG : CG (u.2 2) (h * w) f g) (ha : rg a) (hz : rg z) (h0 : ¬ ((0 ≤ a ∧ a < f) ∧ (0 ≤ z ∧ z ≤ 1)) → post (iI (-1000)) u) (h1 : ∀ i : Nat, a = i → i < f → (0 ≤ z ∧ z ≤ 1) → ∀ u', SF u u' → post (iI (drV h w g z i)) u') : wp_X5_drift (iI a) (iI z) u post := by
  have hf := hC.f
  unfold wp_X5_drift
  refine f_hasFrame hC ha (fun _ => b0 (h0 (by omega))) (fun q1 q2 => b1 ?_)
  refine f_within (b := 0) (c := 1) hz (by omega) (by omega) (fun _ => b0 (h0 (by omega))) (fun q3 q4 => b1 ?_)
  obtain ⟨i, rfl⟩ := Int.eq_ofNat_of_zero_le q1
  have hp := h1 i rfl (by omega) ⟨q3, q4⟩
  have key : ∀ (m k : Nat) (u' : US), k + m = i → SF u u' → wp_X5_drift_29 post (m + 1) (iI i) (iI z) (iI (drV h w g z k)) (iI (k + 1 : Nat)) u' := by
    intro m
    induction m with
    | zero =>
      intro k u' hk sf
      unfold wp_X5_drift_29
      refine b_lt (by omega) (by omega) (fun _ => ?_) (fun e => absurd (by omega) e)
      rw [show k = i by omega]; exact hp u' sf
    | succ m ih =>
      intro k u' hk sf
      unfold wp_X5_drift_29
      refine b_lt (by omega) (by omega) (fun e => absurd e (by omega)) (fun _ => ?_)
      refine f_find (hC.sf sf) (by rw [sf.2 2 (by omega)]; exact hG) (by omega) (by omega) (fun u2 hF => f_along (by omega) hF ?_)
      rw [iI_add, iI_s]
      exact ih (k + 1) u2 (by omega) (sf.tr hF.1.1)
  exact ⟨i + 1, key i 0 u (by omega) SF.rf⟩
theorem m_driftOf (hC : MD u h w f) (hG : CG (u.2 3) (h * w) f g) {i : Nat} (hi : i < f) (hz : 0 ≤ z ∧ z ≤ 1) (hp : ∀ u', SM u u' → EQ2 u u' → post (iI (drV h w g z i)) u') : wp_X6_driftOf (iI i) (iI z) u post := by
  have hf := hC.f
  unfold wp_X6_driftOf
  have key : ∀ (m k : Nat) (u' : US), k + m = i → SM u u' → EQ2 u u' → wp_X6_driftOf_5 post (m + 1) (iI i) (iI z) (iI (drV h w g z k)) (iI (k + 1 : Nat)) u' := by
    intro m
    induction m with
    | zero =>
      intro k u' hk sf sq
      unfold wp_X6_driftOf_5
      refine b_lt (by omega) (by omega) (fun _ => ?_) (fun e => absurd (by omega) e)
      rw [show k = i by omega]; exact hp u' sf sq
    | succ m ih =>
      intro k u' hk sf sq
      unfold wp_X6_driftOf_5
      refine b_lt (by omega) (by omega) (fun e => absurd e (by omega)) (fun _ => ?_)
      refine m_findShift (hC.sm sf) (by rw [sf.2 3 (by omega)]; exact hG) (by omega) (by omega) (fun u2 s2 q2 e1 e2 => ?_)
      have nx := ih (k + 1) u2 (by omega) (sf.tr s2) (sq.tr q2)
      rw [show drV h w g z (k + 1) = drV h w g z k + shV h w g z (k + 1) from rfl] at nx
      unfold shV at nx
      rw [e1, e2, iI_add, iI_add, iI_s]
      refine b_eq (b := 0) (by omega) (by omega) (fun e => ?_) (fun e => ?_)
      · rw [if_pos e] at nx; exact nx
      · rw [if_neg e] at nx; exact nx
  exact ⟨i + 1, key i 0 u (by omega) SM.rf EQ2.rf⟩
theorem m_drift (hC : MD u h w f) (hG : CG (u.2 3) (h * w) f g) (ha : rg a) (hz : rg z) (h0 : ¬ ((0 ≤ a ∧ a < f) ∧ (0 ≤ z ∧ z ≤ 1)) → post (iI (-1000)) u) (h1 : ∀ i : Nat, a = i → i < f → (0 ≤ z ∧ z ≤ 1) → ∀ u', SM u u' → post (iI (drV h w g z i)) u') : wp_X6_drift (iI a) (iI z) u post := by
  unfold wp_X6_drift
  refine m_isFrame hC ha (fun _ => b0 (h0 (by omega))) (fun q1 q2 => b1 ?_)
  refine m_in (b := 0) (c := 1) hz (by omega) (by omega) (fun _ => b0 (h0 (by omega))) (fun q3 q4 => b1 ?_)
  obtain ⟨i, rfl⟩ := Int.eq_ofNat_of_zero_le q1
  exact m_driftOf hC hG (by omega) ⟨q3, q4⟩ (fun u' su _ => h1 i rfl (by omega) ⟨q3, q4⟩ u' su)
end SH2
section I5
variable {u v : US}
theorem i_shift (hI : INV u v) (x1 x2 : Int32) : wp_X5_shift x1 x2 u (fun r u' => wp_X6_shift x1 x2 v (fun r' v' => r = r' ∧ INV u' v')) := by
  have hI0 := hI
  obtain ⟨hK, h, w, f, L, g, K, O, A, B, N, S, D, E, ⟨a1, a2, a3, a4⟩, b1, b2, b3, b4⟩ := hI
  obtain ⟨a, ha, rfl⟩ := iI_of x1
  obtain ⟨z, hz, rfl⟩ := iI_of x2
  refine f_shift a1 a2 ha hz (fun hn => m_shift b1 b2 ha hz (fun _ => ⟨rfl, hI0⟩) (fun i e c1 c2 c3 => absurd ⟨by omega, c3⟩ hn)) (fun i e c1 c2 c3 u' su => m_shift b1 b2 ha hz (fun hn => absurd ⟨by omega, c3⟩ hn) (fun j e2 _ _ _ v' sv => ⟨?_, hI0.mono su sv⟩))
  rw [show j = i by omega]
theorem i_drift (hI : INV u v) (x1 x2 : Int32) : wp_X5_drift x1 x2 u (fun r u' => wp_X6_drift x1 x2 v (fun r' v' => r = r' ∧ INV u' v')) := by
  have hI0 := hI
  obtain ⟨hK, h, w, f, L, g, K, O, A, B, N, S, D, E, ⟨a1, a2, a3, a4⟩, b1, b2, b3, b4⟩ := hI
  obtain ⟨a, ha, rfl⟩ := iI_of x1
  obtain ⟨z, hz, rfl⟩ := iI_of x2
  refine f_drift a1 a2 ha hz (fun hn => m_drift b1 b2 ha hz (fun _ => ⟨rfl, hI0⟩) (fun i e c1 c3 => absurd ⟨by omega, c3⟩ hn)) (fun i e c1 c3 u' su => m_drift b1 b2 ha hz (fun hn => absurd ⟨by omega, c3⟩ hn) (fun j e2 _ _ v' sv => ⟨?_, hI0.mono su sv⟩))
  rw [show j = i by omega]
end I5
