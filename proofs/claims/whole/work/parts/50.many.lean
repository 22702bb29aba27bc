/-! ===== many ===== -/
def onc (N : Nat → Int) : Nat → Int := sm (fun i => c01 (¬ N i = 0))
def lostc (g : Nat → Nat → Int) (n a : Nat) : Int := sm (fun k => c01 (g a k = -1)) n
def lostA (g : Nat → Nat → Int) (n : Nat) : Nat → Int := sm (lostc g n)
theorem onc_bd (N : Nat → Int) (k : Nat) : 0 ≤ onc N k ∧ onc N k ≤ k := sm_01 k (fun _ _ => c01_bd _)
theorem lostc_bd (g : Nat → Nat → Int) (n a : Nat) : 0 ≤ lostc g n a ∧ lostc g n a ≤ n := sm_01 n (fun _ _ => c01_bd _)
theorem lostA_bd (g : Nat → Nat → Int) (n f : Nat) (hn : n ≤ 36) : 0 ≤ lostA g n f ∧ lostA g n f ≤ 36 * f := by
  have := sm_bd (f := lostc g n) (a := 0) (b := 36) f (fun k _ => by have := lostc_bd g n k; omega)
  unfold lostA
  omega
section N0
variable {u : US} {h w f L : Nat} {g : Nat → Nat → Int} {K O A B N : Nat → Int} {a b c d : Int} {post : Int32 → US → Prop}
theorem f_countOn (hL : FL u f L K O A B N) (hp : post (iI (onc N L)) u) : wp_X0_countOn u post := by
  have hl := hL.1
  have key : ∀ (m k : Nat), k + m = L → wp_X0_countOn_4 post (m + 1) (iI (onc N k)) (iI k) u := by
    intro m
    induction m with
    | zero =>
      intro k hk
      unfold wp_X0_countOn_4
      rw [hL.2.1]
      refine b_le (by omega) (by omega) (fun _ => ?_) (fun hn => absurd (by omega) hn)
      rw [show k = L by omega]; exact hp
    | succ m ih =>
      intro k hk
      have nx := ih (k + 1) (by omega)
      have hb := onc_bd N k
      obtain ⟨⟨-, -, -, -, p5⟩, -, -, -, -, pN, -⟩ := hL.2.2 k (by omega)
      rw [show onc N (k + 1) = onc N k + c01 (¬ N k = 0) from rfl] at nx
      unfold wp_X0_countOn_4
      rw [hL.2.1]
      refine b_le (by omega) (by omega) (fun hn => absurd hn (by omega)) (fun _ => b_in (by omega) (by omega) (by omega) ?_)
      rw [iI_clamp (by omega), Int.toNat_natCast, p5, iI_s]
      refine b_eq (b := 0) (by omega) (by omega) (fun e => ?_) (fun e => ?_)
      · rw [c01_f (by omega), Int.add_zero] at nx; exact nx
      · rw [c01_t e] at nx; rw [l1, iI_add]; exact nx
  exact ⟨L + 1, key L 0 (by omega)⟩
theorem m_many4 (hL : ML u f L K O A B N) (hp : post (iI (onc N L)) u) : ∃ j, wp_X6_many_74 post j (0 : Int32) (0 : Int32) u := by
  have hl := hL.1
  have key : ∀ (m k : Nat), k + m = L → wp_X6_many_74 post (m + 1) (iI (onc N k)) (iI k) u := by
    intro m
    induction m with
    | zero =>
      intro k hk
      unfold wp_X6_many_74
      rw [hL.2.1]
      refine b_le (by omega) (by omega) (fun _ => ?_) (fun hn => absurd (by omega) hn)
      rw [show k = L by omega]; exact hp
    | succ m ih =>
      intro k hk
      have nx := ih (k + 1) (by omega)
      have hb := onc_bd N k
      obtain ⟨⟨-, -, -, -, p5⟩, -, -, -, -, pN, -⟩ := hL.2.2 k (by omega)
      rw [show onc N (k + 1) = onc N k + c01 (¬ N k = 0) from rfl] at nx
      unfold wp_X6_many_74
      rw [hL.2.1]
      refine b_le (by omega) (by omega) (fun hn => absurd hn (by omega)) (fun _ => b_in (by omega) (by omega) (by omega) ?_)
      rw [iI_clamp (by omega), Int.toNat_natCast, p5, iI_s]
      refine b_eq (b := 0) (by omega) (by omega) (fun e => ?_) (fun e => ?_)
      · rw [c01_f (by omega)] at nx; rw [l0, iI_add]; exact nx
      · rw [c01_t e] at nx; rw [l1, iI_add]; exact nx
  exact ⟨L + 1, key L 0 (by omega)⟩
theorem f_countLost (hC : FD u h w f) (hG : CG (u.2 2) (h * w) f g) (hp : post (iI (lostA g (h * w) f)) u) : wp_X1_countLost u post := by
  have hn := hC.n
  have hf := hC.f
  have e3 : u.1 3 = iI (h * w : Nat) := hC.2.2.2.2.2.1
  have e4 : u.1 4 = iI f := hC.2.2.2.2.2.2
  have inner : ∀ (k4 : Int32 → Int32 → US → Prop) (a : Nat) (acc : Int), a < f → 0 ≤ acc → acc ≤ 400 → k4 (iI (acc + lostc g (h * w) a)) (iI (a + 1 : Nat)) u → ∀ (m k : Nat), k + m = h * w → wp_X1_countLost_14 k4 post (m + 1) (iI (acc + lostc g k a)) (iI a) (iI k) u := by
    intro k4 a acc ha q1 q2 hk4 m
    induction m with
    | zero =>
      intro k hk
      unfold wp_X1_countLost_14
      rw [e3, iI_s]
      refine b_le (by omega) (by omega) (fun _ => ?_) (fun hn => absurd (by omega) hn)
      rw [show k = h * w by omega]; exact hk4
    | succ m ih =>
      intro k hk
      have nx := ih (k + 1) (by omega)
      have hb := lostc_bd g k a
      have hg := hG a k ha (by omega)
      rw [show lostc g (k + 1) a = lostc g k a + c01 (g a k = -1) from rfl] at nx
      unfold wp_X1_countLost_14
      rw [e3]
      refine b_le (by omega) (by omega) (fun hn => absurd hn (by omega)) (fun _ => ?_)
      refine f_greyAt hC ha (by omega) ?_
      rw [hg.1, lm1, iI_s]
      refine b_eq (by omega) (by omega) (fun e => ?_) (fun e => ?_)
      · rw [c01_t e] at nx; rw [l1, iI_add, Int.add_assoc]; exact nx
      · rw [c01_f e, Int.add_zero] at nx; exact nx
  have key : ∀ (m a : Nat), a + m = f → wp_X1_countLost_4 post (m + 1) (iI (lostA g (h * w) a)) (iI a) u := by
    intro m
    induction m with
    | zero =>
      intro a ha
      unfold wp_X1_countLost_4
      rw [e4]
      refine b_le (by omega) (by omega) (fun _ => ?_) (fun hn => absurd (by omega) hn)
      rw [show a = f by omega]; exact hp
    | succ m ih =>
      intro a ha
      have nx := ih (a + 1) (by omega)
      have hb := lostA_bd g (h * w) a hn.2
      unfold wp_X1_countLost_4
      rw [e4]
      refine b_le (by omega) (by omega) (fun hn => absurd hn (by omega)) (fun _ => ⟨h * w + 1, ?_⟩)
      have := inner (wp_X1_countLost_4 post (m + 1)) a (lostA g (h * w) a) (by omega) (by omega) (by omega) nx (h * w) 0 (by omega)
      rw [show lostc g 0 a = 0 from rfl, Int.add_zero] at this
      exact this
  exact ⟨f + 1, key f 0 (by omega)⟩
theorem m_many5 (hC : MD u h w f) (hG : CG (u.2 3) (h * w) f g) (hp : post (iI (lostA g (h * w) f)) u) : ∃ j, wp_X6_many_109 post j (0 : Int32) (0 : Int32) u := by
  have hn := hC.n
  have hf := hC.f
  have e3 : u.1 0 * u.1 1 = iI (h * w : Nat) := by rw [show u.1 0 = iI h from hC.2.2.2.1, show u.1 1 = iI w from hC.2.2.2.2.1, iI_mul, Int.natCast_mul]
  have e4 : u.1 2 = iI f := hC.2.2.2.2.2
  have inner : ∀ (k4 : Int32 → Int32 → US → Prop) (a : Nat) (acc : Int), a < f → 0 ≤ acc → acc ≤ 400 → k4 (iI (acc + lostc g (h * w) a)) (iI (a + 1 : Nat)) u → ∀ (m k : Nat), k + m = h * w → wp_X6_many_120 k4 post (m + 1) (iI (acc + lostc g k a)) (iI a) (iI k) u := by
    intro k4 a acc ha q1 q2 hk4 m
    induction m with
    | zero =>
      intro k hk
      unfold wp_X6_many_120
      rw [e3, iI_s]
      refine b_le (by omega) (by omega) (fun _ => ?_) (fun hn => absurd (by omega) hn)
      rw [show k = h * w by omega]; exact hk4
    | succ m ih =>
      intro k hk
      have nx := ih (k + 1) (by omega)
      have hb := lostc_bd g k a
      have hg := hG a k ha (by omega)
      rw [show lostc g (k + 1) a = lostc g k a + c01 (g a k = -1) from rfl] at nx
      unfold wp_X6_many_120
      rw [e3]
      refine b_le (by omega) (by omega) (fun hn => absurd hn (by omega)) (fun _ => ?_)
      rw [l36, iI_mul, iI_add]
      refine b_in (by omega) (by omega) (by omega) ?_
      rw [iI_clamp (by omega), show ((36 : Int) * a + k).toNat = 36 * a + k by omega, hg.1, lm1, iI_s]
      refine b_eq (by omega) (by omega) (fun e => ?_) (fun e => ?_)
      · rw [c01_t e] at nx; rw [l1, iI_add, Int.add_assoc]; exact nx
      · rw [c01_f e] at nx; rw [l0, iI_add, Int.add_assoc]; exact nx
  have key : ∀ (m a : Nat), a + m = f → wp_X6_many_109 post (m + 1) (iI (lostA g (h * w) a)) (iI a) u := by
    intro m
    induction m with
    | zero =>
      intro a ha
      unfold wp_X6_many_109
      rw [e4]
      refine b_le (by omega) (by omega) (fun _ => ?_) (fun hn => absurd (by omega) hn)
      rw [show a = f by omega]; exact hp
    | succ m ih =>
      intro a ha
      have nx := ih (a + 1) (by omega)
      have hb := lostA_bd g (h * w) a hn.2
      unfold wp_X6_many_109
      rw [e4]
      refine b_le (by omega) (by omega) (fun hn => absurd hn (by omega)) (fun _ => ⟨h * w + 1, ?_⟩)
      have := inner (wp_X6_many_109 post (m + 1)) a (lostA g (h * w) a) (by omega) (by omega) (by omega) nx (h * w) 0 (by omega)
      rw [show lostc g 0 a = 0 from rfl, Int.add_zero] at this
      exact this
  exact ⟨f + 1, key f 0 (by omega)⟩
end N0
def manyV (h w f L : Nat) (g : Nat → Nat → Int) (N : Nat → Int) (S D E : Int) (z : Int) : Int :=
  if z = 0 then h else if z = 1 then w else if z = 2 then f else if z = 3 then L else if z = 4 then onc N L else if z = 5 then lostA g (h * w) f else if z = 6 then S else if z = 7 then D else if z = 8 then E else -1
theorem i_many {u v : US} (hI : INV u v) (x1 : Int32) : wp_X5_many x1 u (fun r u' => wp_X6_many x1 v (fun r' v' => r = r' ∧ INV u' v')) := by
  have hI0 := hI
  obtain ⟨hK, h, w, f, L, g, K, O, A, B, N, S, D, E, ⟨a1, a2, a3, a4⟩, b1, b2, b3, b4⟩ := hI
  obtain ⟨z, hz, rfl⟩ := iI_of x1
  have M : ∀ r : Int32, r = iI (manyV h w f L g N S D E z) → wp_X6_many (iI z) v (fun r' v' => r = r' ∧ INV u v') := by
    intro r hr
    unfold wp_X6_many
    rw [iI_toInt hz, hr, show (iI z - (6 : Int32)) = iI (z - 6) from iI_sub z 6]
    unfold manyV
    refine ⟨fun e => ?_, fun e => ?_, fun e => ?_, fun e => ?_, fun e => ?_, fun e => ?_, fun e => ?_, fun e => ?_, fun e => ?_, fun e => ?_⟩
    · rw [if_neg (by omega), if_neg (by omega), if_neg (by omega), if_neg (by omega), if_neg (by omega), if_neg (by omega), if_neg (by omega), if_neg (by omega), if_neg (by omega)]
      exact ⟨rfl, hI0⟩
    · subst e; exact ⟨b1.2.2.2.1.symm, hI0⟩
    · subst e; exact ⟨b1.2.2.2.2.1.symm, hI0⟩
    · subst e; exact ⟨b1.2.2.2.2.2.symm, hI0⟩
    · subst e; exact ⟨b3.2.1.symm, hI0⟩
    · subst e; exact m_many4 b3 ⟨rfl, hI0⟩
    · subst e; exact m_many5 b1 b2 ⟨rfl, hI0⟩
    · subst e; exact b_in (by omega) (by omega) (by omega) ⟨b4.1.symm, hI0⟩
    · subst e; exact b_in (by omega) (by omega) (by omega) ⟨b4.2.1.symm, hI0⟩
    · subst e; exact b_in (by omega) (by omega) (by omega) ⟨b4.2.2.1.symm, hI0⟩
  unfold wp_X5_many
  rw [iI_toInt hz]
  refine ⟨fun e => M _ ?_, fun e => M _ ?_, fun e => M _ ?_, fun e => M _ ?_, fun e => M _ ?_, fun e => f_countOn a3 (M _ ?_), fun e => f_countLost a1 a2 (M _ ?_), fun e => M _ ?_, fun e => M _ ?_, fun e => M _ ?_⟩
  · unfold manyV
    rw [if_neg (by omega), if_neg (by omega), if_neg (by omega), if_neg (by omega), if_neg (by omega), if_neg (by omega), if_neg (by omega), if_neg (by omega), if_neg (by omega)]
    rfl
  · subst e; exact a1.2.2.2.1
  · subst e; exact a1.2.2.2.2.1
  · subst e; exact a1.2.2.2.2.2.2
  · subst e; exact a3.2.1
  · subst e; rfl
  · subst e; rfl
  · subst e; exact a4.1
  · subst e; exact a4.2.1
  · subst e; exact a4.2.2.1
