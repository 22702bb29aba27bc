/-! ===== miss ===== -/
theorem sm_zero {f : Nat → Int} : ∀ n : Nat, (∀ k, k < n → f k = 0) → sm f n = 0
  | 0, _ => rfl
  | n + 1, h => by rw [sm_s, sm_zero n (fun k hk => h k (by omega)), h n (by omega)]; rfl
theorem sm_tail {f : Nat → Int} {n : Nat} : ∀ m : Nat, (∀ k, n ≤ k → k < n + m → f k = 0) → sm f (n + m) = sm f n
  | 0, _ => rfl
  | m + 1, h => by
    show sm f (n + m) + f (n + m) = _
    rw [sm_tail m (fun k h1 h2 => h k h1 (by omega)), h (n + m) (by omega) (by omega), Int.add_zero]
abbrev okP (h w : Nat) (g1 g2 : Nat → Int) (dx dy : Int) (y x : Nat) : Prop := (0 ≤ (y : Int) + dy ∧ (y : Int) + dy < h ∧ 0 ≤ (x : Int) + dx ∧ (x : Int) + dx < w) ∧ g1 (y * w + x) ≠ -1 ∧ g2 (((y : Int) + dy).toNat * w + ((x : Int) + dx).toNat) ≠ -1
def tS (h w : Nat) (g1 g2 : Nat → Int) (dx dy : Int) (y x : Nat) : Int := if okP h w g1 g2 dx dy y x then zabs (g2 (((y : Int) + dy).toNat * w + ((x : Int) + dx).toNat) - g1 (y * w + x)) else 0
def tP (h w : Nat) (g1 g2 : Nat → Int) (dx dy : Int) (y x : Nat) : Int := if okP h w g1 g2 dx dy y x then 1 else 0
def rS (h w : Nat) (g1 g2 : Nat → Int) (dx dy : Int) (y : Nat) : Int := sm (tS h w g1 g2 dx dy y) w
def rP (h w : Nat) (g1 g2 : Nat → Int) (dx dy : Int) (y : Nat) : Int := sm (tP h w g1 g2 dx dy y) w
def mS (h w : Nat) (g1 g2 : Nat → Int) (dx dy : Int) : Int := sm (rS h w g1 g2 dx dy) h
def mP (h w : Nat) (g1 g2 : Nat → Int) (dx dy : Int) : Int := sm (rP h w g1 g2 dx dy) h
abbrev gR (n : Nat) (g : Nat → Int) : Prop := ∀ k, k < n → -1 ≤ g k ∧ g k ≤ 63
section MS0
variable {h w : Nat} {g1 g2 : Nat → Int} {dx dy : Int}
theorem tS_bd (r1 : gR (h * w) g1) (r2 : gR (h * w) g2) {y x : Nat} (hy : y < h) (hx : x < w) : 0 ≤ tS h w g1 g2 dx dy y x ∧ tS h w g1 g2 dx dy y x ≤ 64 := by
  unfold tS
  split
  · rename_i hc
    have p1 := r1 _ (pl_lt hy hx)
    have p2 := r2 (((y : Int) + dy).toNat * w + ((x : Int) + dx).toNat) (pl_lt (by omega) (by omega))
    unfold zabs
    split <;> omega
  · omega
theorem tP_bd {y x : Nat} : 0 ≤ tP h w g1 g2 dx dy y x ∧ tP h w g1 g2 dx dy y x ≤ 1 := by
  unfold tP
  split <;> omega
theorem rS_bd (r1 : gR (h * w) g1) (r2 : gR (h * w) g2) {y : Nat} (hy : y < h) {k : Nat} (hk : k ≤ w) : 0 ≤ sm (tS h w g1 g2 dx dy y) k ∧ sm (tS h w g1 g2 dx dy y) k ≤ 64 * k := by
  have := sm_bd (f := tS h w g1 g2 dx dy y) (a := 0) (b := 64) k (fun j hj => tS_bd r1 r2 hy (by omega))
  omega
theorem rP_bd {y k : Nat} : 0 ≤ sm (tP h w g1 g2 dx dy y) k ∧ sm (tP h w g1 g2 dx dy y) k ≤ k := sm_01 k (fun _ _ => tP_bd)
theorem mS_bd (hw : w ≤ 6) (r1 : gR (h * w) g1) (r2 : gR (h * w) g2) {k : Nat} (hk : k ≤ h) : 0 ≤ sm (rS h w g1 g2 dx dy) k ∧ sm (rS h w g1 g2 dx dy) k ≤ 384 * k := by
  have := sm_bd (f := rS h w g1 g2 dx dy) (a := 0) (b := 384) k (fun j hj => by have := rS_bd (dx := dx) (dy := dy) r1 r2 (y := j) (by omega) (Nat.le_refl w); unfold rS; omega)
  omega
theorem mP_bd (hw : w ≤ 6) {k : Nat} : 0 ≤ sm (rP h w g1 g2 dx dy) k ∧ sm (rP h w g1 g2 dx dy) k ≤ 6 * k := by
  have := sm_bd (f := rP h w g1 g2 dx dy) (a := 0) (b := 6) k (fun j hj => by have := rP_bd (h := h) (g1 := g1) (g2 := g2) (dx := dx) (dy := dy) (y := j) (k := w) (w := w); unfold rP; omega)
  omega
theorem tS_no {y x : Nat} (hn : ¬ (0 ≤ (y : Int) + dy ∧ (y : Int) + dy < h ∧ 0 ≤ (x : Int) + dx ∧ (x : Int) + dx < w)) : tS h w g1 g2 dx dy y x = 0 := if_neg (fun z => hn z.1)
theorem tP_no {y x : Nat} (hn : ¬ (0 ≤ (y : Int) + dy ∧ (y : Int) + dy < h ∧ 0 ≤ (x : Int) + dx ∧ (x : Int) + dx < w)) : tP h w g1 g2 dx dy y x = 0 := if_neg (fun z => hn z.1)
end MS0
def mU (u : US) (S P : Int) : US := si (si u 6 (iI S)) 7 (iI P)
def nU (u : US) (S P : Int) : US := si (si u 22 (iI S)) 23 (iI P)
theorem si_sq {u : US} {j k : Nat} (hjk : j ≠ k) {a b c d : Int32} : si (si (si (si u j a) k b) j c) k d = si (si u j c) k d := by
  unfold si
  congr 1
  funext i
  by_cases e1 : i = k
  · simp [e1]
  · by_cases e2 : i = j
    · simp [e2]
    · simp [e1, e2]
theorem mU_mU {u : US} {S P S' P' : Int} : si (si (mU u S P) 6 (iI S')) 7 (iI P') = mU u S' P' := si_sq (by decide)
theorem nU_nU {u : US} {S P S' P' : Int} : si (si (nU u S P) 22 (iI S')) 23 (iI P') = nU u S' P' := si_sq (by decide)
section MS1
variable {u : US} {h w f a : Nat} {g : Nat → Nat → Int} {dx dy : Int} {post : Int32 → US → Prop} {postv : US → Prop}
theorem CG.gR {G : Nat → Int32} {n : Nat} (hG : CG G n f g) (ha : a < f) : gR n (g a) := fun k hk => (hG a k ha hk).2
theorem f_measure (hC : FD u h w f) (hG : CG (u.2 2) (h * w) f g) (h1 : 1 ≤ a) (ha : a < f) (hx : -2 ≤ dx ∧ dx ≤ 2) (hy : -2 ≤ dy ∧ dy ≤ 2) (hp : postv (mU u (mS h w (g (a - 1)) (g a) dx dy) (mP h w (g (a - 1)) (g a) dx dy))) : wp_X3_measure (iI a) (iI dx) (iI dy) u postv := by
  have hn := hC.n
  have hf := hC.f
  have c1 := hC.1
  have c2 := hC.2.1
  have e1 : u.1 1 = iI h := hC.2.2.2.1
  have e2 : u.1 2 = iI w := hC.2.2.2.2.1
  have r1 := hG.gR (a := a - 1) (by omega)
  have r2 := hG.gR ha
  obtain ⟨lX, hlX⟩ : ∃ lX : Nat, (lX : Int) = zmax 0 (-dx) := ⟨(zmax 0 (-dx)).toNat, by unfold zmax; split <;> omega⟩
  obtain ⟨lY, hlY⟩ : ∃ lY : Nat, (lY : Int) = zmax 0 (-dy) := ⟨(zmax 0 (-dy)).toNat, by unfold zmax; split <;> omega⟩
  obtain ⟨hX, hhX⟩ : ∃ hX : Nat, (hX : Int) = zmin w (w - dx) := ⟨(zmin w (w - dx)).toNat, by unfold zmin; split <;> omega⟩
  obtain ⟨hY, hhY⟩ : ∃ hY : Nat, (hY : Int) = zmin h (h - dy) := ⟨(zmin h (h - dy)).toNat, by unfold zmin; split <;> omega⟩
  unfold wp_X3_measure
  rw [e1, e2, iI_sub, iI_sub, iI_neg, l0, iI_min (by omega) (by omega), iI_min (by omega) (by omega), iI_max (by omega) (by omega), ← hlY, ← hhX, ← hhY]
  unfold zmax at hlX hlY
  unfold zmin at hhX hhY
  have inner : ∀ (k60 : Int32 → Int32 → Int32 → Int32 → Int32 → Int32 → US → Prop) (y : Nat) (S0 P0 : Int), lY ≤ y → y < hY → 0 ≤ S0 → S0 ≤ 3000 → 0 ≤ P0 → P0 ≤ 40 → k60 (iI a) (iI dx) (iI dy) (iI hY) (iI hX) (iI (y + 1 : Nat)) (mU u (S0 + rS h w (g (a - 1)) (g a) dx dy y) (P0 + rP h w (g (a - 1)) (g a) dx dy y)) → ∀ (m k : Nat), k + m = hX → lX ≤ k → wp_X3_measure_75 k60 postv (m + 1) (iI a) (iI dx) (iI dy) (iI hY) (iI hX) (iI y) (iI k) (mU u (S0 + sm (tS h w (g (a - 1)) (g a) dx dy y) k) (P0 + sm (tP h w (g (a - 1)) (g a) dx dy y) k)) := by
    intro k60 y S0 P0 y1 y2 s1 s2 p1 p2 hk60 m
    have hyh : y < h := by split at hhY <;> omega
    have hXw : hX ≤ w := by split at hhX <;> omega
    induction m with
    | zero =>
      intro k hk hl
      unfold wp_X3_measure_75
      refine b_le (by omega) (by omega) (fun _ => ?_) (fun hn => absurd (by omega) hn)
      have q1 : sm (tS h w (g (a - 1)) (g a) dx dy y) (hX + (w - hX)) = sm (tS h w (g (a - 1)) (g a) dx dy y) hX := sm_tail _ (fun k h1 h2 => tS_no (by split at hhX <;> omega))
      have q2 : sm (tP h w (g (a - 1)) (g a) dx dy y) (hX + (w - hX)) = sm (tP h w (g (a - 1)) (g a) dx dy y) hX := sm_tail _ (fun k h1 h2 => tP_no (by split at hhX <;> omega))
      rw [show hX + (w - hX) = w by omega] at q1 q2
      unfold rS rP at hk60
      rw [show k = hX by omega, iI_s, ← q1, ← q2]
      exact hk60
    | succ m ih =>
      intro k hk hl
      have nx := ih (k + 1) (by omega) (by omega)
      have bS := rS_bd (dx := dx) (dy := dy) r1 r2 (y := y) (by omega) (k := k) (by omega)
      have bP := rP_bd (h := h) (w := w) (g1 := g (a - 1)) (g2 := g a) (dx := dx) (dy := dy) (y := y) (k := k)
      have hyd : 0 ≤ (y : Int) + dy ∧ (y : Int) + dy < h := by split at hlY <;> split at hhY <;> omega
      have hxd : 0 ≤ (k : Int) + dx ∧ (k : Int) + dx < w := by split at hlX <;> split at hhX <;> omega
      obtain ⟨y', hy'⟩ := Int.eq_ofNat_of_zero_le hyd.1
      obtain ⟨x', hx'⟩ := Int.eq_ofNat_of_zero_le hxd.1
      have lt1 := pl_lt (y := y) (x := k) (h := h) (w := w) (by omega) (by omega)
      have lt2 := pl_lt (y := y') (x := x') (h := h) (w := w) (by omega) (by omega)
      have gA := hG (a - 1) (y * w + k) (by omega) lt1
      have gB := hG a (y' * w + x') ha lt2
      rw [sm_s, sm_s] at nx
      unfold wp_X3_measure_75
      refine b_le (by omega) (by omega) (fun hn => absurd hn (by omega)) (fun _ => ?_)
      refine f_placeOf' (u := mU u _ _) (h := h) (w := w) (f := f) hC (by omega) (by omega) ?_
      have ea : iI (a : Int) - (1 : Int32) = iI ((a - 1 : Nat) : Int) := by rw [l1, iI_sub]; congr 1; omega
      rw [ea]
      refine f_greyAt (u := mU u _ _) (h := h) (w := w) (f := f) hC (by omega) lt1 ?_
      rw [iI_add, iI_add, hy', hx']
      refine f_placeOf' (u := mU u _ _) (h := h) (w := w) (f := f) hC (by omega) (by omega) ?_
      refine f_greyAt (u := mU u _ _) (h := h) (w := w) (f := f) hC ha lt2 ?_
      rw [show (mU u (S0 + sm (tS h w (g (a - 1)) (g a) dx dy y) k) (P0 + sm (tP h w (g (a - 1)) (g a) dx dy y) k)).2 = u.2 from rfl, gA.1, gB.1, lm1, iI_s]
      refine b_eq (by omega) (by omega) (fun e => ?_) (fun e => b_eq (by omega) (by omega) (fun e2 => ?_) (fun e2 => ?_))
      · rw [show tS h w (g (a - 1)) (g a) dx dy y k = 0 from if_neg (fun z => z.2.1 e), show tP h w (g (a - 1)) (g a) dx dy y k = 0 from if_neg (fun z => z.2.1 e), Int.add_zero, Int.add_zero] at nx
        exact nx
      · have ne : ¬ okP h w (g (a - 1)) (g a) dx dy y k := fun z => z.2.2 (by rw [hy', hx']; exact e2)
        rw [show tS h w (g (a - 1)) (g a) dx dy y k = 0 from if_neg ne, show tP h w (g (a - 1)) (g a) dx dy y k = 0 from if_neg ne, Int.add_zero, Int.add_zero] at nx
        exact nx
      · have ok : okP h w (g (a - 1)) (g a) dx dy y k := ⟨⟨hyd.1, hyd.2, hxd.1, hxd.2⟩, e, by rw [hy', hx']; exact e2⟩
        rw [show tS h w (g (a - 1)) (g a) dx dy y k = zabs (g a (y' * w + x') - g (a - 1) (y * w + k)) by unfold tS; rw [if_pos ok, hy', hx']; rfl, show tP h w (g (a - 1)) (g a) dx dy y k = 1 from if_pos ok] at nx
        rw [iI_sub, iI_abs (by omega), show (mU u (S0 + sm (tS h w (g (a - 1)) (g a) dx dy y) k) (P0 + sm (tP h w (g (a - 1)) (g a) dx dy y) k)).1 6 = iI (S0 + sm (tS h w (g (a - 1)) (g a) dx dy y) k) from rfl, show (mU u (S0 + sm (tS h w (g (a - 1)) (g a) dx dy y) k) (P0 + sm (tP h w (g (a - 1)) (g a) dx dy y) k)).1 7 = iI (P0 + sm (tP h w (g (a - 1)) (g a) dx dy y) k) from rfl, l1, iI_add, iI_add, mU_mU, Int.add_assoc, Int.add_assoc]
        exact nx
  have key : ∀ (m y : Nat), y + m = hY → lY ≤ y → wp_X3_measure_60 postv (m + 1) (iI a) (iI dx) (iI dy) (iI hY) (iI hX) (iI y) (mU u (sm (rS h w (g (a - 1)) (g a) dx dy) y) (sm (rP h w (g (a - 1)) (g a) dx dy) y)) := by
    intro m
    have hYh : hY ≤ h := by split at hhY <;> omega
    have hXw : hX ≤ w := by split at hhX <;> omega
    have lh : lX ≤ hX := by split at hlX <;> split at hhX <;> omega
    induction m with
    | zero =>
      intro y hy' hl
      unfold wp_X3_measure_60
      refine b_le (by omega) (by omega) (fun _ => ?_) (fun hn => absurd (by omega) hn)
      have q1 : sm (rS h w (g (a - 1)) (g a) dx dy) (hY + (h - hY)) = sm (rS h w (g (a - 1)) (g a) dx dy) hY := sm_tail _ (fun k h1 h2 => sm_zero _ (fun x _ => tS_no (by split at hhY <;> omega)))
      have q2 : sm (rP h w (g (a - 1)) (g a) dx dy) (hY + (h - hY)) = sm (rP h w (g (a - 1)) (g a) dx dy) hY := sm_tail _ (fun k h1 h2 => sm_zero _ (fun x _ => tP_no (by split at hhY <;> omega)))
      rw [show hY + (h - hY) = h by omega] at q1 q2
      unfold mS mP at hp
      rw [show y = hY by omega, ← q1, ← q2]
      exact hp
    | succ m ih =>
      intro y hy' hl
      have nx := ih (y + 1) (by omega) (by omega)
      have bS := mS_bd (dx := dx) (dy := dy) c2.2 r1 r2 (k := y) (by omega)
      have bP := mP_bd (h := h) (g1 := g (a - 1)) (g2 := g a) (dx := dx) (dy := dy) c2.2 (k := y)
      rw [sm_s, sm_s] at nx
      unfold wp_X3_measure_60
      refine b_le (by omega) (by omega) (fun hn => absurd hn (by omega)) (fun _ => ⟨hX - lX + 1, ?_⟩)
      have z := inner (wp_X3_measure_60 postv (m + 1)) y _ _ hl (by omega) bS.1 (by omega) bP.1 (by omega) nx (hX - lX) lX (by omega) (Nat.le_refl _)
      rw [sm_zero (f := tS h w (g (a - 1)) (g a) dx dy y) lX (fun k hk => tS_no (by split at hlX <;> omega)), sm_zero (f := tP h w (g (a - 1)) (g a) dx dy y) lX (fun k hk => tP_no (by split at hlX <;> omega)), Int.add_zero, Int.add_zero] at z
      rw [iI_neg, l0, iI_max (by omega) (by omega)]
      unfold zmax
      rw [← hlX]
      exact z
  refine ⟨hY - lY + 1, ?_⟩
  have lh : lY ≤ hY := by split at hlY <;> split at hhY <;> omega
  have z := key (hY - lY) lY (by omega) (Nat.le_refl _)
  rw [sm_zero (f := rS h w (g (a - 1)) (g a) dx dy) lY (fun k hk => sm_zero _ (fun x _ => tS_no (by split at hlY <;> omega))), sm_zero (f := rP h w (g (a - 1)) (g a) dx dy) lY (fun k hk => sm_zero _ (fun x _ => tP_no (by split at hlY <;> omega)))] at z
  exact z
end MS1
