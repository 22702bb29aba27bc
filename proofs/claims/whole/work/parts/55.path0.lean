/-! ===== the steady path: numbers alone ===== -/
def spt (d : Nat → Int) (S k c : Nat) : Int := d k + c - S
def ctv (d : Nat → Int) (S k a b c : Nat) : Int := 100 * zabs (spt d S (k + 2) c - 2 * spt d S (k + 1) b + spt d S k a) + zabs ((c : Int) - S)
def mnS (F : Nat → Int) : Nat → Int
  | 0 => F 0
  | n + 1 => zmin (mnS F n) (F (n + 1))
def amS (F : Nat → Int) : Nat → Nat
  | 0 => 0
  | n + 1 => if F (n + 1) < F (amS F n) then n + 1 else amS F n
def Tm (d : Nat → Int) (S f : Nat) : Nat → Nat → Nat → Int
  | 0 => fun _ _ => 0
  | r + 1 => fun a b => mnS (fun c => ctv d S (f - 3 - r) a b c + Tm d S f r b c) (2 * S)
def thr (d : Nat → Int) (S f k a b c : Nat) : Int := ctv d S k a b c + Tm d S f (f - 3 - k) b c
theorem Tm_s {d : Nat → Int} {S f k a b : Nat} (hk : k + 2 < f) : Tm d S f (f - 2 - k) a b = mnS (thr d S f k a b) (2 * S) := by
  rw [show f - 2 - k = (f - 3 - k) + 1 by omega]
  show mnS (fun c => ctv d S (f - 3 - (f - 3 - k)) a b c + Tm d S f (f - 3 - k) b c) (2 * S) = _
  rw [show f - 3 - (f - 3 - k) = k by omega]
  rfl
theorem Tm_0 {d : Nat → Int} {S f k a b : Nat} (hk : f ≤ k + 2) : Tm d S f (f - 2 - k) a b = 0 := by
  rw [show f - 2 - k = 0 by omega]
  rfl
theorem amS_le (F : Nat → Int) : ∀ n, amS F n ≤ n
  | 0 => Nat.le_refl _
  | n + 1 => by
    have := amS_le F n
    unfold amS
    split <;> omega
theorem amS_mn (F : Nat → Int) : ∀ n, F (amS F n) = mnS F n
  | 0 => rfl
  | n + 1 => by
    have := amS_mn F n
    unfold amS mnS zmin
    rw [← this]
    split <;> rfl
theorem mnS_le (F : Nat → Int) : ∀ n c, c ≤ n → mnS F n ≤ F c
  | 0, c, h => by rw [show c = 0 by omega]; exact Int.le_refl _
  | n + 1, c, h => by
    have ih := mnS_le F n
    unfold mnS zmin
    by_cases e : c = n + 1
    · rw [e]; split <;> omega
    · have := ih c (by omega)
      split <;> omega
/-- those ahead of the first least one are greater -/
theorem amS_lt (F : Nat → Int) : ∀ n c, c < amS F n → mnS F n < F c
  | 0, c, h => by unfold amS at h; omega
  | n + 1, c, h => by
    have ih := amS_lt F n
    have e := amS_mn F n
    have e2 := mnS_le F n
    have e3 := amS_le F n
    unfold amS at h
    unfold mnS zmin
    by_cases hc : F (n + 1) < F (amS F n)
    · rw [if_pos hc] at h
      rw [if_pos (by omega)]
      have := e2 c (by omega)
      omega
    · rw [if_neg hc] at h
      rw [if_neg (by omega)]
      exact ih c h
theorem mnS_bd {F : Nat → Int} {A B : Int} (n : Nat) (h : ∀ c, c ≤ n → A ≤ F c ∧ F c ≤ B) : A ≤ mnS F n ∧ mnS F n ≤ B := by
  rw [← amS_mn]
  exact h _ (amS_le F n)
/-- drifts that are near enough -/
abbrev dR (d : Nat → Int) (f : Nat) : Prop := ∀ k, k < f → -18 ≤ d k ∧ d k ≤ 18
theorem zabs_le {a B : Int} (h : -B ≤ a ∧ a ≤ B) : 0 ≤ zabs a ∧ zabs a ≤ B := by
  unfold zabs; split <;> omega
theorem ctv_bd {d : Nat → Int} {S f k a b c : Nat} (hd : dR d f) (hS : S ≤ 3) (hk : k + 2 < f) (ha : a ≤ 2 * S) (hb : b ≤ 2 * S) (hc : c ≤ 2 * S) : 0 ≤ ctv d S k a b c ∧ ctv d S k a b c ≤ 8403 := by
  have h0 := hd k (by omega)
  have h1 := hd (k + 1) (by omega)
  have h2 := hd (k + 2) (by omega)
  have z1 := zabs_le (a := spt d S (k + 2) c - 2 * spt d S (k + 1) b + spt d S k a) (B := 84) (by unfold spt; omega)
  have z2 := zabs_le (a := (c : Int) - S) (B := 3) (by omega)
  unfold ctv
  omega
theorem Tm_bd {d : Nat → Int} {S f : Nat} (hd : dR d f) (hS : S ≤ 3) : ∀ (r a b : Nat), r + 2 ≤ f → a ≤ 2 * S → b ≤ 2 * S → 0 ≤ Tm d S f r a b ∧ Tm d S f r a b ≤ 8403 * r
  | 0, a, b, _, _, _ => by show (0 : Int) ≤ 0 ∧ (0 : Int) ≤ _; omega
  | r + 1, a, b, hr, ha, hb => by
    have ih := Tm_bd hd hS r
    refine mnS_bd _ (fun c hc => ?_)
    have h1 := ctv_bd (k := f - 3 - r) hd hS (by omega) ha hb hc
    have h2 := ih b c (by omega) hb hc
    omega
theorem thr_bd {d : Nat → Int} {S f k a b c : Nat} (hd : dR d f) (hS : S ≤ 3) (hf : f ≤ 10) (hk : k + 2 < f) (ha : a ≤ 2 * S) (hb : b ≤ 2 * S) (hc : c ≤ 2 * S) : 0 ≤ thr d S f k a b c ∧ thr d S f k a b c ≤ 100000 := by
  have h1 := ctv_bd hd hS hk ha hb hc
  have h2 := Tm_bd hd hS (f - 3 - k) b c (by omega) hb hc
  unfold thr
  omega
def stc (d : Nat → Int) (S f a b : Nat) : Int := zabs ((a : Int) - S) + zabs ((b : Int) - S) + Tm d S f (f - 2) a b
theorem stc_bd {d : Nat → Int} {S f a b : Nat} (hd : dR d f) (hS : S ≤ 3) (hf : f ≤ 10) (h2 : 2 ≤ f) (ha : a ≤ 2 * S) (hb : b ≤ 2 * S) : 0 ≤ stc d S f a b ∧ stc d S f a b ≤ 100000 := by
  have h2 := Tm_bd hd hS (f - 2) a b (by omega) ha hb
  have z1 := zabs_le (a := (a : Int) - S) (B := 3) (by omega)
  have z2 := zabs_le (a := (b : Int) - S) (B := 3) (by omega)
  unfold stc
  omega
abbrev ST : Type := Int × Nat × Nat
def inS (d : Nat → Int) (S f : Nat) (X : ST) (i : Nat) : Nat → ST
  | 0 => X
  | j + 1 => if stc d S f i j < (inS d S f X i j).1 then (stc d S f i j, i, j) else inS d S f X i j
def outS (d : Nat → Int) (S f : Nat) : Nat → ST
  | 0 => (stc d S f 0 0, 0, 0)
  | i + 1 => inS d S f (outS d S f i) i (2 * S + 1)
/-- what a state of the search is: a start and its cost -/
abbrev okS (d : Nat → Int) (S f : Nat) (X : ST) : Prop := X.1 = stc d S f X.2.1 X.2.2 ∧ X.2.1 ≤ 2 * S ∧ X.2.2 ≤ 2 * S
theorem inS_ok {d : Nat → Int} {S f i : Nat} {X : ST} (h : okS d S f X) (hi : i ≤ 2 * S) : ∀ j, j ≤ 2 * S + 1 → okS d S f (inS d S f X i j)
  | 0, _ => h
  | j + 1, hj => by
    have ih := inS_ok h hi j (by omega)
    unfold inS
    split
    · exact ⟨rfl, hi, by show j ≤ _; omega⟩
    · exact ih
theorem outS_ok {d : Nat → Int} {S f : Nat} : ∀ i, i ≤ 2 * S + 1 → okS d S f (outS d S f i)
  | 0, _ => ⟨rfl, Nat.zero_le _, Nat.zero_le _⟩
  | i + 1, hi => inS_ok (outS_ok i (by omega)) (by omega) _ (Nat.le_refl _)
theorem inS_le {d : Nat → Int} {S f i : Nat} {X : ST} : ∀ j, (inS d S f X i j).1 ≤ X.1 ∧ ∀ b, b < j → (inS d S f X i j).1 ≤ stc d S f i b
  | 0 => ⟨Int.le_refl _, fun b hb => absurd hb (by omega)⟩
  | j + 1 => by
    have ih := inS_le (d := d) (S := S) (f := f) (i := i) (X := X) j
    unfold inS
    by_cases hc : stc d S f i j < (inS d S f X i j).1
    · rw [if_pos hc]
      refine ⟨by show stc d S f i j ≤ _; omega, fun b hb => ?_⟩
      show stc d S f i j ≤ _
      by_cases e : b = j
      · rw [e]; exact Int.le_refl _
      · have := ih.2 b (by omega); omega
    · rw [if_neg hc]
      refine ⟨ih.1, fun b hb => ?_⟩
      by_cases e : b = j
      · rw [e]; omega
      · exact ih.2 b (by omega)
theorem outS_le {d : Nat → Int} {S f : Nat} : ∀ i a b, a < i → b ≤ 2 * S → (outS d S f i).1 ≤ stc d S f a b
  | 0, a, b, h, _ => absurd h (by omega)
  | i + 1, a, b, h, hb => by
    have ih := outS_le (d := d) (S := S) (f := f) i
    have hi := inS_le (d := d) (S := S) (f := f) (i := i) (X := outS d S f i) (2 * S + 1)
    show (inS d S f (outS d S f i) i (2 * S + 1)).1 ≤ _
    by_cases e : a = i
    · rw [e]; exact hi.2 b (by omega)
    · have := ih a b (by omega) hb
      omega
/-- the best start -/
def bst (d : Nat → Int) (S f : Nat) : ST := outS d S f (2 * S + 1)
theorem bst_ok {d : Nat → Int} {S f : Nat} : okS d S f (bst d S f) := outS_ok _ (Nat.le_refl _)
/-- two frames alone: the drifts themselves -/
theorem bst_2 {d : Nat → Int} {S : Nat} : (bst d S 2).1 = 0 ∧ (bst d S 2).2.1 = S ∧ (bst d S 2).2.2 = S := by
  have h1 := outS_le (d := d) (S := S) (f := 2) (2 * S + 1) S S (by omega) (by omega)
  obtain ⟨e, -, -⟩ := bst_ok (d := d) (S := S) (f := 2)
  have e0 : stc d S 2 S S = 0 := by
    unfold stc zabs
    rw [if_pos (by omega)]
    show ((S : Int) - S) + ((S : Int) - S) + 0 = 0
    omega
  change (bst d S 2).1 ≤ _ at h1
  rw [e0] at h1
  have e2 : stc d S 2 (bst d S 2).2.1 (bst d S 2).2.2 = zabs (((bst d S 2).2.1 : Int) - S) + zabs (((bst d S 2).2.2 : Int) - S) + 0 := rfl
  rw [e2] at e
  unfold zabs at e
  split at e <;> split at e <;> omega
/-- the choices, two by two -/
def chp (d : Nat → Int) (S f : Nat) : Nat → Nat × Nat
  | 0 => (bst d S f).2
  | k + 1 => ((chp d S f k).2, amS (thr d S f k (chp d S f k).1 (chp d S f k).2) (2 * S))
theorem chp_le {d : Nat → Int} {S f : Nat} : ∀ k, (chp d S f k).1 ≤ 2 * S ∧ (chp d S f k).2 ≤ 2 * S
  | 0 => bst_ok.2
  | k + 1 => ⟨(chp_le k).2, amS_le _ _⟩
def chc (d : Nat → Int) (S f k : Nat) : Nat := (chp d S f k).1
theorem chp_1 {d : Nat → Int} {S f k : Nat} : (chp d S f k).2 = chc d S f (k + 1) := rfl
/-- the path -/
def pth (d : Nat → Int) (S f k : Nat) : Int := if f < 2 then d k else spt d S k (chc d S f k)
theorem pth_2 {d : Nat → Int} {S k : Nat} (hk : k < 2) : pth d S 2 k = d k := by
  unfold pth spt chc
  rw [if_neg (by omega)]
  have b := bst_2 (d := d) (S := S)
  have hh : k = 0 ∨ k = 1 := by omega
  rcases hh with rfl | rfl
  · show d 0 + ((bst d S 2).2.1 : Int) - S = d 0
    rw [b.2.1]; omega
  · show d 1 + ((bst d S 2).2.2 : Int) - S = d 1
    rw [b.2.2]; omega
/-- bends and strays of the path -/
def bdv (d : Nat → Int) (S f k : Nat) : Int := zabs (pth d S f (k + 2) - 2 * pth d S f (k + 1) + pth d S f k)
def bdS (d : Nat → Int) (S f : Nat) : Nat → Int := sm (bdv d S f)
def stS (d : Nat → Int) (S f : Nat) : Nat → Int := sm (fun k => zabs (pth d S f k - d k))
theorem tele {d : Nat → Int} {S f : Nat} (h2 : 2 ≤ f) : ∀ k, k + 2 ≤ f → (bst d S f).1 = 100 * bdS d S f k + stS d S f (k + 2) + Tm d S f (f - 2 - k) (chc d S f k) (chc d S f (k + 1))
  | 0, _ => by
    have e := (bst_ok (d := d) (S := S) (f := f)).1
    rw [e]
    show zabs (((bst d S f).2.1 : Int) - S) + zabs (((bst d S f).2.2 : Int) - S) + Tm d S f (f - 2) (bst d S f).2.1 (bst d S f).2.2 = 100 * 0 + (0 + zabs (pth d S f 0 - d 0) + zabs (pth d S f 1 - d 1)) + Tm d S f (f - 2 - 0) (bst d S f).2.1 (bst d S f).2.2
    unfold pth
    rw [if_neg (by omega), if_neg (by omega)]
    unfold spt
    rw [show d 0 + (chc d S f 0 : Int) - S - d 0 = ((bst d S f).2.1 : Int) - S by show d 0 + ((bst d S f).2.1 : Int) - S - d 0 = _; omega, show d 1 + (chc d S f 1 : Int) - S - d 1 = ((bst d S f).2.2 : Int) - S by show d 1 + ((bst d S f).2.2 : Int) - S - d 1 = _; omega, Nat.sub_zero]
    omega
  | k + 1, hk => by
    have ih := tele (d := d) (S := S) (f := f) h2 k (by omega)
    rw [Tm_s (by omega), ← amS_mn] at ih
    have ec : amS (thr d S f k (chc d S f k) (chc d S f (k + 1))) (2 * S) = chc d S f (k + 2) := rfl
    rw [ec] at ih
    unfold thr ctv at ih
    show (bst d S f).1 = 100 * (bdS d S f k + bdv d S f k) + (stS d S f (k + 2) + zabs (pth d S f (k + 2) - d (k + 2))) + Tm d S f (f - 2 - (k + 1)) (chc d S f (k + 1)) (chc d S f (k + 2))
    rw [show f - 2 - (k + 1) = f - 3 - k by omega]
    unfold bdv
    have p : ∀ j, pth d S f j = spt d S j (chc d S f j) := fun j => by unfold pth; rw [if_neg (by omega)]
    rw [p, p, p]
    have q : spt d S (k + 2) (chc d S f (k + 2)) - d (k + 2) = (chc d S f (k + 2) : Int) - S := by unfold spt; omega
    rw [q]
    omega
theorem stS_bd {d : Nat → Int} {S f : Nat} (hS : S ≤ 3) (n : Nat) : 0 ≤ stS d S f n ∧ stS d S f n ≤ 3 * n := by
  have := sm_bd (f := fun k => zabs (pth d S f k - d k)) (a := 0) (b := 3) n (fun k _ => by
    refine zabs_le ?_
    unfold pth
    split
    · omega
    · have := (chp_le (d := d) (S := S) (f := f) k).1
      unfold spt chc
      omega)
  unfold stS
  omega
theorem bdS_0 {d : Nat → Int} {S f : Nat} (n : Nat) : 0 ≤ bdS d S f n := by
  have : ∀ n, 0 ≤ bdS d S f n := by
    intro n
    induction n with
    | zero => exact Int.le_refl _
    | succ n ih =>
      show 0 ≤ bdS d S f n + bdv d S f n
      have : 0 ≤ bdv d S f n := by unfold bdv zabs; split <;> omega
      omega
  exact this n
theorem bst_e {d : Nat → Int} {S f : Nat} (h2 : 2 ≤ f) : (bst d S f).1 = 100 * bdS d S f (f - 2) + stS d S f f := by
  have := tele (d := d) (S := S) (f := f) h2 (f - 2) (by omega)
  rw [Tm_0 (by omega), show f - 2 + 2 = f by omega] at this
  omega
