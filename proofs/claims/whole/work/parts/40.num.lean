/-! ===== whole numbers behind the machine's ints ===== -/
def iI (z : Int) : Int32 := Int32.ofInt z
abbrev rg (z : Int) : Prop := -2147483648 ≤ z ∧ z < 2147483648
theorem iI_add (a b : Int) : iI a + iI b = iI (a + b) := (Int32.ofInt_add a b).symm
theorem iI_sub (a b : Int) : iI a - iI b = iI (a - b) := (Int32.ofInt_sub a b).symm
theorem iI_mul (a b : Int) : iI a * iI b = iI (a * b) := (Int32.ofInt_mul a b).symm
theorem iI_neg (a : Int) : - iI a = iI (- a) := (Int32.ofInt_neg a).symm
theorem iI_toInt {z : Int} (h : rg z) : (iI z).toInt = z := Int32.toInt_ofInt_of_le (by have := h.1; omega) (by have := h.2; omega)
theorem iI_of (x : Int32) : ∃ z : Int, rg z ∧ x = iI z := ⟨x.toInt, ⟨by have := Int32.le_toInt x; omega, by have := Int32.toInt_lt x; omega⟩, (Int32.ofInt_toInt x).symm⟩
theorem iI_lt {a b : Int} (ha : rg a) (hb : rg b) : iI a < iI b ↔ a < b := by rw [Int32.lt_iff_toInt_lt, iI_toInt ha, iI_toInt hb]
theorem iI_le {a b : Int} (ha : rg a) (hb : rg b) : iI a ≤ iI b ↔ a ≤ b := by rw [Int32.le_iff_toInt_le, iI_toInt ha, iI_toInt hb]
theorem iI_eq {a b : Int} (ha : rg a) (hb : rg b) : iI a = iI b ↔ a = b := by rw [← Int32.toInt_inj, iI_toInt ha, iI_toInt hb]
theorem iI_clamp {z : Int} (h : rg z) : (iI z).toNatClampNeg = z.toNat := by
  show (iI z).toInt.toNat = _
  rw [iI_toInt h]
theorem iI_in {z : Int} {n : Nat} (h : rg z) : vp_in (iI z) n ↔ 0 ≤ z ∧ z < n := by rw [vp_in_iff, iI_toInt h]
theorem iI_tdiv {a b : Int} (ha : rg a) (hb : rg b) (h : ¬ (a = -2147483648 ∧ b = -1)) : iI a / iI b = iI (a.tdiv b) := by
  refine (Int32.ofInt_tdiv ?_ ?_ ?_ ?_).symm
  · show (-2147483648 : Int) ≤ a; exact ha.1
  · show a ≤ (2147483647 : Int); have := ha.2; omega
  · show (-2147483648 : Int) ≤ b; exact hb.1
  · show b ≤ (2147483647 : Int); have := hb.2; omega
theorem iI_div {a b : Int} (ha : 0 ≤ a ∧ a < 2147483648) (hb : 0 < b ∧ b < 2147483648) : iI a / iI b = iI (a / b) := by
  rw [iI_tdiv ⟨by omega, ha.2⟩ ⟨by omega, hb.2⟩ (by omega), Int.tdiv_eq_ediv_of_nonneg ha.1]
theorem iI_rem {a b : Int} (ha : 0 ≤ a ∧ a < 2147483648) (hb : 0 < b ∧ b < 2147483648) : iI a - iI a / iI b * iI b = iI (a % b) := by
  rw [iI_div ha hb, iI_mul, iI_sub]
  congr 1
  have := Int.emod_add_mul_ediv a b
  rw [Int.mul_comm] at this
  omega
theorem iI_s (k : Nat) : iI (k : Int) + 1 = iI ((k + 1 : Nat) : Int) := iI_add k 1
theorem l0 : (0 : Int32) = iI 0 := rfl
theorem l1 : (1 : Int32) = iI 1 := rfl
theorem l2 : (2 : Int32) = iI 2 := rfl
theorem l3 : (3 : Int32) = iI 3 := rfl
theorem l4 : (4 : Int32) = iI 4 := rfl
theorem l5 : (5 : Int32) = iI 5 := rfl
theorem l6 : (6 : Int32) = iI 6 := rfl
theorem l7 : (7 : Int32) = iI 7 := rfl
theorem l10 : (10 : Int32) = iI 10 := rfl
theorem l12 : (12 : Int32) = iI 12 := rfl
theorem l36 : (36 : Int32) = iI 36 := rfl
theorem l49 : (49 : Int32) = iI 49 := rfl
theorem l63 : (63 : Int32) = iI 63 := rfl
theorem l64 : (64 : Int32) = iI 64 := rfl
theorem l100 : (100 : Int32) = iI 100 := rfl
theorem l127 : (127 : Int32) = iI 127 := rfl
theorem l360 : (360 : Int32) = iI 360 := rfl
theorem l1000 : (1000 : Int32) = iI 1000 := rfl
theorem lm1 : (-1 : Int32) = iI (-1) := rfl
theorem lm2 : (-2 : Int32) = iI (-2) := rfl
theorem lm3 : (-3 : Int32) = iI (-3) := rfl
theorem lm63 : (-63 : Int32) = iI (-63) := rfl
theorem lm1000 : (-1000 : Int32) = iI (-1000) := rfl
def zabs (a : Int) : Int := if 0 ≤ a then a else - a
theorem iI_abs {a : Int} (h : rg a) : jabs (iI a) = iI (zabs a) := by
  unfold jabs zabs
  by_cases h0 : 0 ≤ a
  · rw [if_pos h0, if_pos (by rw [l0, iI_le (by omega) h]; exact h0)]
  · rw [if_neg h0, if_neg (by rw [l0, iI_le (by omega) h]; exact h0), l0, iI_sub]
    congr 1; omega
def zmax (a b : Int) : Int := if a < b then b else a
def zmin (a b : Int) : Int := if b < a then b else a
theorem iI_max {a b : Int} (ha : rg a) (hb : rg b) : jmax (iI a) (iI b) = iI (zmax a b) := by
  unfold jmax zmax
  by_cases h0 : a < b
  · rw [if_pos h0, if_pos ((iI_lt ha hb).mpr h0)]
  · rw [if_neg h0, if_neg (fun h => h0 ((iI_lt ha hb).mp h))]
theorem iI_min {a b : Int} (ha : rg a) (hb : rg b) : jmin (iI a) (iI b) = iI (zmin a b) := by
  unfold jmin zmin
  by_cases h0 : b < a
  · rw [if_pos h0, if_pos ((iI_lt hb ha).mpr h0)]
  · rw [if_neg h0, if_neg (fun h => h0 ((iI_lt hb ha).mp h))]
/-- a branch whose way is known -/
theorem b_t {c A B : Prop} (h : c) (a : A) : (c → A) ∧ (¬ c → B) := ⟨fun _ => a, fun n => absurd h n⟩
theorem b_f {c A B : Prop} (h : ¬ c) (b : B) : (c → A) ∧ (¬ c → B) := ⟨fun n => absurd n h, fun _ => b⟩
theorem b_c {c A B : Prop} (a : c → A) (b : ¬ c → B) : (c → A) ∧ (¬ c → B) := ⟨a, b⟩
theorem b0 {A B : Prop} (a : A) : ((0 : Int32) = 0 → A) ∧ (¬ (0 : Int32) = 0 → B) := b_t rfl a
theorem b1 {A B : Prop} (b : B) : ((1 : Int32) = 0 → A) ∧ (¬ (1 : Int32) = 0 → B) := b_f (by decide) b
theorem b1' {A B : Prop} (b : B) : ((1 : Int32) = 0 → A) ∧ (¬ (1 : Int32) = 0 → B) := b1 b
theorem isB0 : isB 0 := rfl
theorem isB1 : isB 1 := rfl
/-- a comparison of ints, told of whole numbers -/
theorem b_lt {a b : Int} {A B : Prop} (ha : rg a) (hb : rg b) (f : a < b → A) (g : ¬ a < b → B) : (iI a < iI b → A) ∧ (¬ iI a < iI b → B) := by rw [iI_lt ha hb]; exact ⟨f, g⟩
theorem b_le {a b : Int} {A B : Prop} (ha : rg a) (hb : rg b) (f : a ≤ b → A) (g : ¬ a ≤ b → B) : (iI a ≤ iI b → A) ∧ (¬ iI a ≤ iI b → B) := by rw [iI_le ha hb]; exact ⟨f, g⟩
theorem b_eq {a b : Int} {A B : Prop} (ha : rg a) (hb : rg b) (f : a = b → A) (g : ¬ a = b → B) : (iI a = iI b → A) ∧ (¬ iI a = iI b → B) := by rw [iI_eq ha hb]; exact ⟨f, g⟩
theorem b_in {z : Int} {n : Nat} {B : Prop} (h : rg z) (h0 : 0 ≤ z) (h1 : z < n) (b : B) : vp_in (iI z) n ∧ B := ⟨(iI_in h).mpr ⟨h0, h1⟩, b⟩
/-- states -/
theorem si_same {u : US} {k : Nat} {v : Int32} : (si u k v).1 k = v := if_pos rfl
theorem si_other {u : US} {k j : Nat} {v : Int32} (h : j ≠ k) : (si u k v).1 j = u.1 j := if_neg h
theorem si_2 {u : US} {k : Nat} {v : Int32} : (si u k v).2 = u.2 := rfl
theorem sA_1 {u : US} {k : Nat} {f : Nat → Int32} : (sA u k f).1 = u.1 := rfl
theorem sA_same {u : US} {k : Nat} {f : Nat → Int32} : (sA u k f).2 k = f := if_pos rfl
theorem sA_other {u : US} {k j : Nat} {f : Nat → Int32} (h : j ≠ k) : (sA u k f).2 j = u.2 j := if_neg h
theorem sA_sA {u : US} {k : Nat} {f g : Nat → Int32} : sA (sA u k f) k g = sA u k g := by
  unfold sA
  congr 1
  funext j
  by_cases h : j = k <;> simp [h]
theorem sA_congr {u : US} {k : Nat} {f g : Nat → Int32} (h : ∀ j, f j = g j) : sA u k f = sA u k g := by rw [funext h]
theorem upd_s {f : Nat → Int32} {k : Nat} {x : Int32} : upd f k x k = x := if_pos rfl
theorem upd_n {f : Nat → Int32} {k j : Nat} {x : Int32} (h : j ≠ k) : upd f k x j = f j := if_neg h
/-- sums -/
def sm (f : Nat → Int) : Nat → Int
  | 0 => 0
  | n + 1 => sm f n + f n
theorem sm_congr {f g : Nat → Int} : ∀ n, (∀ k, k < n → f k = g k) → sm f n = sm g n
  | 0, _ => rfl
  | n + 1, h => by
    show sm f n + f n = sm g n + g n
    rw [sm_congr n (fun k hk => h k (by omega)), h n (by omega)]
theorem sm_bd {f : Nat → Int} {a b : Int} : ∀ n : Nat, (∀ k, k < n → a ≤ f k ∧ f k ≤ b) → a * n ≤ sm f n ∧ sm f n ≤ b * n
  | 0, _ => by simp [sm]
  | n + 1, h => by
    have h1 := sm_bd n (fun k hk => h k (by omega))
    have h2 := h n (by omega)
    have e1 : a * ((n + 1 : Nat) : Int) = a * n + a := by rw [Int.natCast_succ, Int.mul_add, Int.mul_one]
    have e2 : b * ((n + 1 : Nat) : Int) = b * n + b := by rw [Int.natCast_succ, Int.mul_add, Int.mul_one]
    rw [e1, e2]
    show _ ≤ sm f n + f n ∧ sm f n + f n ≤ _
    omega
theorem sm_01 {f : Nat → Int} (n : Nat) (h : ∀ k, k < n → 0 ≤ f k ∧ f k ≤ 1) : 0 ≤ sm f n ∧ sm f n ≤ n := by
  have := sm_bd (a := 0) (b := 1) n h
  omega
theorem sm_0 {f : Nat → Int} : sm f 0 = 0 := rfl
theorem sm_s {f : Nat → Int} {n : Nat} : sm f (n + 1) = sm f n + f n := rfl
def c01 (p : Prop) [Decidable p] : Int := if p then 1 else 0
theorem c01_t {p : Prop} [Decidable p] (h : p) : c01 p = 1 := if_pos h
theorem c01_f {p : Prop} [Decidable p] (h : ¬ p) : c01 p = 0 := if_neg h
theorem c01_bd (p : Prop) [Decidable p] : 0 ≤ c01 p ∧ c01 p ≤ 1 := by
  unfold c01
  split <;> omega
/-- a place of a frame -/
theorem pl_lt {h w y x : Nat} (hy : y < h) (hx : x < w) : y * w + x < h * w := by
  have : (y + 1) * w ≤ h * w := Nat.mul_le_mul_right w hy
  rw [Nat.add_mul, Nat.one_mul] at this
  omega
theorem hw_bd {h w : Nat} (a : 2 ≤ h ∧ h ≤ 6) (b : 2 ≤ w ∧ w ≤ 6) : 4 ≤ h * w ∧ h * w ≤ 36 := by
  obtain ⟨a1, a2⟩ := a
  obtain ⟨b1, b2⟩ := b
  exact ⟨Nat.mul_le_mul a1 b1, Nat.mul_le_mul a2 b2⟩
