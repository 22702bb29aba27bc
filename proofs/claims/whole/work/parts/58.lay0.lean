/-! ===== layers: numbers alone ===== -/
def nb (f : Nat) (g : Nat → Nat → Int) (i : Int) (k : Nat) : Int := if 0 ≤ i ∧ i < f then g i.toNat k else -1
abbrev dustP (f : Nat) (g : Nat → Nat → Int) (D E : Int) (a k : Nat) (v : Int) : Prop := ¬ v = -1 ∧ ¬ nb f g ((a : Int) - 1) k = -1 ∧ ¬ nb f g ((a : Int) + 1) k = -1 ∧ zabs (nb f g ((a : Int) - 1) k - nb f g ((a : Int) + 1) k) ≤ D ∧ E < zabs (v - nb f g ((a : Int) - 1) k) ∧ E < zabs (v - nb f g ((a : Int) + 1) k)
def clnV (f : Nat) (g : Nat → Nat → Int) (D E : Int) (a k : Nat) (v : Int) : Int := if dustP f g D E a k v then (nb f g ((a : Int) - 1) k + nb f g ((a : Int) + 1) k) / 2 else v
def filV (f : Nat) (g : Nat → Nat → Int) (a k : Nat) (v : Int) : Int := if v = -1 then (if nb f g ((a : Int) - 1) k = -1 then nb f g ((a : Int) + 1) k else nb f g ((a : Int) - 1) k) else v
def movV (h w : Nat) (A B : Int) (c : Nat → Int) (k : Nat) : Int := if 0 ≤ ((k / w : Nat) : Int) - B ∧ ((k / w : Nat) : Int) - B < h ∧ 0 ≤ ((k % w : Nat) : Int) - A ∧ ((k % w : Nat) : Int) - A < w then c ((((k / w : Nat) : Int) - B).toNat * w + (((k % w : Nat) : Int) - A).toNat) else -1
def nz (c : Nat → Int) : Nat → Int := sm (fun k => c01 (¬ c k = -1))
def dkc (c : Nat → Int) (v : Int) : Nat → Int := sm (fun k => c01 (¬ c k = -1 ∧ c k < v))
def alc (c : Nat → Int) (v : Int) : Nat → Int := sm (fun k => c01 (c k = v))
/-- the first grey at which more than i are as dark -/
def fdv (gr : Nat → Int) (N : Nat) (i : Int) : Nat → Nat → Nat
  | 0, v => v
  | n + 1, v => if i < dkc gr ((v : Int) + 1) N then v else fdv gr N i n (v + 1)
def kthV (gr : Nat → Int) (N : Nat) (i : Int) : Int := (fdv gr N i 64 0 : Nat)
def isK (gr : Nat → Int) (N : Nat) (i v : Int) : Prop := 0 ≤ v ∧ v ≤ 63 ∧ dkc gr v N ≤ i ∧ i < dkc gr (v + 1) N
def rnk (N : Nat) (gr c : Nat → Int) (v : Int) : Int := (2 * dkc c v N + alc c v N - 1) / 2 * nz gr N / nz c N
def mtV (N : Nat) (gr c : Nat → Int) (v : Int) : Int := if v = -1 ∨ nz gr N = 0 then v else kthV gr N (rnk N gr c v)
def apL (h w f : Nat) (g : Nat → Nat → Int) (D E : Int) (K A B : Int) (a : Nat) (c : Nat → Int) (k : Nat) : Int :=
  if K = 0 then clnV f g D E a k (c k) else if K = 1 then mtV (h * w) (g A.toNat) c (c k) else if K = 2 then filV f g a k (c k) else movV h w A B c k
def cuL (h w f : Nat) (g : Nat → Nat → Int) (D E : Int) (K O A B N : Nat → Int) (a : Nat) : Nat → Nat → Int
  | 0 => g a
  | i + 1 => if O i = a ∧ ¬ N i = 0 then apL h w f g D E (K i) (A i) (B i) a (cuL h w f g D E K O A B N a i) else cuL h w f g D E K O A B N a i
theorem dkc_mono {gr : Nat → Int} {v v' : Int} (h : v ≤ v') : ∀ N, dkc gr v N ≤ dkc gr v' N
  | 0 => Int.le_refl _
  | n + 1 => by
    have := dkc_mono (gr := gr) h n
    show dkc gr v n + c01 _ ≤ dkc gr v' n + c01 _
    unfold c01
    split <;> split <;> omega
theorem fdv_e {gr : Nat → Int} {N : Nat} {i : Int} {v : Nat} (h1 : dkc gr v N ≤ i) (h2 : i < dkc gr ((v : Int) + 1) N) : ∀ (n s : Nat), s ≤ v → v < s + n → fdv gr N i n s = v
  | 0, s, a, b => absurd a (by omega)
  | n + 1, s, a, b => by
    unfold fdv
    by_cases e : s = v
    · rw [e, if_pos h2]
    · have := dkc_mono (gr := gr) (v := (s : Int) + 1) (v' := v) (by omega) N
      rw [if_neg (by omega)]
      exact fdv_e h1 h2 n (s + 1) (by omega) (by omega)
theorem kthV_e {gr : Nat → Int} {N : Nat} {i v : Int} (h : isK gr N i v) : kthV gr N i = v := by
  obtain ⟨h0, h1, h2, h3⟩ := h
  obtain ⟨n, rfl⟩ := Int.eq_ofNat_of_zero_le h0
  unfold kthV
  rw [fdv_e h2 h3 64 0 (by omega) (by omega)]
theorem nz_bd (c : Nat → Int) (n : Nat) : 0 ≤ nz c n ∧ nz c n ≤ n := sm_01 n (fun _ _ => c01_bd _)
theorem dkc_bd (c : Nat → Int) (v : Int) (n : Nat) : 0 ≤ dkc c v n ∧ dkc c v n ≤ n := sm_01 n (fun _ _ => c01_bd _)
theorem alc_bd (c : Nat → Int) (v : Int) (n : Nat) : 0 ≤ alc c v n ∧ alc c v n ≤ n := sm_01 n (fun _ _ => c01_bd _)
theorem dk_al {c : Nat → Int} {v : Int} (hv : ¬ v = -1) : ∀ n, dkc c v n + alc c v n ≤ nz c n
  | 0 => Int.le_refl _
  | n + 1 => by
    have := dk_al (c := c) hv n
    show dkc c v n + c01 _ + (alc c v n + c01 _) ≤ nz c n + c01 _
    unfold c01
    split <;> split <;> split <;> omega
theorem al_pos {c : Nat → Int} {v : Int} {k : Nat} (e : c k = v) : ∀ n, k < n → 1 ≤ alc c v n
  | 0, h => absurd h (by omega)
  | n + 1, h => by
    show 1 ≤ alc c v n + c01 _
    have b := alc_bd c v n
    by_cases e2 : k = n
    · rw [c01_t (by rw [← e2]; exact e)]; omega
    · have := al_pos e n (by omega)
      have := c01_bd (c n = v)
      omega
/-- the place that is looked at is one of the model's -/
theorem rnk_bd {N : Nat} {gr c : Nat → Int} {k : Nat} (hN : N ≤ 36) (hk : k < N) (hv : ¬ c k = -1) (hm : 0 < nz gr N) : (0 ≤ (2 * dkc c (c k) N + alc c (c k) N - 1) / 2 ∧ (2 * dkc c (c k) N + alc c (c k) N - 1) / 2 < nz c N) ∧ 0 < nz c N ∧ 0 ≤ rnk N gr c (c k) ∧ rnk N gr c (c k) < nz gr N := by
  have h1 := dk_al (c := c) hv N
  have h2 := al_pos (c := c) rfl N hk
  have h3 := dkc_bd c (c k) N
  have h4 := nz_bd c N
  have q : 0 ≤ (2 * dkc c (c k) N + alc c (c k) N - 1) / 2 ∧ (2 * dkc c (c k) N + alc c (c k) N - 1) / 2 < nz c N := by omega
  refine ⟨q, by omega, ?_, ?_⟩
  · unfold rnk
    exact Int.ediv_nonneg (Int.mul_nonneg q.1 (by omega)) (by omega)
  · unfold rnk
    refine Int.ediv_lt_of_lt_mul (by omega) ?_
    rw [Int.mul_comm (nz gr N)]
    exact Int.mul_lt_mul_of_pos_right q.2 hm
theorem dkc_64 {gr : Nat → Int} {v : Int} (hv : 64 ≤ v) : ∀ N, (∀ k, k < N → gr k ≤ 63) → dkc gr v N = nz gr N
  | 0, _ => rfl
  | n + 1, h => by
    show dkc gr v n + c01 _ = nz gr n + c01 _
    rw [dkc_64 hv n (fun k hk => h k (by omega))]
    have := h n (by omega)
    unfold c01
    split <;> split <;> omega
theorem dkc_0 {gr : Nat → Int} : ∀ N, (∀ k, k < N → -1 ≤ gr k) → dkc gr 0 N = 0
  | 0, _ => rfl
  | n + 1, h => by
    show dkc gr 0 n + c01 _ = 0
    rw [dkc_0 n (fun k hk => h k (by omega))]
    have := h n (by omega)
    unfold c01
    split <;> omega
theorem dkc_s {gr : Nat → Int} {v : Int} (hv : 0 ≤ v) : ∀ N, dkc gr (v + 1) N = dkc gr v N + alc gr v N
  | 0 => rfl
  | n + 1 => by
    show dkc gr (v + 1) n + c01 _ = dkc gr v n + c01 _ + (alc gr v n + c01 _)
    rw [dkc_s hv n]
    unfold c01
    split <;> split <;> split <;> omega
/-- the search always ends at one -/
theorem fdv_k {gr : Nat → Int} {N : Nat} {i : Int} (h64 : i < dkc gr 64 N) : ∀ (n s : Nat), s + n = 64 → dkc gr s N ≤ i → isK gr N i (fdv gr N i n s : Nat)
  | 0, s, h, h0 => by
    rw [show s = 64 by omega] at h0
    exact absurd h64 (by show ¬ i < dkc gr ((64 : Nat) : Int) N; omega)
  | n + 1, s, h, h0 => by
    unfold fdv
    by_cases e : i < dkc gr ((s : Int) + 1) N
    · rw [if_pos e]; exact ⟨by omega, by omega, h0, e⟩
    · rw [if_neg e]
      exact fdv_k h64 n (s + 1) (by omega) (by rw [Int.natCast_succ]; omega)
theorem kthV_k {gr : Nat → Int} {N : Nat} {i : Int} (hr : gR N gr) (h0 : 0 ≤ i) (h1 : i < nz gr N) : isK gr N i (kthV gr N i) := by
  refine fdv_k ?_ 64 0 (by omega) ?_
  · rw [dkc_64 (by omega) N (fun k hk => (hr k hk).2)]; exact h1
  · show dkc gr 0 N ≤ i
    rw [dkc_0 N (fun k hk => (hr k hk).1)]; exact h0
section AP
variable {h w f : Nat} {g : Nat → Nat → Int} {D E : Int}
theorem nb_bd {G : Nat → Int32} {n : Nat} (hG : CG G n f g) {i : Int} {k : Nat} (hk : k < n) : -1 ≤ nb f g i k ∧ nb f g i k ≤ 63 := by
  unfold nb
  split
  · exact (hG _ _ (by omega) hk).2
  · omega
theorem clnV_bd {G : Nat → Int32} {n : Nat} (hG : CG G n f g) {a k : Nat} {v : Int} (hk : k < n) (hv : -1 ≤ v ∧ v ≤ 63) : -1 ≤ clnV f g D E a k v ∧ clnV f g D E a k v ≤ 63 := by
  have n1 := nb_bd hG (i := (a : Int) - 1) hk
  have n2 := nb_bd hG (i := (a : Int) + 1) hk
  unfold clnV
  split
  · omega
  · exact hv
theorem filV_bd {G : Nat → Int32} {n : Nat} (hG : CG G n f g) {a k : Nat} {v : Int} (hk : k < n) (hv : -1 ≤ v ∧ v ≤ 63) : -1 ≤ filV f g a k v ∧ filV f g a k v ≤ 63 := by
  have n1 := nb_bd hG (i := (a : Int) - 1) hk
  have n2 := nb_bd hG (i := (a : Int) + 1) hk
  unfold filV
  split
  · split <;> omega
  · exact hv
theorem mtV_bd {N : Nat} {gr c : Nat → Int} (hN : N ≤ 36) (hr : gR N gr) {k : Nat} (hk : k < N) (hc : -1 ≤ c k ∧ c k ≤ 63) : -1 ≤ mtV N gr c (c k) ∧ mtV N gr c (c k) ≤ 63 := by
  unfold mtV
  split
  · exact hc
  · rename_i hn
    have hm := nz_bd gr N
    have hp : 0 < nz gr N := by omega
    have q := rnk_bd (gr := gr) (c := c) hN hk (by omega) hp
    have := kthV_k hr q.2.2.1 q.2.2.2
    exact ⟨by have := this.1; omega, this.2.1⟩
theorem movV_bd (hw : 0 < w) {A B : Int} {c : Nat → Int} (hc : gR (h * w) c) (k : Nat) : -1 ≤ movV h w A B c k ∧ movV h w A B c k ≤ 63 := by
  unfold movV
  split
  · exact hc _ (pl_lt (by omega) (by omega))
  · omega
theorem apL_bd {G : Nat → Int32} (hh : 2 ≤ h ∧ h ≤ 6) (hw : 2 ≤ w ∧ w ≤ 6) (hG : CG G (h * w) f g) {K A B : Int} {a : Nat} (hK : K = 1 → 0 ≤ A ∧ A < f) {c : Nat → Int} (hc : gR (h * w) c) : gR (h * w) (apL h w f g D E K A B a c) := by
  intro k hk
  have hn := hw_bd hh hw
  unfold apL
  split
  · exact clnV_bd hG hk (hc k hk)
  · split
    · rename_i e
      exact mtV_bd hn.2 (hG.gR (a := A.toNat) (by have := hK e; omega)) hk (hc k hk)
    · split
      · exact filV_bd hG hk (hc k hk)
      · exact movV_bd (by omega) hc k
theorem cuL_bd {G : Nat → Int32} (hh : 2 ≤ h ∧ h ≤ 6) (hw : 2 ≤ w ∧ w ≤ 6) (hG : CG G (h * w) f g) {K O A B N : Nat → Int} {a L : Nat} (ha : a < f) (hK : ∀ i, i < L → K i = 1 → 0 ≤ A i ∧ A i < f) : ∀ i, i ≤ L → gR (h * w) (cuL h w f g D E K O A B N a i)
  | 0, _ => hG.gR ha
  | i + 1, hi => by
    have ih := cuL_bd (O := O) (B := B) (N := N) hh hw hG ha hK i (by omega)
    unfold cuL
    split
    · exact apL_bd hh hw hG (hK i (by omega)) ih
    · exact ih
end AP
