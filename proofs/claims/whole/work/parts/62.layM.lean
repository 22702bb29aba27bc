/-! ===== layers: the reference ===== -/
def MX (u : US) (h w f : Nat) (g : Nat → Nat → Int) (S D E : Int) : Prop := MD u h w f ∧ CG (u.2 3) (h * w) f g ∧ RR (u.2 10) S D E
theorem MX.sm {u u' : US} {h w f : Nat} {g : Nat → Nat → Int} {S D E : Int} (hX : MX u h w f g S D E) (s : SM u u') : MX u' h w f g S D E := ⟨hX.1.sm s, by rw [s.2 3 (by omega)]; exact hX.2.1, by rw [s.2 10 (by omega)]; exact hX.2.2⟩
theorem MX.hw {u : US} {h w f : Nat} {g : Nat → Nat → Int} {S D E : Int} (hX : MX u h w f g S D E) : u.1 0 * u.1 1 = iI (h * w : Nat) := by rw [show u.1 0 = iI h from hX.1.2.2.2.1, show u.1 1 = iI w from hX.1.2.2.2.2.1, iI_mul, Int.natCast_mul]
theorem ML.sm {u u' : US} {f L : Nat} {K O A B N : Nat → Int} (h : ML u f L K O A B N) (su : SM u u') : ML u' f L K O A B N := by
  unfold ML
  rw [su.1 4 (by omega), su.2 5 (by omega), su.2 6 (by omega), su.2 7 (by omega), su.2 8 (by omega), su.2 9 (by omega)]
  exact h
section LM0
variable {u u' : US} {h w f a : Nat} {g : Nat → Nat → Int} {S D E : Int} {post : Int32 → US → Prop} {postv : US → Prop} {b F : Nat → Int}
theorem m_cleaned (hX : MX u' h w f g S D E) {k : Nat} {v : Int} (ha : a < f) (hk : k < h * w) (hv : -1 ≤ v ∧ v ≤ 63) (h0 : ¬ dustP f g D E a k v → post (iI (-1)) u') (h1 : dustP f g D E a k v → post (iI ((nb f g ((a : Int) - 1) k + nb f g ((a : Int) + 1) k) / 2)) u') : wp_X6_cleaned (iI a) (iI k) (iI v) u' post := by
  have hf := hX.1.f
  have hn := hX.1.n
  have n1 := nb_bd hX.2.1 (i := (a : Int) - 1) hk
  have n2 := nb_bd hX.2.1 (i := (a : Int) + 1) hk
  obtain ⟨-, r1, r2, -, rd, re⟩ := hX.2.2
  unfold dustP at h0 h1
  have c116 : ∀ x y : Int32, ¬ dustP f g D E a k v → wp_X6_cleaned_116 post x y u' := by
    intro x y hd
    unfold wp_X6_cleaned_116 wp_X6_cleaned_117
    exact b0 (h0 hd)
  unfold wp_X6_cleaned
  rw [show u'.1 2 = iI f from hX.1.2.2.2.2.2, show iI (f : Int) - (1 : Int32) = iI ((f : Int) - 1) from iI_sub f 1, show iI (a : Int) - (1 : Int32) = iI ((a : Int) - 1) from iI_sub a 1, show iI (a : Int) + (1 : Int32) = iI ((a : Int) + 1) from iI_add a 1, lm1]
  refine b_eq (by omega) (by omega) (fun e => h0 (fun z => z.1 e)) (fun e1 => ?_)
  refine b_eq (b := 0) (by omega) (by omega) (fun e => h0 (fun z => z.2.1 (if_neg (by omega)))) (fun e2 => ?_)
  refine b_eq (by omega) (by omega) (fun e => h0 (fun z => z.2.2.1 (if_neg (by omega)))) (fun e3 => ?_)
  have g1 := hX.2.1 (a - 1) k (by omega) hk
  have g2 := hX.2.1 (a + 1) k (by omega) hk
  have q1 : nb f g ((a : Int) - 1) k = g (a - 1) k := by unfold nb; rw [if_pos (by omega)]; congr 1; omega
  have q2 : nb f g ((a : Int) + 1) k = g (a + 1) k := by unfold nb; rw [if_pos (by omega)]; rfl
  rw [l36, iI_mul, iI_mul, iI_add, iI_add]
  refine b_in (by omega) (by omega) (by omega) (b_in (by omega) (by omega) (by omega) ?_)
  rw [iI_clamp (by omega), iI_clamp (by omega), show ((36 : Int) * ((a : Int) - 1) + k).toNat = 36 * (a - 1) + k by omega, show ((36 : Int) * ((a : Int) + 1) + k).toNat = 36 * (a + 1) + k by omega, g1.1, g2.1, ← q1, ← q2]
  have z1 := zabs_le (a := nb f g ((a : Int) - 1) k - nb f g ((a : Int) + 1) k) (B := 64) (by omega)
  have z2 := zabs_le (a := v - nb f g ((a : Int) - 1) k) (B := 64) (by omega)
  have z3 := zabs_le (a := v - nb f g ((a : Int) + 1) k) (B := 64) (by omega)
  refine b_eq (by omega) (by omega) (fun e => c116 _ _ (fun z => z.2.1 e)) (fun e4 => ?_)
  refine b_eq (by omega) (by omega) (fun e => c116 _ _ (fun z => z.2.2.1 e)) (fun e5 => ?_)
  rw [iI_sub, iI_sub, iI_sub, show (1 : Int32).toNatClampNeg = 1 from rfl, show (2 : Int32).toNatClampNeg = 2 from rfl]
  refine m_size (by omega) ?_
  rw [r1]
  refine b_lt (by omega) (by omega) (fun e => c116 _ _ (fun z => by omega)) (fun e6 => m_size (by omega) ?_)
  rw [r2]
  refine b_le (by omega) (by omega) (fun e => c116 _ _ (fun z => by omega)) (fun e7 => m_size (by omega) ?_)
  rw [r2]
  refine b_le (by omega) (by omega) (fun e => c116 _ _ (fun z => by omega)) (fun e8 => ?_)
  unfold wp_X6_cleaned_117
  refine b1 ?_
  rw [iI_add, l2, iI_div (by omega) (by omega)]
  exact h1 ⟨e1, e4, e5, by omega, by omega, by omega⟩
theorem m_dust {z : Int} (hX : MX u h w f g S D E) (hz : rg z) (h0 : ¬ (0 ≤ z ∧ z < f) → post (iI (-1)) u) (h1 : ∀ i : Nat, z = i → i < f → post (iI (dstC f g D E i (h * w))) u) : wp_X6_dust (iI z) u post := by
  have hn := hX.1.n
  have hf := hX.1.f
  unfold wp_X6_dust
  refine m_isFrame hX.1 hz (fun _ => b0 (h0 (by omega))) (fun q1 q2 => b1 ?_)
  obtain ⟨i, rfl⟩ := Int.eq_ofNat_of_zero_le q1
  have hp := h1 i rfl (by omega)
  have key : ∀ (m k : Nat), k + m = h * w → wp_X6_dust_14 post (m + 1) (iI i) (iI (dstC f g D E i k)) (iI k) u := by
    intro m
    induction m with
    | zero =>
      intro k hk
      unfold wp_X6_dust_14
      rw [hX.hw]
      refine b_le (by omega) (by omega) (fun _ => ?_) (fun e => absurd (by omega) e)
      rw [show k = h * w by omega]; exact hp
    | succ m ih =>
      intro k hk
      have nx := ih (k + 1) (by omega)
      have hg := hX.2.1 i k (by omega) (by omega)
      have n1 := nb_bd hX.2.1 (i := (i : Int) - 1) (k := k) (by omega)
      have n2 := nb_bd hX.2.1 (i := (i : Int) + 1) (k := k) (by omega)
      rw [show dstC f g D E i (k + 1) = dstC f g D E i k + c01 (dustP f g D E i k (g i k)) from rfl] at nx
      unfold wp_X6_dust_14
      rw [hX.hw]
      refine b_le (by omega) (by omega) (fun e => absurd e (by omega)) (fun _ => ?_)
      rw [l36, iI_mul, iI_add]
      refine b_in (by omega) (by omega) (by omega) ?_
      rw [iI_clamp (by omega), show ((36 : Int) * i + k).toNat = 36 * i + k by omega, hg.1, iI_s]
      refine m_cleaned hX (by omega) (by omega) hg.2 (fun hd => ?_) (fun hd => ?_)
      · rw [c01_f hd] at nx
        refine b_t (by rw [l0, iI_lt (by omega) (by omega)]; omega) ?_
        rw [l0, iI_add]; exact nx
      · rw [c01_t hd] at nx
        unfold dustP at hd
        refine b_f (by rw [l0, iI_lt (by omega) (by omega)]; omega) ?_
        rw [l1, iI_add]; exact nx
  exact ⟨h * w + 1, key (h * w) 0 (by omega)⟩
theorem m_filled (hX : MX u' h w f g S D E) {i : Int} {k : Nat} (hi : rg i) (hk : k < h * w) (hp : post (iI (nb f g i k)) u') : wp_X6_filledFrom (iI i) (iI k) u' post := by
  have hf := hX.1.f
  have hn := hX.1.n
  unfold wp_X6_filledFrom
  rw [show u'.1 2 = iI f from hX.1.2.2.2.2.2]
  refine b_lt (b := 0) hi (by omega) (fun e => ?_) (fun e => b_lt hi (by omega) (fun e2 => ?_) (fun e2 => ?_))
  · rw [show nb f g i k = -1 from if_neg (by omega)] at hp; exact hp
  · obtain ⟨i', rfl⟩ := Int.eq_ofNat_of_zero_le (a := i) (by omega)
    rw [l36, iI_mul, iI_add]
    refine b_in (by omega) (by omega) (by omega) ?_
    rw [iI_clamp (by omega), show ((36 : Int) * i' + k).toNat = 36 * i' + k by omega, (hX.2.1 i' k (by omega) hk).1]
    rw [show nb f g (i' : Int) k = g i' k by unfold nb; rw [if_pos (by omega)]; rfl] at hp
    exact hp
  · rw [show nb f g i k = -1 from if_neg (by omega)] at hp; exact hp
theorem m_rising (hX : MX u' h w f g S D E) (ha : a < f) {i : Int} (h0 : 0 ≤ i) (hi : i < nz (g a) (h * w)) (hp : post (iI (kthV (g a) (h * w) i)) u') : wp_X6_rising (iI a) (iI i) u' post := by
  have hn := hX.1.n
  have hf := hX.1.f
  have bm := nz_bd (g a) (h * w)
  have gr := hX.2.1.gR ha
  have inner : ∀ (k5 : Int32 → Int32 → Int32 → US → Prop) (v : Nat), v < 64 → dkc (g a) v (h * w) ≤ i → (dkc (g a) (v + 1 : Nat) (h * w) ≤ i → k5 (iI a) (iI (i - dkc (g a) (v + 1 : Nat) (h * w))) (iI (v + 1 : Nat)) u') → ∀ (m k : Nat), k + m = h * w → dkc (g a) v (h * w) + alc (g a) v k ≤ i → wp_X6_rising_15 k5 post (m + 1) (iI a) (iI (i - dkc (g a) v (h * w) - alc (g a) v k)) (iI v) (iI k) u' := by
    intro k5 v hv hd hk5 m
    induction m with
    | zero =>
      intro k hk hle
      have ds := dkc_s (gr := g a) (v := (v : Int)) (by omega) (h * w)
      unfold wp_X6_rising_15
      rw [hX.hw]
      have hkn : k = h * w := by omega
      subst hkn
      refine b_le (by omega) (by omega) (fun _ => ?_) (fun e => absurd (by omega) e)
      have ev : dkc (g a) ((v + 1 : Nat) : Int) (h * w) = dkc (g a) v (h * w) + alc (g a) v (h * w) := by rw [Int.natCast_succ]; exact ds
      rw [iI_s, show i - dkc (g a) v (h * w) - alc (g a) v (h * w) = i - dkc (g a) ((v + 1 : Nat) : Int) (h * w) by omega]
      exact hk5 (by omega)
    | succ m ih =>
      intro k hk hle
      have hg := hX.2.1 a k ha (by omega)
      have b1' := dkc_bd (g a) v (h * w)
      have b2' := alc_bd (g a) v k
      have nx := ih (k + 1) (by omega)
      rw [show alc (g a) v (k + 1) = alc (g a) v k + c01 (g a k = v) from rfl] at nx
      unfold wp_X6_rising_15
      rw [hX.hw]
      refine b_le (by omega) (by omega) (fun e => absurd e (by omega)) (fun _ => ?_)
      rw [l36, iI_mul, iI_add]
      refine b_in (by omega) (by omega) (by omega) ?_
      rw [iI_clamp (by omega), show ((36 : Int) * a + k).toNat = 36 * a + k by omega, hg.1, iI_s k]
      refine b_eq (by omega) (by omega) (fun e => b_eq (b := 0) (by omega) (by omega) (fun e2 => ?_) (fun e2 => ?_)) (fun e => ?_)
      · have ds := dkc_s (gr := g a) (v := (v : Int)) (by omega) (h * w)
        have mono : alc (g a) v (k + 1) ≤ alc (g a) v (k + 1 + m) := by
          have : ∀ q, alc (g a) v (k + 1) ≤ alc (g a) v (k + 1 + q) := by
            intro q
            induction q with
            | zero => exact Int.le_refl _
            | succ q ihq =>
              show alc (g a) v (k + 1) ≤ alc (g a) v (k + 1 + q) + c01 (g a (k + 1 + q) = (v : Int))
              have := c01_bd (g a (k + 1 + q) = v)
              omega
          exact this m
        rw [show k + 1 + m = h * w by omega, show alc (g a) v (k + 1) = alc (g a) v k + c01 (g a k = v) from rfl, c01_t e] at mono
        rw [kthV_e (v := (v : Int)) ⟨by omega, by omega, hd, by omega⟩] at hp
        exact hp
      · rw [c01_t e] at nx
        rw [lm1, iI_add, show i - dkc (g a) v (h * w) - alc (g a) v k + -1 = i - dkc (g a) v (h * w) - (alc (g a) v k + 1) by omega]
        exact nx (by omega)
      · rw [c01_f e, Int.add_zero] at nx
        exact nx hle
  have key : ∀ (m v : Nat), v + m = 64 → dkc (g a) v (h * w) ≤ i → wp_X6_rising_5 post (m + 1) (iI a) (iI (i - dkc (g a) v (h * w))) (iI v) u' := by
    intro m
    induction m with
    | zero =>
      intro v hv hd
      have := dkc_64 (gr := g a) (v := (v : Int)) (by omega) (h * w) (fun k hk => (gr k hk).2)
      omega
    | succ m ih =>
      intro v hv hd
      unfold wp_X6_rising_5
      refine b_le (a := 64) (by omega) (by omega) (fun e => absurd e (by omega)) (fun _ => ⟨h * w + 1, ?_⟩)
      have := inner (wp_X6_rising_5 post (m + 1)) v (by omega) hd (fun z => ih (v + 1) (by omega) z) (h * w) 0 (by omega) (by show dkc (g a) v (h * w) + 0 ≤ i; omega)
      rw [show alc (g a) v 0 = 0 from rfl, Int.sub_zero] at this
      exact this
  have z0 := dkc_0 (gr := g a) (h * w) (fun k hk => (gr k hk).1)
  refine ⟨65, ?_⟩
  have := key 64 0 (by omega) (by show dkc (g a) 0 (h * w) ≤ i; omega)
  rw [show dkc (g a) ((0 : Nat) : Int) (h * w) = 0 from z0, Int.sub_zero] at this
  exact this
theorem m_matched (hX : MX u' h w f g S D E) (ha : a < f) {c : Nat → Int} (hc : gR (h * w) c) (hN : ∀ k, k < h * w → u'.2 32 k = iI (c k)) {k0 : Nat} (hk0 : k0 < h * w) (hp : post (iI (mtV (h * w) (g a) c (c k0))) u') : wp_X6_matched (iI a) (iI (c k0)) u' post := by
  have hn := hX.1.n
  have hf := hX.1.f
  have hv := hc k0 hk0
  have key : ∀ (m k : Nat), k + m = h * w → wp_X6_matched_14 post (m + 1) (iI a) (iI (c k0)) (iI (nz c k)) (iI (dkc c (c k0) k)) (iI (alc c (c k0) k)) (iI (nz (g a) k)) (iI k) u' := by
    intro m
    induction m with
    | zero =>
      intro k hk
      unfold wp_X6_matched_14
      rw [hX.hw]
      have hkn : k = h * w := by omega
      subst hkn
      have bm := nz_bd (g a) (h * w)
      have bn := nz_bd c (h * w)
      unfold mtV at hp
      refine b_le (by omega) (by omega) (fun _ => ?_) (fun e => absurd (by omega) e)
      rw [lm1]
      refine b_eq (by omega) (by omega) (fun e => ?_) (fun e => b_eq (b := 0) (by omega) (by omega) (fun e2 => ?_) (fun e2 => ?_))
      · rw [if_pos (Or.inl e)] at hp; exact hp
      · rw [if_pos (Or.inr e2)] at hp; exact hp
      · rw [if_neg (by omega)] at hp
        have q1 := rnk_bd (gr := g a) (c := c) hn.2 hk0 e (by omega)
        have b1' := dkc_bd c (c k0) (h * w)
        have b2' := alc_bd c (c k0) (h * w)
        have b3' := al_pos (c := c) (k := k0) rfl (h * w) hk0
        have mb := mul_bd (a := (2 * dkc c (c k0) (h * w) + alc c (c k0) (h * w) - 1) / 2) (b := nz (g a) (h * w)) (A := 36) (B := 36) (by omega) (by omega)
        refine ⟨by rw [l0, iI_eq (by omega) (by omega)]; omega, ?_⟩
        rw [l2, iI_mul, iI_add, l1, iI_sub, iI_div (by omega) (by omega), iI_mul, iI_div (by omega) (by omega)]
        exact m_rising hX ha q1.2.2.1 q1.2.2.2 hp
    | succ m ih =>
      intro k hk
      have nx := ih (k + 1) (by omega)
      have hck := hc k (by omega)
      have hg := hX.2.1 a k ha (by omega)
      have hin : vp_in (iI (k : Int)) 36 := (iI_in (by omega)).mpr ⟨by omega, by omega⟩
      rw [show nz c (k + 1) = nz c k + c01 (¬ c k = -1) from rfl, show dkc c (c k0) (k + 1) = dkc c (c k0) k + c01 (¬ c k = -1 ∧ c k < c k0) from rfl, show alc c (c k0) (k + 1) = alc c (c k0) k + c01 (c k = c k0) from rfl, show nz (g a) (k + 1) = nz (g a) k + c01 (¬ g a k = -1) from rfl] at nx
      have s97 : ∀ z : Int, z = c01 (c k = c k0) → wp_X6_matched_97 (wp_X6_matched_14 post (m + 1)) post (iI z) (iI (alc c (c k0) k)) (iI a) (iI (c k0)) (iI (nz c k + c01 (¬ c k = -1))) (iI (dkc c (c k0) k + c01 (¬ c k = -1 ∧ c k < c k0))) (iI (nz (g a) k)) (iI k) u' := by
        intro z hz
        unfold wp_X6_matched_97
        rw [l36, iI_mul, iI_add]
        refine b_in (by omega) (by omega) (by omega) ?_
        rw [iI_clamp (by omega), show ((36 : Int) * a + k).toNat = 36 * a + k by omega, hg.1, lm1, iI_s, iI_add, hz]
        refine b_eq (by omega) (by omega) (fun e => ?_) (fun e => ?_)
        · rw [c01_f (p := ¬ g a k = -1) (by omega)] at nx; rw [l0, iI_add]; exact nx
        · rw [c01_t (p := ¬ g a k = -1) e] at nx; rw [l1, iI_add]; exact nx
      have s76 : ∀ z : Int, z = c01 (¬ c k = -1 ∧ c k < c k0) → wp_X6_matched_76 (wp_X6_matched_14 post (m + 1)) post (iI z) (iI (dkc c (c k0) k)) (iI a) (iI (c k0)) (iI (nz c k + c01 (¬ c k = -1))) (iI (alc c (c k0) k)) (iI (nz (g a) k)) (iI k) u' := by
        intro z hz
        unfold wp_X6_matched_76
        refine ⟨hin, ?_⟩
        rw [iI_clamp (by omega), Int.toNat_natCast, hN k (by omega), iI_add, hz]
        refine b_eq (by omega) (by omega) (fun e => s97 1 ?_) (fun e => s97 0 ?_)
        · rw [c01_t e]
        · rw [c01_f e]
      have s45 : ∀ z : Int, z = c01 (¬ c k = -1) → wp_X6_matched_45 (wp_X6_matched_14 post (m + 1)) post (iI z) (iI (nz c k)) (iI a) (iI (c k0)) (iI (dkc c (c k0) k)) (iI (alc c (c k0) k)) (iI (nz (g a) k)) (iI k) u' := by
        intro z hz
        unfold wp_X6_matched_45 wp_X6_matched_75
        refine ⟨hin, ?_⟩
        rw [iI_clamp (by omega), Int.toNat_natCast, hN k (by omega), iI_add, hz, lm1]
        refine b_eq (by omega) (by omega) (fun e => s76 0 ?_) (fun e => ⟨hin, b_le (by omega) (by omega) (fun e2 => s76 0 ?_) (fun e2 => s76 1 ?_)⟩)
        · rw [c01_f (by omega)]
        · rw [c01_f (by omega)]
        · rw [c01_t ⟨e, by omega⟩]
      unfold wp_X6_matched_14
      rw [hX.hw]
      refine b_le (by omega) (by omega) (fun e => absurd e (by omega)) (fun _ => ⟨hin, ?_⟩)
      rw [iI_clamp (by omega), Int.toNat_natCast, hN k (by omega), lm1]
      refine b_eq (by omega) (by omega) (fun e => s45 0 ?_) (fun e => s45 1 ?_)
      · rw [c01_f (by omega)]
      · rw [c01_t e]
  exact ⟨h * w + 1, key (h * w) 0 (by omega)⟩
theorem m_moved (hX : MX u' h w f g S D E) {A B : Int} {i k : Nat} (hi : i < 12) (hk : k < h * w) (hA : -3 ≤ A ∧ A ≤ 9) (hB : -3 ≤ B ∧ B ≤ 3) (eA : u'.2 7 i = iI A) (eB : u'.2 8 i = iI B) {c : Nat → Int} (hN : ∀ k, k < h * w → u'.2 32 k = iI (c k)) (hp : post (iI (movV h w A B c k)) u') : wp_X6_moved (iI i) (iI k) u' post := by
  have hn := hX.1.n
  have c1 := hX.1.1
  have c2 := hX.1.2.1
  have ew : u'.1 1 = iI w := hX.1.2.2.2.2.1
  have hin : vp_in (iI (i : Int)) 12 := (iI_in (by omega)).mpr ⟨by omega, by omega⟩
  have hne : ¬ iI (w : Int) = 0 := by rw [l0, iI_eq (by omega) (by omega)]; omega
  have hdl : k / w < h := Nat.div_lt_of_lt_mul (by rw [Nat.mul_comm]; exact hk)
  have hml : k % w < w := Nat.mod_lt _ (by omega)
  unfold wp_X6_moved
  rw [ew, iI_clamp (by omega), Int.toNat_natCast, eA, eB, iI_rem (by omega) (by omega), iI_div (by omega) (by omega), ← Int.natCast_ediv, ← Int.natCast_emod, iI_sub, iI_sub]
  unfold movV at hp
  generalize k / w = q at hp hdl ⊢
  generalize k % w = r at hp hml ⊢
  refine ⟨hne, hin, hne, hin, m_isSquare hX.1 (by omega) (by omega) (fun hno => b0 ?_) (fun d1 d2 d3 d4 => b1 ?_)⟩
  · rw [if_neg hno] at hp; exact hp
  · obtain ⟨y', hy'⟩ := Int.eq_ofNat_of_zero_le d1
    obtain ⟨x', hx'⟩ := Int.eq_ofNat_of_zero_le d3
    have lt2 := pl_lt (y := y') (x := x') (h := h) (w := w) (by omega) (by omega)
    rw [if_pos ⟨d1, d2, d3, d4⟩, hy', hx', Int.toNat_natCast, Int.toNat_natCast] at hp
    rw [ew, hy', hx', iI_mul, iI_add, show (w : Int) * (y' : Int) + x' = ((y' * w + x' : Nat) : Int) by rw [Int.mul_comm]; simp]
    refine b_in (by omega) (by omega) (by omega) ?_
    rw [iI_clamp (by omega), Int.toNat_natCast, hN _ lt2]
    exact hp
end LM0
