/-! ===== what ties the two sides ===== -/
def LR (c : Int32) (k o a b n : Nat → Int32) (f L : Nat) (K O A B N : Nat → Int) : Prop :=
  L ≤ 12 ∧ c = iI L ∧ ∀ i, i < L → (k i = iI (K i) ∧ o i = iI (O i) ∧ a i = iI (A i) ∧ b i = iI (B i) ∧ n i = iI (N i)) ∧ (0 ≤ K i ∧ K i ≤ 3) ∧ (0 ≤ O i ∧ O i < f) ∧ (-3 ≤ A i ∧ A i ≤ 9) ∧ (-3 ≤ B i ∧ B i ≤ 3) ∧ (N i = 0 ∨ N i = 1) ∧ (K i = 1 → 0 ≤ A i ∧ A i < f) ∧ (K i = 3 → A i ≤ 3)
abbrev FL (u : US) (f L : Nat) (K O A B N : Nat → Int) : Prop := LR (u.1 5) (u.2 4) (u.2 5) (u.2 6) (u.2 7) (u.2 8) f L K O A B N
abbrev ML (v : US) (f L : Nat) (K O A B N : Nat → Int) : Prop := LR (v.1 4) (v.2 5) (v.2 6) (v.2 7) (v.2 8) (v.2 9) f L K O A B N
def RR (r : Nat → Int32) (S D E : Int) : Prop := r 0 = iI S ∧ r 1 = iI D ∧ r 2 = iI E ∧ (0 ≤ S ∧ S ≤ 3) ∧ (0 ≤ D ∧ D ≤ 10) ∧ (1 ≤ E ∧ E ≤ 63)
def KP (u v : US) : Prop := (u.1 0 = 0 ∧ v.1 11 = 0) ∨ (u.1 0 = 1 ∧ v.1 11 = 1 ∧ ∃ (h w f L : Nat) (g : Nat → Nat → Int) (K O A B N : Nat → Int), FDr (u.1 15) (u.1 16) (u.1 17) (u.1 18) h w f ∧ CG (u.2 20) (h * w) f g ∧ MDr (v.1 12) (v.1 13) (v.1 14) h w f ∧ CG (v.2 15) (h * w) f g ∧ LR (u.1 19) (u.2 22) (u.2 23) (u.2 24) (u.2 25) (u.2 26) f L K O A B N ∧ LR (v.1 16) (v.2 17) (v.2 18) (v.2 19) (v.2 20) (v.2 21) f L K O A B N)
/-- the two sides hold the same reel, frames, layers, rules -/
def IV (u v : US) (h w f L : Nat) (g : Nat → Nat → Int) (K O A B N : Nat → Int) (S D E : Int) : Prop :=
  (FD u h w f ∧ CG (u.2 2) (h * w) f g ∧ FL u f L K O A B N ∧ RR (u.2 9) S D E) ∧ (MD v h w f ∧ CG (v.2 3) (h * w) f g ∧ ML v f L K O A B N ∧ RR (v.2 10) S D E)
def INV (u v : US) : Prop := KP u v ∧ ∃ (h w f L : Nat) (g : Nat → Nat → Int) (K O A B N : Nat → Int) (S D E : Int), IV u v h w f L g K O A B N S D E
/-- only what is written for work alone has changed -/
def SF (u u' : US) : Prop := (∀ k, k < 6 ∨ 15 ≤ k → u'.1 k = u.1 k) ∧ (∀ k, k < 10 ∨ 19 ≤ k → u'.2 k = u.2 k)
def SM (v v' : US) : Prop := (∀ k, k < 22 → v'.1 k = v.1 k) ∧ (∀ k, k < 22 → v'.2 k = v.2 k)
theorem SF.rf {u : US} : SF u u := ⟨fun _ _ => rfl, fun _ _ => rfl⟩
theorem SM.rf {u : US} : SM u u := ⟨fun _ _ => rfl, fun _ _ => rfl⟩
theorem SF.tr {u v w : US} (a : SF u v) (b : SF v w) : SF u w := ⟨fun k h => (b.1 k h).trans (a.1 k h), fun k h => (b.2 k h).trans (a.2 k h)⟩
theorem SM.tr {u v w : US} (a : SM u v) (b : SM v w) : SM u w := ⟨fun k h => (b.1 k h).trans (a.1 k h), fun k h => (b.2 k h).trans (a.2 k h)⟩
theorem SF.si {u v : US} (a : SF u v) {k : Nat} {x : Int32} (h : 6 ≤ k ∧ k < 15) : SF u (si v k x) := ⟨fun j hj => (si_other (by omega)).trans (a.1 j hj), a.2⟩
theorem SF.sA {u v : US} (a : SF u v) {k : Nat} {x : Nat → Int32} (h : 10 ≤ k ∧ k < 19) : SF u (sA v k x) := ⟨a.1, fun j hj => (sA_other (by omega)).trans (a.2 j hj)⟩
theorem SM.si {u v : US} (a : SM u v) {k : Nat} {x : Int32} (h : 22 ≤ k) : SM u (si v k x) := ⟨fun j hj => (si_other (by omega)).trans (a.1 j hj), a.2⟩
theorem SM.sA {u v : US} (a : SM u v) {k : Nat} {x : Nat → Int32} (h : 22 ≤ k) : SM u (sA v k x) := ⟨a.1, fun j hj => (sA_other (by omega)).trans (a.2 j hj)⟩
theorem FD.sf {u u' : US} {h w f : Nat} (hC : FD u h w f) (s : SF u u') : FD u' h w f := by
  unfold FD
  rw [s.1 1 (by omega), s.1 2 (by omega), s.1 3 (by omega), s.1 4 (by omega)]
  exact hC
theorem MD.sm {u u' : US} {h w f : Nat} (hC : MD u h w f) (s : SM u u') : MD u' h w f := by
  unfold MD
  rw [s.1 0 (by omega), s.1 1 (by omega), s.1 2 (by omega)]
  exact hC
theorem IV.mono {u u' v v' : US} {h w f L : Nat} {g : Nat → Nat → Int} {K O A B N : Nat → Int} {S D E : Int} (hI : IV u v h w f L g K O A B N S D E) (su : SF u u') (sv : SM v v') : IV u' v' h w f L g K O A B N S D E := by
  obtain ⟨⟨a1, a2, a3, a4⟩, b1, b2, b3, b4⟩ := hI
  refine ⟨⟨a1.sf su, ?_, ?_, ?_⟩, b1.sm sv, ?_, ?_, ?_⟩
  · rw [su.2 2 (by omega)]; exact a2
  · unfold FL; rw [su.1 5 (by omega), su.2 4 (by omega), su.2 5 (by omega), su.2 6 (by omega), su.2 7 (by omega), su.2 8 (by omega)]; exact a3
  · rw [su.2 9 (by omega)]; exact a4
  · rw [sv.2 3 (by omega)]; exact b2
  · unfold ML; rw [sv.1 4 (by omega), sv.2 5 (by omega), sv.2 6 (by omega), sv.2 7 (by omega), sv.2 8 (by omega), sv.2 9 (by omega)]; exact b3
  · rw [sv.2 10 (by omega)]; exact b4
theorem KP.mono {u u' v v' : US} (hK : KP u v) (u1 : ∀ k, k = 0 ∨ 15 ≤ k → u'.1 k = u.1 k) (u2 : ∀ k, 20 ≤ k → u'.2 k = u.2 k) (v1 : ∀ k, 11 ≤ k → k < 22 → v'.1 k = v.1 k) (v2 : ∀ k, 15 ≤ k → k < 22 → v'.2 k = v.2 k) : KP u' v' := by
  unfold KP
  rw [u1 0 (by omega), u1 15 (by omega), u1 16 (by omega), u1 17 (by omega), u1 18 (by omega), u1 19 (by omega), u2 20 (by omega), u2 22 (by omega), u2 23 (by omega), u2 24 (by omega), u2 25 (by omega), u2 26 (by omega),
    v1 11 (by omega) (by omega), v1 12 (by omega) (by omega), v1 13 (by omega) (by omega), v1 14 (by omega) (by omega), v1 16 (by omega) (by omega), v2 15 (by omega) (by omega), v2 17 (by omega) (by omega), v2 18 (by omega) (by omega), v2 19 (by omega) (by omega), v2 20 (by omega) (by omega), v2 21 (by omega) (by omega)]
  exact hK
theorem INV.mono {u u' v v' : US} (hI : INV u v) (su : SF u u') (sv : SM v v') : INV u' v' := by
  obtain ⟨k, h, w, f, L, g, K, O, A, B, N, S, D, E, hI⟩ := hI
  exact ⟨k.mono (fun k hk => su.1 k (by omega)) (fun k hk => su.2 k (by omega)) (fun k hk hl => sv.1 k (by omega)) (fun k hk hl => sv.2 k (by omega)), h, w, f, L, g, K, O, A, B, N, S, D, E, hI.mono su sv⟩
theorem CG.cut {G : Nat → Int32} {n f : Nat} {g : Nat → Nat → Int} (h : CG G n f g) {a k : Nat} (ha : a < f) (hk : k < n) : G (36 * a + k) = iI (g a k) := (h a k ha hk).1
/-- one place of one frame is another one -/
def gput (g : Nat → Nat → Int) (i p : Nat) (c : Int) : Nat → Nat → Int := fun a k => if a = i ∧ k = p then c else g a k
theorem CG.put {G : Nat → Int32} {n f : Nat} {g : Nat → Nat → Int} (h : CG G n f g) {i p : Nat} {c : Int} (hn : n ≤ 36) (hp : p < n) (hc : -1 ≤ c ∧ c ≤ 63) : CG (upd G (36 * i + p) (iI c)) n f (gput g i p c) := by
  intro a k ha hk
  unfold gput
  by_cases e : a = i ∧ k = p
  · rw [if_pos e, e.1, e.2, upd_s]; exact ⟨rfl, hc⟩
  · rw [if_neg e, upd_n (by omega)]; exact h a k ha hk
/-- a frame comes -/
def gadd (g : Nat → Nat → Int) (f : Nat) (r : Nat → Int) : Nat → Nat → Int := fun a k => if a = f then r k else g a k
theorem CG.add {G G' : Nat → Int32} {n f : Nat} {g : Nat → Nat → Int} {r : Nat → Int} (h : CG G n f g) (hn : n ≤ 36) (ho : ∀ j, j < 36 * f → G' j = G j) (hr : ∀ k, k < n → G' (36 * f + k) = iI (r k) ∧ -1 ≤ r k ∧ r k ≤ 63) : CG G' n (f + 1) (gadd g f r) := by
  intro a k ha hk
  unfold gadd
  by_cases e : a = f
  · rw [if_pos e, e]; exact hr k hk
  · rw [if_neg e, ho _ (by omega)]; exact h a k (by omega) hk
theorem LR.more {c : Int32} {k o a b n : Nat → Int32} {f L : Nat} {K O A B N : Nat → Int} (h : LR c k o a b n f L K O A B N) : LR c k o a b n (f + 1) L K O A B N := by
  refine ⟨h.1, h.2.1, fun i hi => ?_⟩
  obtain ⟨h1, h2, h3, h4, h5, h6, h7, h8⟩ := h.2.2 i hi
  exact ⟨h1, h2, by omega, h4, h5, h6, fun e => by have := h7 e; omega, h8⟩
theorem LR.nil {k o a b n : Nat → Int32} {f : Nat} {K O A B N : Nat → Int} : LR (iI 0) k o a b n f 0 K O A B N := ⟨by omega, rfl, fun i hi => absurd hi (by omega)⟩
theorem CG.nil {G : Nat → Int32} {n : Nat} {g : Nat → Nat → Int} : CG G n 0 g := fun a k ha => absurd ha (by omega)
