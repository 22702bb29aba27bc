def wp_X6_in (p0 : Int32) (p1 : Int32) (p2 : Int32) (u : US) (post : Int32 → US → Prop) : Prop :=
  ((p0 < p1 → post (0 : Int32) u) ∧ (¬ p0 < p1 → ((p2 < p0 → post (0 : Int32) u) ∧ (¬ p2 < p0 → post (1 : Int32) u))))
def wp_X6_isFrame (p1 : Int32) (u : US) (post : Int32 → US → Prop) : Prop :=
  wp_X6_in p1 (0 : Int32) ((u.1 2) - (1 : Int32)) u (fun r8 u8 => (isB r8 ∧ post r8 u8))
def wp_X6_isSquare (p1 : Int32) (p2 : Int32) (u : US) (post : Int32 → US → Prop) : Prop :=
  wp_X6_in p1 (0 : Int32) ((u.1 0) - (1 : Int32)) u (fun r8 u8 => ((r8 = 0 → post (0 : Int32) u8) ∧ (¬ r8 = 0 → wp_X6_in p2 (0 : Int32) ((u8.1 1) - (1 : Int32)) u8 (fun r22 u22 => ((r22 = 0 → post (0 : Int32) u22) ∧ (¬ r22 = 0 → post (1 : Int32) u22))))))
def wp_X6_at (p1 : Int32) (p2 : Int32) (p3 : Int32) (u : US) (post : Int32 → US → Prop) : Prop :=
  post ((((36 : Int32) * p1) + ((u.1 1) * p2)) + p3) u
def wp_X6_reel (p1 : Int32) (p2 : Int32) (u : US) (post : Int32 → US → Prop) : Prop :=
  wp_X6_in p1 (2 : Int32) (6 : Int32) u (fun r4 u4 => ((r4 = 0 → post (-1 : Int32) u4) ∧ (¬ r4 = 0 → wp_X6_in p2 (2 : Int32) (6 : Int32) u4 (fun r14 u14 => ((r14 = 0 → post (-1 : Int32) u14) ∧ (¬ r14 = 0 → post (p1 * p2) (si (si (si (si u14 0 p1) 1 p2) 2 (0 : Int32)) 4 (0 : Int32))))))))
def wp_X6_frame_14  (post : Int32 → US → Prop) : Nat → Int32 → US → Prop
  | 0 => fun _ _ => False
  | n + 1 => fun x1 u => (((36 : Int32) ≤ x1 → post (((u.1 2) + (1 : Int32)) - (1 : Int32)) (si u 2 ((u.1 2) + (1 : Int32)))) ∧ (¬ (36 : Int32) ≤ x1 → (vp_in (((36 : Int32) * (u.1 2)) + x1) 360 ∧ wp_X6_frame_14  post n (x1 + 1) (sA u 3 (upd (u.2 3) (((36 : Int32) * (u.1 2)) + x1).toNatClampNeg (-1 : Int32))))))
def wp_X6_frame  (u : US) (post : Int32 → US → Prop) : Prop :=
  (((u.1 2) = (10 : Int32) → post (-2 : Int32) u) ∧ (¬ (u.1 2) = (10 : Int32) → ∃ j, wp_X6_frame_14  post j (0 : Int32) u))
def wp_X6_again_83 (k35 : Int32 → Int32 → Int32 → US → Prop) (post : Int32 → US → Prop) (s0 : Int32) (x1 : Int32) (x2 : Int32) (x3 : Int32) (x4 : Int32) (u : US) : Prop :=
  ((x4 = (-1 : Int32) → (vp_in (((36 : Int32) * (u.1 2)) + x3) 360 ∧ k35 x1 x2 (x3 + 1) (sA u 3 (upd (u.2 3) (((36 : Int32) * (u.1 2)) + x3).toNatClampNeg (-1 : Int32))))) ∧ (¬ x4 = (-1 : Int32) → (vp_in (((36 : Int32) * (u.1 2)) + x3) 360 ∧ k35 x1 x2 (x3 + 1) (sA u 3 (upd (u.2 3) (((36 : Int32) * (u.1 2)) + x3).toNatClampNeg s0)))))
def wp_X6_again_35  (post : Int32 → US → Prop) : Nat → Int32 → Int32 → Int32 → US → Prop
  | 0 => fun _ _ _ _ => False
  | n + 1 => fun x1 x2 x3 u => (((36 : Int32) ≤ x3 → post (((u.1 2) + (1 : Int32)) - (1 : Int32)) (si u 2 ((u.1 2) + (1 : Int32)))) ∧ (¬ (36 : Int32) ≤ x3 → (vp_in (((36 : Int32) * x1) + x3) 360 ∧ ((0 ≤ (((u.2 3) (((36 : Int32) * x1) + x3).toNatClampNeg) + x2) → (((((u.2 3) (((36 : Int32) * x1) + x3).toNatClampNeg) + x2) ≤ (63 : Int32) → wp_X6_again_83 (wp_X6_again_35  post n) post (((u.2 3) (((36 : Int32) * x1) + x3).toNatClampNeg) + x2) x1 x2 x3 ((u.2 3) (((36 : Int32) * x1) + x3).toNatClampNeg) u) ∧ (¬ (((u.2 3) (((36 : Int32) * x1) + x3).toNatClampNeg) + x2) ≤ (63 : Int32) → wp_X6_again_83 (wp_X6_again_35  post n) post (63 : Int32) x1 x2 x3 ((u.2 3) (((36 : Int32) * x1) + x3).toNatClampNeg) u))) ∧ (¬ 0 ≤ (((u.2 3) (((36 : Int32) * x1) + x3).toNatClampNeg) + x2) → wp_X6_again_83 (wp_X6_again_35  post n) post (0 : Int32) x1 x2 x3 ((u.2 3) (((36 : Int32) * x1) + x3).toNatClampNeg) u)))))
def wp_X6_again (p1 : Int32) (p2 : Int32) (u : US) (post : Int32 → US → Prop) : Prop :=
  wp_X6_isFrame p1 u (fun r2 u2 => ((r2 = 0 → post (-1 : Int32) u2) ∧ (¬ r2 = 0 → wp_X6_in p2 (-63 : Int32) (63 : Int32) u2 (fun r13 u13 => ((r13 = 0 → post (-1 : Int32) u13) ∧ (¬ r13 = 0 → (((u13.1 2) = (10 : Int32) → post (-2 : Int32) u13) ∧ (¬ (u13.1 2) = (10 : Int32) → ∃ j, wp_X6_again_35  post j p1 p2 (0 : Int32) u13))))))))
def wp_X6_put (p1 : Int32) (p2 : Int32) (p3 : Int32) (p4 : Int32) (u : US) (post : Int32 → US → Prop) : Prop :=
  wp_X6_isFrame p1 u (fun r2 u2 => ((r2 = 0 → post (-1000 : Int32) u2) ∧ (¬ r2 = 0 → wp_X6_isSquare p2 p3 u2 (fun r11 u11 => ((r11 = 0 → post (-1000 : Int32) u11) ∧ (¬ r11 = 0 → wp_X6_in p4 (-1 : Int32) (63 : Int32) u11 (fun r22 u22 => ((r22 = 0 → post (-1000 : Int32) u22) ∧ (¬ r22 = 0 → wp_X6_at p1 p2 p3 u22 (fun r40 u40 => (vp_in r40 360 ∧ wp_X6_at p1 p2 p3 u40 (fun r54 u54 => (vp_in r54 360 ∧ post ((u40.2 3) r40.toNatClampNeg) (sA u54 3 (upd (u54.2 3) r54.toNatClampNeg p4)))))))))))))))
def wp_X6_row_78 (k30 : Int32 → Int32 → Int64 → Int32 → Int32 → US → Prop) (post : Int32 → US → Prop) (s0 : Int32) (s1 : Int32) (x1 : Int32) (x2 : Int32) (x3 : Int64) (x5 : Int32) (x6 : Int32) (x7 : Int32) (u : US) : Prop :=
  (vp_in s1 360 ∧ (((64 : Int32) ≤ x7 → k30 x1 x2 x3 (x5 + (0 : Int32)) (x6 + 1) (sA u 3 (upd (u.2 3) s1.toNatClampNeg s0))) ∧ (¬ (64 : Int32) ≤ x7 → k30 x1 x2 x3 (x5 + (1 : Int32)) (x6 + 1) (sA u 3 (upd (u.2 3) s1.toNatClampNeg s0)))))
def wp_X6_row_30  (post : Int32 → US → Prop) : Nat → Int32 → Int32 → Int64 → Int32 → Int32 → US → Prop
  | 0 => fun _ _ _ _ _ _ => False
  | n + 1 => fun x1 x2 x3 x5 x6 u => (((u.1 1) ≤ x6 → post x5 u) ∧ (¬ (u.1 1) ≤ x6 → wp_X6_at x1 x2 x6 u (fun r62 u62 => (((64 : Int32) ≤ (((x3 >>> (((7 : Int32) * x6).toInt64 &&& 63)) &&& (127 : Int64))).toInt32 → wp_X6_row_78 (wp_X6_row_30  post n) post (-1 : Int32) r62 x1 x2 x3 x5 x6 (((x3 >>> (((7 : Int32) * x6).toInt64 &&& 63)) &&& (127 : Int64))).toInt32 u62) ∧ (¬ (64 : Int32) ≤ (((x3 >>> (((7 : Int32) * x6).toInt64 &&& 63)) &&& (127 : Int64))).toInt32 → wp_X6_row_78 (wp_X6_row_30  post n) post (((x3 >>> (((7 : Int32) * x6).toInt64 &&& 63)) &&& (127 : Int64))).toInt32 r62 x1 x2 x3 x5 x6 (((x3 >>> (((7 : Int32) * x6).toInt64 &&& 63)) &&& (127 : Int64))).toInt32 u62)))))
def wp_X6_row (p1 : Int32) (p2 : Int32) (p3 : Int64) (u : US) (post : Int32 → US → Prop) : Prop :=
  wp_X6_isFrame p1 u (fun r2 u2 => ((r2 = 0 → post (-1 : Int32) u2) ∧ (¬ r2 = 0 → wp_X6_in p2 (0 : Int32) ((u2.1 0) - (1 : Int32)) u2 (fun r16 u16 => ((r16 = 0 → post (-1 : Int32) u16) ∧ (¬ r16 = 0 → ∃ j, wp_X6_row_30  post j p1 p2 p3 (0 : Int32) (0 : Int32) u16))))))
def wp_X6_raw (p1 : Int32) (p2 : Int32) (p3 : Int32) (u : US) (post : Int32 → US → Prop) : Prop :=
  wp_X6_isFrame p1 u (fun r2 u2 => ((r2 = 0 → post (-1000 : Int32) u2) ∧ (¬ r2 = 0 → wp_X6_isSquare p2 p3 u2 (fun r11 u11 => ((r11 = 0 → post (-1000 : Int32) u11) ∧ (¬ r11 = 0 → wp_X6_at p1 p2 p3 u11 (fun r25 u25 => (vp_in r25 360 ∧ post ((u25.2 3) r25.toNatClampNeg) u25))))))))
def wp_X6_rule_40  (post : Int32 → US → Prop) (s0 : Int32) (s1 : Int32) (s2 : Int32) (x1 : Int32) (x2 : Int32) (u : US) : Prop :=
  wp_X6_in s2 s1 s0 u (fun r40 u40 => ((r40 = 0 → post (-1 : Int32) u40) ∧ (¬ r40 = 0 → (vp_in x1 3 ∧ (vp_in x1 3 ∧ post ((u40.2 10) x1.toNatClampNeg) (sA u40 10 (upd (u40.2 10) x1.toNatClampNeg x2)))))))
def wp_X6_rule_20  (post : Int32 → US → Prop) (s0 : Int32) (s1 : Int32) (x1 : Int32) (x2 : Int32) (u : US) : Prop :=
  ((x1 = 0 → wp_X6_rule_40  post (3 : Int32) s0 s1 x1 x2 u) ∧ (¬ x1 = 0 → ((x1 = (1 : Int32) → wp_X6_rule_40  post (10 : Int32) s0 s1 x1 x2 u) ∧ (¬ x1 = (1 : Int32) → wp_X6_rule_40  post (63 : Int32) s0 s1 x1 x2 u))))
def wp_X6_rule (p1 : Int32) (p2 : Int32) (u : US) (post : Int32 → US → Prop) : Prop :=
  wp_X6_in p1 (0 : Int32) (2 : Int32) u (fun r3 u3 => ((r3 = 0 → post (-1 : Int32) u3) ∧ (¬ r3 = 0 → ((p1 = (2 : Int32) → wp_X6_rule_20  post (1 : Int32) p2 p1 p2 u3) ∧ (¬ p1 = (2 : Int32) → wp_X6_rule_20  post (0 : Int32) p2 p1 p2 u3)))))
def wp_X6_findMiss_130 (k25 : Int32 → Int32 → Int32 → Int32 → Int32 → US → Prop) (post : Int32 → US → Prop) (s0 : Int32) (s1 : Int32) (x1 : Int32) (x2 : Int32) (x3 : Int32) (x4 : Int32) (x5 : Int32) (u : US) : Prop :=
  k25 x1 x2 x3 x4 (x5 + 1) (si (si u 22 (s1 + s0)) 23 ((u.1 23) + (1 : Int32)))
def wp_X6_findMiss_25 (k13 : Int32 → Int32 → Int32 → Int32 → US → Prop) (post : Int32 → US → Prop) : Nat → Int32 → Int32 → Int32 → Int32 → Int32 → US → Prop
  | 0 => fun _ _ _ _ _ _ => False
  | n + 1 => fun x1 x2 x3 x4 x5 u => (((u.1 1) ≤ x5 → k13 x1 x2 x3 (x4 + 1) u) ∧ (¬ (u.1 1) ≤ x5 → wp_X6_isSquare (x4 + x3) (x5 + x2) u (fun r43 u43 => ((r43 = 0 → wp_X6_findMiss_25 k13 post n x1 x2 x3 x4 (x5 + 1) u43) ∧ (¬ r43 = 0 → wp_X6_at (x1 - (1 : Int32)) x4 x5 u43 (fun r64 u64 => (vp_in r64 360 ∧ wp_X6_at x1 (x4 + x3) (x5 + x2) u64 (fun r84 u84 => (vp_in r84 360 ∧ ((((u64.2 3) r64.toNatClampNeg) = (-1 : Int32) → wp_X6_findMiss_25 k13 post n x1 x2 x3 x4 (x5 + 1) u84) ∧ (¬ ((u64.2 3) r64.toNatClampNeg) = (-1 : Int32) → ((((u84.2 3) r84.toNatClampNeg) = (-1 : Int32) → wp_X6_findMiss_25 k13 post n x1 x2 x3 x4 (x5 + 1) u84) ∧ (¬ ((u84.2 3) r84.toNatClampNeg) = (-1 : Int32) → ((((u84.2 3) r84.toNatClampNeg) ≤ ((u64.2 3) r64.toNatClampNeg) → wp_X6_findMiss_130 (wp_X6_findMiss_25 k13 post n) post (((u64.2 3) r64.toNatClampNeg) - ((u84.2 3) r84.toNatClampNeg)) (u84.1 22) x1 x2 x3 x4 x5 u84) ∧ (¬ ((u84.2 3) r84.toNatClampNeg) ≤ ((u64.2 3) r64.toNatClampNeg) → wp_X6_findMiss_130 (wp_X6_findMiss_25 k13 post n) post (((u84.2 3) r84.toNatClampNeg) - ((u64.2 3) r64.toNatClampNeg)) (u84.1 22) x1 x2 x3 x4 x5 u84)))))))))))))))
def wp_X6_findMiss_13  (post : Int32 → US → Prop) : Nat → Int32 → Int32 → Int32 → Int32 → US → Prop
  | 0 => fun _ _ _ _ _ => False
  | n + 1 => fun x1 x2 x3 x4 u => (((u.1 0) ≤ x4 → ((((4 : Int32) * (u.1 23)) < ((u.1 0) * (u.1 1)) → post (0 : Int32) u) ∧ (¬ ((4 : Int32) * (u.1 23)) < ((u.1 0) * (u.1 1)) → post (1 : Int32) u))) ∧ (¬ (u.1 0) ≤ x4 → ∃ j, wp_X6_findMiss_25 (wp_X6_findMiss_13  post n) post j x1 x2 x3 x4 (0 : Int32) u))
def wp_X6_findMiss (p1 : Int32) (p2 : Int32) (p3 : Int32) (u : US) (post : Int32 → US → Prop) : Prop :=
  ∃ j, wp_X6_findMiss_13  post j p1 p2 p3 (0 : Int32) (si (si u 22 (0 : Int32)) 23 (0 : Int32))
def wp_X6_common_4  (post : Int32 → US → Prop) : Nat → Int32 → Int32 → US → Prop
  | 0 => fun _ _ _ => False
  | n + 1 => fun x2 x3 u => ((x3 = 0 → post x2 u) ∧ (¬ x3 = 0 → (¬ x3 = 0 ∧ wp_X6_common_4  post n x3 (x2 - x2 / x3 * x3) u)))
def wp_X6_common (p0 : Int32) (p1 : Int32) (u : US) (post : Int32 → US → Prop) : Prop :=
  ∃ j, wp_X6_common_4  post j p0 p1 u
def wp_X6_miss (p1 : Int32) (p2 : Int32) (p3 : Int32) (p4 : Int32) (u : US) (post : Int32 → US → Prop) : Prop :=
  wp_X6_isFrame p1 u (fun r2 u2 => ((r2 = 0 → post (-1 : Int32) u2) ∧ (¬ r2 = 0 → ((p1 = 0 → post (-1 : Int32) u2) ∧ (¬ p1 = 0 → wp_X6_in p2 (-2 : Int32) (2 : Int32) u2 (fun r16 u16 => ((r16 = 0 → post (-1 : Int32) u16) ∧ (¬ r16 = 0 → wp_X6_in p3 (-2 : Int32) (2 : Int32) u16 (fun r26 u26 => ((r26 = 0 → post (-1 : Int32) u26) ∧ (¬ r26 = 0 → wp_X6_in p4 (0 : Int32) (1 : Int32) u26 (fun r36 u36 => ((r36 = 0 → post (-1 : Int32) u36) ∧ (¬ r36 = 0 → wp_X6_findMiss p1 p2 p3 u36 (fun r48 u48 => ((r48 = 0 → post (-3 : Int32) u48) ∧ (¬ r48 = 0 → wp_X6_common (u48.1 22) (u48.1 23) u48 (fun r65 u65 => ((p4 = 0 → (¬ r65 = 0 ∧ post ((u65.1 22) / r65) u65)) ∧ (¬ p4 = 0 → (¬ r65 = 0 ∧ post ((u65.1 23) / r65) u65)))))))))))))))))))))
def wp_X6_size (p0 : Int32) (u : US) (post : Int32 → US → Prop) : Prop :=
  ((0 ≤ p0 → post p0 u) ∧ (¬ 0 ≤ p0 → post (-p0) u))
def wp_X6_findShift_116 (k31 : Int32 → Int32 → Int32 → Int32 → Int32 → Int32 → US → Prop) (post : US → Prop) (x1 : Int32) (x5 : Int32) (x6 : Int32) (u : US) : Prop :=
  k31 x1 (1 : Int32) (u.1 22) (u.1 23) x5 (x6 + 1) (si (si u 24 x6) 25 x5)
def wp_X6_findShift_31 (k21 : Int32 → Int32 → Int32 → Int32 → Int32 → US → Prop) (post : US → Prop) : Nat → Int32 → Int32 → Int32 → Int32 → Int32 → Int32 → US → Prop
  | 0 => fun _ _ _ _ _ _ _ => False
  | n + 1 => fun x1 x2 x3 x4 x5 x6 u => (((2 : Int32) < x6 → k21 x1 x2 x3 x4 (x5 + 1) u) ∧ (¬ (2 : Int32) < x6 → wp_X6_findMiss x1 x6 x5 u (fun r43 u43 => ((r43 = 0 → wp_X6_findShift_31 k21 post n x1 x2 x3 x4 x5 (x6 + 1) u43) ∧ (¬ r43 = 0 → wp_X6_size x6 u43 (fun r70 u70 => wp_X6_size x5 u70 (fun r75 u75 => wp_X6_size (u75.1 24) u75 (fun r83 u83 => wp_X6_size (u83.1 25) u83 (fun r91 u91 => ((x2 = 0 → wp_X6_findShift_116 (wp_X6_findShift_31 k21 post n) post x1 x5 x6 u91) ∧ (¬ x2 = 0 → (((((u43.1 22) * x4) - (x3 * (u43.1 23))) < 0 → wp_X6_findShift_116 (wp_X6_findShift_31 k21 post n) post x1 x5 x6 u91) ∧ (¬ (((u43.1 22) * x4) - (x3 * (u43.1 23))) < 0 → (((((u43.1 22) * x4) - (x3 * (u43.1 23))) = 0 → ((0 ≤ (((r70 + r75) - r83) - r91) → wp_X6_findShift_31 k21 post n x1 x2 x3 x4 x5 (x6 + 1) u91) ∧ (¬ 0 ≤ (((r70 + r75) - r83) - r91) → wp_X6_findShift_116 (wp_X6_findShift_31 k21 post n) post x1 x5 x6 u91))) ∧ (¬ (((u43.1 22) * x4) - (x3 * (u43.1 23))) = 0 → wp_X6_findShift_31 k21 post n x1 x2 x3 x4 x5 (x6 + 1) u91)))))))))))))))
def wp_X6_findShift_21  (post : US → Prop) : Nat → Int32 → Int32 → Int32 → Int32 → Int32 → US → Prop
  | 0 => fun _ _ _ _ _ _ => False
  | n + 1 => fun x1 x2 x3 x4 x5 u => (((2 : Int32) < x5 → post u) ∧ (¬ (2 : Int32) < x5 → ∃ j, wp_X6_findShift_31 (wp_X6_findShift_21  post n) post j x1 x2 x3 x4 x5 (-2 : Int32) u))
def wp_X6_findShift (p1 : Int32) (u : US) (post : US → Prop) : Prop :=
  ∃ j, wp_X6_findShift_21  post j p1 (0 : Int32) (0 : Int32) (1 : Int32) (-2 : Int32) (si (si u 24 (0 : Int32)) 25 (0 : Int32))
def wp_X6_shift (p1 : Int32) (p2 : Int32) (u : US) (post : Int32 → US → Prop) : Prop :=
  wp_X6_isFrame p1 u (fun r2 u2 => ((r2 = 0 → post (-1000 : Int32) u2) ∧ (¬ r2 = 0 → ((p1 = 0 → post (-1000 : Int32) u2) ∧ (¬ p1 = 0 → wp_X6_in p2 (0 : Int32) (1 : Int32) u2 (fun r15 u15 => ((r15 = 0 → post (-1000 : Int32) u15) ∧ (¬ r15 = 0 → wp_X6_findShift p1 u15 (fun u27 => ((p2 = 0 → post (u27.1 24) u27) ∧ (¬ p2 = 0 → post (u27.1 25) u27)))))))))))
def wp_X6_driftOf_5  (post : Int32 → US → Prop) : Nat → Int32 → Int32 → Int32 → Int32 → US → Prop
  | 0 => fun _ _ _ _ _ => False
  | n + 1 => fun x1 x2 x3 x4 u => ((x1 < x4 → post x3 u) ∧ (¬ x1 < x4 → wp_X6_findShift x4 u (fun u14 => ((x2 = 0 → wp_X6_driftOf_5  post n x1 x2 (x3 + (u14.1 24)) (x4 + 1) u14) ∧ (¬ x2 = 0 → wp_X6_driftOf_5  post n x1 x2 (x3 + (u14.1 25)) (x4 + 1) u14)))))
def wp_X6_driftOf (p1 : Int32) (p2 : Int32) (u : US) (post : Int32 → US → Prop) : Prop :=
  ∃ j, wp_X6_driftOf_5  post j p1 p2 (0 : Int32) (1 : Int32) u
def wp_X6_drift (p1 : Int32) (p2 : Int32) (u : US) (post : Int32 → US → Prop) : Prop :=
  wp_X6_isFrame p1 u (fun r2 u2 => ((r2 = 0 → post (-1000 : Int32) u2) ∧ (¬ r2 = 0 → wp_X6_in p2 (0 : Int32) (1 : Int32) u2 (fun r11 u11 => ((r11 = 0 → post (-1000 : Int32) u11) ∧ (¬ r11 = 0 → wp_X6_driftOf p1 p2 u11 (fun r20 u20 => post r20 u20)))))))
def wp_X6_placeAt (p1 : Int32) (p2 : Int32) (u : US) (post : Int32 → US → Prop) : Prop :=
  (vp_in p1 10 ∧ post ((((u.2 26) p1.toNatClampNeg) + p2) - ((u.2 10) (0 : Int32).toNatClampNeg)) u)
def wp_X6_strayAt (p1 : Int32) (u : US) (post : Int32 → US → Prop) : Prop :=
  wp_X6_size (p1 - ((u.2 10) (0 : Int32).toNatClampNeg)) u (fun r8 u8 => post r8 u8)
def wp_X6_by (p1 : Int32) (p2 : Int32) (p3 : Int32) (p4 : Int32) (u : US) (post : Int32 → US → Prop) : Prop :=
  wp_X6_placeAt (p1 + (1 : Int32)) p4 u (fun r6 u6 => wp_X6_placeAt p1 p3 u6 (fun r13 u13 => wp_X6_placeAt (p1 - (1 : Int32)) p2 u13 (fun r23 u23 => wp_X6_size ((r6 - ((2 : Int32) * r13)) + r23) u23 (fun r27 u27 => wp_X6_strayAt p4 u27 (fun r40 u40 => (vp_in ((((49 : Int32) * (p1 + (1 : Int32))) + ((7 : Int32) * p3)) + p4) 490 ∧ post ((((100 : Int32) * r27) + r40) + ((u40.2 28) ((((49 : Int32) * (p1 + (1 : Int32))) + ((7 : Int32) * p3)) + p4).toNatClampNeg)) u40))))))
def wp_X6_findRest_121 (k33 : Int32 → Int32 → Int32 → Int32 → US → Prop) (post : US → Prop) (x1 : Int32) (x2 : Int32) (x3 : Int32) (x4 : Int32) (x5 : Int32) (u : US) : Prop :=
  (vp_in ((((49 : Int32) * x2) + ((7 : Int32) * x3)) + x4) 490 ∧ k33 x1 x2 x3 (x4 + 1) (sA u 28 (upd (u.2 28) ((((49 : Int32) * x2) + ((7 : Int32) * x3)) + x4).toNatClampNeg x5)))
def wp_X6_findRest_67 (k33 : Int32 → Int32 → Int32 → Int32 → US → Prop) (post : US → Prop) : Nat → Int32 → Int32 → Int32 → Int32 → Int32 → Int32 → US → Prop
  | 0 => fun _ _ _ _ _ _ _ => False
  | n + 1 => fun x1 x2 x3 x4 x5 x6 u => ((x1 ≤ x6 → wp_X6_findRest_121 k33 post x1 x2 x3 x4 x5 u) ∧ (¬ x1 ≤ x6 → ((((u.1 2) - (1 : Int32)) ≤ x2 → wp_X6_findRest_121 k33 post x1 x2 x3 x4 x5 u) ∧ (¬ ((u.1 2) - (1 : Int32)) ≤ x2 → wp_X6_by x2 x3 x4 x6 u (fun r90 u90 => ((x5 ≤ r90 → wp_X6_findRest_67 k33 post n x1 x2 x3 x4 x5 (x6 + 1) u90) ∧ (¬ x5 ≤ r90 → wp_X6_by x2 x3 x4 x6 u90 (fun r105 u105 => wp_X6_findRest_67 k33 post n x1 x2 x3 x4 r105 (x6 + 1) u105))))))))
def wp_X6_findRest_33 (k25 : Int32 → Int32 → Int32 → US → Prop) (post : US → Prop) : Nat → Int32 → Int32 → Int32 → Int32 → US → Prop
  | 0 => fun _ _ _ _ _ => False
  | n + 1 => fun x1 x2 x3 x4 u => ((x1 ≤ x4 → k25 x1 x2 (x3 + 1) u) ∧ (¬ x1 ≤ x4 → ((x2 = ((u.1 2) - (1 : Int32)) → ∃ j, wp_X6_findRest_67 (wp_X6_findRest_33 k25 post n) post j x1 x2 x3 x4 (0 : Int32) (1 : Int32) u) ∧ (¬ x2 = ((u.1 2) - (1 : Int32)) → wp_X6_by x2 x3 x4 (0 : Int32) u (fun r59 u59 => ∃ j, wp_X6_findRest_67 (wp_X6_findRest_33 k25 post n) post j x1 x2 x3 x4 r59 (1 : Int32) u59)))))
def wp_X6_findRest_25 (k18 : Int32 → Int32 → US → Prop) (post : US → Prop) : Nat → Int32 → Int32 → Int32 → US → Prop
  | 0 => fun _ _ _ _ => False
  | n + 1 => fun x1 x2 x3 u => ((x1 ≤ x3 → k18 x1 (x2 + (-1)) u) ∧ (¬ x1 ≤ x3 → ∃ j, wp_X6_findRest_33 (wp_X6_findRest_25 k18 post n) post j x1 x2 x3 (0 : Int32) u))
def wp_X6_findRest_18  (post : US → Prop) : Nat → Int32 → Int32 → US → Prop
  | 0 => fun _ _ _ => False
  | n + 1 => fun x1 x2 u => ((x2 < (1 : Int32) → post u) ∧ (¬ x2 < (1 : Int32) → ∃ j, wp_X6_findRest_25 (wp_X6_findRest_18  post n) post j x1 x2 (0 : Int32) u))
def wp_X6_findRest  (u : US) (post : US → Prop) : Prop :=
  ∃ j, wp_X6_findRest_18  post j (((2 : Int32) * ((u.2 10) (0 : Int32).toNatClampNeg)) + (1 : Int32)) ((u.1 2) - (1 : Int32)) u
def wp_X6_findPath_142 (k94 : Int32 → Int32 → Int32 → Int32 → Int32 → Int32 → US → Prop) (post : US → Prop) (x2 : Int32) (x6 : Int32) (x7 : Int32) (x8 : Int32) (u : US) : Prop :=
  k94 x2 x8 x6 x7 x6 (x7 + 1) u
def wp_X6_findPath_94 (k85 : Int32 → Int32 → Int32 → Int32 → Int32 → US → Prop) (post : US → Prop) : Nat → Int32 → Int32 → Int32 → Int32 → Int32 → Int32 → US → Prop
  | 0 => fun _ _ _ _ _ _ _ => False
  | n + 1 => fun x2 x3 x4 x5 x6 x7 u => ((x2 ≤ x7 → k85 x2 x3 x4 x5 (x6 + 1) u) ∧ (¬ x2 ≤ x7 → wp_X6_strayAt x6 u (fun r103 u103 => wp_X6_strayAt x7 u103 (fun r109 u109 => (vp_in (((49 : Int32) + ((7 : Int32) * x6)) + x7) 490 ∧ ((x3 < 0 → wp_X6_findPath_142 (wp_X6_findPath_94 k85 post n) post x2 x6 x7 ((r103 + r109) + ((u109.2 28) (((49 : Int32) + ((7 : Int32) * x6)) + x7).toNatClampNeg)) u109) ∧ (¬ x3 < 0 → ((x3 ≤ ((r103 + r109) + ((u109.2 28) (((49 : Int32) + ((7 : Int32) * x6)) + x7).toNatClampNeg)) → wp_X6_findPath_94 k85 post n x2 x3 x4 x5 x6 (x7 + 1) u109) ∧ (¬ x3 ≤ ((r103 + r109) + ((u109.2 28) (((49 : Int32) + ((7 : Int32) * x6)) + x7).toNatClampNeg)) → wp_X6_findPath_142 (wp_X6_findPath_94 k85 post n) post x2 x6 x7 ((r103 + r109) + ((u109.2 28) (((49 : Int32) + ((7 : Int32) * x6)) + x7).toNatClampNeg)) u109)))))))))
def wp_X6_findPath_224 (k210 : Int32 → Int32 → Int32 → US → Prop) (post : US → Prop) : Nat → Int32 → Int32 → Int32 → Int32 → US → Prop
  | 0 => fun _ _ _ _ _ => False
  | n + 1 => fun x4 x5 x6 x7 u => wp_X6_by x6 x4 x5 x7 u (fun r233 u233 => (vp_in ((((49 : Int32) * x6) + ((7 : Int32) * x4)) + x5) 490 ∧ ((r233 = ((u233.2 28) ((((49 : Int32) * x6) + ((7 : Int32) * x4)) + x5).toNatClampNeg) → wp_X6_placeAt (x6 + (1 : Int32)) x7 u233 (fun r279 u279 => (vp_in (x6 + (1 : Int32)) 10 ∧ k210 x5 x7 (x6 + 1) (sA u279 27 (upd (u279.2 27) (x6 + (1 : Int32)).toNatClampNeg r279))))) ∧ (¬ r233 = ((u233.2 28) ((((49 : Int32) * x6) + ((7 : Int32) * x4)) + x5).toNatClampNeg) → wp_X6_findPath_224 k210 post n x4 x5 x6 (x7 + 1) u233))))
def wp_X6_findPath_210  (post : US → Prop) : Nat → Int32 → Int32 → Int32 → US → Prop
  | 0 => fun _ _ _ _ => False
  | n + 1 => fun x4 x5 x6 u => ((((u.1 2) - (1 : Int32)) ≤ x6 → post u) ∧ (¬ ((u.1 2) - (1 : Int32)) ≤ x6 → ∃ j, wp_X6_findPath_224 (wp_X6_findPath_210  post n) post j x4 x5 x6 (0 : Int32) u))
def wp_X6_findPath_85  (post : US → Prop) : Nat → Int32 → Int32 → Int32 → Int32 → Int32 → US → Prop
  | 0 => fun _ _ _ _ _ _ => False
  | n + 1 => fun x2 x3 x4 x5 x6 u => ((x2 ≤ x6 → wp_X6_placeAt (0 : Int32) x4 (si (si u 29 (x3 / (100 : Int32))) 30 (x3 - x3 / (100 : Int32) * (100 : Int32))) (fun r190 u190 => wp_X6_placeAt (1 : Int32) x5 (sA u190 27 (upd (u190.2 27) (0 : Int32).toNatClampNeg r190)) (fun r203 u203 => ∃ j, wp_X6_findPath_210  post j x4 x5 (1 : Int32) (sA u203 27 (upd (u203.2 27) (1 : Int32).toNatClampNeg r203))))) ∧ (¬ x2 ≤ x6 → ∃ j, wp_X6_findPath_94 (wp_X6_findPath_85  post n) post j x2 x3 x4 x5 x6 (0 : Int32) u))
def wp_X6_findPath_23  (post : US → Prop) : Nat → Int32 → Int32 → Int32 → US → Prop
  | 0 => fun _ _ _ _ => False
  | n + 1 => fun x1 x2 x3 u => (((u.1 2) ≤ x3 → (((2 : Int32) ≤ (u.1 2) → wp_X6_findRest u (fun u71 => ∃ j, wp_X6_findPath_85  post j x2 (-1 : Int32) (0 : Int32) (0 : Int32) (0 : Int32) u71)) ∧ (¬ (2 : Int32) ≤ (u.1 2) → post u))) ∧ (¬ (u.1 2) ≤ x3 → wp_X6_driftOf x3 x1 u (fun r39 u39 => (vp_in x3 10 ∧ (vp_in x3 10 ∧ (vp_in x3 10 ∧ wp_X6_findPath_23  post n x1 x2 (x3 + 1) (sA (sA u39 26 (upd (u39.2 26) x3.toNatClampNeg r39)) 27 (upd (u39.2 27) x3.toNatClampNeg ((upd (u39.2 26) x3.toNatClampNeg r39) x3.toNatClampNeg)))))))))
def wp_X6_findPath (p1 : Int32) (u : US) (post : US → Prop) : Prop :=
  ∃ j, wp_X6_findPath_23  post j p1 (((2 : Int32) * ((u.2 10) (0 : Int32).toNatClampNeg)) + (1 : Int32)) (0 : Int32) (si (si u 29 (0 : Int32)) 30 (0 : Int32))
def wp_X6_path (p1 : Int32) (p2 : Int32) (u : US) (post : Int32 → US → Prop) : Prop :=
  wp_X6_isFrame p1 u (fun r2 u2 => ((r2 = 0 → post (-1000 : Int32) u2) ∧ (¬ r2 = 0 → wp_X6_in p2 (0 : Int32) (1 : Int32) u2 (fun r11 u11 => ((r11 = 0 → post (-1000 : Int32) u11) ∧ (¬ r11 = 0 → wp_X6_findPath p2 u11 (fun u23 => (vp_in p1 10 ∧ post ((u23.2 27) p1.toNatClampNeg) u23))))))))
def wp_X6_bends (p1 : Int32) (p2 : Int32) (u : US) (post : Int32 → US → Prop) : Prop :=
  wp_X6_in p1 (0 : Int32) (1 : Int32) u (fun r3 u3 => ((r3 = 0 → post (-1 : Int32) u3) ∧ (¬ r3 = 0 → wp_X6_in p2 (0 : Int32) (1 : Int32) u3 (fun r12 u12 => ((r12 = 0 → post (-1 : Int32) u12) ∧ (¬ r12 = 0 → wp_X6_findPath p1 u12 (fun u22 => ((p2 = 0 → post (u22.1 29) u22) ∧ (¬ p2 = 0 → post (u22.1 30) u22)))))))))
def wp_X6_cleaned_117  (post : Int32 → US → Prop) (s0 : Int32) (x4 : Int32) (x5 : Int32) (u : US) : Prop :=
  ((s0 = 0 → post (-1 : Int32) u) ∧ (¬ s0 = 0 → post ((x4 + x5) / (2 : Int32)) u))
def wp_X6_cleaned_116  (post : Int32 → US → Prop) (x4 : Int32) (x5 : Int32) (u : US) : Prop :=
  wp_X6_cleaned_117  post (0 : Int32) x4 x5 u
def wp_X6_cleaned (p1 : Int32) (p2 : Int32) (p3 : Int32) (u : US) (post : Int32 → US → Prop) : Prop :=
  ((p3 = (-1 : Int32) → post (-1 : Int32) u) ∧ (¬ p3 = (-1 : Int32) → ((p1 = 0 → post (-1 : Int32) u) ∧ (¬ p1 = 0 → ((p1 = ((u.1 2) - (1 : Int32)) → post (-1 : Int32) u) ∧ (¬ p1 = ((u.1 2) - (1 : Int32)) → (vp_in (((36 : Int32) * (p1 - (1 : Int32))) + p2) 360 ∧ (vp_in (((36 : Int32) * (p1 + (1 : Int32))) + p2) 360 ∧ ((((u.2 3) (((36 : Int32) * (p1 - (1 : Int32))) + p2).toNatClampNeg) = (-1 : Int32) → wp_X6_cleaned_116  post ((u.2 3) (((36 : Int32) * (p1 - (1 : Int32))) + p2).toNatClampNeg) ((u.2 3) (((36 : Int32) * (p1 + (1 : Int32))) + p2).toNatClampNeg) u) ∧ (¬ ((u.2 3) (((36 : Int32) * (p1 - (1 : Int32))) + p2).toNatClampNeg) = (-1 : Int32) → ((((u.2 3) (((36 : Int32) * (p1 + (1 : Int32))) + p2).toNatClampNeg) = (-1 : Int32) → wp_X6_cleaned_116  post ((u.2 3) (((36 : Int32) * (p1 - (1 : Int32))) + p2).toNatClampNeg) ((u.2 3) (((36 : Int32) * (p1 + (1 : Int32))) + p2).toNatClampNeg) u) ∧ (¬ ((u.2 3) (((36 : Int32) * (p1 + (1 : Int32))) + p2).toNatClampNeg) = (-1 : Int32) → wp_X6_size (((u.2 3) (((36 : Int32) * (p1 - (1 : Int32))) + p2).toNatClampNeg) - ((u.2 3) (((36 : Int32) * (p1 + (1 : Int32))) + p2).toNatClampNeg)) u (fun r68 u68 => ((((u68.2 10) (1 : Int32).toNatClampNeg) < r68 → wp_X6_cleaned_116  post ((u.2 3) (((36 : Int32) * (p1 - (1 : Int32))) + p2).toNatClampNeg) ((u.2 3) (((36 : Int32) * (p1 + (1 : Int32))) + p2).toNatClampNeg) u68) ∧ (¬ ((u68.2 10) (1 : Int32).toNatClampNeg) < r68 → wp_X6_size (p3 - ((u.2 3) (((36 : Int32) * (p1 - (1 : Int32))) + p2).toNatClampNeg)) u68 (fun r84 u84 => ((r84 ≤ ((u84.2 10) (2 : Int32).toNatClampNeg) → wp_X6_cleaned_116  post ((u.2 3) (((36 : Int32) * (p1 - (1 : Int32))) + p2).toNatClampNeg) ((u.2 3) (((36 : Int32) * (p1 + (1 : Int32))) + p2).toNatClampNeg) u84) ∧ (¬ r84 ≤ ((u84.2 10) (2 : Int32).toNatClampNeg) → wp_X6_size (p3 - ((u.2 3) (((36 : Int32) * (p1 + (1 : Int32))) + p2).toNatClampNeg)) u84 (fun r100 u100 => ((r100 ≤ ((u100.2 10) (2 : Int32).toNatClampNeg) → wp_X6_cleaned_116  post ((u.2 3) (((36 : Int32) * (p1 - (1 : Int32))) + p2).toNatClampNeg) ((u.2 3) (((36 : Int32) * (p1 + (1 : Int32))) + p2).toNatClampNeg) u100) ∧ (¬ r100 ≤ ((u100.2 10) (2 : Int32).toNatClampNeg) → wp_X6_cleaned_117  post (1 : Int32) ((u.2 3) (((36 : Int32) * (p1 - (1 : Int32))) + p2).toNatClampNeg) ((u.2 3) (((36 : Int32) * (p1 + (1 : Int32))) + p2).toNatClampNeg) u100)))))))))))))))))))))
def wp_X6_dust_14  (post : Int32 → US → Prop) : Nat → Int32 → Int32 → Int32 → US → Prop
  | 0 => fun _ _ _ _ => False
  | n + 1 => fun x1 x2 x3 u => ((((u.1 0) * (u.1 1)) ≤ x3 → post x2 u) ∧ (¬ ((u.1 0) * (u.1 1)) ≤ x3 → (vp_in (((36 : Int32) * x1) + x3) 360 ∧ wp_X6_cleaned x1 x3 ((u.2 3) (((36 : Int32) * x1) + x3).toNatClampNeg) u (fun r42 u42 => ((r42 < 0 → wp_X6_dust_14  post n x1 (x2 + (0 : Int32)) (x3 + 1) u42) ∧ (¬ r42 < 0 → wp_X6_dust_14  post n x1 (x2 + (1 : Int32)) (x3 + 1) u42))))))
def wp_X6_dust (p1 : Int32) (u : US) (post : Int32 → US → Prop) : Prop :=
  wp_X6_isFrame p1 u (fun r2 u2 => ((r2 = 0 → post (-1 : Int32) u2) ∧ (¬ r2 = 0 → ∃ j, wp_X6_dust_14  post j p1 (0 : Int32) (0 : Int32) u2)))
def wp_X6_layer_140  (post : Int32 → US → Prop) (s0 : Int32) (s1 : Int32) (u : US) : Prop :=
  (vp_in s1 12 ∧ (vp_in (u.1 4) 12 ∧ post (((u.1 4) + (1 : Int32)) - (1 : Int32)) (si (sA (sA u 8 (upd (u.2 8) s1.toNatClampNeg s0)) 9 (upd (u.2 9) (u.1 4).toNatClampNeg (vp_nar .boolean (1 : Int32)))) 4 ((u.1 4) + (1 : Int32)))))
def wp_X6_layer_120  (post : Int32 → US → Prop) (s0 : Int32) (s1 : Int32) (x1 : Int32) (x4 : Int32) (u : US) : Prop :=
  (vp_in s1 12 ∧ ((x1 = (3 : Int32) → wp_X6_layer_140  post x4 (u.1 4) (sA u 7 (upd (u.2 7) s1.toNatClampNeg s0))) ∧ (¬ x1 = (3 : Int32) → wp_X6_layer_140  post (0 : Int32) (u.1 4) (sA u 7 (upd (u.2 7) s1.toNatClampNeg s0)))))
def wp_X6_layer_115  (post : Int32 → US → Prop) (s0 : Int32) (x1 : Int32) (x3 : Int32) (x4 : Int32) (u : US) : Prop :=
  wp_X6_layer_120  post x3 s0 x1 x4 u
def wp_X6_layer_65  (post : Int32 → US → Prop) (x1 : Int32) (x2 : Int32) (x3 : Int32) (x4 : Int32) (u : US) : Prop :=
  (((u.1 4) = (12 : Int32) → post (-2 : Int32) u) ∧ (¬ (u.1 4) = (12 : Int32) → (vp_in (u.1 4) 12 ∧ (vp_in (u.1 4) 12 ∧ ((x1 = (1 : Int32) → wp_X6_layer_115  post (u.1 4) x1 x3 x4 (sA (sA u 5 (upd (u.2 5) (u.1 4).toNatClampNeg x1)) 6 (upd (u.2 6) (u.1 4).toNatClampNeg x2))) ∧ (¬ x1 = (1 : Int32) → ((x1 = (3 : Int32) → wp_X6_layer_115  post (u.1 4) x1 x3 x4 (sA (sA u 5 (upd (u.2 5) (u.1 4).toNatClampNeg x1)) 6 (upd (u.2 6) (u.1 4).toNatClampNeg x2))) ∧ (¬ x1 = (3 : Int32) → wp_X6_layer_120  post (0 : Int32) (u.1 4) x1 x4 (sA (sA u 5 (upd (u.2 5) (u.1 4).toNatClampNeg x1)) 6 (upd (u.2 6) (u.1 4).toNatClampNeg x2))))))))))
def wp_X6_layer_37  (post : Int32 → US → Prop) (x1 : Int32) (x2 : Int32) (x3 : Int32) (x4 : Int32) (u : US) : Prop :=
  ((x1 = (3 : Int32) → wp_X6_in x3 (-3 : Int32) (3 : Int32) u (fun r46 u46 => ((r46 = 0 → post (-1 : Int32) u46) ∧ (¬ r46 = 0 → wp_X6_in x4 (-3 : Int32) (3 : Int32) u46 (fun r57 u57 => ((r57 = 0 → post (-1 : Int32) u57) ∧ (¬ r57 = 0 → wp_X6_layer_65  post x1 x2 x3 x4 u57))))))) ∧ (¬ x1 = (3 : Int32) → wp_X6_layer_65  post x1 x2 x3 x4 u))
def wp_X6_layer (p1 : Int32) (p2 : Int32) (p3 : Int32) (p4 : Int32) (u : US) (post : Int32 → US → Prop) : Prop :=
  wp_X6_in p1 (0 : Int32) (3 : Int32) u (fun r3 u3 => ((r3 = 0 → post (-1 : Int32) u3) ∧ (¬ r3 = 0 → wp_X6_isFrame p2 u3 (fun r11 u11 => ((r11 = 0 → post (-1 : Int32) u11) ∧ (¬ r11 = 0 → ((p1 = (1 : Int32) → wp_X6_isFrame p3 u11 (fun r26 u26 => ((r26 = 0 → post (-1 : Int32) u26) ∧ (¬ r26 = 0 → ((p3 = p2 → post (-1 : Int32) u26) ∧ (¬ p3 = p2 → wp_X6_layer_37  post p1 p2 p3 p4 u26)))))) ∧ (¬ p1 = (1 : Int32) → wp_X6_layer_37  post p1 p2 p3 p4 u11))))))))
def wp_X6_isLayer (p1 : Int32) (u : US) (post : Int32 → US → Prop) : Prop :=
  wp_X6_in p1 (0 : Int32) ((u.1 4) - (1 : Int32)) u (fun r8 u8 => (isB r8 ∧ post r8 u8))
def wp_X6_on_25  (post : Int32 → US → Prop) (s0 : Int32) (x1 : Int32) (x2 : Int32) (u : US) : Prop :=
  (vp_in x1 12 ∧ post s0 (sA u 9 (upd (u.2 9) x1.toNatClampNeg (vp_nar .boolean x2))))
def wp_X6_on (p1 : Int32) (p2 : Int32) (u : US) (post : Int32 → US → Prop) : Prop :=
  wp_X6_isLayer p1 u (fun r2 u2 => ((r2 = 0 → post (-1 : Int32) u2) ∧ (¬ r2 = 0 → (vp_in p1 12 ∧ ((((u2.2 9) p1.toNatClampNeg) = p2 → wp_X6_on_25  post (0 : Int32) p1 p2 u2) ∧ (¬ ((u2.2 9) p1.toNatClampNeg) = p2 → wp_X6_on_25  post (1 : Int32) p1 p2 u2))))))
def wp_X6_peel  (u : US) (post : Int32 → US → Prop) : Prop :=
  (((u.1 4) = 0 → post (-3 : Int32) u) ∧ (¬ (u.1 4) = 0 → post ((u.1 4) - (1 : Int32)) (si u 4 ((u.1 4) - (1 : Int32)))))
def wp_X6_filledFrom (p1 : Int32) (p2 : Int32) (u : US) (post : Int32 → US → Prop) : Prop :=
  ((p1 < 0 → post (-1 : Int32) u) ∧ (¬ p1 < 0 → ((p1 < (u.1 2) → (vp_in (((36 : Int32) * p1) + p2) 360 ∧ post ((u.2 3) (((36 : Int32) * p1) + p2).toNatClampNeg) u)) ∧ (¬ p1 < (u.1 2) → post (-1 : Int32) u))))
def wp_X6_rising_15 (k5 : Int32 → Int32 → Int32 → US → Prop) (post : Int32 → US → Prop) : Nat → Int32 → Int32 → Int32 → Int32 → US → Prop
  | 0 => fun _ _ _ _ _ => False
  | n + 1 => fun x1 x3 x4 x5 u => ((((u.1 0) * (u.1 1)) ≤ x5 → k5 x1 x3 (x4 + 1) u) ∧ (¬ ((u.1 0) * (u.1 1)) ≤ x5 → (vp_in (((36 : Int32) * x1) + x5) 360 ∧ ((((u.2 3) (((36 : Int32) * x1) + x5).toNatClampNeg) = x4 → ((x3 = 0 → post x4 u) ∧ (¬ x3 = 0 → wp_X6_rising_15 k5 post n x1 (x3 + (-1)) x4 (x5 + 1) u))) ∧ (¬ ((u.2 3) (((36 : Int32) * x1) + x5).toNatClampNeg) = x4 → wp_X6_rising_15 k5 post n x1 x3 x4 (x5 + 1) u)))))
def wp_X6_rising_5  (post : Int32 → US → Prop) : Nat → Int32 → Int32 → Int32 → US → Prop
  | 0 => fun _ _ _ _ => False
  | n + 1 => fun x1 x3 x4 u => (((64 : Int32) ≤ x4 → post (-1 : Int32) u) ∧ (¬ (64 : Int32) ≤ x4 → ∃ j, wp_X6_rising_15 (wp_X6_rising_5  post n) post j x1 x3 x4 (0 : Int32) u))
def wp_X6_rising (p1 : Int32) (p2 : Int32) (u : US) (post : Int32 → US → Prop) : Prop :=
  ∃ j, wp_X6_rising_5  post j p1 p2 (0 : Int32) u
def wp_X6_matched_97 (k14 : Int32 → Int32 → Int32 → Int32 → Int32 → Int32 → Int32 → US → Prop) (post : Int32 → US → Prop) (s0 : Int32) (s1 : Int32) (x1 : Int32) (x2 : Int32) (x3 : Int32) (x4 : Int32) (x6 : Int32) (x7 : Int32) (u : US) : Prop :=
  (vp_in (((36 : Int32) * x1) + x7) 360 ∧ ((((u.2 3) (((36 : Int32) * x1) + x7).toNatClampNeg) = (-1 : Int32) → k14 x1 x2 x3 x4 (s1 + s0) (x6 + (0 : Int32)) (x7 + 1) u) ∧ (¬ ((u.2 3) (((36 : Int32) * x1) + x7).toNatClampNeg) = (-1 : Int32) → k14 x1 x2 x3 x4 (s1 + s0) (x6 + (1 : Int32)) (x7 + 1) u)))
def wp_X6_matched_76 (k14 : Int32 → Int32 → Int32 → Int32 → Int32 → Int32 → Int32 → US → Prop) (post : Int32 → US → Prop) (s0 : Int32) (s1 : Int32) (x1 : Int32) (x2 : Int32) (x3 : Int32) (x5 : Int32) (x6 : Int32) (x7 : Int32) (u : US) : Prop :=
  (vp_in x7 36 ∧ ((((u.2 32) x7.toNatClampNeg) = x2 → wp_X6_matched_97 k14 post (1 : Int32) x5 x1 x2 x3 (s1 + s0) x6 x7 u) ∧ (¬ ((u.2 32) x7.toNatClampNeg) = x2 → wp_X6_matched_97 k14 post (0 : Int32) x5 x1 x2 x3 (s1 + s0) x6 x7 u)))
def wp_X6_matched_75 (k14 : Int32 → Int32 → Int32 → Int32 → Int32 → Int32 → Int32 → US → Prop) (post : Int32 → US → Prop) (s0 : Int32) (x1 : Int32) (x2 : Int32) (x3 : Int32) (x5 : Int32) (x6 : Int32) (x7 : Int32) (u : US) : Prop :=
  wp_X6_matched_76 k14 post (0 : Int32) s0 x1 x2 x3 x5 x6 x7 u
def wp_X6_matched_45 (k14 : Int32 → Int32 → Int32 → Int32 → Int32 → Int32 → Int32 → US → Prop) (post : Int32 → US → Prop) (s0 : Int32) (s1 : Int32) (x1 : Int32) (x2 : Int32) (x4 : Int32) (x5 : Int32) (x6 : Int32) (x7 : Int32) (u : US) : Prop :=
  (vp_in x7 36 ∧ ((((u.2 32) x7.toNatClampNeg) = (-1 : Int32) → wp_X6_matched_75 k14 post x4 x1 x2 (s1 + s0) x5 x6 x7 u) ∧ (¬ ((u.2 32) x7.toNatClampNeg) = (-1 : Int32) → (vp_in x7 36 ∧ ((x2 ≤ ((u.2 32) x7.toNatClampNeg) → wp_X6_matched_75 k14 post x4 x1 x2 (s1 + s0) x5 x6 x7 u) ∧ (¬ x2 ≤ ((u.2 32) x7.toNatClampNeg) → wp_X6_matched_76 k14 post (1 : Int32) x4 x1 x2 (s1 + s0) x5 x6 x7 u))))))
def wp_X6_matched_14  (post : Int32 → US → Prop) : Nat → Int32 → Int32 → Int32 → Int32 → Int32 → Int32 → Int32 → US → Prop
  | 0 => fun _ _ _ _ _ _ _ _ => False
  | n + 1 => fun x1 x2 x3 x4 x5 x6 x7 u => ((((u.1 0) * (u.1 1)) ≤ x7 → ((x2 = (-1 : Int32) → post x2 u) ∧ (¬ x2 = (-1 : Int32) → ((x6 = 0 → post x2 u) ∧ (¬ x6 = 0 → (¬ x3 = 0 ∧ wp_X6_rising x1 (((((((2 : Int32) * x4) + x5) - (1 : Int32)) / (2 : Int32)) * x6) / x3) u (fun r162 u162 => post r162 u162))))))) ∧ (¬ ((u.1 0) * (u.1 1)) ≤ x7 → (vp_in x7 36 ∧ ((((u.2 32) x7.toNatClampNeg) = (-1 : Int32) → wp_X6_matched_45 (wp_X6_matched_14  post n) post (0 : Int32) x3 x1 x2 x4 x5 x6 x7 u) ∧ (¬ ((u.2 32) x7.toNatClampNeg) = (-1 : Int32) → wp_X6_matched_45 (wp_X6_matched_14  post n) post (1 : Int32) x3 x1 x2 x4 x5 x6 x7 u)))))
def wp_X6_matched (p1 : Int32) (p2 : Int32) (u : US) (post : Int32 → US → Prop) : Prop :=
  ∃ j, wp_X6_matched_14  post j p1 p2 (0 : Int32) (0 : Int32) (0 : Int32) (0 : Int32) (0 : Int32) u
def wp_X6_moved (p1 : Int32) (p2 : Int32) (u : US) (post : Int32 → US → Prop) : Prop :=
  (¬ (u.1 1) = 0 ∧ (vp_in p1 12 ∧ (¬ (u.1 1) = 0 ∧ (vp_in p1 12 ∧ wp_X6_isSquare ((p2 / (u.1 1)) - ((u.2 8) p1.toNatClampNeg)) ((p2 - p2 / (u.1 1) * (u.1 1)) - ((u.2 7) p1.toNatClampNeg)) u (fun r33 u33 => ((r33 = 0 → post (-1 : Int32) u33) ∧ (¬ r33 = 0 → (vp_in (((u33.1 1) * ((p2 / (u.1 1)) - ((u.2 8) p1.toNatClampNeg))) + ((p2 - p2 / (u.1 1) * (u.1 1)) - ((u.2 7) p1.toNatClampNeg))) 36 ∧ post ((u33.2 32) (((u33.1 1) * ((p2 / (u.1 1)) - ((u.2 8) p1.toNatClampNeg))) + ((p2 - p2 / (u.1 1) * (u.1 1)) - ((u.2 7) p1.toNatClampNeg))).toNatClampNeg) u33))))))))
def wp_X6_goes_208 (k49 : Int32 → Int32 → Int32 → Int32 → US → Prop) (post : Int32 → US → Prop) (x1 : Int32) (x2 : Int32) (x3 : Int32) (x4 : Int32) (x5 : Int32) (u : US) : Prop :=
  (vp_in x4 36 ∧ (vp_in x4 36 ∧ ((x5 = ((u.2 32) x4.toNatClampNeg) → k49 x1 x2 (x3 + (0 : Int32)) (x4 + 1) (sA u 31 (upd (u.2 31) x4.toNatClampNeg x5))) ∧ (¬ x5 = ((u.2 32) x4.toNatClampNeg) → k49 x1 x2 (x3 + (1 : Int32)) (x4 + 1) (sA u 31 (upd (u.2 31) x4.toNatClampNeg x5))))))
def wp_X6_goes_107 (k49 : Int32 → Int32 → Int32 → Int32 → US → Prop) (post : Int32 → US → Prop) (s0 : Int32) (x1 : Int32) (x2 : Int32) (x3 : Int32) (x4 : Int32) (u : US) : Prop :=
  wp_X6_goes_208 k49 post x1 x2 x3 x4 s0 u
def wp_X6_goes_194 (k49 : Int32 → Int32 → Int32 → Int32 → US → Prop) (post : Int32 → US → Prop) (s0 : Int32) (x1 : Int32) (x2 : Int32) (x3 : Int32) (x4 : Int32) (u : US) : Prop :=
  wp_X6_goes_208 k49 post x1 x2 x3 x4 s0 u
def wp_X6_goes_49  (post : Int32 → US → Prop) : Nat → Int32 → Int32 → Int32 → Int32 → US → Prop
  | 0 => fun _ _ _ _ _ => False
  | n + 1 => fun x1 x2 x3 x4 u => ((((u.1 0) * (u.1 1)) ≤ x4 → post x3 u) ∧ (¬ ((u.1 0) * (u.1 1)) ≤ x4 → (vp_in x4 36 ∧ (vp_in x1 12 ∧ ((((u.2 5) x1.toNatClampNeg) = 0 → wp_X6_cleaned x2 x4 ((u.2 32) x4.toNatClampNeg) u (fun r87 u87 => ((r87 < 0 → wp_X6_goes_107 (wp_X6_goes_49  post n) post ((u.2 32) x4.toNatClampNeg) x1 x2 x3 x4 u87) ∧ (¬ r87 < 0 → wp_X6_cleaned x2 x4 ((u.2 32) x4.toNatClampNeg) u87 (fun r99 u99 => wp_X6_goes_107 (wp_X6_goes_49  post n) post r99 x1 x2 x3 x4 u99))))) ∧ (¬ ((u.2 5) x1.toNatClampNeg) = 0 → (vp_in x1 12 ∧ ((((u.2 5) x1.toNatClampNeg) = (1 : Int32) → (vp_in x1 12 ∧ wp_X6_matched ((u.2 7) x1.toNatClampNeg) ((u.2 32) x4.toNatClampNeg) u (fun r131 u131 => wp_X6_goes_208 (wp_X6_goes_49  post n) post x1 x2 x3 x4 r131 u131))) ∧ (¬ ((u.2 5) x1.toNatClampNeg) = (1 : Int32) → (vp_in x1 12 ∧ ((((u.2 5) x1.toNatClampNeg) = (2 : Int32) → ((((u.2 32) x4.toNatClampNeg) = (-1 : Int32) → wp_X6_filledFrom (x2 - (1 : Int32)) x4 u (fun r166 u166 => ((r166 = (-1 : Int32) → wp_X6_filledFrom (x2 + (1 : Int32)) x4 u166 (fun r191 u191 => wp_X6_goes_194 (wp_X6_goes_49  post n) post r191 x1 x2 x3 x4 u191)) ∧ (¬ r166 = (-1 : Int32) → wp_X6_filledFrom (x2 - (1 : Int32)) x4 u166 (fun r179 u179 => wp_X6_goes_194 (wp_X6_goes_49  post n) post r179 x1 x2 x3 x4 u179))))) ∧ (¬ ((u.2 32) x4.toNatClampNeg) = (-1 : Int32) → wp_X6_goes_194 (wp_X6_goes_49  post n) post ((u.2 32) x4.toNatClampNeg) x1 x2 x3 x4 u))) ∧ (¬ ((u.2 5) x1.toNatClampNeg) = (2 : Int32) → wp_X6_moved x1 x4 u (fun r203 u203 => wp_X6_goes_208 (wp_X6_goes_49  post n) post x1 x2 x3 x4 r203 u203)))))))))))))
def wp_X6_goes_12  (post : Int32 → US → Prop) : Nat → Int32 → Int32 → Int32 → Int32 → US → Prop
  | 0 => fun _ _ _ _ _ => False
  | n + 1 => fun x1 x2 x3 x4 u => ((((u.1 0) * (u.1 1)) ≤ x4 → ∃ j, wp_X6_goes_49  post j x1 x2 x3 (0 : Int32) u) ∧ (¬ ((u.1 0) * (u.1 1)) ≤ x4 → (vp_in x4 36 ∧ (vp_in x4 36 ∧ wp_X6_goes_12  post n x1 x2 x3 (x4 + 1) (sA u 32 (upd (u.2 32) x4.toNatClampNeg ((u.2 31) x4.toNatClampNeg)))))))
def wp_X6_goes (p1 : Int32) (u : US) (post : Int32 → US → Prop) : Prop :=
  (vp_in p1 12 ∧ ∃ j, wp_X6_goes_12  post j p1 ((u.2 6) p1.toNatClampNeg) (0 : Int32) (0 : Int32) u)
def wp_X6_makes_47  (post : Int32 → US → Prop) : Nat → Int32 → Int32 → Int32 → Int32 → US → Prop
  | 0 => fun _ _ _ _ _ => False
  | n + 1 => fun x1 x2 x3 x4 u => (((u.1 4) ≤ x4 → post x3 u) ∧ (¬ (u.1 4) ≤ x4 → (vp_in x4 12 ∧ ((((u.2 6) x4.toNatClampNeg) = x1 → (vp_in x4 12 ∧ ((((u.2 9) x4.toNatClampNeg) = 0 → wp_X6_makes_47  post n x1 x2 x3 (x4 + 1) u) ∧ (¬ ((u.2 9) x4.toNatClampNeg) = 0 → wp_X6_goes x4 u (fun r80 u80 => ((x4 = x2 → wp_X6_makes_47  post n x1 x2 r80 (x4 + 1) u80) ∧ (¬ x4 = x2 → wp_X6_makes_47  post n x1 x2 x3 (x4 + 1) u80))))))) ∧ (¬ ((u.2 6) x4.toNatClampNeg) = x1 → wp_X6_makes_47  post n x1 x2 x3 (x4 + 1) u)))))
def wp_X6_makes_5  (post : Int32 → US → Prop) : Nat → Int32 → Int32 → Int32 → Int32 → US → Prop
  | 0 => fun _ _ _ _ _ => False
  | n + 1 => fun x1 x2 x3 x4 u => ((((u.1 0) * (u.1 1)) ≤ x4 → ∃ j, wp_X6_makes_47  post j x1 x2 x3 (0 : Int32) u) ∧ (¬ ((u.1 0) * (u.1 1)) ≤ x4 → (vp_in (((36 : Int32) * x1) + x4) 360 ∧ (vp_in x4 36 ∧ wp_X6_makes_5  post n x1 x2 x3 (x4 + 1) (sA u 31 (upd (u.2 31) x4.toNatClampNeg ((u.2 3) (((36 : Int32) * x1) + x4).toNatClampNeg)))))))
def wp_X6_makes (p1 : Int32) (p2 : Int32) (u : US) (post : Int32 → US → Prop) : Prop :=
  ∃ j, wp_X6_makes_5  post j p1 p2 (0 : Int32) (0 : Int32) u
def wp_X6_made (p1 : Int32) (p2 : Int32) (p3 : Int32) (u : US) (post : Int32 → US → Prop) : Prop :=
  wp_X6_isFrame p1 u (fun r2 u2 => ((r2 = 0 → post (-1000 : Int32) u2) ∧ (¬ r2 = 0 → wp_X6_isSquare p2 p3 u2 (fun r11 u11 => ((r11 = 0 → post (-1000 : Int32) u11) ∧ (¬ r11 = 0 → wp_X6_makes p1 (-1 : Int32) u11 (fun r24 u24 => (vp_in (((u24.1 1) * p2) + p3) 36 ∧ post ((u24.2 31) (((u24.1 1) * p2) + p3).toNatClampNeg) u24))))))))
def wp_X6_changed (p1 : Int32) (u : US) (post : Int32 → US → Prop) : Prop :=
  wp_X6_isLayer p1 u (fun r2 u2 => ((r2 = 0 → post (-1 : Int32) u2) ∧ (¬ r2 = 0 → (vp_in p1 12 ∧ wp_X6_makes ((u2.2 6) p1.toNatClampNeg) p1 u2 (fun r16 u16 => post r16 u16)))))
def wp_X6_of (p1 : Int32) (p2 : Int32) (u : US) (post : Int32 → US → Prop) : Prop :=
  wp_X6_isLayer p1 u (fun r2 u2 => ((r2 = 0 → post (-1000 : Int32) u2) ∧ (¬ r2 = 0 → ((p2.toInt < 0 ∨ 4 < p2.toInt → post (-1000 : Int32) u2) ∧ (p2.toInt = 0 → (vp_in p1 12 ∧ post ((u2.2 5) p1.toNatClampNeg) u2)) ∧ (p2.toInt = 1 → (vp_in p1 12 ∧ post ((u2.2 6) p1.toNatClampNeg) u2)) ∧ (p2.toInt = 2 → (vp_in p1 12 ∧ post ((u2.2 7) p1.toNatClampNeg) u2)) ∧ (p2.toInt = 3 → (vp_in p1 12 ∧ post ((u2.2 8) p1.toNatClampNeg) u2)) ∧ (p2.toInt = 4 → (vp_in p1 12 ∧ ((((u2.2 9) p1.toNatClampNeg) = 0 → post (0 : Int32) u2) ∧ (¬ ((u2.2 9) p1.toNatClampNeg) = 0 → post (1 : Int32) u2))))))))
def wp_X6_told_128 (k45 : Int32 → Int32 → Int32 → Int32 → Int32 → Int32 → Int32 → Int32 → US → Prop) (post : Int32 → US → Prop) (s0 : Int32) (x1 : Int32) (x2 : Int32) (x4 : Int32) (x5 : Int32) (x7 : Int32) (x8 : Int32) (x9 : Int32) (x10 : Int32) (u : US) : Prop :=
  ((x10 ≤ x7 → k45 x1 x2 x4 x5 s0 x7 x8 (x9 + 1) u) ∧ (¬ x10 ≤ x7 → k45 x1 x2 x4 x5 s0 x10 x8 (x9 + 1) u))
def wp_X6_told_92 (k45 : Int32 → Int32 → Int32 → Int32 → Int32 → Int32 → Int32 → Int32 → US → Prop) (post : Int32 → US → Prop) (s0 : Int32) (s1 : Int32) (x1 : Int32) (x2 : Int32) (x4 : Int32) (x5 : Int32) (x6 : Int32) (x7 : Int32) (x9 : Int32) (x10 : Int32) (u : US) : Prop :=
  ((x10 = (-1 : Int32) → k45 x1 x2 (x4 + 1) x5 x6 x7 (s1 + s0) (x9 + 1) u) ∧ (¬ x10 = (-1 : Int32) → ((x6 ≤ x10 → wp_X6_told_128 k45 post x6 x1 x2 x4 (x5 + x10) x7 (s1 + s0) x9 x10 u) ∧ (¬ x6 ≤ x10 → wp_X6_told_128 k45 post x10 x1 x2 x4 (x5 + x10) x7 (s1 + s0) x9 x10 u))))
def wp_X6_told_162  (post : Int32 → US → Prop) (x2 : Int32) (x6 : Int32) (x7 : Int32) (u : US) : Prop :=
  ((x7 = (-1 : Int32) → post (-3 : Int32) u) ∧ (¬ x7 = (-1 : Int32) → ((x2 = (2 : Int32) → post x6 u) ∧ (¬ x2 = (2 : Int32) → post x7 u))))
def wp_X6_told_45  (post : Int32 → US → Prop) : Nat → Int32 → Int32 → Int32 → Int32 → Int32 → Int32 → Int32 → Int32 → US → Prop
  | 0 => fun _ _ _ _ _ _ _ _ _ => False
  | n + 1 => fun x1 x2 x4 x5 x6 x7 x8 x9 u => ((((u.1 0) * (u.1 1)) ≤ x9 → ((x2 = (2 : Int32) → wp_X6_told_162  post x2 x6 x7 u) ∧ (¬ x2 = (2 : Int32) → ((x2 = (3 : Int32) → wp_X6_told_162  post x2 x6 x7 u) ∧ (¬ x2 = (3 : Int32) → ((x2 = 0 → post x4 u) ∧ (¬ x2 = 0 → ((x2 = (1 : Int32) → post x5 u) ∧ (¬ x2 = (1 : Int32) → post x8 u))))))))) ∧ (¬ ((u.1 0) * (u.1 1)) ≤ x9 → (vp_in x9 36 ∧ (vp_in (((36 : Int32) * x1) + x9) 360 ∧ ((((u.2 31) x9.toNatClampNeg) = ((u.2 3) (((36 : Int32) * x1) + x9).toNatClampNeg) → wp_X6_told_92 (wp_X6_told_45  post n) post (0 : Int32) x8 x1 x2 x4 x5 x6 x7 x9 ((u.2 31) x9.toNatClampNeg) u) ∧ (¬ ((u.2 31) x9.toNatClampNeg) = ((u.2 3) (((36 : Int32) * x1) + x9).toNatClampNeg) → wp_X6_told_92 (wp_X6_told_45  post n) post (1 : Int32) x8 x1 x2 x4 x5 x6 x7 x9 ((u.2 31) x9.toNatClampNeg) u))))))
def wp_X6_told (p1 : Int32) (p2 : Int32) (u : US) (post : Int32 → US → Prop) : Prop :=
  wp_X6_isFrame p1 u (fun r2 u2 => ((r2 = 0 → post (-1 : Int32) u2) ∧ (¬ r2 = 0 → wp_X6_in p2 (0 : Int32) (4 : Int32) u2 (fun r11 u11 => ((r11 = 0 → post (-1 : Int32) u11) ∧ (¬ r11 = 0 → wp_X6_makes p1 (-1 : Int32) u11 (fun r22 u22 => ∃ j, wp_X6_told_45  post j p1 p2 (0 : Int32) (0 : Int32) (64 : Int32) (-1 : Int32) (0 : Int32) (0 : Int32) u22)))))))
def wp_X6_many_74  (post : Int32 → US → Prop) : Nat → Int32 → Int32 → US → Prop
  | 0 => fun _ _ _ => False
  | n + 1 => fun x2 x3 u => (((u.1 4) ≤ x3 → post x2 u) ∧ (¬ (u.1 4) ≤ x3 → (vp_in x3 12 ∧ ((((u.2 9) x3.toNatClampNeg) = 0 → wp_X6_many_74  post n (x2 + (0 : Int32)) (x3 + 1) u) ∧ (¬ ((u.2 9) x3.toNatClampNeg) = 0 → wp_X6_many_74  post n (x2 + (1 : Int32)) (x3 + 1) u)))))
def wp_X6_many_120 (k109 : Int32 → Int32 → US → Prop) (post : Int32 → US → Prop) : Nat → Int32 → Int32 → Int32 → US → Prop
  | 0 => fun _ _ _ _ => False
  | n + 1 => fun x2 x3 x4 u => ((((u.1 0) * (u.1 1)) ≤ x4 → k109 x2 (x3 + 1) u) ∧ (¬ ((u.1 0) * (u.1 1)) ≤ x4 → (vp_in (((36 : Int32) * x3) + x4) 360 ∧ ((((u.2 3) (((36 : Int32) * x3) + x4).toNatClampNeg) = (-1 : Int32) → wp_X6_many_120 k109 post n (x2 + (1 : Int32)) x3 (x4 + 1) u) ∧ (¬ ((u.2 3) (((36 : Int32) * x3) + x4).toNatClampNeg) = (-1 : Int32) → wp_X6_many_120 k109 post n (x2 + (0 : Int32)) x3 (x4 + 1) u)))))
def wp_X6_many_109  (post : Int32 → US → Prop) : Nat → Int32 → Int32 → US → Prop
  | 0 => fun _ _ _ => False
  | n + 1 => fun x2 x3 u => (((u.1 2) ≤ x3 → post x2 u) ∧ (¬ (u.1 2) ≤ x3 → ∃ j, wp_X6_many_120 (wp_X6_many_109  post n) post j x2 x3 (0 : Int32) u))
def wp_X6_many (p1 : Int32) (u : US) (post : Int32 → US → Prop) : Prop :=
  ((p1.toInt < 0 ∨ 8 < p1.toInt → post (-1 : Int32) u) ∧ (p1.toInt = 0 → post (u.1 0) u) ∧ (p1.toInt = 1 → post (u.1 1) u) ∧ (p1.toInt = 2 → post (u.1 2) u) ∧ (p1.toInt = 3 → post (u.1 4) u) ∧ (p1.toInt = 4 → ∃ j, wp_X6_many_74  post j (0 : Int32) (0 : Int32) u) ∧ (p1.toInt = 5 → ∃ j, wp_X6_many_109  post j (0 : Int32) (0 : Int32) u) ∧ (p1.toInt = 6 → (vp_in (p1 - (6 : Int32)) 3 ∧ post ((u.2 10) (p1 - (6 : Int32)).toNatClampNeg) u)) ∧ (p1.toInt = 7 → (vp_in (p1 - (6 : Int32)) 3 ∧ post ((u.2 10) (p1 - (6 : Int32)).toNatClampNeg) u)) ∧ (p1.toInt = 8 → (vp_in (p1 - (6 : Int32)) 3 ∧ post ((u.2 10) (p1 - (6 : Int32)).toNatClampNeg) u)))
def wp_X6_keep_66  (post : Int32 → US → Prop) : Nat → Int32 → US → Prop
  | 0 => fun _ _ => False
  | n + 1 => fun x1 u => (((12 : Int32) ≤ x1 → post (1 : Int32) u) ∧ (¬ (12 : Int32) ≤ x1 → (vp_in x1 12 ∧ (vp_in x1 12 ∧ (vp_in x1 12 ∧ (vp_in x1 12 ∧ (vp_in x1 12 ∧ (vp_in x1 12 ∧ (vp_in x1 12 ∧ (vp_in x1 12 ∧ (vp_in x1 12 ∧ (vp_in x1 12 ∧ wp_X6_keep_66  post n (x1 + 1) (sA (sA (sA (sA (sA u 17 (upd (u.2 17) x1.toNatClampNeg ((u.2 5) x1.toNatClampNeg))) 18 (upd (u.2 18) x1.toNatClampNeg ((u.2 6) x1.toNatClampNeg))) 19 (upd (u.2 19) x1.toNatClampNeg ((u.2 7) x1.toNatClampNeg))) 20 (upd (u.2 20) x1.toNatClampNeg ((u.2 8) x1.toNatClampNeg))) 21 (upd (u.2 21) x1.toNatClampNeg (vp_nar .boolean ((u.2 9) x1.toNatClampNeg))))))))))))))))
def wp_X6_keep_39  (post : Int32 → US → Prop) : Nat → Int32 → US → Prop
  | 0 => fun _ _ => False
  | n + 1 => fun x1 u => (((360 : Int32) ≤ x1 → ∃ j, wp_X6_keep_66  post j (0 : Int32) u) ∧ (¬ (360 : Int32) ≤ x1 → (vp_in x1 360 ∧ (vp_in x1 360 ∧ wp_X6_keep_39  post n (x1 + 1) (sA u 15 (upd (u.2 15) x1.toNatClampNeg ((u.2 3) x1.toNatClampNeg)))))))
def wp_X6_keep  (u : US) (post : Int32 → US → Prop) : Prop :=
  ∃ j, wp_X6_keep_39  post j (0 : Int32) (si (si (si (si (si u 11 (1 : Int32)) 12 (u.1 0)) 13 (u.1 1)) 14 (u.1 2)) 16 (u.1 4))
def wp_X6_back_71  (post : Int32 → US → Prop) : Nat → Int32 → US → Prop
  | 0 => fun _ _ => False
  | n + 1 => fun x1 u => (((12 : Int32) ≤ x1 → post (1 : Int32) u) ∧ (¬ (12 : Int32) ≤ x1 → (vp_in x1 12 ∧ (vp_in x1 12 ∧ (vp_in x1 12 ∧ (vp_in x1 12 ∧ (vp_in x1 12 ∧ (vp_in x1 12 ∧ (vp_in x1 12 ∧ (vp_in x1 12 ∧ (vp_in x1 12 ∧ (vp_in x1 12 ∧ wp_X6_back_71  post n (x1 + 1) (sA (sA (sA (sA (sA u 5 (upd (u.2 5) x1.toNatClampNeg ((u.2 17) x1.toNatClampNeg))) 6 (upd (u.2 6) x1.toNatClampNeg ((u.2 18) x1.toNatClampNeg))) 7 (upd (u.2 7) x1.toNatClampNeg ((u.2 19) x1.toNatClampNeg))) 8 (upd (u.2 8) x1.toNatClampNeg ((u.2 20) x1.toNatClampNeg))) 9 (upd (u.2 9) x1.toNatClampNeg (vp_nar .boolean ((u.2 21) x1.toNatClampNeg))))))))))))))))
def wp_X6_back_44  (post : Int32 → US → Prop) : Nat → Int32 → US → Prop
  | 0 => fun _ _ => False
  | n + 1 => fun x1 u => (((360 : Int32) ≤ x1 → ∃ j, wp_X6_back_71  post j (0 : Int32) u) ∧ (¬ (360 : Int32) ≤ x1 → (vp_in x1 360 ∧ (vp_in x1 360 ∧ wp_X6_back_44  post n (x1 + 1) (sA u 3 (upd (u.2 3) x1.toNatClampNeg ((u.2 15) x1.toNatClampNeg)))))))
def wp_X6_back  (u : US) (post : Int32 → US → Prop) : Prop :=
  (((u.1 11) = 0 → post (-3 : Int32) u) ∧ (¬ (u.1 11) = 0 → ∃ j, wp_X6_back_44  post j (0 : Int32) (si (si (si (si u 0 (u.1 12)) 1 (u.1 13)) 2 (u.1 14)) 4 (u.1 16))))
