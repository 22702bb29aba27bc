def wp_X5_isWithin (p0 : Int32) (p1 : Int32) (p2 : Int32) (u : US) (post : Int32 → US → Prop) : Prop :=
  ((p0 < p1 → post (0 : Int32) u) ∧ (¬ p0 < p1 → ((p2 < p0 → post (0 : Int32) u) ∧ (¬ p2 < p0 → post (1 : Int32) u))))
def wp_X1_start (p1 : Int32) (p2 : Int32) (u : US) (post : US → Prop) : Prop :=
  post (si (si (si (si u 1 p1) 2 p2) 3 (p1 * p2)) 4 (0 : Int32))
def wp_X5_reel (p1 : Int32) (p2 : Int32) (u : US) (post : Int32 → US → Prop) : Prop :=
  wp_X5_isWithin p1 (2 : Int32) (6 : Int32) u (fun r4 u4 => ((r4 = 0 → post (-1 : Int32) u4) ∧ (¬ r4 = 0 → wp_X5_isWithin p2 (2 : Int32) (6 : Int32) u4 (fun r14 u14 => ((r14 = 0 → post (-1 : Int32) u14) ∧ (¬ r14 = 0 → wp_X1_start p1 p2 u14 (fun u28 => post (u28.1 3) (si u28 5 (0 : Int32)))))))))
def wp_X1_hasFrame (p1 : Int32) (u : US) (post : Int32 → US → Prop) : Prop :=
  ((p1 < 0 → post (0 : Int32) u) ∧ (¬ p1 < 0 → (((u.1 4) ≤ p1 → post (0 : Int32) u) ∧ (¬ (u.1 4) ≤ p1 → post (1 : Int32) u))))
def wp_X1_hasPlace (p1 : Int32) (u : US) (post : Int32 → US → Prop) : Prop :=
  ((p1 < 0 → post (0 : Int32) u) ∧ (¬ p1 < 0 → (((u.1 3) ≤ p1 → post (0 : Int32) u) ∧ (¬ (u.1 3) ≤ p1 → post (1 : Int32) u))))
def wp_X1_setGrey (p1 : Int32) (p2 : Int32) (p3 : Int32) (u : US) (post : US → Prop) : Prop :=
  wp_X1_hasFrame p1 u (fun r2 u2 => ((r2 = 0 → post u2) ∧ (¬ r2 = 0 → wp_X1_hasPlace p2 u2 (fun r10 u10 => ((r10 = 0 → post u10) ∧ (¬ r10 = 0 → (vp_in ((p1 * (36 : Int32)) + p2) 360 ∧ post (sA u10 2 (upd (u10.2 2) ((p1 * (36 : Int32)) + p2).toNatClampNeg p3)))))))))
def wp_X1_addFrame_17  (post : Int32 → US → Prop) : Nat → Int32 → Int32 → US → Prop
  | 0 => fun _ _ _ => False
  | n + 1 => fun x1 x2 u => (((u.1 3) ≤ x2 → post x1 u) ∧ (¬ (u.1 3) ≤ x2 → wp_X1_setGrey x1 x2 (-1 : Int32) u (fun u29 => wp_X1_addFrame_17  post n x1 (x2 + 1) u29)))
def wp_X1_addFrame  (u : US) (post : Int32 → US → Prop) : Prop :=
  ∃ j, wp_X1_addFrame_17  post j (u.1 4) (0 : Int32) (si u 4 ((u.1 4) + (1 : Int32)))
def wp_X5_frame  (u : US) (post : Int32 → US → Prop) : Prop :=
  (((u.1 4) < (10 : Int32) → wp_X1_addFrame u (fun r21 u21 => post r21 u21)) ∧ (¬ (u.1 4) < (10 : Int32) → post (-2 : Int32) u))
def wp_X1_greyAt (p1 : Int32) (p2 : Int32) (u : US) (post : Int32 → US → Prop) : Prop :=
  wp_X1_hasFrame p1 u (fun r2 u2 => ((r2 = 0 → post (-1 : Int32) u2) ∧ (¬ r2 = 0 → wp_X1_hasPlace p2 u2 (fun r10 u10 => ((r10 = 0 → post (-1 : Int32) u10) ∧ (¬ r10 = 0 → (vp_in ((p1 * (36 : Int32)) + p2) 360 ∧ post ((u10.2 2) ((p1 * (36 : Int32)) + p2).toNatClampNeg) u10)))))))
def wp_X5_again_50  (post : Int32 → US → Prop) : Nat → Int32 → Int32 → Int32 → Int32 → US → Prop
  | 0 => fun _ _ _ _ _ => False
  | n + 1 => fun x1 x2 x3 x4 u => (((u.1 3) ≤ x4 → post x3 u) ∧ (¬ (u.1 3) ≤ x4 → wp_X1_greyAt x1 x4 u (fun r69 u69 => ((r69 = (-1 : Int32) → wp_X5_again_50  post n x1 x2 x3 (x4 + 1) u69) ∧ (¬ r69 = (-1 : Int32) → wp_X1_setGrey x3 x4 (jmax (0 : Int32) (jmin (63 : Int32) (r69 + x2))) u69 (fun u100 => wp_X5_again_50  post n x1 x2 x3 (x4 + 1) u100))))))
def wp_X5_again (p1 : Int32) (p2 : Int32) (u : US) (post : Int32 → US → Prop) : Prop :=
  wp_X1_hasFrame p1 u (fun r5 u5 => ((r5 = 0 → post (-1 : Int32) u5) ∧ (¬ r5 = 0 → wp_X5_isWithin p2 (-63 : Int32) (63 : Int32) u5 (fun r16 u16 => ((r16 = 0 → post (-1 : Int32) u16) ∧ (¬ r16 = 0 → (((u16.1 4) < (10 : Int32) → wp_X1_addFrame u16 (fun r43 u43 => ∃ j, wp_X5_again_50  post j p1 p2 r43 (0 : Int32) u43)) ∧ (¬ (u16.1 4) < (10 : Int32) → post (-2 : Int32) u16))))))))
def wp_X1_placeOf (p1 : Int32) (p2 : Int32) (u : US) (post : Int32 → US → Prop) : Prop :=
  ((p1 < 0 → post (-1000 : Int32) u) ∧ (¬ p1 < 0 → (((u.1 1) ≤ p1 → post (-1000 : Int32) u) ∧ (¬ (u.1 1) ≤ p1 → ((p2 < 0 → post (-1000 : Int32) u) ∧ (¬ p2 < 0 → ((p2 < (u.1 2) → post ((p1 * (u.1 2)) + p2) u) ∧ (¬ p2 < (u.1 2) → post (-1000 : Int32) u))))))))
def wp_X5_put (p1 : Int32) (p2 : Int32) (p3 : Int32) (p4 : Int32) (u : US) (post : Int32 → US → Prop) : Prop :=
  wp_X1_placeOf p2 p3 u (fun r6 u6 => wp_X1_hasFrame p1 u6 (fun r16 u16 => ((r16 = 0 → post (-1000 : Int32) u16) ∧ (¬ r16 = 0 → ((r6 < 0 → post (-1000 : Int32) u16) ∧ (¬ r6 < 0 → wp_X5_isWithin p4 (-1 : Int32) (63 : Int32) u16 (fun r32 u32 => ((r32 = 0 → post (-1000 : Int32) u32) ∧ (¬ r32 = 0 → wp_X1_greyAt p1 r6 u32 (fun r49 u49 => wp_X1_setGrey p1 r6 p4 u49 (fun u63 => post r49 u63)))))))))))
def wp_X5_row_69 (k31 : Int32 → Int32 → Int64 → Int32 → Int32 → US → Prop) (post : Int32 → US → Prop) (s0 : Int32) (x1 : Int32) (x2 : Int32) (x3 : Int64) (x5 : Int32) (x6 : Int32) (u : US) : Prop :=
  wp_X1_placeOf x2 x6 u (fun r83 u83 => wp_X1_setGrey x1 r83 s0 u83 (fun u88 => ((s0 = (-1 : Int32) → k31 x1 x2 x3 x5 (x6 + 1) u88) ∧ (¬ s0 = (-1 : Int32) → k31 x1 x2 x3 (x5 + 1) (x6 + 1) u88))))
def wp_X5_row_31  (post : Int32 → US → Prop) : Nat → Int32 → Int32 → Int64 → Int32 → Int32 → US → Prop
  | 0 => fun _ _ _ _ _ _ => False
  | n + 1 => fun x1 x2 x3 x5 x6 u => (((u.1 2) ≤ x6 → post x5 u) ∧ (¬ (u.1 2) ≤ x6 → (((((x3.toUInt64 >>> (((7 : Int32) * x6).toInt64.toUInt64 &&& Int64.toUInt64 63)).toInt64).toInt32 &&& (127 : Int32)) ≤ (63 : Int32) → wp_X5_row_69 (wp_X5_row_31  post n) post (((x3.toUInt64 >>> (((7 : Int32) * x6).toInt64.toUInt64 &&& Int64.toUInt64 63)).toInt64).toInt32 &&& (127 : Int32)) x1 x2 x3 x5 x6 u) ∧ (¬ (((x3.toUInt64 >>> (((7 : Int32) * x6).toInt64.toUInt64 &&& Int64.toUInt64 63)).toInt64).toInt32 &&& (127 : Int32)) ≤ (63 : Int32) → wp_X5_row_69 (wp_X5_row_31  post n) post (-1 : Int32) x1 x2 x3 x5 x6 u))))
def wp_X5_row (p1 : Int32) (p2 : Int32) (p3 : Int64) (u : US) (post : Int32 → US → Prop) : Prop :=
  wp_X1_hasFrame p1 u (fun r5 u5 => ((r5 = 0 → post (-1 : Int32) u5) ∧ (¬ r5 = 0 → wp_X1_placeOf p2 (0 : Int32) u5 (fun r17 u17 => ((0 ≤ r17 → ∃ j, wp_X5_row_31  post j p1 p2 p3 (0 : Int32) (0 : Int32) u17) ∧ (¬ 0 ≤ r17 → post (-1 : Int32) u17))))))
def wp_X5_raw (p1 : Int32) (p2 : Int32) (p3 : Int32) (u : US) (post : Int32 → US → Prop) : Prop :=
  wp_X1_placeOf p2 p3 u (fun r6 u6 => wp_X1_hasFrame p1 u6 (fun r16 u16 => ((r16 = 0 → post (-1000 : Int32) u16) ∧ (¬ r16 = 0 → ((0 ≤ r6 → wp_X1_greyAt p1 r6 u16 (fun r38 u38 => post r38 u38)) ∧ (¬ 0 ≤ r6 → post (-1000 : Int32) u16))))))
def wp_X5_rule (p1 : Int32) (p2 : Int32) (u : US) (post : Int32 → US → Prop) : Prop :=
  wp_X5_isWithin p1 (0 : Int32) (2 : Int32) u (fun r3 u3 => ((r3 = 0 → post (-1 : Int32) u3) ∧ (¬ r3 = 0 → (vp_in p1 3 ∧ (vp_in p1 3 ∧ wp_X5_isWithin p2 (tbR1 p1.toNatClampNeg) (tbR2 p1.toNatClampNeg) u3 (fun r20 u20 => ((r20 = 0 → post (-1 : Int32) u20) ∧ (¬ r20 = 0 → (vp_in p1 3 ∧ (vp_in p1 3 ∧ post ((u20.2 9) p1.toNatClampNeg) (sA u20 9 (upd (u20.2 9) p1.toNatClampNeg p2))))))))))))
def wp_X3_measure_75 (k60 : Int32 → Int32 → Int32 → Int32 → Int32 → Int32 → US → Prop) (post : US → Prop) : Nat → Int32 → Int32 → Int32 → Int32 → Int32 → Int32 → Int32 → US → Prop
  | 0 => fun _ _ _ _ _ _ _ _ => False
  | n + 1 => fun x1 x2 x3 x4 x5 x6 x7 u => ((x5 ≤ x7 → k60 x1 x2 x3 x4 x5 (x6 + 1) u) ∧ (¬ x5 ≤ x7 → wp_X1_placeOf x6 x7 u (fun r97 u97 => wp_X1_greyAt (x1 - (1 : Int32)) r97 u97 (fun r100 u100 => wp_X1_placeOf (x6 + x3) (x7 + x2) u100 (fun r122 u122 => wp_X1_greyAt x1 r122 u122 (fun r125 u125 => ((r100 = (-1 : Int32) → wp_X3_measure_75 k60 post n x1 x2 x3 x4 x5 x6 (x7 + 1) u125) ∧ (¬ r100 = (-1 : Int32) → ((r125 = (-1 : Int32) → wp_X3_measure_75 k60 post n x1 x2 x3 x4 x5 x6 (x7 + 1) u125) ∧ (¬ r125 = (-1 : Int32) → wp_X3_measure_75 k60 post n x1 x2 x3 x4 x5 x6 (x7 + 1) (si (si u125 6 ((u125.1 6) + (jabs (r125 - r100)))) 7 ((u125.1 7) + (1 : Int32)))))))))))))
def wp_X3_measure_60  (post : US → Prop) : Nat → Int32 → Int32 → Int32 → Int32 → Int32 → Int32 → US → Prop
  | 0 => fun _ _ _ _ _ _ _ => False
  | n + 1 => fun x1 x2 x3 x4 x5 x6 u => ((x4 ≤ x6 → post u) ∧ (¬ x4 ≤ x6 → ∃ j, wp_X3_measure_75 (wp_X3_measure_60  post n) post j x1 x2 x3 x4 x5 x6 (jmax (0 : Int32) (-x2)) u))
def wp_X3_measure (p1 : Int32) (p2 : Int32) (p3 : Int32) (u : US) (post : US → Prop) : Prop :=
  ∃ j, wp_X3_measure_60  post j p1 p2 p3 (jmin (u.1 1) ((u.1 1) - p3)) (jmin (u.1 2) ((u.1 2) - p2)) (jmax (0 : Int32) (-p3)) (si (si u 6 (0 : Int32)) 7 (0 : Int32))
def wp_X3_isEnough  (u : US) (post : Int32 → US → Prop) : Prop :=
  ((((4 : Int32) * (u.1 7)) < (u.1 3) → post (0 : Int32) u) ∧ (¬ ((4 : Int32) * (u.1 7)) < (u.1 3) → post (1 : Int32) u))
def wp_X5_commonDivisor_7  (post : Int32 → US → Prop) : Nat → Int32 → Int32 → Int32 → US → Prop
  | 0 => fun _ _ _ _ => False
  | n + 1 => fun x2 x3 x4 u => (((100 : Int32) ≤ x4 → post x2 u) ∧ (¬ (100 : Int32) ≤ x4 → ((x3 = 0 → post x2 u) ∧ (¬ x3 = 0 → (¬ x3 = 0 ∧ wp_X5_commonDivisor_7  post n x3 (x2 - x2 / x3 * x3) (x4 + 1) u)))))
def wp_X5_commonDivisor (p0 : Int32) (p1 : Int32) (u : US) (post : Int32 → US → Prop) : Prop :=
  ∃ j, wp_X5_commonDivisor_7  post j p0 p1 (0 : Int32) u
def wp_X5_miss (p1 : Int32) (p2 : Int32) (p3 : Int32) (p4 : Int32) (u : US) (post : Int32 → US → Prop) : Prop :=
  wp_X1_hasFrame p1 u (fun r5 u5 => ((r5 = 0 → post (-1 : Int32) u5) ∧ (¬ r5 = 0 → ((p1 = 0 → post (-1 : Int32) u5) ∧ (¬ p1 = 0 → wp_X5_isWithin p4 (0 : Int32) (1 : Int32) u5 (fun r19 u19 => ((r19 = 0 → post (-1 : Int32) u19) ∧ (¬ r19 = 0 → wp_X5_isWithin p2 (-2 : Int32) (2 : Int32) u19 (fun r29 u29 => ((r29 = 0 → post (-1 : Int32) u29) ∧ (¬ r29 = 0 → wp_X5_isWithin p3 (-2 : Int32) (2 : Int32) u29 (fun r39 u39 => ((r39 = 0 → post (-1 : Int32) u39) ∧ (¬ r39 = 0 → wp_X3_measure p1 p2 p3 u39 (fun u54 => wp_X3_isEnough u54 (fun r61 u61 => ((r61 = 0 → post (-3 : Int32) u61) ∧ (¬ r61 = 0 → wp_X5_commonDivisor (u61.1 6) (u61.1 7) u61 (fun r84 u84 => (((1 : Int32) ≤ r84 → ((p4 = 0 → (¬ r84 = 0 ∧ post ((u84.1 6) / r84) u84)) ∧ (¬ p4 = 0 → (¬ r84 = 0 ∧ post ((u84.1 7) / r84) u84)))) ∧ (¬ (1 : Int32) ≤ r84 → post (-3 : Int32) u84)))))))))))))))))))))
def wp_X3_isBetter (p1 : Int32) (p2 : Int32) (u : US) (post : Int32 → US → Prop) : Prop :=
  (((u.1 11) = 0 → post (1 : Int32) u) ∧ (¬ (u.1 11) = 0 → ((((u.1 6) * (u.1 11)) = ((u.1 10) * (u.1 7)) → ((((jabs (u.1 8)) + (jabs (u.1 9))) ≤ ((jabs p1) + (jabs p2)) → post (0 : Int32) u) ∧ (¬ ((jabs (u.1 8)) + (jabs (u.1 9))) ≤ ((jabs p1) + (jabs p2)) → post (1 : Int32) u))) ∧ (¬ ((u.1 6) * (u.1 11)) = ((u.1 10) * (u.1 7)) → ((((u.1 10) * (u.1 7)) ≤ ((u.1 6) * (u.1 11)) → post (0 : Int32) u) ∧ (¬ ((u.1 10) * (u.1 7)) ≤ ((u.1 6) * (u.1 11)) → post (1 : Int32) u))))))
def wp_X3_find_26 (k18 : Int32 → Int32 → US → Prop) (post : US → Prop) : Nat → Int32 → Int32 → Int32 → US → Prop
  | 0 => fun _ _ _ _ => False
  | n + 1 => fun x1 x2 x3 u => (((2 : Int32) < x3 → k18 x1 (x2 + 1) u) ∧ (¬ (2 : Int32) < x3 → wp_X3_measure x1 x3 x2 u (fun u35 => wp_X3_isEnough u35 (fun r39 u39 => ((r39 = 0 → wp_X3_find_26 k18 post n x1 x2 (x3 + 1) u39) ∧ (¬ r39 = 0 → wp_X3_isBetter x3 x2 u39 (fun r48 u48 => ((r48 = 0 → wp_X3_find_26 k18 post n x1 x2 (x3 + 1) u48) ∧ (¬ r48 = 0 → wp_X3_find_26 k18 post n x1 x2 (x3 + 1) (si (si (si (si u48 8 x3) 9 x2) 10 (u48.1 6)) 11 (u48.1 7)))))))))))
def wp_X3_find_18  (post : US → Prop) : Nat → Int32 → Int32 → US → Prop
  | 0 => fun _ _ _ => False
  | n + 1 => fun x1 x2 u => (((2 : Int32) < x2 → post u) ∧ (¬ (2 : Int32) < x2 → ∃ j, wp_X3_find_26 (wp_X3_find_18  post n) post j x1 x2 (-2 : Int32) u))
def wp_X3_find (p1 : Int32) (u : US) (post : US → Prop) : Prop :=
  ∃ j, wp_X3_find_18  post j p1 (-2 : Int32) (si (si (si u 8 (0 : Int32)) 9 (0 : Int32)) 11 (0 : Int32))
def wp_X3_along (p1 : Int32) (u : US) (post : Int32 → US → Prop) : Prop :=
  ((p1 = 0 → post (u.1 8) u) ∧ (¬ p1 = 0 → post (u.1 9) u))
def wp_X5_shift (p1 : Int32) (p2 : Int32) (u : US) (post : Int32 → US → Prop) : Prop :=
  wp_X1_hasFrame p1 u (fun r5 u5 => ((r5 = 0 → post (-1000 : Int32) u5) ∧ (¬ r5 = 0 → ((p1 = 0 → post (-1000 : Int32) u5) ∧ (¬ p1 = 0 → wp_X5_isWithin p2 (0 : Int32) (1 : Int32) u5 (fun r18 u18 => ((r18 = 0 → post (-1000 : Int32) u18) ∧ (¬ r18 = 0 → wp_X3_find p1 u18 (fun u33 => wp_X3_along p2 u33 (fun r41 u41 => post r41 u41))))))))))
def wp_X5_drift_29  (post : Int32 → US → Prop) : Nat → Int32 → Int32 → Int32 → Int32 → US → Prop
  | 0 => fun _ _ _ _ _ => False
  | n + 1 => fun x1 x2 x3 x4 u => ((x1 < x4 → post x3 u) ∧ (¬ x1 < x4 → wp_X3_find x4 u (fun u41 => wp_X3_along x2 u41 (fun r50 u50 => wp_X5_drift_29  post n x1 x2 (x3 + r50) (x4 + 1) u50))))
def wp_X5_drift (p1 : Int32) (p2 : Int32) (u : US) (post : Int32 → US → Prop) : Prop :=
  wp_X1_hasFrame p1 u (fun r5 u5 => ((r5 = 0 → post (-1000 : Int32) u5) ∧ (¬ r5 = 0 → wp_X5_isWithin p2 (0 : Int32) (1 : Int32) u5 (fun r14 u14 => ((r14 = 0 → post (-1000 : Int32) u14) ∧ (¬ r14 = 0 → ∃ j, wp_X5_drift_29  post j p1 p2 (0 : Int32) (1 : Int32) u14))))))
def wp_X4_setDrift (p1 : Int32) (p2 : Int32) (u : US) (post : US → Prop) : Prop :=
  ((p1 < 0 → post u) ∧ (¬ p1 < 0 → (((10 : Int32) ≤ p1 → post u) ∧ (¬ (10 : Int32) ≤ p1 → (vp_in p1 10 ∧ post (sA u 12 (upd (u.2 12) p1.toNatClampNeg p2)))))))
def wp_X4_slotOf (p0 : Int32) (p1 : Int32) (p2 : Int32) (u : US) (post : Int32 → US → Prop) : Prop :=
  post (((p0 * (49 : Int32)) + (p1 * (7 : Int32))) + p2) u
def wp_X4_spotOf (p1 : Int32) (p2 : Int32) (u : US) (post : Int32 → US → Prop) : Prop :=
  (vp_in p1 10 ∧ post ((((u.2 12) p1.toNatClampNeg) + p2) - (u.1 13)) u)
def wp_X4_costThrough (p1 : Int32) (p2 : Int32) (p3 : Int32) (p4 : Int32) (u : US) (post : Int32 → US → Prop) : Prop :=
  wp_X4_spotOf (p1 + (2 : Int32)) p4 u (fun r6 u6 => wp_X4_spotOf (p1 + (1 : Int32)) p3 u6 (fun r15 u15 => wp_X4_spotOf p1 p2 u15 (fun r23 u23 => wp_X4_slotOf (p1 + (1 : Int32)) p3 p4 u23 (fun r58 u58 => (vp_in r58 490 ∧ post ((((100 : Int32) * (jabs ((r6 - ((2 : Int32) * r15)) + r23))) + (jabs (p4 - (u23.1 13)))) + ((u58.2 14) r58.toNatClampNeg)) u58)))))
def wp_X4_leastCostBehind_25  (post : Int32 → US → Prop) : Nat → Int32 → Int32 → Int32 → Int32 → Int32 → US → Prop
  | 0 => fun _ _ _ _ _ _ => False
  | n + 1 => fun x1 x2 x3 x4 x5 u => (((u.1 14) ≤ x5 → post x4 u) ∧ (¬ (u.1 14) ≤ x5 → wp_X4_costThrough x1 x2 x3 x5 u (fun r42 u42 => wp_X4_leastCostBehind_25  post n x1 x2 x3 (jmin x4 r42) (x5 + 1) u42)))
def wp_X4_leastCostBehind (p1 : Int32) (p2 : Int32) (p3 : Int32) (u : US) (post : Int32 → US → Prop) : Prop :=
  (((p1 + (2 : Int32)) < (u.1 12) → wp_X4_costThrough p1 p2 p3 (0 : Int32) u (fun r17 u17 => ∃ j, wp_X4_leastCostBehind_25  post j p1 p2 p3 r17 (1 : Int32) u17)) ∧ (¬ (p1 + (2 : Int32)) < (u.1 12) → post (0 : Int32) u))
def wp_X4_findCosts_23 (k13 : Int32 → Int32 → US → Prop) (post : US → Prop) : Nat → Int32 → Int32 → Int32 → US → Prop
  | 0 => fun _ _ _ _ => False
  | n + 1 => fun x1 x2 x3 u => (((u.1 14) ≤ x3 → k13 x1 (x2 + 1) u) ∧ (¬ (u.1 14) ≤ x3 → wp_X4_slotOf x1 x2 x3 u (fun r38 u38 => wp_X4_leastCostBehind x1 x2 x3 u38 (fun r45 u45 => (vp_in r38 490 ∧ wp_X4_findCosts_23 k13 post n x1 x2 (x3 + 1) (sA u45 14 (upd (u45.2 14) r38.toNatClampNeg r45)))))))
def wp_X4_findCosts_13 (k7 : Int32 → US → Prop) (post : US → Prop) : Nat → Int32 → Int32 → US → Prop
  | 0 => fun _ _ _ => False
  | n + 1 => fun x1 x2 u => (((u.1 14) ≤ x2 → k7 (x1 + (-1)) u) ∧ (¬ (u.1 14) ≤ x2 → ∃ j, wp_X4_findCosts_23 (wp_X4_findCosts_13 k7 post n) post j x1 x2 (0 : Int32) u))
def wp_X4_findCosts_7  (post : US → Prop) : Nat → Int32 → US → Prop
  | 0 => fun _ _ => False
  | n + 1 => fun x1 u => ((x1 < 0 → post u) ∧ (¬ x1 < 0 → ∃ j, wp_X4_findCosts_13 (wp_X4_findCosts_7  post n) post j x1 (0 : Int32) u))
def wp_X4_findCosts  (u : US) (post : US → Prop) : Prop :=
  ∃ j, wp_X4_findCosts_7  post j ((u.1 12) - (2 : Int32)) u
def wp_X4_costOfStart (p1 : Int32) (p2 : Int32) (u : US) (post : Int32 → US → Prop) : Prop :=
  wp_X4_slotOf (0 : Int32) p1 p2 u (fun r26 u26 => (vp_in r26 490 ∧ post (((jabs (p1 - (u.1 13))) + (jabs (p2 - (u.1 13)))) + ((u26.2 14) r26.toNatClampNeg)) u26))
def wp_X4_leastThird_6  (post : Int32 → US → Prop) : Nat → Int32 → Int32 → Int32 → Int32 → Int32 → US → Prop
  | 0 => fun _ _ _ _ _ _ => False
  | n + 1 => fun x1 x2 x3 x4 x5 u => (((u.1 14) ≤ x5 → post x4 u) ∧ (¬ (u.1 14) ≤ x5 → wp_X4_costThrough x1 x2 x3 x5 u (fun r21 u21 => wp_X4_costThrough x1 x2 x3 x4 u21 (fun r30 u30 => ((r30 ≤ r21 → wp_X4_leastThird_6  post n x1 x2 x3 x4 (x5 + 1) u30) ∧ (¬ r30 ≤ r21 → wp_X4_leastThird_6  post n x1 x2 x3 x5 (x5 + 1) u30))))))
def wp_X4_leastThird (p1 : Int32) (p2 : Int32) (p3 : Int32) (u : US) (post : Int32 → US → Prop) : Prop :=
  ∃ j, wp_X4_leastThird_6  post j p1 p2 p3 (0 : Int32) (1 : Int32) u
def wp_X4_takeChoices_26 (k14 : Int32 → Int32 → Int32 → Int32 → US → Prop) (post : US → Prop) : Nat → Int32 → Int32 → Int32 → Int32 → Int32 → US → Prop
  | 0 => fun _ _ _ _ _ _ => False
  | n + 1 => fun x1 x2 x3 x4 x5 u => (((u.1 14) ≤ x5 → k14 x1 x2 x3 (x4 + 1) u) ∧ (¬ (u.1 14) ≤ x5 → wp_X4_costOfStart x4 x5 u (fun r40 u40 => ((x3 ≤ r40 → wp_X4_takeChoices_26 k14 post n x1 x2 x3 x4 (x5 + 1) u40) ∧ (¬ x3 ≤ r40 → wp_X4_takeChoices_26 k14 post n x4 x5 r40 x4 (x5 + 1) u40)))))
def wp_X4_takeChoices_99  (post : US → Prop) : Nat → Int32 → Int32 → Int32 → US → Prop
  | 0 => fun _ _ _ _ => False
  | n + 1 => fun x1 x2 x4 u => (((u.1 12) ≤ (x4 + (2 : Int32)) → post u) ∧ (¬ (u.1 12) ≤ (x4 + (2 : Int32)) → wp_X4_leastThird x4 x1 x2 u (fun r115 u115 => wp_X4_spotOf (x4 + (2 : Int32)) r115 u115 (fun r135 u135 => (vp_in (x4 + (2 : Int32)) 10 ∧ wp_X4_takeChoices_99  post n x2 r115 (x4 + 1) (sA u135 13 (upd (u135.2 13) (x4 + (2 : Int32)).toNatClampNeg r135)))))))
def wp_X4_takeChoices_14  (post : US → Prop) : Nat → Int32 → Int32 → Int32 → Int32 → US → Prop
  | 0 => fun _ _ _ _ _ => False
  | n + 1 => fun x1 x2 x3 x4 u => (((u.1 14) ≤ x4 → wp_X4_spotOf (0 : Int32) x1 u (fun r80 u80 => wp_X4_spotOf (1 : Int32) x2 (sA u80 13 (upd (u80.2 13) (0 : Int32).toNatClampNeg r80)) (fun r92 u92 => ∃ j, wp_X4_takeChoices_99  post j x1 x2 (0 : Int32) (sA u92 13 (upd (u92.2 13) (1 : Int32).toNatClampNeg r92))))) ∧ (¬ (u.1 14) ≤ x4 → ∃ j, wp_X4_takeChoices_26 (wp_X4_takeChoices_14  post n) post j x1 x2 x3 x4 (0 : Int32) u))
def wp_X4_takeChoices  (u : US) (post : US → Prop) : Prop :=
  wp_X4_costOfStart (0 : Int32) (0 : Int32) u (fun r7 u7 => ∃ j, wp_X4_takeChoices_14  post j (0 : Int32) (0 : Int32) r7 (0 : Int32) u7)
def wp_X4_solve (p1 : Int32) (p2 : Int32) (u : US) (post : US → Prop) : Prop :=
  (((3 : Int32) ≤ p1 → wp_X4_findCosts (si (si (si u 12 p1) 13 p2) 14 (((2 : Int32) * p2) + (1 : Int32))) (fun u46 => wp_X4_takeChoices u46 (fun u50 => post u50))) ∧ (¬ (3 : Int32) ≤ p1 → (gcpOk 10 10 (0 : Int32) (0 : Int32) p1 ∧ post (sA (si (si (si u 12 p1) 13 p2) 14 (((2 : Int32) * p2) + (1 : Int32))) 13 (gcp (u.2 12) (u.2 13) (0 : Int32) (0 : Int32) p1)))))
def wp_X5_findPath_38 (k4 : Int32 → Int32 → Int32 → US → Prop) (post : US → Prop) (x1 : Int32) (x2 : Int32) (x3 : Int32) (u : US) : Prop :=
  wp_X4_setDrift x3 x2 u (fun u44 => k4 x1 x2 (x3 + 1) u44)
def wp_X5_findPath_4  (post : US → Prop) : Nat → Int32 → Int32 → Int32 → US → Prop
  | 0 => fun _ _ _ _ => False
  | n + 1 => fun x1 x2 x3 u => (((u.1 4) ≤ x3 → wp_X4_solve (u.1 4) ((u.2 9) (0 : Int32).toNatClampNeg) u (fun u70 => post u70)) ∧ (¬ (u.1 4) ≤ x3 → ((x3 ≤ 0 → wp_X5_findPath_38 (wp_X5_findPath_4  post n) post x1 x2 x3 u) ∧ (¬ x3 ≤ 0 → wp_X3_find x3 u (fun u24 => wp_X3_along x1 u24 (fun r33 u33 => wp_X5_findPath_38 (wp_X5_findPath_4  post n) post x1 (x2 + r33) x3 u33))))))
def wp_X5_findPath (p1 : Int32) (u : US) (post : US → Prop) : Prop :=
  ∃ j, wp_X5_findPath_4  post j p1 (0 : Int32) (0 : Int32) u
def wp_X4_spotAt (p1 : Int32) (u : US) (post : Int32 → US → Prop) : Prop :=
  ((p1 < 0 → post (-1000 : Int32) u) ∧ (¬ p1 < 0 → (((u.1 12) ≤ p1 → post (-1000 : Int32) u) ∧ (¬ (u.1 12) ≤ p1 → (vp_in p1 10 ∧ post ((u.2 13) p1.toNatClampNeg) u)))))
def wp_X5_path (p1 : Int32) (p2 : Int32) (u : US) (post : Int32 → US → Prop) : Prop :=
  wp_X1_hasFrame p1 u (fun r5 u5 => ((r5 = 0 → post (-1000 : Int32) u5) ∧ (¬ r5 = 0 → wp_X5_isWithin p2 (0 : Int32) (1 : Int32) u5 (fun r14 u14 => ((r14 = 0 → post (-1000 : Int32) u14) ∧ (¬ r14 = 0 → wp_X5_findPath p2 u14 (fun u26 => wp_X4_spotAt p1 u26 (fun r34 u34 => post r34 u34))))))))
def wp_X4_sumOfBends_4  (post : Int32 → US → Prop) : Nat → Int32 → Int32 → US → Prop
  | 0 => fun _ _ _ => False
  | n + 1 => fun x1 x2 u => (((u.1 12) ≤ (x2 + (1 : Int32)) → post x1 u) ∧ (¬ (u.1 12) ≤ (x2 + (1 : Int32)) → (vp_in (x2 + (1 : Int32)) 10 ∧ (vp_in x2 10 ∧ (vp_in (x2 - (1 : Int32)) 10 ∧ wp_X4_sumOfBends_4  post n (x1 + (jabs ((((u.2 13) (x2 + (1 : Int32)).toNatClampNeg) - ((2 : Int32) * ((u.2 13) x2.toNatClampNeg))) + ((u.2 13) (x2 - (1 : Int32)).toNatClampNeg)))) (x2 + 1) u)))))
def wp_X4_sumOfBends  (u : US) (post : Int32 → US → Prop) : Prop :=
  ∃ j, wp_X4_sumOfBends_4  post j (0 : Int32) (1 : Int32) u
def wp_X4_sumOfStrays_4  (post : Int32 → US → Prop) : Nat → Int32 → Int32 → US → Prop
  | 0 => fun _ _ _ => False
  | n + 1 => fun x1 x2 u => (((u.1 12) ≤ x2 → post x1 u) ∧ (¬ (u.1 12) ≤ x2 → (vp_in x2 10 ∧ (vp_in x2 10 ∧ wp_X4_sumOfStrays_4  post n (x1 + (jabs (((u.2 13) x2.toNatClampNeg) - ((u.2 12) x2.toNatClampNeg)))) (x2 + 1) u))))
def wp_X4_sumOfStrays  (u : US) (post : Int32 → US → Prop) : Prop :=
  ∃ j, wp_X4_sumOfStrays_4  post j (0 : Int32) (0 : Int32) u
def wp_X5_bends (p1 : Int32) (p2 : Int32) (u : US) (post : Int32 → US → Prop) : Prop :=
  wp_X5_isWithin p1 (0 : Int32) (1 : Int32) u (fun r3 u3 => ((r3 = 0 → post (-1 : Int32) u3) ∧ (¬ r3 = 0 → wp_X5_isWithin p2 (0 : Int32) (1 : Int32) u3 (fun r12 u12 => ((r12 = 0 → post (-1 : Int32) u12) ∧ (¬ r12 = 0 → wp_X5_findPath p1 u12 (fun u22 => ((p2 = 0 → wp_X4_sumOfBends u22 (fun r33 u33 => post r33 u33)) ∧ (¬ p2 = 0 → wp_X4_sumOfStrays u22 (fun r43 u43 => post r43 u43))))))))))
def wp_X2_isDust (p1 : Int32) (p2 : Int32) (p3 : Int32) (u : US) (post : Int32 → US → Prop) : Prop :=
  wp_X1_greyAt (p2 - (1 : Int32)) p3 u (fun r8 u8 => wp_X1_greyAt (p2 + (1 : Int32)) p3 u8 (fun r21 u21 => ((p1 = (-1 : Int32) → post (0 : Int32) u21) ∧ (¬ p1 = (-1 : Int32) → ((r8 = (-1 : Int32) → post (0 : Int32) u21) ∧ (¬ r8 = (-1 : Int32) → ((r21 = (-1 : Int32) → post (0 : Int32) u21) ∧ (¬ r21 = (-1 : Int32) → ((((u21.2 9) (1 : Int32).toNatClampNeg) < (jabs (r8 - r21)) → post (0 : Int32) u21) ∧ (¬ ((u21.2 9) (1 : Int32).toNatClampNeg) < (jabs (r8 - r21)) → (((jabs (p1 - r8)) ≤ ((u21.2 9) (2 : Int32).toNatClampNeg) → post (0 : Int32) u21) ∧ (¬ (jabs (p1 - r8)) ≤ ((u21.2 9) (2 : Int32).toNatClampNeg) → (((jabs (p1 - r21)) ≤ ((u21.2 9) (2 : Int32).toNatClampNeg) → post (0 : Int32) u21) ∧ (¬ (jabs (p1 - r21)) ≤ ((u21.2 9) (2 : Int32).toNatClampNeg) → post (1 : Int32) u21))))))))))))))
def wp_X5_dust_17  (post : Int32 → US → Prop) : Nat → Int32 → Int32 → Int32 → US → Prop
  | 0 => fun _ _ _ _ => False
  | n + 1 => fun x1 x2 x3 u => (((u.1 3) ≤ x3 → post x2 u) ∧ (¬ (u.1 3) ≤ x3 → wp_X1_greyAt x1 x3 u (fun r38 u38 => wp_X2_isDust r38 x1 x3 u38 (fun r43 u43 => ((r43 = 0 → wp_X5_dust_17  post n x1 x2 (x3 + 1) u43) ∧ (¬ r43 = 0 → wp_X5_dust_17  post n x1 (x2 + 1) (x3 + 1) u43))))))
def wp_X5_dust (p1 : Int32) (u : US) (post : Int32 → US → Prop) : Prop :=
  wp_X1_hasFrame p1 u (fun r5 u5 => ((r5 = 0 → post (-1 : Int32) u5) ∧ (¬ r5 = 0 → ∃ j, wp_X5_dust_17  post j p1 (0 : Int32) (0 : Int32) u5)))
def wp_X0_add (p1 : Int32) (p2 : Int32) (p3 : Int32) (p4 : Int32) (u : US) (post : Int32 → US → Prop) : Prop :=
  (vp_in (u.1 5) 12 ∧ (vp_in (u.1 5) 12 ∧ (vp_in (u.1 5) 12 ∧ (vp_in (u.1 5) 12 ∧ (vp_in (u.1 5) 12 ∧ post (u.1 5) (sA (sA (sA (sA (sA (si u 5 ((u.1 5) + (1 : Int32))) 4 (upd (u.2 4) (u.1 5).toNatClampNeg p1)) 5 (upd (u.2 5) (u.1 5).toNatClampNeg p2)) 6 (upd (u.2 6) (u.1 5).toNatClampNeg p3)) 7 (upd (u.2 7) (u.1 5).toNatClampNeg p4)) 8 (upd (u.2 8) (u.1 5).toNatClampNeg (vp_nar .boolean (1 : Int32)))))))))
def wp_X5_layer_120  (post : Int32 → US → Prop) (s0 : Int32) (s1 : Int32) (s2 : Int32) (s3 : Int32) (u : US) : Prop :=
  wp_X0_add s3 s2 s1 s0 u (fun r120 u120 => post r120 u120)
def wp_X5_layer_109  (post : Int32 → US → Prop) (s0 : Int32) (s1 : Int32) (s2 : Int32) (x1 : Int32) (x4 : Int32) (u : US) : Prop :=
  ((x1 = (3 : Int32) → wp_X5_layer_120  post x4 s0 s1 s2 u) ∧ (¬ x1 = (3 : Int32) → wp_X5_layer_120  post (0 : Int32) s0 s1 s2 u))
def wp_X5_layer_104  (post : Int32 → US → Prop) (s0 : Int32) (s1 : Int32) (x1 : Int32) (x3 : Int32) (x4 : Int32) (u : US) : Prop :=
  wp_X5_layer_109  post x3 s0 s1 x1 x4 u
def wp_X5_layer_73  (post : Int32 → US → Prop) (x1 : Int32) (x2 : Int32) (x3 : Int32) (x4 : Int32) (u : US) : Prop :=
  (((u.1 5) < (12 : Int32) → ((x1 = (1 : Int32) → wp_X5_layer_104  post x2 x1 x1 x3 x4 u) ∧ (¬ x1 = (1 : Int32) → ((x1 = (3 : Int32) → wp_X5_layer_104  post x2 x1 x1 x3 x4 u) ∧ (¬ x1 = (3 : Int32) → wp_X5_layer_109  post (0 : Int32) x2 x1 x1 x4 u))))) ∧ (¬ (u.1 5) < (12 : Int32) → post (-2 : Int32) u))
def wp_X5_layer_45  (post : Int32 → US → Prop) (x1 : Int32) (x2 : Int32) (x3 : Int32) (x4 : Int32) (u : US) : Prop :=
  ((x1 = (3 : Int32) → wp_X5_isWithin x3 (-3 : Int32) (3 : Int32) u (fun r54 u54 => ((r54 = 0 → post (-1 : Int32) u54) ∧ (¬ r54 = 0 → wp_X5_isWithin x4 (-3 : Int32) (3 : Int32) u54 (fun r65 u65 => ((r65 = 0 → post (-1 : Int32) u65) ∧ (¬ r65 = 0 → wp_X5_layer_73  post x1 x2 x3 x4 u65))))))) ∧ (¬ x1 = (3 : Int32) → wp_X5_layer_73  post x1 x2 x3 x4 u))
def wp_X5_layer (p1 : Int32) (p2 : Int32) (p3 : Int32) (p4 : Int32) (u : US) (post : Int32 → US → Prop) : Prop :=
  wp_X5_isWithin p1 (0 : Int32) (3 : Int32) u (fun r3 u3 => ((r3 = 0 → post (-1 : Int32) u3) ∧ (¬ r3 = 0 → wp_X1_hasFrame p2 u3 (fun r14 u14 => ((r14 = 0 → post (-1 : Int32) u14) ∧ (¬ r14 = 0 → ((p1 = (1 : Int32) → wp_X1_hasFrame p3 u14 (fun r32 u32 => ((r32 = 0 → post (-1 : Int32) u32) ∧ (¬ r32 = 0 → ((p3 = p2 → post (-1 : Int32) u32) ∧ (¬ p3 = p2 → wp_X5_layer_45  post p1 p2 p3 p4 u32)))))) ∧ (¬ p1 = (1 : Int32) → wp_X5_layer_45  post p1 p2 p3 p4 u14))))))))
def wp_X0_has (p1 : Int32) (u : US) (post : Int32 → US → Prop) : Prop :=
  ((p1 < 0 → post (0 : Int32) u) ∧ (¬ p1 < 0 → (((u.1 5) ≤ p1 → post (0 : Int32) u) ∧ (¬ (u.1 5) ≤ p1 → post (1 : Int32) u))))
def wp_X5_on_31  (post : Int32 → US → Prop) (s0 : Int32) (x1 : Int32) (x2 : Int32) (u : US) : Prop :=
  (vp_in x1 12 ∧ ((s0 = 0 → post (0 : Int32) (sA u 8 (upd (u.2 8) x1.toNatClampNeg (vp_nar .boolean x2)))) ∧ (¬ s0 = 0 → post (1 : Int32) (sA u 8 (upd (u.2 8) x1.toNatClampNeg (vp_nar .boolean x2))))))
def wp_X5_on (p1 : Int32) (p2 : Int32) (u : US) (post : Int32 → US → Prop) : Prop :=
  wp_X0_has p1 u (fun r5 u5 => ((r5 = 0 → post (-1 : Int32) u5) ∧ (¬ r5 = 0 → (vp_in p1 12 ∧ ((((u5.2 8) p1.toNatClampNeg) = p2 → wp_X5_on_31  post (0 : Int32) p1 p2 u5) ∧ (¬ ((u5.2 8) p1.toNatClampNeg) = p2 → wp_X5_on_31  post (1 : Int32) p1 p2 u5))))))
def wp_X5_peel  (u : US) (post : Int32 → US → Prop) : Prop :=
  ((0 < (u.1 5) → post ((u.1 5) - (1 : Int32)) (si u 5 ((u.1 5) - (1 : Int32)))) ∧ (¬ 0 < (u.1 5) → post (-3 : Int32) u))
def wp_X2_cleanDust_2  (post : US → Prop) : Nat → Int32 → Int32 → US → Prop
  | 0 => fun _ _ _ => False
  | n + 1 => fun x1 x2 u => (((u.1 3) ≤ x2 → post u) ∧ (¬ (u.1 3) ≤ x2 → (vp_in x2 36 ∧ wp_X2_isDust ((u.2 17) x2.toNatClampNeg) x1 x2 u (fun r22 u22 => ((r22 = 0 → wp_X2_cleanDust_2  post n x1 (x2 + 1) u22) ∧ (¬ r22 = 0 → wp_X1_greyAt (x1 - (1 : Int32)) x2 u22 (fun r41 u41 => wp_X1_greyAt (x1 + (1 : Int32)) x2 u41 (fun r52 u52 => (vp_in x2 36 ∧ wp_X2_cleanDust_2  post n x1 (x2 + 1) (sA u52 16 (upd (u52.2 16) x2.toNatClampNeg ((r41 + r52) / (2 : Int32)))))))))))))
def wp_X2_cleanDust (p1 : Int32) (u : US) (post : US → Prop) : Prop :=
  ∃ j, wp_X2_cleanDust_2  post j p1 (0 : Int32) u
def wp_X2_sortGreysOf_76 (k4 : Int32 → Int32 → Int32 → US → Prop) (post : Int32 → US → Prop) (x1 : Int32) (x2 : Int32) (x3 : Int32) (x4 : Int32) (x5 : Int32) (u : US) : Prop :=
  (vp_in x5 36 ∧ k4 x1 (x2 + 1) (x3 + 1) (sA u 18 (upd (u.2 18) x5.toNatClampNeg x4)))
def wp_X2_sortGreysOf_35 (k4 : Int32 → Int32 → Int32 → US → Prop) (post : Int32 → US → Prop) : Nat → Int32 → Int32 → Int32 → Int32 → Int32 → US → Prop
  | 0 => fun _ _ _ _ _ _ => False
  | n + 1 => fun x1 x2 x3 x4 x5 u => ((x5 ≤ 0 → wp_X2_sortGreysOf_76 k4 post x1 x2 x3 x4 x5 u) ∧ (¬ x5 ≤ 0 → (vp_in (x5 - (1 : Int32)) 36 ∧ ((((u.2 18) (x5 - (1 : Int32)).toNatClampNeg) ≤ x4 → wp_X2_sortGreysOf_76 k4 post x1 x2 x3 x4 x5 u) ∧ (¬ ((u.2 18) (x5 - (1 : Int32)).toNatClampNeg) ≤ x4 → (vp_in (x5 - (1 : Int32)) 36 ∧ (vp_in x5 36 ∧ wp_X2_sortGreysOf_35 k4 post n x1 x2 x3 x4 (x5 + (-1)) (sA u 18 (upd (u.2 18) x5.toNatClampNeg ((u.2 18) (x5 - (1 : Int32)).toNatClampNeg))))))))))
def wp_X2_sortGreysOf_4  (post : Int32 → US → Prop) : Nat → Int32 → Int32 → Int32 → US → Prop
  | 0 => fun _ _ _ _ => False
  | n + 1 => fun x1 x2 x3 u => (((u.1 3) ≤ x3 → post x2 u) ∧ (¬ (u.1 3) ≤ x3 → wp_X1_greyAt x1 x3 u (fun r21 u21 => ((r21 = (-1 : Int32) → wp_X2_sortGreysOf_4  post n x1 x2 (x3 + 1) u21) ∧ (¬ r21 = (-1 : Int32) → ∃ j, wp_X2_sortGreysOf_35 (wp_X2_sortGreysOf_4  post n) post j x1 x2 x3 r21 x2 u21)))))
def wp_X2_sortGreysOf (p1 : Int32) (u : US) (post : Int32 → US → Prop) : Prop :=
  ∃ j, wp_X2_sortGreysOf_4  post j p1 (0 : Int32) (0 : Int32) u
def wp_X2_countLost_4  (post : Int32 → US → Prop) : Nat → Int32 → Int32 → US → Prop
  | 0 => fun _ _ _ => False
  | n + 1 => fun x1 x2 u => (((u.1 3) ≤ x2 → post x1 u) ∧ (¬ (u.1 3) ≤ x2 → (vp_in x2 36 ∧ ((((u.2 16) x2.toNatClampNeg) = (-1 : Int32) → wp_X2_countLost_4  post n (x1 + 1) (x2 + 1) u) ∧ (¬ ((u.2 16) x2.toNatClampNeg) = (-1 : Int32) → wp_X2_countLost_4  post n x1 (x2 + 1) u)))))
def wp_X2_countLost  (u : US) (post : Int32 → US → Prop) : Prop :=
  ∃ j, wp_X2_countLost_4  post j (0 : Int32) (0 : Int32) u
def wp_X2_middleRankOf_7  (post : Int32 → US → Prop) : Nat → Int32 → Int32 → Int32 → Int32 → US → Prop
  | 0 => fun _ _ _ _ _ => False
  | n + 1 => fun x1 x2 x3 x4 u => (((u.1 3) ≤ x4 → post (((((2 : Int32) * x2) + x3) - (1 : Int32)) / (2 : Int32)) u) ∧ (¬ (u.1 3) ≤ x4 → (vp_in x4 36 ∧ ((((u.2 17) x4.toNatClampNeg) = x1 → wp_X2_middleRankOf_7  post n x1 x2 (x3 + 1) (x4 + 1) u) ∧ (¬ ((u.2 17) x4.toNatClampNeg) = x1 → (vp_in x4 36 ∧ ((((u.2 17) x4.toNatClampNeg) = (-1 : Int32) → wp_X2_middleRankOf_7  post n x1 x2 x3 (x4 + 1) u) ∧ (¬ ((u.2 17) x4.toNatClampNeg) = (-1 : Int32) → (vp_in x4 36 ∧ ((x1 ≤ ((u.2 17) x4.toNatClampNeg) → wp_X2_middleRankOf_7  post n x1 x2 x3 (x4 + 1) u) ∧ (¬ x1 ≤ ((u.2 17) x4.toNatClampNeg) → wp_X2_middleRankOf_7  post n x1 (x2 + 1) x3 (x4 + 1) u)))))))))))
def wp_X2_middleRankOf (p1 : Int32) (u : US) (post : Int32 → US → Prop) : Prop :=
  ∃ j, wp_X2_middleRankOf_7  post j p1 (0 : Int32) (0 : Int32) (0 : Int32) u
def wp_X2_matchLevels_31  (post : US → Prop) : Nat → Int32 → Int32 → Int32 → US → Prop
  | 0 => fun _ _ _ _ => False
  | n + 1 => fun x2 x3 x4 u => (((u.1 3) ≤ x4 → post u) ∧ (¬ (u.1 3) ≤ x4 → (vp_in x4 36 ∧ ((((u.2 17) x4.toNatClampNeg) = (-1 : Int32) → wp_X2_matchLevels_31  post n x2 x3 (x4 + 1) u) ∧ (¬ ((u.2 17) x4.toNatClampNeg) = (-1 : Int32) → (vp_in x4 36 ∧ wp_X2_middleRankOf ((u.2 17) x4.toNatClampNeg) u (fun r62 u62 => (¬ x3 = 0 ∧ ((((r62 * x2) / x3) < 0 → wp_X2_matchLevels_31  post n x2 x3 (x4 + 1) u62) ∧ (¬ ((r62 * x2) / x3) < 0 → ((x2 ≤ ((r62 * x2) / x3) → wp_X2_matchLevels_31  post n x2 x3 (x4 + 1) u62) ∧ (¬ x2 ≤ ((r62 * x2) / x3) → (vp_in ((r62 * x2) / x3) 36 ∧ (vp_in x4 36 ∧ wp_X2_matchLevels_31  post n x2 x3 (x4 + 1) (sA u62 16 (upd (u62.2 16) x4.toNatClampNeg ((u62.2 18) ((r62 * x2) / x3).toNatClampNeg)))))))))))))))))
def wp_X2_matchLevels (p1 : Int32) (u : US) (post : US → Prop) : Prop :=
  wp_X2_sortGreysOf p1 u (fun r2 u2 => wp_X2_countLost u2 (fun r14 u14 => ((((u2.1 3) - r14) ≤ 0 → post u14) ∧ (¬ ((u2.1 3) - r14) ≤ 0 → ((0 < r2 → ∃ j, wp_X2_matchLevels_31  post j r2 ((u2.1 3) - r14) (0 : Int32) u14) ∧ (¬ 0 < r2 → post u14))))))
def wp_X2_fillLost_2  (post : US → Prop) : Nat → Int32 → Int32 → US → Prop
  | 0 => fun _ _ _ => False
  | n + 1 => fun x1 x2 u => (((u.1 3) ≤ x2 → post u) ∧ (¬ (u.1 3) ≤ x2 → (vp_in x2 36 ∧ ((((u.2 17) x2.toNatClampNeg) = (-1 : Int32) → wp_X1_greyAt (x1 - (1 : Int32)) x2 u (fun r31 u31 => ((r31 = (-1 : Int32) → wp_X1_greyAt (x1 + (1 : Int32)) x2 u31 (fun r57 u57 => (vp_in x2 36 ∧ wp_X2_fillLost_2  post n x1 (x2 + 1) (sA u57 16 (upd (u57.2 16) x2.toNatClampNeg r57))))) ∧ (¬ r31 = (-1 : Int32) → (vp_in x2 36 ∧ wp_X2_fillLost_2  post n x1 (x2 + 1) (sA u31 16 (upd (u31.2 16) x2.toNatClampNeg r31))))))) ∧ (¬ ((u.2 17) x2.toNatClampNeg) = (-1 : Int32) → wp_X2_fillLost_2  post n x1 (x2 + 1) u)))))
def wp_X2_fillLost (p1 : Int32) (u : US) (post : US → Prop) : Prop :=
  ∃ j, wp_X2_fillLost_2  post j p1 (0 : Int32) u
def wp_X2_moveAll_16 (k2 : Int32 → Int32 → Int32 → US → Prop) (post : US → Prop) : Nat → Int32 → Int32 → Int32 → Int32 → US → Prop
  | 0 => fun _ _ _ _ _ => False
  | n + 1 => fun x1 x2 x3 x4 u => (((u.1 2) ≤ x4 → k2 x1 x2 (x3 + 1) u) ∧ (¬ (u.1 2) ≤ x4 → wp_X1_placeOf (x3 - x2) (x4 - x1) u (fun r39 u39 => wp_X1_placeOf x3 x4 u39 (fun r55 u55 => wp_X1_hasPlace r39 u55 (fun r64 u64 => ((r64 = 0 → (vp_in r55 36 ∧ wp_X2_moveAll_16 k2 post n x1 x2 x3 (x4 + 1) (sA u64 16 (upd (u64.2 16) r55.toNatClampNeg (-1 : Int32))))) ∧ (¬ r64 = 0 → (vp_in r39 36 ∧ (vp_in r55 36 ∧ wp_X2_moveAll_16 k2 post n x1 x2 x3 (x4 + 1) (sA u64 16 (upd (u64.2 16) r55.toNatClampNeg ((u64.2 17) r39.toNatClampNeg))))))))))))
def wp_X2_moveAll_2  (post : US → Prop) : Nat → Int32 → Int32 → Int32 → US → Prop
  | 0 => fun _ _ _ _ => False
  | n + 1 => fun x1 x2 x3 u => (((u.1 1) ≤ x3 → post u) ∧ (¬ (u.1 1) ≤ x3 → ∃ j, wp_X2_moveAll_16 (wp_X2_moveAll_2  post n) post j x1 x2 x3 (0 : Int32) u))
def wp_X2_moveAll (p1 : Int32) (p2 : Int32) (u : US) (post : US → Prop) : Prop :=
  ∃ j, wp_X2_moveAll_2  post j p1 p2 (0 : Int32) u
def wp_X2_apply (p1 : Int32) (u : US) (post : US → Prop) : Prop :=
  (vp_in p1 12 ∧ (vp_in p1 12 ∧ ((((u.2 4) p1.toNatClampNeg).toInt < 0 ∨ 2 < ((u.2 4) p1.toNatClampNeg).toInt → (vp_in p1 12 ∧ (vp_in p1 12 ∧ wp_X2_moveAll ((u.2 6) p1.toNatClampNeg) ((u.2 7) p1.toNatClampNeg) (sA u 17 (gcp (u.2 16) (u.2 17) (0 : Int32) (0 : Int32) (36 : Int32))) (fun u111 => post u111)))) ∧ (((u.2 4) p1.toNatClampNeg).toInt = 0 → wp_X2_cleanDust ((u.2 5) p1.toNatClampNeg) (sA u 17 (gcp (u.2 16) (u.2 17) (0 : Int32) (0 : Int32) (36 : Int32))) (fun u62 => post u62)) ∧ (((u.2 4) p1.toNatClampNeg).toInt = 1 → (vp_in p1 12 ∧ wp_X2_matchLevels ((u.2 6) p1.toNatClampNeg) (sA u 17 (gcp (u.2 16) (u.2 17) (0 : Int32) (0 : Int32) (36 : Int32))) (fun u78 => post u78))) ∧ (((u.2 4) p1.toNatClampNeg).toInt = 2 → wp_X2_fillLost ((u.2 5) p1.toNatClampNeg) (sA u 17 (gcp (u.2 16) (u.2 17) (0 : Int32) (0 : Int32) (36 : Int32))) (fun u86 => post u86)))))
def wp_X2_make_36  (post : US → Prop) : Nat → Int32 → Int32 → Int32 → US → Prop
  | 0 => fun _ _ _ _ => False
  | n + 1 => fun x1 x2 x3 u => ((x2 ≤ x3 → post u) ∧ (¬ x2 ≤ x3 → (((u.1 5) ≤ x3 → post u) ∧ (¬ (u.1 5) ≤ x3 → (vp_in x3 12 ∧ ((((u.2 5) x3.toNatClampNeg) = x1 → (vp_in x3 12 ∧ ((((u.2 8) x3.toNatClampNeg) = 0 → wp_X2_make_36  post n x1 x2 (x3 + 1) u) ∧ (¬ ((u.2 8) x3.toNatClampNeg) = 0 → wp_X2_apply x3 u (fun u79 => wp_X2_make_36  post n x1 x2 (x3 + 1) u79))))) ∧ (¬ ((u.2 5) x3.toNatClampNeg) = x1 → wp_X2_make_36  post n x1 x2 (x3 + 1) u)))))))
def wp_X2_make_2  (post : US → Prop) : Nat → Int32 → Int32 → Int32 → US → Prop
  | 0 => fun _ _ _ _ => False
  | n + 1 => fun x1 x2 x3 u => (((u.1 3) ≤ x3 → ∃ j, wp_X2_make_36  post j x1 x2 (0 : Int32) u) ∧ (¬ (u.1 3) ≤ x3 → wp_X1_greyAt x1 x3 u (fun r24 u24 => (vp_in x3 36 ∧ wp_X2_make_2  post n x1 x2 (x3 + 1) (sA u24 16 (upd (u24.2 16) x3.toNatClampNeg r24))))))
def wp_X2_make (p1 : Int32) (p2 : Int32) (u : US) (post : US → Prop) : Prop :=
  ∃ j, wp_X2_make_2  post j p1 p2 (0 : Int32) u
def wp_X2_greyAt (p1 : Int32) (u : US) (post : Int32 → US → Prop) : Prop :=
  wp_X1_hasPlace p1 u (fun r5 u5 => ((r5 = 0 → post (-1 : Int32) u5) ∧ (¬ r5 = 0 → (vp_in p1 36 ∧ post ((u5.2 16) p1.toNatClampNeg) u5))))
def wp_X5_made (p1 : Int32) (p2 : Int32) (p3 : Int32) (u : US) (post : Int32 → US → Prop) : Prop :=
  wp_X1_placeOf p2 p3 u (fun r6 u6 => wp_X1_hasFrame p1 u6 (fun r16 u16 => ((r16 = 0 → post (-1000 : Int32) u16) ∧ (¬ r16 = 0 → ((0 ≤ r6 → wp_X2_make p1 (u16.1 5) u16 (fun u43 => wp_X2_greyAt r6 u43 (fun r52 u52 => post r52 u52))) ∧ (¬ 0 ≤ r6 → post (-1000 : Int32) u16))))))
def wp_X2_countChanged_4  (post : Int32 → US → Prop) : Nat → Int32 → Int32 → US → Prop
  | 0 => fun _ _ _ => False
  | n + 1 => fun x1 x2 u => (((u.1 3) ≤ x2 → post x1 u) ∧ (¬ (u.1 3) ≤ x2 → (vp_in x2 36 ∧ (vp_in x2 36 ∧ ((((u.2 16) x2.toNatClampNeg) = ((u.2 17) x2.toNatClampNeg) → wp_X2_countChanged_4  post n x1 (x2 + 1) u) ∧ (¬ ((u.2 16) x2.toNatClampNeg) = ((u.2 17) x2.toNatClampNeg) → wp_X2_countChanged_4  post n (x1 + 1) (x2 + 1) u))))))
def wp_X2_countChanged  (u : US) (post : Int32 → US → Prop) : Prop :=
  ∃ j, wp_X2_countChanged_4  post j (0 : Int32) (0 : Int32) u
def wp_X5_changed (p1 : Int32) (u : US) (post : Int32 → US → Prop) : Prop :=
  wp_X0_has p1 u (fun r5 u5 => ((r5 = 0 → post (-1 : Int32) u5) ∧ (¬ r5 = 0 → (vp_in p1 12 ∧ ((((u5.2 8) p1.toNatClampNeg) = 0 → post (0 : Int32) u5) ∧ (¬ ((u5.2 8) p1.toNatClampNeg) = 0 → (vp_in p1 12 ∧ wp_X2_make ((u5.2 5) p1.toNatClampNeg) (p1 + (1 : Int32)) u5 (fun u43 => wp_X2_countChanged u43 (fun r50 u50 => post r50 u50)))))))))
def wp_X5_of (p1 : Int32) (p2 : Int32) (u : US) (post : Int32 → US → Prop) : Prop :=
  wp_X0_has p1 u (fun r5 u5 => ((r5 = 0 → post (-1000 : Int32) u5) ∧ (¬ r5 = 0 → ((p2.toInt < 0 ∨ 4 < p2.toInt → post (-1000 : Int32) u5) ∧ (p2.toInt = 0 → (vp_in p1 12 ∧ post ((u5.2 4) p1.toNatClampNeg) u5)) ∧ (p2.toInt = 1 → (vp_in p1 12 ∧ post ((u5.2 5) p1.toNatClampNeg) u5)) ∧ (p2.toInt = 2 → (vp_in p1 12 ∧ post ((u5.2 6) p1.toNatClampNeg) u5)) ∧ (p2.toInt = 3 → (vp_in p1 12 ∧ post ((u5.2 7) p1.toNatClampNeg) u5)) ∧ (p2.toInt = 4 → (vp_in p1 12 ∧ ((((u5.2 8) p1.toNatClampNeg) = 0 → post (0 : Int32) u5) ∧ (¬ ((u5.2 8) p1.toNatClampNeg) = 0 → post (1 : Int32) u5))))))))
def wp_X2_sumOfGreys_4  (post : Int32 → US → Prop) : Nat → Int32 → Int32 → US → Prop
  | 0 => fun _ _ _ => False
  | n + 1 => fun x1 x2 u => (((u.1 3) ≤ x2 → post x1 u) ∧ (¬ (u.1 3) ≤ x2 → (vp_in x2 36 ∧ ((((u.2 16) x2.toNatClampNeg) = (-1 : Int32) → wp_X2_sumOfGreys_4  post n x1 (x2 + 1) u) ∧ (¬ ((u.2 16) x2.toNatClampNeg) = (-1 : Int32) → (vp_in x2 36 ∧ wp_X2_sumOfGreys_4  post n (x1 + ((u.2 16) x2.toNatClampNeg)) (x2 + 1) u))))))
def wp_X2_sumOfGreys  (u : US) (post : Int32 → US → Prop) : Prop :=
  ∃ j, wp_X2_sumOfGreys_4  post j (0 : Int32) (0 : Int32) u
def wp_X2_leastGrey_5  (post : Int32 → US → Prop) : Nat → Int32 → Int32 → US → Prop
  | 0 => fun _ _ _ => False
  | n + 1 => fun x1 x2 u => (((u.1 3) ≤ x2 → post x1 u) ∧ (¬ (u.1 3) ≤ x2 → (vp_in x2 36 ∧ ((((u.2 16) x2.toNatClampNeg) = (-1 : Int32) → wp_X2_leastGrey_5  post n x1 (x2 + 1) u) ∧ (¬ ((u.2 16) x2.toNatClampNeg) = (-1 : Int32) → (vp_in x2 36 ∧ wp_X2_leastGrey_5  post n (jmin x1 ((u.2 16) x2.toNatClampNeg)) (x2 + 1) u))))))
def wp_X2_leastGrey  (u : US) (post : Int32 → US → Prop) : Prop :=
  ∃ j, wp_X2_leastGrey_5  post j (63 : Int32) (0 : Int32) u
def wp_X2_greatestGrey_4  (post : Int32 → US → Prop) : Nat → Int32 → Int32 → US → Prop
  | 0 => fun _ _ _ => False
  | n + 1 => fun x1 x2 u => (((u.1 3) ≤ x2 → post x1 u) ∧ (¬ (u.1 3) ≤ x2 → (vp_in x2 36 ∧ wp_X2_greatestGrey_4  post n (jmax x1 ((u.2 16) x2.toNatClampNeg)) (x2 + 1) u)))
def wp_X2_greatestGrey  (u : US) (post : Int32 → US → Prop) : Prop :=
  ∃ j, wp_X2_greatestGrey_4  post j (0 : Int32) (0 : Int32) u
def wp_X2_countUnlikeRaw_4  (post : Int32 → US → Prop) : Nat → Int32 → Int32 → Int32 → US → Prop
  | 0 => fun _ _ _ _ => False
  | n + 1 => fun x1 x2 x3 u => (((u.1 3) ≤ x3 → post x2 u) ∧ (¬ (u.1 3) ≤ x3 → (vp_in x3 36 ∧ wp_X1_greyAt x1 x3 u (fun r27 u27 => ((((u.2 16) x3.toNatClampNeg) = r27 → wp_X2_countUnlikeRaw_4  post n x1 x2 (x3 + 1) u27) ∧ (¬ ((u.2 16) x3.toNatClampNeg) = r27 → wp_X2_countUnlikeRaw_4  post n x1 (x2 + 1) (x3 + 1) u27))))))
def wp_X2_countUnlikeRaw (p1 : Int32) (u : US) (post : Int32 → US → Prop) : Prop :=
  ∃ j, wp_X2_countUnlikeRaw_4  post j p1 (0 : Int32) (0 : Int32) u
def wp_X5_told (p1 : Int32) (p2 : Int32) (u : US) (post : Int32 → US → Prop) : Prop :=
  wp_X1_hasFrame p1 u (fun r5 u5 => ((r5 = 0 → post (-1 : Int32) u5) ∧ (¬ r5 = 0 → wp_X5_isWithin p2 (0 : Int32) (4 : Int32) u5 (fun r14 u14 => ((r14 = 0 → post (-1 : Int32) u14) ∧ (¬ r14 = 0 → wp_X2_make p1 (u14.1 5) u14 (fun u34 => ((p2.toInt < 0 ∨ 3 < p2.toInt → wp_X2_countUnlikeRaw p1 u34 (fun r149 u149 => post r149 u149)) ∧ (p2.toInt = 0 → wp_X2_countLost u34 (fun r72 u72 => post r72 u72)) ∧ (p2.toInt = 1 → wp_X2_sumOfGreys u34 (fun r80 u80 => post r80 u80)) ∧ (p2.toInt = 2 → wp_X2_countLost u34 (fun r88 u88 => ((r88 = (u88.1 3) → post (-3 : Int32) u88) ∧ (¬ r88 = (u88.1 3) → wp_X2_leastGrey u88 (fun r110 u110 => post r110 u110))))) ∧ (p2.toInt = 3 → wp_X2_countLost u34 (fun r118 u118 => ((r118 = (u118.1 3) → post (-3 : Int32) u118) ∧ (¬ r118 = (u118.1 3) → wp_X2_greatestGrey u118 (fun r140 u140 => post r140 u140)))))))))))))
def wp_X0_countOn_4  (post : Int32 → US → Prop) : Nat → Int32 → Int32 → US → Prop
  | 0 => fun _ _ _ => False
  | n + 1 => fun x1 x2 u => (((u.1 5) ≤ x2 → post x1 u) ∧ (¬ (u.1 5) ≤ x2 → (vp_in x2 12 ∧ ((((u.2 8) x2.toNatClampNeg) = 0 → wp_X0_countOn_4  post n x1 (x2 + 1) u) ∧ (¬ ((u.2 8) x2.toNatClampNeg) = 0 → wp_X0_countOn_4  post n (x1 + 1) (x2 + 1) u)))))
def wp_X0_countOn  (u : US) (post : Int32 → US → Prop) : Prop :=
  ∃ j, wp_X0_countOn_4  post j (0 : Int32) (0 : Int32) u
def wp_X1_countLost_14 (k4 : Int32 → Int32 → US → Prop) (post : Int32 → US → Prop) : Nat → Int32 → Int32 → Int32 → US → Prop
  | 0 => fun _ _ _ _ => False
  | n + 1 => fun x1 x2 x3 u => (((u.1 3) ≤ x3 → k4 x1 (x2 + 1) u) ∧ (¬ (u.1 3) ≤ x3 → wp_X1_greyAt x2 x3 u (fun r25 u25 => ((r25 = (-1 : Int32) → wp_X1_countLost_14 k4 post n (x1 + 1) x2 (x3 + 1) u25) ∧ (¬ r25 = (-1 : Int32) → wp_X1_countLost_14 k4 post n x1 x2 (x3 + 1) u25)))))
def wp_X1_countLost_4  (post : Int32 → US → Prop) : Nat → Int32 → Int32 → US → Prop
  | 0 => fun _ _ _ => False
  | n + 1 => fun x1 x2 u => (((u.1 4) ≤ x2 → post x1 u) ∧ (¬ (u.1 4) ≤ x2 → ∃ j, wp_X1_countLost_14 (wp_X1_countLost_4  post n) post j x1 x2 (0 : Int32) u))
def wp_X1_countLost  (u : US) (post : Int32 → US → Prop) : Prop :=
  ∃ j, wp_X1_countLost_4  post j (0 : Int32) (0 : Int32) u
def wp_X5_many (p1 : Int32) (u : US) (post : Int32 → US → Prop) : Prop :=
  ((p1.toInt < 0 ∨ 8 < p1.toInt → post (-1 : Int32) u) ∧ (p1.toInt = 0 → post (u.1 1) u) ∧ (p1.toInt = 1 → post (u.1 2) u) ∧ (p1.toInt = 2 → post (u.1 4) u) ∧ (p1.toInt = 3 → post (u.1 5) u) ∧ (p1.toInt = 4 → wp_X0_countOn u (fun r88 u88 => post r88 u88)) ∧ (p1.toInt = 5 → wp_X1_countLost u (fun r96 u96 => post r96 u96)) ∧ (p1.toInt = 6 → post ((u.2 9) (0 : Int32).toNatClampNeg) u) ∧ (p1.toInt = 7 → post ((u.2 9) (1 : Int32).toNatClampNeg) u) ∧ (p1.toInt = 8 → post ((u.2 9) (2 : Int32).toNatClampNeg) u))
def wp_X1_copyFrom_19  (u : US) (post : US → Prop) : Prop :=
  post (sA (si (si (si (si u 15 (u.1 1)) 16 (u.1 2)) 17 (u.1 3)) 18 (u.1 4)) 20 (gcp (u.2 2) (u.2 20) (0 : Int32) (0 : Int32) (360 : Int32)))
def wp_X1_copyFrom_1  (u : US) (post : US → Prop) : Prop :=
  post (sA (si (si (si (si u 1 (u.1 15)) 2 (u.1 16)) 3 (u.1 17)) 4 (u.1 18)) 2 (gcp (u.2 20) (u.2 2) (0 : Int32) (0 : Int32) (360 : Int32)))
def wp_X0_copyFrom_21_10  (post : US → Prop) : Nat → Int32 → US → Prop
  | 0 => fun _ _ => False
  | n + 1 => fun x2 u => (((12 : Int32) ≤ x2 → post u) ∧ (¬ (12 : Int32) ≤ x2 → (vp_in x2 12 ∧ (vp_in x2 12 ∧ (vp_in x2 12 ∧ (vp_in x2 12 ∧ (vp_in x2 12 ∧ (vp_in x2 12 ∧ (vp_in x2 12 ∧ (vp_in x2 12 ∧ (vp_in x2 12 ∧ (vp_in x2 12 ∧ wp_X0_copyFrom_21_10  post n (x2 + 1) (sA (sA (sA (sA (sA u 22 (upd (u.2 22) x2.toNatClampNeg ((u.2 4) x2.toNatClampNeg))) 23 (upd (u.2 23) x2.toNatClampNeg ((u.2 5) x2.toNatClampNeg))) 24 (upd (u.2 24) x2.toNatClampNeg ((u.2 6) x2.toNatClampNeg))) 25 (upd (u.2 25) x2.toNatClampNeg ((u.2 7) x2.toNatClampNeg))) 26 (upd (u.2 26) x2.toNatClampNeg (vp_nar .boolean ((u.2 8) x2.toNatClampNeg))))))))))))))))
def wp_X0_copyFrom_21  (u : US) (post : US → Prop) : Prop :=
  ∃ j, wp_X0_copyFrom_21_10  post j (0 : Int32) (si u 19 (u.1 5))
def wp_X0_copyFrom_3_10  (post : US → Prop) : Nat → Int32 → US → Prop
  | 0 => fun _ _ => False
  | n + 1 => fun x2 u => (((12 : Int32) ≤ x2 → post u) ∧ (¬ (12 : Int32) ≤ x2 → (vp_in x2 12 ∧ (vp_in x2 12 ∧ (vp_in x2 12 ∧ (vp_in x2 12 ∧ (vp_in x2 12 ∧ (vp_in x2 12 ∧ (vp_in x2 12 ∧ (vp_in x2 12 ∧ (vp_in x2 12 ∧ (vp_in x2 12 ∧ wp_X0_copyFrom_3_10  post n (x2 + 1) (sA (sA (sA (sA (sA u 4 (upd (u.2 4) x2.toNatClampNeg ((u.2 22) x2.toNatClampNeg))) 5 (upd (u.2 5) x2.toNatClampNeg ((u.2 23) x2.toNatClampNeg))) 6 (upd (u.2 6) x2.toNatClampNeg ((u.2 24) x2.toNatClampNeg))) 7 (upd (u.2 7) x2.toNatClampNeg ((u.2 25) x2.toNatClampNeg))) 8 (upd (u.2 8) x2.toNatClampNeg (vp_nar .boolean ((u.2 26) x2.toNatClampNeg))))))))))))))))
def wp_X0_copyFrom_3  (u : US) (post : US → Prop) : Prop :=
  ∃ j, wp_X0_copyFrom_3_10  post j (0 : Int32) (si u 5 (u.1 19))
def wp_X5_keep  (u : US) (post : Int32 → US → Prop) : Prop :=
  wp_X1_copyFrom_19 u (fun u8 => wp_X0_copyFrom_21 u8 (fun u19 => post (1 : Int32) (si u19 0 (1 : Int32))))
def wp_X5_back  (u : US) (post : Int32 → US → Prop) : Prop :=
  (((u.1 0) = 0 → post (-3 : Int32) u) ∧ (¬ (u.1 0) = 0 → wp_X1_copyFrom_1 u (fun u18 => wp_X0_copyFrom_3 u18 (fun u29 => post (1 : Int32) u29))))
