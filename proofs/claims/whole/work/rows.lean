section
-- ===== PART A: goes FIRST, ahead of the names: the tables' words, and 'selects' of the private methods out of them =====
/-- a private method of a class that the tables say can be made, by its rows of tables_1 -/
def lw_okq (q : MethodName × Nat) : Prop := (q.1.cls ≠ "java/lang/invoke/MethodHandle" ∧ q.1.cls ≠ "java/lang/invoke/VarHandle") ∧ Cond.instantiable q.1.cls q.2 ∈ tables_1 ∧ Cond.privateMethod q.1 ∈ tables_1 ∧ Cond.instanceMethod q.1 ∈ tables_1
theorem lw_p0 : lw_okq (⟨"FilmBench$Shifts", "isBetter", "(II)Z"⟩, 7) := ⟨⟨by decide +kernel, by decide +kernel⟩, List.mem_of_getElem? (i := 95) (by decide +kernel), List.mem_of_getElem? (i := 306) (by decide +kernel), List.mem_of_getElem? (i := 307) (by decide +kernel)⟩
theorem lw_p1 : lw_okq (⟨"FilmBench", "findPath", "(I)V"⟩, 9) := ⟨⟨by decide +kernel, by decide +kernel⟩, List.mem_of_getElem? (i := 11) (by decide +kernel), List.mem_of_getElem? (i := 322) (by decide +kernel), List.mem_of_getElem? (i := 323) (by decide +kernel)⟩
theorem lw_p2 : lw_okq (⟨"FilmBench$Steady", "findCosts", "()V"⟩, 6) := ⟨⟨by decide +kernel, by decide +kernel⟩, List.mem_of_getElem? (i := 125) (by decide +kernel), List.mem_of_getElem? (i := 335) (by decide +kernel), List.mem_of_getElem? (i := 336) (by decide +kernel)⟩
theorem lw_p3 : lw_okq (⟨"FilmBench$Steady", "leastCostBehind", "(III)I"⟩, 6) := ⟨⟨by decide +kernel, by decide +kernel⟩, List.mem_of_getElem? (i := 125) (by decide +kernel), List.mem_of_getElem? (i := 342) (by decide +kernel), List.mem_of_getElem? (i := 343) (by decide +kernel)⟩
theorem lw_p4 : lw_okq (⟨"FilmBench$Steady", "costThrough", "(IIII)I"⟩, 6) := ⟨⟨by decide +kernel, by decide +kernel⟩, List.mem_of_getElem? (i := 125) (by decide +kernel), List.mem_of_getElem? (i := 346) (by decide +kernel), List.mem_of_getElem? (i := 347) (by decide +kernel)⟩
theorem lw_p5 : lw_okq (⟨"FilmBench$Steady", "spotOf", "(II)I"⟩, 6) := ⟨⟨by decide +kernel, by decide +kernel⟩, List.mem_of_getElem? (i := 125) (by decide +kernel), List.mem_of_getElem? (i := 350) (by decide +kernel), List.mem_of_getElem? (i := 351) (by decide +kernel)⟩
theorem lw_p6 : lw_okq (⟨"FilmBench$Steady", "takeChoices", "()V"⟩, 6) := ⟨⟨by decide +kernel, by decide +kernel⟩, List.mem_of_getElem? (i := 125) (by decide +kernel), List.mem_of_getElem? (i := 356) (by decide +kernel), List.mem_of_getElem? (i := 357) (by decide +kernel)⟩
theorem lw_p7 : lw_okq (⟨"FilmBench$Steady", "costOfStart", "(II)I"⟩, 6) := ⟨⟨by decide +kernel, by decide +kernel⟩, List.mem_of_getElem? (i := 125) (by decide +kernel), List.mem_of_getElem? (i := 360) (by decide +kernel), List.mem_of_getElem? (i := 361) (by decide +kernel)⟩
theorem lw_p8 : lw_okq (⟨"FilmBench$Steady", "leastThird", "(III)I"⟩, 6) := ⟨⟨by decide +kernel, by decide +kernel⟩, List.mem_of_getElem? (i := 125) (by decide +kernel), List.mem_of_getElem? (i := 364) (by decide +kernel), List.mem_of_getElem? (i := 365) (by decide +kernel)⟩
theorem lw_p9 : lw_okq (⟨"FilmBench$Sheet", "apply", "(I)V"⟩, 6) := ⟨⟨by decide +kernel, by decide +kernel⟩, List.mem_of_getElem? (i := 150) (by decide +kernel), List.mem_of_getElem? (i := 422) (by decide +kernel), List.mem_of_getElem? (i := 423) (by decide +kernel)⟩
theorem lw_p10 : lw_okq (⟨"FilmBench$Sheet", "cleanDust", "(I)V"⟩, 6) := ⟨⟨by decide +kernel, by decide +kernel⟩, List.mem_of_getElem? (i := 150) (by decide +kernel), List.mem_of_getElem? (i := 427) (by decide +kernel), List.mem_of_getElem? (i := 428) (by decide +kernel)⟩
theorem lw_p11 : lw_okq (⟨"FilmBench$Sheet", "matchLevels", "(I)V"⟩, 6) := ⟨⟨by decide +kernel, by decide +kernel⟩, List.mem_of_getElem? (i := 150) (by decide +kernel), List.mem_of_getElem? (i := 432) (by decide +kernel), List.mem_of_getElem? (i := 433) (by decide +kernel)⟩
theorem lw_p12 : lw_okq (⟨"FilmBench$Sheet", "sortGreysOf", "(I)I"⟩, 6) := ⟨⟨by decide +kernel, by decide +kernel⟩, List.mem_of_getElem? (i := 150) (by decide +kernel), List.mem_of_getElem? (i := 436) (by decide +kernel), List.mem_of_getElem? (i := 437) (by decide +kernel)⟩
theorem lw_p13 : lw_okq (⟨"FilmBench$Sheet", "middleRankOf", "(I)I"⟩, 6) := ⟨⟨by decide +kernel, by decide +kernel⟩, List.mem_of_getElem? (i := 150) (by decide +kernel), List.mem_of_getElem? (i := 444) (by decide +kernel), List.mem_of_getElem? (i := 445) (by decide +kernel)⟩
theorem lw_p14 : lw_okq (⟨"FilmBench$Sheet", "fillLost", "(I)V"⟩, 6) := ⟨⟨by decide +kernel, by decide +kernel⟩, List.mem_of_getElem? (i := 150) (by decide +kernel), List.mem_of_getElem? (i := 448) (by decide +kernel), List.mem_of_getElem? (i := 449) (by decide +kernel)⟩
theorem lw_p15 : lw_okq (⟨"FilmBench$Sheet", "moveAll", "(II)V"⟩, 6) := ⟨⟨by decide +kernel, by decide +kernel⟩, List.mem_of_getElem? (i := 150) (by decide +kernel), List.mem_of_getElem? (i := 452) (by decide +kernel), List.mem_of_getElem? (i := 453) (by decide +kernel)⟩
def lw_privs_1 : List (MethodName × Nat) := [(⟨"FilmBench$Shifts", "isBetter", "(II)Z"⟩, 7), (⟨"FilmBench", "findPath", "(I)V"⟩, 9), (⟨"FilmBench$Steady", "findCosts", "()V"⟩, 6), (⟨"FilmBench$Steady", "leastCostBehind", "(III)I"⟩, 6), (⟨"FilmBench$Steady", "costThrough", "(IIII)I"⟩, 6), (⟨"FilmBench$Steady", "spotOf", "(II)I"⟩, 6), (⟨"FilmBench$Steady", "takeChoices", "()V"⟩, 6), (⟨"FilmBench$Steady", "costOfStart", "(II)I"⟩, 6), (⟨"FilmBench$Steady", "leastThird", "(III)I"⟩, 6), (⟨"FilmBench$Sheet", "apply", "(I)V"⟩, 6), (⟨"FilmBench$Sheet", "cleanDust", "(I)V"⟩, 6), (⟨"FilmBench$Sheet", "matchLevels", "(I)V"⟩, 6), (⟨"FilmBench$Sheet", "sortGreysOf", "(I)I"⟩, 6), (⟨"FilmBench$Sheet", "middleRankOf", "(I)I"⟩, 6), (⟨"FilmBench$Sheet", "fillLost", "(I)V"⟩, 6), (⟨"FilmBench$Sheet", "moveAll", "(II)V"⟩, 6)]
theorem lw_r1 : ∀ q ∈ lw_privs_1, lw_okq q := List.forall_mem_cons.mpr ⟨lw_p0, List.forall_mem_cons.mpr ⟨lw_p1, List.forall_mem_cons.mpr ⟨lw_p2, List.forall_mem_cons.mpr ⟨lw_p3, List.forall_mem_cons.mpr ⟨lw_p4, List.forall_mem_cons.mpr ⟨lw_p5, List.forall_mem_cons.mpr ⟨lw_p6, List.forall_mem_cons.mpr ⟨lw_p7, List.forall_mem_cons.mpr ⟨lw_p8, List.forall_mem_cons.mpr ⟨lw_p9, List.forall_mem_cons.mpr ⟨lw_p10, List.forall_mem_cons.mpr ⟨lw_p11, List.forall_mem_cons.mpr ⟨lw_p12, List.forall_mem_cons.mpr ⟨lw_p13, List.forall_mem_cons.mpr ⟨lw_p14, List.forall_mem_cons.mpr ⟨lw_p15, fun _ h => absurd h List.not_mem_nil⟩⟩⟩⟩⟩⟩⟩⟩⟩⟩⟩⟩⟩⟩⟩⟩
theorem lw_p16 : lw_okq (⟨"FilmBenchModel", "isFrame", "(I)Z"⟩, 33) := ⟨⟨by decide +kernel, by decide +kernel⟩, List.mem_of_getElem? (i := 527) (by decide +kernel), List.mem_of_getElem? (i := 648) (by decide +kernel), List.mem_of_getElem? (i := 649) (by decide +kernel)⟩
theorem lw_p17 : lw_okq (⟨"FilmBenchModel", "isSquare", "(II)Z"⟩, 33) := ⟨⟨by decide +kernel, by decide +kernel⟩, List.mem_of_getElem? (i := 527) (by decide +kernel), List.mem_of_getElem? (i := 656) (by decide +kernel), List.mem_of_getElem? (i := 657) (by decide +kernel)⟩
theorem lw_p18 : lw_okq (⟨"FilmBenchModel", "at", "(III)I"⟩, 33) := ⟨⟨by decide +kernel, by decide +kernel⟩, List.mem_of_getElem? (i := 527) (by decide +kernel), List.mem_of_getElem? (i := 660) (by decide +kernel), List.mem_of_getElem? (i := 661) (by decide +kernel)⟩
theorem lw_p19 : lw_okq (⟨"FilmBenchModel", "findMiss", "(III)Z"⟩, 33) := ⟨⟨by decide +kernel, by decide +kernel⟩, List.mem_of_getElem? (i := 527) (by decide +kernel), List.mem_of_getElem? (i := 681) (by decide +kernel), List.mem_of_getElem? (i := 682) (by decide +kernel)⟩
theorem lw_p20 : lw_okq (⟨"FilmBenchModel", "findShift", "(I)V"⟩, 33) := ⟨⟨by decide +kernel, by decide +kernel⟩, List.mem_of_getElem? (i := 527) (by decide +kernel), List.mem_of_getElem? (i := 692) (by decide +kernel), List.mem_of_getElem? (i := 693) (by decide +kernel)⟩
theorem lw_p21 : lw_okq (⟨"FilmBenchModel", "driftOf", "(II)I"⟩, 33) := ⟨⟨by decide +kernel, by decide +kernel⟩, List.mem_of_getElem? (i := 527) (by decide +kernel), List.mem_of_getElem? (i := 703) (by decide +kernel), List.mem_of_getElem? (i := 704) (by decide +kernel)⟩
theorem lw_p22 : lw_okq (⟨"FilmBenchModel", "findPath", "(I)V"⟩, 33) := ⟨⟨by decide +kernel, by decide +kernel⟩, List.mem_of_getElem? (i := 527) (by decide +kernel), List.mem_of_getElem? (i := 711) (by decide +kernel), List.mem_of_getElem? (i := 712) (by decide +kernel)⟩
theorem lw_p23 : lw_okq (⟨"FilmBenchModel", "findRest", "()V"⟩, 33) := ⟨⟨by decide +kernel, by decide +kernel⟩, List.mem_of_getElem? (i := 527) (by decide +kernel), List.mem_of_getElem? (i := 715) (by decide +kernel), List.mem_of_getElem? (i := 716) (by decide +kernel)⟩
theorem lw_p24 : lw_okq (⟨"FilmBenchModel", "by", "(IIII)I"⟩, 33) := ⟨⟨by decide +kernel, by decide +kernel⟩, List.mem_of_getElem? (i := 527) (by decide +kernel), List.mem_of_getElem? (i := 719) (by decide +kernel), List.mem_of_getElem? (i := 720) (by decide +kernel)⟩
theorem lw_p25 : lw_okq (⟨"FilmBenchModel", "placeAt", "(II)I"⟩, 33) := ⟨⟨by decide +kernel, by decide +kernel⟩, List.mem_of_getElem? (i := 527) (by decide +kernel), List.mem_of_getElem? (i := 723) (by decide +kernel), List.mem_of_getElem? (i := 724) (by decide +kernel)⟩
theorem lw_p26 : lw_okq (⟨"FilmBenchModel", "strayAt", "(I)I"⟩, 33) := ⟨⟨by decide +kernel, by decide +kernel⟩, List.mem_of_getElem? (i := 527) (by decide +kernel), List.mem_of_getElem? (i := 727) (by decide +kernel), List.mem_of_getElem? (i := 728) (by decide +kernel)⟩
theorem lw_p27 : lw_okq (⟨"FilmBenchModel", "cleaned", "(III)I"⟩, 33) := ⟨⟨by decide +kernel, by decide +kernel⟩, List.mem_of_getElem? (i := 527) (by decide +kernel), List.mem_of_getElem? (i := 739) (by decide +kernel), List.mem_of_getElem? (i := 740) (by decide +kernel)⟩
theorem lw_p28 : lw_okq (⟨"FilmBenchModel", "isLayer", "(I)Z"⟩, 33) := ⟨⟨by decide +kernel, by decide +kernel⟩, List.mem_of_getElem? (i := 527) (by decide +kernel), List.mem_of_getElem? (i := 751) (by decide +kernel), List.mem_of_getElem? (i := 752) (by decide +kernel)⟩
theorem lw_p29 : lw_okq (⟨"FilmBenchModel", "makes", "(II)I"⟩, 33) := ⟨⟨by decide +kernel, by decide +kernel⟩, List.mem_of_getElem? (i := 527) (by decide +kernel), List.mem_of_getElem? (i := 763) (by decide +kernel), List.mem_of_getElem? (i := 764) (by decide +kernel)⟩
theorem lw_p30 : lw_okq (⟨"FilmBenchModel", "goes", "(I)I"⟩, 33) := ⟨⟨by decide +kernel, by decide +kernel⟩, List.mem_of_getElem? (i := 527) (by decide +kernel), List.mem_of_getElem? (i := 767) (by decide +kernel), List.mem_of_getElem? (i := 768) (by decide +kernel)⟩
theorem lw_p31 : lw_okq (⟨"FilmBenchModel", "matched", "(II)I"⟩, 33) := ⟨⟨by decide +kernel, by decide +kernel⟩, List.mem_of_getElem? (i := 527) (by decide +kernel), List.mem_of_getElem? (i := 771) (by decide +kernel), List.mem_of_getElem? (i := 772) (by decide +kernel)⟩
def lw_privs_2 : List (MethodName × Nat) := [(⟨"FilmBenchModel", "isFrame", "(I)Z"⟩, 33), (⟨"FilmBenchModel", "isSquare", "(II)Z"⟩, 33), (⟨"FilmBenchModel", "at", "(III)I"⟩, 33), (⟨"FilmBenchModel", "findMiss", "(III)Z"⟩, 33), (⟨"FilmBenchModel", "findShift", "(I)V"⟩, 33), (⟨"FilmBenchModel", "driftOf", "(II)I"⟩, 33), (⟨"FilmBenchModel", "findPath", "(I)V"⟩, 33), (⟨"FilmBenchModel", "findRest", "()V"⟩, 33), (⟨"FilmBenchModel", "by", "(IIII)I"⟩, 33), (⟨"FilmBenchModel", "placeAt", "(II)I"⟩, 33), (⟨"FilmBenchModel", "strayAt", "(I)I"⟩, 33), (⟨"FilmBenchModel", "cleaned", "(III)I"⟩, 33), (⟨"FilmBenchModel", "isLayer", "(I)Z"⟩, 33), (⟨"FilmBenchModel", "makes", "(II)I"⟩, 33), (⟨"FilmBenchModel", "goes", "(I)I"⟩, 33), (⟨"FilmBenchModel", "matched", "(II)I"⟩, 33)]
theorem lw_r2 : ∀ q ∈ lw_privs_2, lw_okq q := List.forall_mem_cons.mpr ⟨lw_p16, List.forall_mem_cons.mpr ⟨lw_p17, List.forall_mem_cons.mpr ⟨lw_p18, List.forall_mem_cons.mpr ⟨lw_p19, List.forall_mem_cons.mpr ⟨lw_p20, List.forall_mem_cons.mpr ⟨lw_p21, List.forall_mem_cons.mpr ⟨lw_p22, List.forall_mem_cons.mpr ⟨lw_p23, List.forall_mem_cons.mpr ⟨lw_p24, List.forall_mem_cons.mpr ⟨lw_p25, List.forall_mem_cons.mpr ⟨lw_p26, List.forall_mem_cons.mpr ⟨lw_p27, List.forall_mem_cons.mpr ⟨lw_p28, List.forall_mem_cons.mpr ⟨lw_p29, List.forall_mem_cons.mpr ⟨lw_p30, List.forall_mem_cons.mpr ⟨lw_p31, fun _ h => absurd h List.not_mem_nil⟩⟩⟩⟩⟩⟩⟩⟩⟩⟩⟩⟩⟩⟩⟩⟩
theorem lw_p32 : lw_okq (⟨"FilmBenchModel", "rising", "(II)I"⟩, 33) := ⟨⟨by decide +kernel, by decide +kernel⟩, List.mem_of_getElem? (i := 527) (by decide +kernel), List.mem_of_getElem? (i := 775) (by decide +kernel), List.mem_of_getElem? (i := 776) (by decide +kernel)⟩
theorem lw_p33 : lw_okq (⟨"FilmBenchModel", "filledFrom", "(II)I"⟩, 33) := ⟨⟨by decide +kernel, by decide +kernel⟩, List.mem_of_getElem? (i := 527) (by decide +kernel), List.mem_of_getElem? (i := 779) (by decide +kernel), List.mem_of_getElem? (i := 780) (by decide +kernel)⟩
theorem lw_p34 : lw_okq (⟨"FilmBenchModel", "moved", "(II)I"⟩, 33) := ⟨⟨by decide +kernel, by decide +kernel⟩, List.mem_of_getElem? (i := 527) (by decide +kernel), List.mem_of_getElem? (i := 783) (by decide +kernel), List.mem_of_getElem? (i := 784) (by decide +kernel)⟩
def lw_privs_3 : List (MethodName × Nat) := [(⟨"FilmBenchModel", "rising", "(II)I"⟩, 33), (⟨"FilmBenchModel", "filledFrom", "(II)I"⟩, 33), (⟨"FilmBenchModel", "moved", "(II)I"⟩, 33)]
theorem lw_r3 : ∀ q ∈ lw_privs_3, lw_okq q := List.forall_mem_cons.mpr ⟨lw_p32, List.forall_mem_cons.mpr ⟨lw_p33, List.forall_mem_cons.mpr ⟨lw_p34, fun _ h => absurd h List.not_mem_nil⟩⟩⟩
def lw_privs : List (MethodName × Nat) := lw_privs_1 ++ (lw_privs_2 ++ (lw_privs_3))
def lw_tbl : List Cond := k2_sels lw_privs ++ tables_1
theorem lw_privs_ok : ∀ q ∈ lw_privs, lw_okq q := by
  show ∀ q ∈ lw_privs_1 ++ (lw_privs_2 ++ (lw_privs_3)), lw_okq q
  exact List.forall_mem_append.mpr ⟨lw_r1, List.forall_mem_append.mpr ⟨lw_r2, lw_r3⟩⟩
end
section
/-! ===== BEGIN words of one list among another's, by their places ===== -/
theorem goodIn_r {big : List Cond} (ws : List Cond) (ps : List Nat) (hp : ws = ps.filterMap (fun i => big[i]?)) (h : ws.all goodWord = true) : GoodIn big ws := by
  intro w hw
  have h1 := List.all_eq_true.mp h w hw
  rw [hp] at hw
  obtain ⟨i, -, hi⟩ := List.mem_filterMap.mp hw
  have hm : w ∈ big := by first | exact List.mem_of_getElem? hi | exact List.getElem?_mem hi
  exact ⟨hm, good_of_word h1⟩
theorem goodIn_app {big a b : List Cond} (ha : GoodIn big a) (hb : GoodIn big b) : GoodIn big (a ++ b) := fun w h => (List.mem_append.mp h).elim (ha w) (hb w)
theorem goodIn_ca {big a b : List Cond} {c : Cond} (ha : GoodIn big (c :: a)) (hb : GoodIn big b) : GoodIn big (c :: (a ++ b)) := fun w h => (List.mem_cons.mp h).elim (fun e => ha w (List.mem_cons.mpr (Or.inl e))) (fun h => (List.mem_append.mp h).elim (fun h => ha w (List.mem_cons.mpr (Or.inr h))) (hb w))
theorem goodIn_sub {big ws : List Cond} (hm : ∀ w ∈ ws, w ∈ big) (h : ws.all goodWord = true) : GoodIn big ws := fun w hw => ⟨hm w hw, good_of_word (List.all_eq_true.mp h w hw)⟩
/-! ===== END ===== -/

/-! ===== BEGIN printed: names, fields, word lists, decode rows ===== -/
def RX0 : String := "FilmBench$Layers"
def TX0 : u_T := fun k => match k with
  | 0 => ("FilmBench$Layers", "count", "I", false)
  | 1 => ("FilmBench$Layers", "kinds", "[I", true)
  | 2 => ("FilmBench$Layers", "owners", "[I", true)
  | 3 => ("FilmBench$Layers", "as", "[I", true)
  | 4 => ("FilmBench$Layers", "bs", "[I", true)
  | _ => ("FilmBench$Layers", "ons", "[Z", true)
def tyX0 : Nat → FieldType := fun k => match k with
  | 0 => .int
  | 1 => .array .int
  | 2 => .array .int
  | 3 => .array .int
  | 4 => .array .int
  | _ => .array .boolean
abbrev wsX00 : List Cond := u_ws RX0 TX0 6
theorem nmX0 : ∀ a, a < 6 → ∀ b, b < 6 → a ≠ b → (TX0 a).2.1 ≠ (TX0 b).2.1 := by decide +kernel
theorem tyX0_ok : ∀ k, k < 6 → parseFieldDescriptor (TX0 k).2.2.1 = some (tyX0 k) := by decide +kernel
abbrev cX0_init : ByteArray := prog_2_method_1_code
def yX0_init : MethodName := ⟨RX0, "<init>", "()V"⟩
abbrev cX0_has : ByteArray := prog_2_method_2_code
def yX0_has : MethodName := ⟨RX0, "has", "(I)Z"⟩
abbrev cX0_add : ByteArray := prog_2_method_3_code
def yX0_add : MethodName := ⟨RX0, "add", "(IIII)I"⟩
abbrev cX0_countOn : ByteArray := prog_2_method_4_code
def yX0_countOn : MethodName := ⟨RX0, "countOn", "()I"⟩
abbrev cX0_copyFrom : ByteArray := prog_2_method_5_code
def yX0_copyFrom : MethodName := ⟨RX0, "copyFrom", "(LFilmBench$Layers;)V"⟩
def RX1 : String := "FilmBench$Reel"
def TX1 : u_T := fun k => match k with
  | 0 => ("FilmBench$Reel", "high", "I", false)
  | 1 => ("FilmBench$Reel", "wide", "I", false)
  | 2 => ("FilmBench$Reel", "squares", "I", false)
  | 3 => ("FilmBench$Reel", "frames", "I", false)
  | _ => ("FilmBench$Reel", "greys", "[I", true)
def tyX1 : Nat → FieldType := fun k => match k with
  | 0 => .int
  | 1 => .int
  | 2 => .int
  | 3 => .int
  | _ => .array .int
abbrev wsX10 : List Cond := u_ws RX1 TX1 5
theorem nmX1 : ∀ a, a < 5 → ∀ b, b < 5 → a ≠ b → (TX1 a).2.1 ≠ (TX1 b).2.1 := by decide +kernel
theorem tyX1_ok : ∀ k, k < 5 → parseFieldDescriptor (TX1 k).2.2.1 = some (tyX1 k) := by decide +kernel
abbrev cX1_init : ByteArray := prog_3_method_1_code
def yX1_init : MethodName := ⟨RX1, "<init>", "()V"⟩
abbrev cX1_start : ByteArray := prog_3_method_2_code
def yX1_start : MethodName := ⟨RX1, "start", "(II)V"⟩
abbrev cX1_hasFrame : ByteArray := prog_3_method_3_code
def yX1_hasFrame : MethodName := ⟨RX1, "hasFrame", "(I)Z"⟩
abbrev cX1_hasPlace : ByteArray := prog_3_method_4_code
def yX1_hasPlace : MethodName := ⟨RX1, "hasPlace", "(I)Z"⟩
abbrev cX1_placeOf : ByteArray := prog_3_method_5_code
def yX1_placeOf : MethodName := ⟨RX1, "placeOf", "(II)I"⟩
abbrev cX1_greyAt : ByteArray := prog_3_method_6_code
def yX1_greyAt : MethodName := ⟨RX1, "greyAt", "(II)I"⟩
abbrev cX1_setGrey : ByteArray := prog_3_method_7_code
def yX1_setGrey : MethodName := ⟨RX1, "setGrey", "(III)V"⟩
abbrev cX1_addFrame : ByteArray := prog_3_method_8_code
def yX1_addFrame : MethodName := ⟨RX1, "addFrame", "()I"⟩
abbrev cX1_countLost : ByteArray := prog_3_method_9_code
def yX1_countLost : MethodName := ⟨RX1, "countLost", "()I"⟩
abbrev cX1_copyFrom : ByteArray := prog_3_method_10_code
def yX1_copyFrom : MethodName := ⟨RX1, "copyFrom", "(LFilmBench$Reel;)V"⟩
def RX2 : String := "FilmBench$Sheet"
def TX2 : u_T := fun k => match k with
  | 0 => ("FilmBench$Sheet", "film", "LFilmBench$Reel;", true)
  | 1 => ("FilmBench$Sheet", "layers", "LFilmBench$Layers;", true)
  | 2 => ("FilmBench$Sheet", "rules", "[I", true)
  | 3 => ("FilmBench$Sheet", "now", "[I", true)
  | 4 => ("FilmBench$Sheet", "before", "[I", true)
  | _ => ("FilmBench$Sheet", "rising", "[I", true)
def tyX2 : Nat → FieldType := fun k => match k with
  | 0 => .object "FilmBench$Reel"
  | 1 => .object "FilmBench$Layers"
  | 2 => .array .int
  | 3 => .array .int
  | 4 => .array .int
  | _ => .array .int
abbrev wsX20 : List Cond := u_ws RX2 TX2 6
theorem nmX2 : ∀ a, a < 6 → ∀ b, b < 6 → a ≠ b → (TX2 a).2.1 ≠ (TX2 b).2.1 := by decide +kernel
theorem tyX2_ok : ∀ k, k < 6 → parseFieldDescriptor (TX2 k).2.2.1 = some (tyX2 k) := by decide +kernel
abbrev cX2_init : ByteArray := prog_4_method_1_code
def yX2_init : MethodName := ⟨RX2, "<init>", "(LFilmBench$Reel;LFilmBench$Layers;[I)V"⟩
abbrev cX2_make : ByteArray := prog_4_method_2_code
def yX2_make : MethodName := ⟨RX2, "make", "(II)V"⟩
abbrev cX2_apply : ByteArray := prog_4_method_3_code
def yX2_apply : MethodName := ⟨RX2, "apply", "(I)V"⟩
abbrev cX2_cleanDust : ByteArray := prog_4_method_4_code
def yX2_cleanDust : MethodName := ⟨RX2, "cleanDust", "(I)V"⟩
abbrev cX2_isDust : ByteArray := prog_4_method_5_code
def yX2_isDust : MethodName := ⟨RX2, "isDust", "(III)Z"⟩
abbrev cX2_matchLevels : ByteArray := prog_4_method_6_code
def yX2_matchLevels : MethodName := ⟨RX2, "matchLevels", "(I)V"⟩
abbrev cX2_sortGreysOf : ByteArray := prog_4_method_7_code
def yX2_sortGreysOf : MethodName := ⟨RX2, "sortGreysOf", "(I)I"⟩
abbrev cX2_middleRankOf : ByteArray := prog_4_method_8_code
def yX2_middleRankOf : MethodName := ⟨RX2, "middleRankOf", "(I)I"⟩
abbrev cX2_fillLost : ByteArray := prog_4_method_9_code
def yX2_fillLost : MethodName := ⟨RX2, "fillLost", "(I)V"⟩
abbrev cX2_moveAll : ByteArray := prog_4_method_10_code
def yX2_moveAll : MethodName := ⟨RX2, "moveAll", "(II)V"⟩
abbrev cX2_greyAt : ByteArray := prog_4_method_11_code
def yX2_greyAt : MethodName := ⟨RX2, "greyAt", "(I)I"⟩
abbrev cX2_countChanged : ByteArray := prog_4_method_12_code
def yX2_countChanged : MethodName := ⟨RX2, "countChanged", "()I"⟩
abbrev cX2_countUnlikeRaw : ByteArray := prog_4_method_13_code
def yX2_countUnlikeRaw : MethodName := ⟨RX2, "countUnlikeRaw", "(I)I"⟩
abbrev cX2_countLost : ByteArray := prog_4_method_14_code
def yX2_countLost : MethodName := ⟨RX2, "countLost", "()I"⟩
abbrev cX2_sumOfGreys : ByteArray := prog_4_method_15_code
def yX2_sumOfGreys : MethodName := ⟨RX2, "sumOfGreys", "()I"⟩
abbrev cX2_leastGrey : ByteArray := prog_4_method_16_code
def yX2_leastGrey : MethodName := ⟨RX2, "leastGrey", "()I"⟩
abbrev cX2_greatestGrey : ByteArray := prog_4_method_17_code
def yX2_greatestGrey : MethodName := ⟨RX2, "greatestGrey", "()I"⟩
def RX3 : String := "FilmBench$Shifts"
def TX3 : u_T := fun k => match k with
  | 0 => ("FilmBench$Shifts", "film", "LFilmBench$Reel;", true)
  | 1 => ("FilmBench$Shifts", "sum", "I", false)
  | 2 => ("FilmBench$Shifts", "pairs", "I", false)
  | 3 => ("FilmBench$Shifts", "bestX", "I", false)
  | 4 => ("FilmBench$Shifts", "bestY", "I", false)
  | 5 => ("FilmBench$Shifts", "bestSum", "I", false)
  | _ => ("FilmBench$Shifts", "bestPairs", "I", false)
def tyX3 : Nat → FieldType := fun k => match k with
  | 0 => .object "FilmBench$Reel"
  | 1 => .int
  | 2 => .int
  | 3 => .int
  | 4 => .int
  | 5 => .int
  | _ => .int
abbrev wsX30 : List Cond := u_ws RX3 TX3 7
theorem nmX3 : ∀ a, a < 7 → ∀ b, b < 7 → a ≠ b → (TX3 a).2.1 ≠ (TX3 b).2.1 := by decide +kernel
theorem tyX3_ok : ∀ k, k < 7 → parseFieldDescriptor (TX3 k).2.2.1 = some (tyX3 k) := by decide +kernel
abbrev cX3_init : ByteArray := prog_5_method_1_code
def yX3_init : MethodName := ⟨RX3, "<init>", "(LFilmBench$Reel;)V"⟩
abbrev cX3_measure : ByteArray := prog_5_method_2_code
def yX3_measure : MethodName := ⟨RX3, "measure", "(III)V"⟩
abbrev cX3_isEnough : ByteArray := prog_5_method_3_code
def yX3_isEnough : MethodName := ⟨RX3, "isEnough", "()Z"⟩
abbrev cX3_find : ByteArray := prog_5_method_4_code
def yX3_find : MethodName := ⟨RX3, "find", "(I)V"⟩
abbrev cX3_isBetter : ByteArray := prog_5_method_5_code
def yX3_isBetter : MethodName := ⟨RX3, "isBetter", "(II)Z"⟩
abbrev cX3_along : ByteArray := prog_5_method_6_code
def yX3_along : MethodName := ⟨RX3, "along", "(I)I"⟩
def RX4 : String := "FilmBench$Steady"
def TX4 : u_T := fun k => match k with
  | 0 => ("FilmBench$Steady", "drifts", "[I", true)
  | 1 => ("FilmBench$Steady", "spots", "[I", true)
  | 2 => ("FilmBench$Steady", "costsBehind", "[I", true)
  | 3 => ("FilmBench$Steady", "frames", "I", false)
  | 4 => ("FilmBench$Steady", "stray", "I", false)
  | _ => ("FilmBench$Steady", "choices", "I", false)
def tyX4 : Nat → FieldType := fun k => match k with
  | 0 => .array .int
  | 1 => .array .int
  | 2 => .array .int
  | 3 => .int
  | 4 => .int
  | _ => .int
abbrev wsX40 : List Cond := u_ws RX4 TX4 6
theorem nmX4 : ∀ a, a < 6 → ∀ b, b < 6 → a ≠ b → (TX4 a).2.1 ≠ (TX4 b).2.1 := by decide +kernel
theorem tyX4_ok : ∀ k, k < 6 → parseFieldDescriptor (TX4 k).2.2.1 = some (tyX4 k) := by decide +kernel
abbrev cX4_init : ByteArray := prog_6_method_1_code
def yX4_init : MethodName := ⟨RX4, "<init>", "()V"⟩
abbrev cX4_setDrift : ByteArray := prog_6_method_2_code
def yX4_setDrift : MethodName := ⟨RX4, "setDrift", "(II)V"⟩
abbrev cX4_spotAt : ByteArray := prog_6_method_3_code
def yX4_spotAt : MethodName := ⟨RX4, "spotAt", "(I)I"⟩
abbrev cX4_solve : ByteArray := prog_6_method_4_code
def yX4_solve : MethodName := ⟨RX4, "solve", "(II)V"⟩
abbrev cX4_findCosts : ByteArray := prog_6_method_5_code
def yX4_findCosts : MethodName := ⟨RX4, "findCosts", "()V"⟩
abbrev cX4_leastCostBehind : ByteArray := prog_6_method_6_code
def yX4_leastCostBehind : MethodName := ⟨RX4, "leastCostBehind", "(III)I"⟩
abbrev cX4_costThrough : ByteArray := prog_6_method_7_code
def yX4_costThrough : MethodName := ⟨RX4, "costThrough", "(IIII)I"⟩
abbrev cX4_takeChoices : ByteArray := prog_6_method_8_code
def yX4_takeChoices : MethodName := ⟨RX4, "takeChoices", "()V"⟩
abbrev cX4_costOfStart : ByteArray := prog_6_method_9_code
def yX4_costOfStart : MethodName := ⟨RX4, "costOfStart", "(II)I"⟩
abbrev cX4_leastThird : ByteArray := prog_6_method_10_code
def yX4_leastThird : MethodName := ⟨RX4, "leastThird", "(III)I"⟩
abbrev cX4_spotOf : ByteArray := prog_6_method_11_code
def yX4_spotOf : MethodName := ⟨RX4, "spotOf", "(II)I"⟩
abbrev cX4_slotOf : ByteArray := prog_6_method_12_code
def yX4_slotOf : MethodName := ⟨RX4, "slotOf", "(III)I"⟩
abbrev cX4_sumOfBends : ByteArray := prog_6_method_13_code
def yX4_sumOfBends : MethodName := ⟨RX4, "sumOfBends", "()I"⟩
abbrev cX4_sumOfStrays : ByteArray := prog_6_method_14_code
def yX4_sumOfStrays : MethodName := ⟨RX4, "sumOfStrays", "()I"⟩
def RX5 : String := "FilmBench"
def TX5 : u_T := fun k => match k with
  | 0 => ("FilmBench", "film", "LFilmBench$Reel;", true)
  | 1 => ("FilmBench", "layers", "LFilmBench$Layers;", true)
  | 2 => ("FilmBench", "rules", "[I", true)
  | 3 => ("FilmBench", "shifts", "LFilmBench$Shifts;", true)
  | 4 => ("FilmBench", "steady", "LFilmBench$Steady;", true)
  | 5 => ("FilmBench", "sheet", "LFilmBench$Sheet;", true)
  | 6 => ("FilmBench", "keptFilm", "LFilmBench$Reel;", true)
  | 7 => ("FilmBench", "keptLayers", "LFilmBench$Layers;", true)
  | _ => ("FilmBench", "isKept", "Z", false)
def tyX5 : Nat → FieldType := fun k => match k with
  | 0 => .object "FilmBench$Reel"
  | 1 => .object "FilmBench$Layers"
  | 2 => .array .int
  | 3 => .object "FilmBench$Shifts"
  | 4 => .object "FilmBench$Steady"
  | 5 => .object "FilmBench$Sheet"
  | 6 => .object "FilmBench$Reel"
  | 7 => .object "FilmBench$Layers"
  | _ => .boolean
abbrev wsX50 : List Cond := u_ws RX5 TX5 9
theorem nmX5 : ∀ a, a < 9 → ∀ b, b < 9 → a ≠ b → (TX5 a).2.1 ≠ (TX5 b).2.1 := by decide +kernel
theorem tyX5_ok : ∀ k, k < 9 → parseFieldDescriptor (TX5 k).2.2.1 = some (tyX5 k) := by decide +kernel
abbrev cX5_init : ByteArray := prog_1_method_1_code
def yX5_init : MethodName := ⟨RX5, "<init>", "()V"⟩
abbrev cX5_reel : ByteArray := prog_1_method_2_code
def yX5_reel : MethodName := ⟨RX5, "reel", "(II)I"⟩
abbrev cX5_frame : ByteArray := prog_1_method_3_code
def yX5_frame : MethodName := ⟨RX5, "frame", "()I"⟩
abbrev cX5_again : ByteArray := prog_1_method_4_code
def yX5_again : MethodName := ⟨RX5, "again", "(II)I"⟩
abbrev cX5_put : ByteArray := prog_1_method_5_code
def yX5_put : MethodName := ⟨RX5, "put", "(IIII)I"⟩
abbrev cX5_row : ByteArray := prog_1_method_6_code
def yX5_row : MethodName := ⟨RX5, "row", "(IIJ)I"⟩
abbrev cX5_raw : ByteArray := prog_1_method_7_code
def yX5_raw : MethodName := ⟨RX5, "raw", "(III)I"⟩
abbrev cX5_rule : ByteArray := prog_1_method_8_code
def yX5_rule : MethodName := ⟨RX5, "rule", "(II)I"⟩
abbrev cX5_miss : ByteArray := prog_1_method_9_code
def yX5_miss : MethodName := ⟨RX5, "miss", "(IIII)I"⟩
abbrev cX5_shift : ByteArray := prog_1_method_10_code
def yX5_shift : MethodName := ⟨RX5, "shift", "(II)I"⟩
abbrev cX5_drift : ByteArray := prog_1_method_11_code
def yX5_drift : MethodName := ⟨RX5, "drift", "(II)I"⟩
abbrev cX5_path : ByteArray := prog_1_method_12_code
def yX5_path : MethodName := ⟨RX5, "path", "(II)I"⟩
abbrev cX5_bends : ByteArray := prog_1_method_13_code
def yX5_bends : MethodName := ⟨RX5, "bends", "(II)I"⟩
abbrev cX5_dust : ByteArray := prog_1_method_14_code
def yX5_dust : MethodName := ⟨RX5, "dust", "(I)I"⟩
abbrev cX5_layer : ByteArray := prog_1_method_15_code
def yX5_layer : MethodName := ⟨RX5, "layer", "(IIII)I"⟩
abbrev cX5_on : ByteArray := prog_1_method_16_code
def yX5_on : MethodName := ⟨RX5, "on", "(IZ)I"⟩
abbrev cX5_peel : ByteArray := prog_1_method_17_code
def yX5_peel : MethodName := ⟨RX5, "peel", "()I"⟩
abbrev cX5_made : ByteArray := prog_1_method_18_code
def yX5_made : MethodName := ⟨RX5, "made", "(III)I"⟩
abbrev cX5_changed : ByteArray := prog_1_method_19_code
def yX5_changed : MethodName := ⟨RX5, "changed", "(I)I"⟩
abbrev cX5_of : ByteArray := prog_1_method_20_code
def yX5_of : MethodName := ⟨RX5, "of", "(II)I"⟩
abbrev cX5_told : ByteArray := prog_1_method_21_code
def yX5_told : MethodName := ⟨RX5, "told", "(II)I"⟩
abbrev cX5_many : ByteArray := prog_1_method_22_code
def yX5_many : MethodName := ⟨RX5, "many", "(I)I"⟩
abbrev cX5_keep : ByteArray := prog_1_method_23_code
def yX5_keep : MethodName := ⟨RX5, "keep", "()I"⟩
abbrev cX5_back : ByteArray := prog_1_method_24_code
def yX5_back : MethodName := ⟨RX5, "back", "()I"⟩
abbrev cX5_findPath : ByteArray := prog_1_method_25_code
def yX5_findPath : MethodName := ⟨RX5, "findPath", "(I)V"⟩
abbrev cX5_isWithin : ByteArray := prog_1_method_26_code
def yX5_isWithin : MethodName := ⟨RX5, "isWithin", "(III)Z"⟩
abbrev cX5_commonDivisor : ByteArray := prog_1_method_27_code
def yX5_commonDivisor : MethodName := ⟨RX5, "commonDivisor", "(II)I"⟩
def RX6 : String := "FilmBenchModel"
def TX6 : u_T := fun k => match k with
  | 0 => ("FilmBenchModel", "high", "I", false)
  | 1 => ("FilmBenchModel", "wide", "I", false)
  | 2 => ("FilmBenchModel", "frames", "I", false)
  | 3 => ("FilmBenchModel", "raw", "[I", true)
  | 4 => ("FilmBenchModel", "layers", "I", false)
  | 5 => ("FilmBenchModel", "kind", "[I", true)
  | 6 => ("FilmBenchModel", "of", "[I", true)
  | 7 => ("FilmBenchModel", "first", "[I", true)
  | 8 => ("FilmBenchModel", "second", "[I", true)
  | 9 => ("FilmBenchModel", "isOn", "[Z", true)
  | 10 => ("FilmBenchModel", "rules", "[I", true)
  | 11 => ("FilmBenchModel", "hasKept", "Z", false)
  | 12 => ("FilmBenchModel", "keptHigh", "I", false)
  | 13 => ("FilmBenchModel", "keptWide", "I", false)
  | 14 => ("FilmBenchModel", "keptFrames", "I", false)
  | 15 => ("FilmBenchModel", "keptRaw", "[I", true)
  | 16 => ("FilmBenchModel", "keptLayers", "I", false)
  | 17 => ("FilmBenchModel", "keptKind", "[I", true)
  | 18 => ("FilmBenchModel", "keptOf", "[I", true)
  | 19 => ("FilmBenchModel", "keptFirst", "[I", true)
  | 20 => ("FilmBenchModel", "keptSecond", "[I", true)
  | 21 => ("FilmBenchModel", "keptOn", "[Z", true)
  | 22 => ("FilmBenchModel", "missAbove", "I", false)
  | 23 => ("FilmBenchModel", "missBelow", "I", false)
  | 24 => ("FilmBenchModel", "shiftX", "I", false)
  | 25 => ("FilmBenchModel", "shiftY", "I", false)
  | 26 => ("FilmBenchModel", "drifts", "[I", true)
  | 27 => ("FilmBenchModel", "path", "[I", true)
  | 28 => ("FilmBenchModel", "rest", "[I", true)
  | 29 => ("FilmBenchModel", "bendsOf", "I", false)
  | 30 => ("FilmBenchModel", "straysOf", "I", false)
  | 31 => ("FilmBenchModel", "made", "[I", true)
  | _ => ("FilmBenchModel", "was", "[I", true)
def tyX6 : Nat → FieldType := fun k => match k with
  | 0 => .int
  | 1 => .int
  | 2 => .int
  | 3 => .array .int
  | 4 => .int
  | 5 => .array .int
  | 6 => .array .int
  | 7 => .array .int
  | 8 => .array .int
  | 9 => .array .boolean
  | 10 => .array .int
  | 11 => .boolean
  | 12 => .int
  | 13 => .int
  | 14 => .int
  | 15 => .array .int
  | 16 => .int
  | 17 => .array .int
  | 18 => .array .int
  | 19 => .array .int
  | 20 => .array .int
  | 21 => .array .boolean
  | 22 => .int
  | 23 => .int
  | 24 => .int
  | 25 => .int
  | 26 => .array .int
  | 27 => .array .int
  | 28 => .array .int
  | 29 => .int
  | 30 => .int
  | 31 => .array .int
  | _ => .array .int
abbrev wsX60 : List Cond := u_ws RX6 TX6 33
theorem nmX6 : ∀ a, a < 33 → ∀ b, b < 33 → a ≠ b → (TX6 a).2.1 ≠ (TX6 b).2.1 := by decide +kernel
theorem tyX6_ok : ∀ k, k < 33 → parseFieldDescriptor (TX6 k).2.2.1 = some (tyX6 k) := by decide +kernel
abbrev cX6_init : ByteArray := prog_8_method_1_code
def yX6_init : MethodName := ⟨RX6, "<init>", "()V"⟩
abbrev cX6_in : ByteArray := prog_8_method_2_code
def yX6_in : MethodName := ⟨RX6, "in", "(III)Z"⟩
abbrev cX6_isFrame : ByteArray := prog_8_method_3_code
def yX6_isFrame : MethodName := ⟨RX6, "isFrame", "(I)Z"⟩
abbrev cX6_isSquare : ByteArray := prog_8_method_4_code
def yX6_isSquare : MethodName := ⟨RX6, "isSquare", "(II)Z"⟩
abbrev cX6_at : ByteArray := prog_8_method_5_code
def yX6_at : MethodName := ⟨RX6, "at", "(III)I"⟩
abbrev cX6_reel : ByteArray := prog_8_method_6_code
def yX6_reel : MethodName := ⟨RX6, "reel", "(II)I"⟩
abbrev cX6_frame : ByteArray := prog_8_method_7_code
def yX6_frame : MethodName := ⟨RX6, "frame", "()I"⟩
abbrev cX6_again : ByteArray := prog_8_method_8_code
def yX6_again : MethodName := ⟨RX6, "again", "(II)I"⟩
abbrev cX6_put : ByteArray := prog_8_method_9_code
def yX6_put : MethodName := ⟨RX6, "put", "(IIII)I"⟩
abbrev cX6_row : ByteArray := prog_8_method_10_code
def yX6_row : MethodName := ⟨RX6, "row", "(IIJ)I"⟩
abbrev cX6_raw : ByteArray := prog_8_method_11_code
def yX6_raw : MethodName := ⟨RX6, "raw", "(III)I"⟩
abbrev cX6_rule : ByteArray := prog_8_method_12_code
def yX6_rule : MethodName := ⟨RX6, "rule", "(II)I"⟩
abbrev cX6_findMiss : ByteArray := prog_8_method_13_code
def yX6_findMiss : MethodName := ⟨RX6, "findMiss", "(III)Z"⟩
abbrev cX6_common : ByteArray := prog_8_method_14_code
def yX6_common : MethodName := ⟨RX6, "common", "(II)I"⟩
abbrev cX6_miss : ByteArray := prog_8_method_15_code
def yX6_miss : MethodName := ⟨RX6, "miss", "(IIII)I"⟩
abbrev cX6_size : ByteArray := prog_8_method_16_code
def yX6_size : MethodName := ⟨RX6, "size", "(I)I"⟩
abbrev cX6_findShift : ByteArray := prog_8_method_17_code
def yX6_findShift : MethodName := ⟨RX6, "findShift", "(I)V"⟩
abbrev cX6_shift : ByteArray := prog_8_method_18_code
def yX6_shift : MethodName := ⟨RX6, "shift", "(II)I"⟩
abbrev cX6_driftOf : ByteArray := prog_8_method_19_code
def yX6_driftOf : MethodName := ⟨RX6, "driftOf", "(II)I"⟩
abbrev cX6_drift : ByteArray := prog_8_method_20_code
def yX6_drift : MethodName := ⟨RX6, "drift", "(II)I"⟩
abbrev cX6_placeAt : ByteArray := prog_8_method_21_code
def yX6_placeAt : MethodName := ⟨RX6, "placeAt", "(II)I"⟩
abbrev cX6_strayAt : ByteArray := prog_8_method_22_code
def yX6_strayAt : MethodName := ⟨RX6, "strayAt", "(I)I"⟩
abbrev cX6_by : ByteArray := prog_8_method_23_code
def yX6_by : MethodName := ⟨RX6, "by", "(IIII)I"⟩
abbrev cX6_findRest : ByteArray := prog_8_method_24_code
def yX6_findRest : MethodName := ⟨RX6, "findRest", "()V"⟩
abbrev cX6_findPath : ByteArray := prog_8_method_25_code
def yX6_findPath : MethodName := ⟨RX6, "findPath", "(I)V"⟩
abbrev cX6_path : ByteArray := prog_8_method_26_code
def yX6_path : MethodName := ⟨RX6, "path", "(II)I"⟩
abbrev cX6_bends : ByteArray := prog_8_method_27_code
def yX6_bends : MethodName := ⟨RX6, "bends", "(II)I"⟩
abbrev cX6_cleaned : ByteArray := prog_8_method_28_code
def yX6_cleaned : MethodName := ⟨RX6, "cleaned", "(III)I"⟩
abbrev cX6_dust : ByteArray := prog_8_method_29_code
def yX6_dust : MethodName := ⟨RX6, "dust", "(I)I"⟩
abbrev cX6_layer : ByteArray := prog_8_method_30_code
def yX6_layer : MethodName := ⟨RX6, "layer", "(IIII)I"⟩
abbrev cX6_isLayer : ByteArray := prog_8_method_31_code
def yX6_isLayer : MethodName := ⟨RX6, "isLayer", "(I)Z"⟩
abbrev cX6_on : ByteArray := prog_8_method_32_code
def yX6_on : MethodName := ⟨RX6, "on", "(IZ)I"⟩
abbrev cX6_peel : ByteArray := prog_8_method_33_code
def yX6_peel : MethodName := ⟨RX6, "peel", "()I"⟩
abbrev cX6_filledFrom : ByteArray := prog_8_method_34_code
def yX6_filledFrom : MethodName := ⟨RX6, "filledFrom", "(II)I"⟩
abbrev cX6_matched : ByteArray := prog_8_method_35_code
def yX6_matched : MethodName := ⟨RX6, "matched", "(II)I"⟩
abbrev cX6_rising : ByteArray := prog_8_method_36_code
def yX6_rising : MethodName := ⟨RX6, "rising", "(II)I"⟩
abbrev cX6_moved : ByteArray := prog_8_method_37_code
def yX6_moved : MethodName := ⟨RX6, "moved", "(II)I"⟩
abbrev cX6_goes : ByteArray := prog_8_method_38_code
def yX6_goes : MethodName := ⟨RX6, "goes", "(I)I"⟩
abbrev cX6_makes : ByteArray := prog_8_method_39_code
def yX6_makes : MethodName := ⟨RX6, "makes", "(II)I"⟩
abbrev cX6_made : ByteArray := prog_8_method_40_code
def yX6_made : MethodName := ⟨RX6, "made", "(III)I"⟩
abbrev cX6_changed : ByteArray := prog_8_method_41_code
def yX6_changed : MethodName := ⟨RX6, "changed", "(I)I"⟩
abbrev cX6_of : ByteArray := prog_8_method_42_code
def yX6_of : MethodName := ⟨RX6, "of", "(II)I"⟩
abbrev cX6_told : ByteArray := prog_8_method_43_code
def yX6_told : MethodName := ⟨RX6, "told", "(II)I"⟩
abbrev cX6_many : ByteArray := prog_8_method_44_code
def yX6_many : MethodName := ⟨RX6, "many", "(I)I"⟩
abbrev cX6_keep : ByteArray := prog_8_method_45_code
def yX6_keep : MethodName := ⟨RX6, "keep", "()I"⟩
abbrev cX6_back : ByteArray := prog_8_method_46_code
def yX6_back : MethodName := ⟨RX6, "back", "()I"⟩
def RJ9 : String := "java/lang/Math"
def TJ9 : u_T := fun k => match k with
  | _ => ("", "", "", false)
def tyJ9 : Nat → FieldType := fun k => match k with
  | _ => .int
abbrev wsJ90 : List Cond := u_ws RJ9 TJ9 0
theorem nmJ9 : ∀ a, a < 0 → ∀ b, b < 0 → a ≠ b → (TJ9 a).2.1 ≠ (TJ9 b).2.1 := by decide +kernel
theorem tyJ9_ok : ∀ k, k < 0 → parseFieldDescriptor (TJ9 k).2.2.1 = some (tyJ9 k) := by decide +kernel
abbrev cJ9_abs_0f7a4 : ByteArray := prog_9_method_59_code
def yJ9_abs_0f7a4 : MethodName := ⟨RJ9, "abs", "(I)I"⟩
abbrev cJ9_max_7cf53 : ByteArray := prog_9_method_65_code
def yJ9_max_7cf53 : MethodName := ⟨RJ9, "max", "(II)I"⟩
abbrev cJ9_min_7cf53 : ByteArray := prog_9_method_69_code
def yJ9_min_7cf53 : MethodName := ⟨RJ9, "min", "(II)I"⟩
def RJ10 : String := "java/lang/System"
def TJ10 : u_T := fun k => match k with
  | _ => ("", "", "", false)
def tyJ10 : Nat → FieldType := fun k => match k with
  | _ => .int
abbrev wsJ100 : List Cond := u_ws RJ10 TJ10 0
theorem nmJ10 : ∀ a, a < 0 → ∀ b, b < 0 → a ≠ b → (TJ10 a).2.1 ≠ (TJ10 b).2.1 := by decide +kernel
theorem tyJ10_ok : ∀ k, k < 0 → parseFieldDescriptor (TJ10 k).2.2.1 = some (tyJ10 k) := by decide +kernel
def RL : String := "FilmBenchLaw"
abbrev cL_law : ByteArray := code
def yL_law : MethodName := ⟨RL, "law", "([I)Z"⟩
def wsX0_init : List Cond := .code yX0_init cX0_init 1 none :: ([.methodLink RX0 3 objectInit, .instanceMethod objectInit, .code objectInit ⟨#[0xb1]⟩ 1 none, .fieldLink RX0 9 "FilmBench$Layers" "count" "I", .arrayClass .int, .fieldLink RX0 15 "FilmBench$Layers" "kinds" "[I", .fieldLink RX0 19 "FilmBench$Layers" "owners" "[I", .fieldLink RX0 22 "FilmBench$Layers" "as" "[I", .fieldLink RX0 25 "FilmBench$Layers" "bs" "[I", .arrayClass .boolean, .fieldLink RX0 28 "FilmBench$Layers" "ons" "[Z"] ++ wsX00)
def wsX0_has : List Cond := .code yX0_has cX0_has 2 (some .boolean) :: ([.fieldLink RX0 9 "FilmBench$Layers" "count" "I"] ++ wsX00)
def wsX0_add : List Cond := .code yX0_add cX0_add 6 (some .int) :: ([.fieldLink RX0 9 "FilmBench$Layers" "count" "I", .fieldLink RX0 15 "FilmBench$Layers" "kinds" "[I", .fieldLink RX0 19 "FilmBench$Layers" "owners" "[I", .fieldLink RX0 22 "FilmBench$Layers" "as" "[I", .fieldLink RX0 25 "FilmBench$Layers" "bs" "[I", .fieldLink RX0 28 "FilmBench$Layers" "ons" "[Z"] ++ wsX00)
def wsX0_countOn : List Cond := .code yX0_countOn cX0_countOn 3 (some .int) :: ([.fieldLink RX0 9 "FilmBench$Layers" "count" "I", .fieldLink RX0 28 "FilmBench$Layers" "ons" "[Z"] ++ wsX00)
def wsX0_copyFrom : List Cond := .code yX0_copyFrom cX0_copyFrom 3 none :: ([.fieldLink RX0 9 "FilmBench$Layers" "count" "I", .fieldLink RX0 15 "FilmBench$Layers" "kinds" "[I", .fieldLink RX0 19 "FilmBench$Layers" "owners" "[I", .fieldLink RX0 22 "FilmBench$Layers" "as" "[I", .fieldLink RX0 25 "FilmBench$Layers" "bs" "[I", .fieldLink RX0 28 "FilmBench$Layers" "ons" "[Z"] ++ wsX00)
def wsX1_init : List Cond := .code yX1_init cX1_init 1 none :: ([.methodLink RX1 3 objectInit, .instanceMethod objectInit, .code objectInit ⟨#[0xb1]⟩ 1 none, .arrayClass .int, .fieldLink RX1 9 "FilmBench$Reel" "greys" "[I", .fieldLink RX1 15 "FilmBench$Reel" "high" "I", .fieldLink RX1 19 "FilmBench$Reel" "wide" "I", .fieldLink RX1 22 "FilmBench$Reel" "squares" "I", .fieldLink RX1 25 "FilmBench$Reel" "frames" "I"] ++ wsX10)
def wsX1_start : List Cond := .code yX1_start cX1_start 3 none :: ([.fieldLink RX1 15 "FilmBench$Reel" "high" "I", .fieldLink RX1 19 "FilmBench$Reel" "wide" "I", .fieldLink RX1 22 "FilmBench$Reel" "squares" "I", .fieldLink RX1 25 "FilmBench$Reel" "frames" "I"] ++ wsX10)
def wsX1_hasFrame : List Cond := .code yX1_hasFrame cX1_hasFrame 2 (some .boolean) :: ([.fieldLink RX1 25 "FilmBench$Reel" "frames" "I"] ++ wsX10)
def wsX1_hasPlace : List Cond := .code yX1_hasPlace cX1_hasPlace 2 (some .boolean) :: ([.fieldLink RX1 22 "FilmBench$Reel" "squares" "I"] ++ wsX10)
def wsX1_placeOf : List Cond := .code yX1_placeOf cX1_placeOf 3 (some .int) :: ([.fieldLink RX1 15 "FilmBench$Reel" "high" "I", .fieldLink RX1 19 "FilmBench$Reel" "wide" "I"] ++ wsX10)
def wsX1_greyAt : List Cond := .code yX1_greyAt cX1_greyAt 3 (some .int) :: ([.fieldLink RX1 9 "FilmBench$Reel" "greys" "[I", .methodLink RX1 28 yX1_hasFrame, .instanceMethod yX1_hasFrame, .selects RX1 yX1_hasFrame yX1_hasFrame, .initialized RX1, .code yX1_hasFrame cX1_hasFrame 2 (some .boolean), .fieldLink RX1 25 "FilmBench$Reel" "frames" "I", .methodLink RX1 32 yX1_hasPlace, .instanceMethod yX1_hasPlace, .selects RX1 yX1_hasPlace yX1_hasPlace, .code yX1_hasPlace cX1_hasPlace 2 (some .boolean), .fieldLink RX1 22 "FilmBench$Reel" "squares" "I"] ++ wsX10)
def wsX1_setGrey : List Cond := .code yX1_setGrey cX1_setGrey 4 none :: ([.fieldLink RX1 9 "FilmBench$Reel" "greys" "[I", .methodLink RX1 28 yX1_hasFrame, .instanceMethod yX1_hasFrame, .selects RX1 yX1_hasFrame yX1_hasFrame, .initialized RX1, .code yX1_hasFrame cX1_hasFrame 2 (some .boolean), .fieldLink RX1 25 "FilmBench$Reel" "frames" "I", .methodLink RX1 32 yX1_hasPlace, .instanceMethod yX1_hasPlace, .selects RX1 yX1_hasPlace yX1_hasPlace, .code yX1_hasPlace cX1_hasPlace 2 (some .boolean), .fieldLink RX1 22 "FilmBench$Reel" "squares" "I"] ++ wsX10)
def wsX1_addFrame : List Cond := .code yX1_addFrame cX1_addFrame 3 (some .int) :: ([.fieldLink RX1 25 "FilmBench$Reel" "frames" "I", .fieldLink RX1 22 "FilmBench$Reel" "squares" "I", .methodLink RX1 35 yX1_setGrey, .instanceMethod yX1_setGrey, .selects RX1 yX1_setGrey yX1_setGrey, .initialized RX1, .code yX1_setGrey cX1_setGrey 4 none, .fieldLink RX1 9 "FilmBench$Reel" "greys" "[I", .methodLink RX1 28 yX1_hasFrame, .instanceMethod yX1_hasFrame, .selects RX1 yX1_hasFrame yX1_hasFrame, .code yX1_hasFrame cX1_hasFrame 2 (some .boolean), .methodLink RX1 32 yX1_hasPlace, .instanceMethod yX1_hasPlace, .selects RX1 yX1_hasPlace yX1_hasPlace, .code yX1_hasPlace cX1_hasPlace 2 (some .boolean)] ++ wsX10)
def wsX1_countLost : List Cond := .code yX1_countLost cX1_countLost 4 (some .int) :: ([.fieldLink RX1 25 "FilmBench$Reel" "frames" "I", .fieldLink RX1 22 "FilmBench$Reel" "squares" "I", .methodLink RX1 39 yX1_greyAt, .instanceMethod yX1_greyAt, .selects RX1 yX1_greyAt yX1_greyAt, .initialized RX1, .code yX1_greyAt cX1_greyAt 3 (some .int), .fieldLink RX1 9 "FilmBench$Reel" "greys" "[I", .methodLink RX1 28 yX1_hasFrame, .instanceMethod yX1_hasFrame, .selects RX1 yX1_hasFrame yX1_hasFrame, .code yX1_hasFrame cX1_hasFrame 2 (some .boolean), .methodLink RX1 32 yX1_hasPlace, .instanceMethod yX1_hasPlace, .selects RX1 yX1_hasPlace yX1_hasPlace, .code yX1_hasPlace cX1_hasPlace 2 (some .boolean)] ++ wsX10)
def wsX1_copyFrom : List Cond := .code yX1_copyFrom cX1_copyFrom 2 none :: ([.fieldLink RX1 15 "FilmBench$Reel" "high" "I", .fieldLink RX1 19 "FilmBench$Reel" "wide" "I", .fieldLink RX1 22 "FilmBench$Reel" "squares" "I", .fieldLink RX1 25 "FilmBench$Reel" "frames" "I", .fieldLink RX1 9 "FilmBench$Reel" "greys" "[I", .methodLink RX1 43 arraycopyName, .native arraycopyName, .static arraycopyName, .initialized "java/lang/System"] ++ wsX10)
def wsX2_init : List Cond := .code yX2_init cX2_init 4 none :: ([.methodLink RX2 3 objectInit, .instanceMethod objectInit, .code objectInit ⟨#[0xb1]⟩ 1 none, .fieldLink RX2 9 "FilmBench$Sheet" "film" "LFilmBench$Reel;", .fieldLink RX2 15 "FilmBench$Sheet" "layers" "LFilmBench$Layers;", .fieldLink RX2 19 "FilmBench$Sheet" "rules" "[I", .arrayClass .int, .fieldLink RX2 23 "FilmBench$Sheet" "now" "[I", .fieldLink RX2 26 "FilmBench$Sheet" "before" "[I", .fieldLink RX2 29 "FilmBench$Sheet" "rising" "[I"] ++ wsX20)
def wsX2_isDust : List Cond := .code yX2_isDust cX2_isDust 6 (some .boolean) :: ([.fieldLink RX2 9 "FilmBench$Sheet" "film" "LFilmBench$Reel;", .methodLink RX2 90 Lib.Math.abs.name, .static Lib.Math.abs.name, .initialized "java/lang/Math", .code Lib.Math.abs.name Lib.Math.abs.code 1 (some .int), .fieldLink RX2 19 "FilmBench$Sheet" "rules" "[I", .methodLink RX2 38 yX1_greyAt, .instanceMethod yX1_greyAt, .selects RX1 yX1_greyAt yX1_greyAt, .initialized RX1, .code yX1_greyAt cX1_greyAt 3 (some .int), .fieldLink RX1 9 "FilmBench$Reel" "greys" "[I", .methodLink RX1 28 yX1_hasFrame, .instanceMethod yX1_hasFrame, .selects RX1 yX1_hasFrame yX1_hasFrame, .code yX1_hasFrame cX1_hasFrame 2 (some .boolean), .fieldLink RX1 25 "FilmBench$Reel" "frames" "I", .methodLink RX1 32 yX1_hasPlace, .instanceMethod yX1_hasPlace, .selects RX1 yX1_hasPlace yX1_hasPlace, .code yX1_hasPlace cX1_hasPlace 2 (some .boolean), .fieldLink RX1 22 "FilmBench$Reel" "squares" "I"] ++ wsX20 ++ wsX10)
def wsX2_cleanDust_r1 : List Cond := [Cond.fieldLink RX2 9 "FilmBench$Sheet" "film" "LFilmBench$Reel;", Cond.fieldLink RX2 32 "FilmBench$Reel" "squares" "I", Cond.fieldLink RX2 26 "FilmBench$Sheet" "before" "[I", Cond.fieldLink RX2 23 "FilmBench$Sheet" "now" "[I", Cond.methodLink RX2 86 yX2_isDust, Cond.instanceMethod yX2_isDust, Cond.selects RX2 yX2_isDust yX2_isDust, Cond.initialized RX2, Cond.code yX2_isDust cX2_isDust 6 (some .boolean), Cond.methodLink RX2 90 Lib.Math.abs.name, Cond.static Lib.Math.abs.name, Cond.initialized "java/lang/Math", Cond.code Lib.Math.abs.name Lib.Math.abs.code 1 (some .int), Cond.fieldLink RX2 19 "FilmBench$Sheet" "rules" "[I", Cond.methodLink RX2 38 yX1_greyAt, Cond.instanceMethod yX1_greyAt, Cond.selects RX1 yX1_greyAt yX1_greyAt, Cond.initialized RX1, Cond.code yX1_greyAt cX1_greyAt 3 (some .int), Cond.fieldLink RX1 9 "FilmBench$Reel" "greys" "[I", Cond.methodLink RX1 28 yX1_hasFrame, Cond.instanceMethod yX1_hasFrame, Cond.selects RX1 yX1_hasFrame yX1_hasFrame, Cond.code yX1_hasFrame cX1_hasFrame 2 (some .boolean)]
def wsX2_cleanDust_r2 : List Cond := [Cond.fieldLink RX1 25 "FilmBench$Reel" "frames" "I", Cond.methodLink RX1 32 yX1_hasPlace, Cond.instanceMethod yX1_hasPlace, Cond.selects RX1 yX1_hasPlace yX1_hasPlace, Cond.code yX1_hasPlace cX1_hasPlace 2 (some .boolean), Cond.fieldLink RX1 22 "FilmBench$Reel" "squares" "I"]
def wsX2_cleanDust : List Cond := .code yX2_cleanDust cX2_cleanDust 3 none :: ((wsX2_cleanDust_r1 ++ wsX2_cleanDust_r2) ++ wsX20 ++ wsX10)
def wsX2_sortGreysOf : List Cond := .code yX2_sortGreysOf cX2_sortGreysOf 6 (some .int) :: ([.fieldLink RX2 9 "FilmBench$Sheet" "film" "LFilmBench$Reel;", .fieldLink RX2 32 "FilmBench$Reel" "squares" "I", .fieldLink RX2 29 "FilmBench$Sheet" "rising" "[I", .methodLink RX2 38 yX1_greyAt, .instanceMethod yX1_greyAt, .selects RX1 yX1_greyAt yX1_greyAt, .initialized RX1, .code yX1_greyAt cX1_greyAt 3 (some .int), .fieldLink RX1 9 "FilmBench$Reel" "greys" "[I", .methodLink RX1 28 yX1_hasFrame, .instanceMethod yX1_hasFrame, .selects RX1 yX1_hasFrame yX1_hasFrame, .code yX1_hasFrame cX1_hasFrame 2 (some .boolean), .fieldLink RX1 25 "FilmBench$Reel" "frames" "I", .methodLink RX1 32 yX1_hasPlace, .instanceMethod yX1_hasPlace, .selects RX1 yX1_hasPlace yX1_hasPlace, .code yX1_hasPlace cX1_hasPlace 2 (some .boolean), .fieldLink RX1 22 "FilmBench$Reel" "squares" "I"] ++ wsX20 ++ wsX10)
def wsX2_countLost : List Cond := .code yX2_countLost cX2_countLost 3 (some .int) :: ([.fieldLink RX2 9 "FilmBench$Sheet" "film" "LFilmBench$Reel;", .fieldLink RX2 32 "FilmBench$Reel" "squares" "I", .fieldLink RX2 23 "FilmBench$Sheet" "now" "[I"] ++ wsX20 ++ wsX10)
def wsX2_middleRankOf : List Cond := .code yX2_middleRankOf cX2_middleRankOf 5 (some .int) :: ([.fieldLink RX2 9 "FilmBench$Sheet" "film" "LFilmBench$Reel;", .fieldLink RX2 32 "FilmBench$Reel" "squares" "I", .fieldLink RX2 26 "FilmBench$Sheet" "before" "[I"] ++ wsX20 ++ wsX10)
def wsX2_matchLevels_r1 : List Cond := [Cond.fieldLink RX2 9 "FilmBench$Sheet" "film" "LFilmBench$Reel;", Cond.fieldLink RX2 32 "FilmBench$Reel" "squares" "I", Cond.fieldLink RX2 26 "FilmBench$Sheet" "before" "[I", Cond.fieldLink RX2 23 "FilmBench$Sheet" "now" "[I", Cond.fieldLink RX2 29 "FilmBench$Sheet" "rising" "[I", Cond.methodLink RX2 96 yX2_sortGreysOf, Cond.instanceMethod yX2_sortGreysOf, Cond.selects RX2 yX2_sortGreysOf yX2_sortGreysOf, Cond.initialized RX2, Cond.code yX2_sortGreysOf cX2_sortGreysOf 6 (some .int), Cond.methodLink RX2 38 yX1_greyAt, Cond.instanceMethod yX1_greyAt, Cond.selects RX1 yX1_greyAt yX1_greyAt, Cond.initialized RX1, Cond.code yX1_greyAt cX1_greyAt 3 (some .int), Cond.fieldLink RX1 9 "FilmBench$Reel" "greys" "[I", Cond.methodLink RX1 28 yX1_hasFrame, Cond.instanceMethod yX1_hasFrame, Cond.selects RX1 yX1_hasFrame yX1_hasFrame, Cond.code yX1_hasFrame cX1_hasFrame 2 (some .boolean), Cond.fieldLink RX1 25 "FilmBench$Reel" "frames" "I", Cond.methodLink RX1 32 yX1_hasPlace, Cond.instanceMethod yX1_hasPlace, Cond.selects RX1 yX1_hasPlace yX1_hasPlace]
def wsX2_matchLevels_r2 : List Cond := [Cond.code yX1_hasPlace cX1_hasPlace 2 (some .boolean), Cond.fieldLink RX1 22 "FilmBench$Reel" "squares" "I", Cond.methodLink RX2 99 yX2_countLost, Cond.instanceMethod yX2_countLost, Cond.selects RX2 yX2_countLost yX2_countLost, Cond.code yX2_countLost cX2_countLost 3 (some .int), Cond.methodLink RX2 103 yX2_middleRankOf, Cond.instanceMethod yX2_middleRankOf, Cond.selects RX2 yX2_middleRankOf yX2_middleRankOf, Cond.code yX2_middleRankOf cX2_middleRankOf 5 (some .int)]
def wsX2_matchLevels : List Cond := .code yX2_matchLevels cX2_matchLevels 6 none :: ((wsX2_matchLevels_r1 ++ wsX2_matchLevels_r2) ++ wsX20 ++ wsX10)
def wsX2_fillLost : List Cond := .code yX2_fillLost cX2_fillLost 4 none :: ([.fieldLink RX2 9 "FilmBench$Sheet" "film" "LFilmBench$Reel;", .fieldLink RX2 32 "FilmBench$Reel" "squares" "I", .fieldLink RX2 26 "FilmBench$Sheet" "before" "[I", .fieldLink RX2 23 "FilmBench$Sheet" "now" "[I", .methodLink RX2 38 yX1_greyAt, .instanceMethod yX1_greyAt, .selects RX1 yX1_greyAt yX1_greyAt, .initialized RX1, .code yX1_greyAt cX1_greyAt 3 (some .int), .fieldLink RX1 9 "FilmBench$Reel" "greys" "[I", .methodLink RX1 28 yX1_hasFrame, .instanceMethod yX1_hasFrame, .selects RX1 yX1_hasFrame yX1_hasFrame, .code yX1_hasFrame cX1_hasFrame 2 (some .boolean), .fieldLink RX1 25 "FilmBench$Reel" "frames" "I", .methodLink RX1 32 yX1_hasPlace, .instanceMethod yX1_hasPlace, .selects RX1 yX1_hasPlace yX1_hasPlace, .code yX1_hasPlace cX1_hasPlace 2 (some .boolean), .fieldLink RX1 22 "FilmBench$Reel" "squares" "I"] ++ wsX20 ++ wsX10)
def wsX2_moveAll : List Cond := .code yX2_moveAll cX2_moveAll 6 none :: ([.fieldLink RX2 9 "FilmBench$Sheet" "film" "LFilmBench$Reel;", .fieldLink RX2 106 "FilmBench$Reel" "high" "I", .fieldLink RX2 109 "FilmBench$Reel" "wide" "I", .fieldLink RX2 23 "FilmBench$Sheet" "now" "[I", .fieldLink RX2 26 "FilmBench$Sheet" "before" "[I", .methodLink RX2 112 yX1_placeOf, .instanceMethod yX1_placeOf, .selects RX1 yX1_placeOf yX1_placeOf, .initialized RX1, .code yX1_placeOf cX1_placeOf 3 (some .int), .fieldLink RX1 15 "FilmBench$Reel" "high" "I", .fieldLink RX1 19 "FilmBench$Reel" "wide" "I", .methodLink RX2 115 yX1_hasPlace, .instanceMethod yX1_hasPlace, .selects RX1 yX1_hasPlace yX1_hasPlace, .code yX1_hasPlace cX1_hasPlace 2 (some .boolean), .fieldLink RX1 22 "FilmBench$Reel" "squares" "I"] ++ wsX20 ++ wsX10)
def wsX2_apply_r1 : List Cond := [Cond.fieldLink RX2 23 "FilmBench$Sheet" "now" "[I", Cond.fieldLink RX2 26 "FilmBench$Sheet" "before" "[I", Cond.methodLink RX2 58 arraycopyName, Cond.native arraycopyName, Cond.static arraycopyName, Cond.initialized "java/lang/System", Cond.fieldLink RX2 15 "FilmBench$Sheet" "layers" "LFilmBench$Layers;", Cond.fieldLink RX2 47 "FilmBench$Layers" "owners" "[I", Cond.fieldLink RX2 64 "FilmBench$Layers" "kinds" "[I", Cond.fieldLink RX2 70 "FilmBench$Layers" "as" "[I", Cond.fieldLink RX2 79 "FilmBench$Layers" "bs" "[I", Cond.methodLink RX2 67 yX2_cleanDust, Cond.instanceMethod yX2_cleanDust, Cond.selects RX2 yX2_cleanDust yX2_cleanDust, Cond.initialized RX2, Cond.code yX2_cleanDust cX2_cleanDust 3 none, Cond.fieldLink RX2 9 "FilmBench$Sheet" "film" "LFilmBench$Reel;", Cond.fieldLink RX2 32 "FilmBench$Reel" "squares" "I", Cond.methodLink RX2 86 yX2_isDust, Cond.instanceMethod yX2_isDust, Cond.selects RX2 yX2_isDust yX2_isDust, Cond.code yX2_isDust cX2_isDust 6 (some .boolean), Cond.methodLink RX2 90 Lib.Math.abs.name, Cond.static Lib.Math.abs.name]
def wsX2_apply_r2 : List Cond := [Cond.initialized "java/lang/Math", Cond.code Lib.Math.abs.name Lib.Math.abs.code 1 (some .int), Cond.fieldLink RX2 19 "FilmBench$Sheet" "rules" "[I", Cond.methodLink RX2 38 yX1_greyAt, Cond.instanceMethod yX1_greyAt, Cond.selects RX1 yX1_greyAt yX1_greyAt, Cond.initialized RX1, Cond.code yX1_greyAt cX1_greyAt 3 (some .int), Cond.fieldLink RX1 9 "FilmBench$Reel" "greys" "[I", Cond.methodLink RX1 28 yX1_hasFrame, Cond.instanceMethod yX1_hasFrame, Cond.selects RX1 yX1_hasFrame yX1_hasFrame, Cond.code yX1_hasFrame cX1_hasFrame 2 (some .boolean), Cond.fieldLink RX1 25 "FilmBench$Reel" "frames" "I", Cond.methodLink RX1 32 yX1_hasPlace, Cond.instanceMethod yX1_hasPlace, Cond.selects RX1 yX1_hasPlace yX1_hasPlace, Cond.code yX1_hasPlace cX1_hasPlace 2 (some .boolean), Cond.fieldLink RX1 22 "FilmBench$Reel" "squares" "I", Cond.methodLink RX2 73 yX2_matchLevels, Cond.instanceMethod yX2_matchLevels, Cond.selects RX2 yX2_matchLevels yX2_matchLevels, Cond.code yX2_matchLevels cX2_matchLevels 6 none, Cond.fieldLink RX2 29 "FilmBench$Sheet" "rising" "[I"]
def wsX2_apply_r3 : List Cond := [Cond.methodLink RX2 96 yX2_sortGreysOf, Cond.instanceMethod yX2_sortGreysOf, Cond.selects RX2 yX2_sortGreysOf yX2_sortGreysOf, Cond.code yX2_sortGreysOf cX2_sortGreysOf 6 (some .int), Cond.methodLink RX2 99 yX2_countLost, Cond.instanceMethod yX2_countLost, Cond.selects RX2 yX2_countLost yX2_countLost, Cond.code yX2_countLost cX2_countLost 3 (some .int), Cond.methodLink RX2 103 yX2_middleRankOf, Cond.instanceMethod yX2_middleRankOf, Cond.selects RX2 yX2_middleRankOf yX2_middleRankOf, Cond.code yX2_middleRankOf cX2_middleRankOf 5 (some .int), Cond.methodLink RX2 76 yX2_fillLost, Cond.instanceMethod yX2_fillLost, Cond.selects RX2 yX2_fillLost yX2_fillLost, Cond.code yX2_fillLost cX2_fillLost 4 none, Cond.methodLink RX2 82 yX2_moveAll, Cond.instanceMethod yX2_moveAll, Cond.selects RX2 yX2_moveAll yX2_moveAll, Cond.code yX2_moveAll cX2_moveAll 6 none, Cond.fieldLink RX2 106 "FilmBench$Reel" "high" "I", Cond.fieldLink RX2 109 "FilmBench$Reel" "wide" "I", Cond.methodLink RX2 112 yX1_placeOf, Cond.instanceMethod yX1_placeOf]
def wsX2_apply_r4 : List Cond := [Cond.selects RX1 yX1_placeOf yX1_placeOf, Cond.code yX1_placeOf cX1_placeOf 3 (some .int), Cond.fieldLink RX1 15 "FilmBench$Reel" "high" "I", Cond.fieldLink RX1 19 "FilmBench$Reel" "wide" "I", Cond.methodLink RX2 115 yX1_hasPlace]
def wsX2_apply : List Cond := .code yX2_apply cX2_apply 3 none :: ((wsX2_apply_r1 ++ (wsX2_apply_r2 ++ (wsX2_apply_r3 ++ wsX2_apply_r4))) ++ wsX20 ++ wsX00 ++ wsX10)
def wsX2_make_r1 : List Cond := [Cond.fieldLink RX2 9 "FilmBench$Sheet" "film" "LFilmBench$Reel;", Cond.fieldLink RX2 32 "FilmBench$Reel" "squares" "I", Cond.fieldLink RX2 23 "FilmBench$Sheet" "now" "[I", Cond.fieldLink RX2 15 "FilmBench$Sheet" "layers" "LFilmBench$Layers;", Cond.fieldLink RX2 42 "FilmBench$Layers" "count" "I", Cond.fieldLink RX2 47 "FilmBench$Layers" "owners" "[I", Cond.fieldLink RX2 50 "FilmBench$Layers" "ons" "[Z", Cond.methodLink RX2 38 yX1_greyAt, Cond.instanceMethod yX1_greyAt, Cond.selects RX1 yX1_greyAt yX1_greyAt, Cond.initialized RX1, Cond.code yX1_greyAt cX1_greyAt 3 (some .int), Cond.fieldLink RX1 9 "FilmBench$Reel" "greys" "[I", Cond.methodLink RX1 28 yX1_hasFrame, Cond.instanceMethod yX1_hasFrame, Cond.selects RX1 yX1_hasFrame yX1_hasFrame, Cond.code yX1_hasFrame cX1_hasFrame 2 (some .boolean), Cond.fieldLink RX1 25 "FilmBench$Reel" "frames" "I", Cond.methodLink RX1 32 yX1_hasPlace, Cond.instanceMethod yX1_hasPlace, Cond.selects RX1 yX1_hasPlace yX1_hasPlace, Cond.code yX1_hasPlace cX1_hasPlace 2 (some .boolean), Cond.fieldLink RX1 22 "FilmBench$Reel" "squares" "I", Cond.methodLink RX2 54 yX2_apply]
def wsX2_make_r2 : List Cond := [Cond.instanceMethod yX2_apply, Cond.selects RX2 yX2_apply yX2_apply, Cond.initialized RX2, Cond.code yX2_apply cX2_apply 3 none, Cond.fieldLink RX2 26 "FilmBench$Sheet" "before" "[I", Cond.methodLink RX2 58 arraycopyName, Cond.native arraycopyName, Cond.static arraycopyName, Cond.initialized "java/lang/System", Cond.fieldLink RX2 64 "FilmBench$Layers" "kinds" "[I", Cond.fieldLink RX2 70 "FilmBench$Layers" "as" "[I", Cond.fieldLink RX2 79 "FilmBench$Layers" "bs" "[I", Cond.methodLink RX2 67 yX2_cleanDust, Cond.instanceMethod yX2_cleanDust, Cond.selects RX2 yX2_cleanDust yX2_cleanDust, Cond.code yX2_cleanDust cX2_cleanDust 3 none, Cond.methodLink RX2 86 yX2_isDust, Cond.instanceMethod yX2_isDust, Cond.selects RX2 yX2_isDust yX2_isDust, Cond.code yX2_isDust cX2_isDust 6 (some .boolean), Cond.methodLink RX2 90 Lib.Math.abs.name, Cond.static Lib.Math.abs.name, Cond.initialized "java/lang/Math", Cond.code Lib.Math.abs.name Lib.Math.abs.code 1 (some .int)]
def wsX2_make_r3 : List Cond := [Cond.fieldLink RX2 19 "FilmBench$Sheet" "rules" "[I", Cond.methodLink RX2 73 yX2_matchLevels, Cond.instanceMethod yX2_matchLevels, Cond.selects RX2 yX2_matchLevels yX2_matchLevels, Cond.code yX2_matchLevels cX2_matchLevels 6 none, Cond.fieldLink RX2 29 "FilmBench$Sheet" "rising" "[I", Cond.methodLink RX2 96 yX2_sortGreysOf, Cond.instanceMethod yX2_sortGreysOf, Cond.selects RX2 yX2_sortGreysOf yX2_sortGreysOf, Cond.code yX2_sortGreysOf cX2_sortGreysOf 6 (some .int), Cond.methodLink RX2 99 yX2_countLost, Cond.instanceMethod yX2_countLost, Cond.selects RX2 yX2_countLost yX2_countLost, Cond.code yX2_countLost cX2_countLost 3 (some .int), Cond.methodLink RX2 103 yX2_middleRankOf, Cond.instanceMethod yX2_middleRankOf, Cond.selects RX2 yX2_middleRankOf yX2_middleRankOf, Cond.code yX2_middleRankOf cX2_middleRankOf 5 (some .int), Cond.methodLink RX2 76 yX2_fillLost, Cond.instanceMethod yX2_fillLost, Cond.selects RX2 yX2_fillLost yX2_fillLost, Cond.code yX2_fillLost cX2_fillLost 4 none, Cond.methodLink RX2 82 yX2_moveAll, Cond.instanceMethod yX2_moveAll]
def wsX2_make_r4 : List Cond := [Cond.selects RX2 yX2_moveAll yX2_moveAll, Cond.code yX2_moveAll cX2_moveAll 6 none, Cond.fieldLink RX2 106 "FilmBench$Reel" "high" "I", Cond.fieldLink RX2 109 "FilmBench$Reel" "wide" "I", Cond.methodLink RX2 112 yX1_placeOf, Cond.instanceMethod yX1_placeOf, Cond.selects RX1 yX1_placeOf yX1_placeOf, Cond.code yX1_placeOf cX1_placeOf 3 (some .int), Cond.fieldLink RX1 15 "FilmBench$Reel" "high" "I", Cond.fieldLink RX1 19 "FilmBench$Reel" "wide" "I", Cond.methodLink RX2 115 yX1_hasPlace]
def wsX2_make : List Cond := .code yX2_make cX2_make 4 none :: ((wsX2_make_r1 ++ (wsX2_make_r2 ++ (wsX2_make_r3 ++ wsX2_make_r4))) ++ wsX20 ++ wsX10 ++ wsX00)
def wsX2_greyAt : List Cond := .code yX2_greyAt cX2_greyAt 2 (some .int) :: ([.fieldLink RX2 9 "FilmBench$Sheet" "film" "LFilmBench$Reel;", .fieldLink RX2 23 "FilmBench$Sheet" "now" "[I", .methodLink RX2 115 yX1_hasPlace, .instanceMethod yX1_hasPlace, .selects RX1 yX1_hasPlace yX1_hasPlace, .initialized RX1, .code yX1_hasPlace cX1_hasPlace 2 (some .boolean), .fieldLink RX1 22 "FilmBench$Reel" "squares" "I"] ++ wsX20 ++ wsX10)
def wsX2_countChanged : List Cond := .code yX2_countChanged cX2_countChanged 3 (some .int) :: ([.fieldLink RX2 9 "FilmBench$Sheet" "film" "LFilmBench$Reel;", .fieldLink RX2 32 "FilmBench$Reel" "squares" "I", .fieldLink RX2 23 "FilmBench$Sheet" "now" "[I", .fieldLink RX2 26 "FilmBench$Sheet" "before" "[I"] ++ wsX20 ++ wsX10)
def wsX2_countUnlikeRaw : List Cond := .code yX2_countUnlikeRaw cX2_countUnlikeRaw 4 (some .int) :: ([.fieldLink RX2 9 "FilmBench$Sheet" "film" "LFilmBench$Reel;", .fieldLink RX2 32 "FilmBench$Reel" "squares" "I", .fieldLink RX2 23 "FilmBench$Sheet" "now" "[I", .methodLink RX2 38 yX1_greyAt, .instanceMethod yX1_greyAt, .selects RX1 yX1_greyAt yX1_greyAt, .initialized RX1, .code yX1_greyAt cX1_greyAt 3 (some .int), .fieldLink RX1 9 "FilmBench$Reel" "greys" "[I", .methodLink RX1 28 yX1_hasFrame, .instanceMethod yX1_hasFrame, .selects RX1 yX1_hasFrame yX1_hasFrame, .code yX1_hasFrame cX1_hasFrame 2 (some .boolean), .fieldLink RX1 25 "FilmBench$Reel" "frames" "I", .methodLink RX1 32 yX1_hasPlace, .instanceMethod yX1_hasPlace, .selects RX1 yX1_hasPlace yX1_hasPlace, .code yX1_hasPlace cX1_hasPlace 2 (some .boolean), .fieldLink RX1 22 "FilmBench$Reel" "squares" "I"] ++ wsX20 ++ wsX10)
def wsX2_sumOfGreys : List Cond := .code yX2_sumOfGreys cX2_sumOfGreys 3 (some .int) :: ([.fieldLink RX2 9 "FilmBench$Sheet" "film" "LFilmBench$Reel;", .fieldLink RX2 32 "FilmBench$Reel" "squares" "I", .fieldLink RX2 23 "FilmBench$Sheet" "now" "[I"] ++ wsX20 ++ wsX10)
def wsX2_leastGrey : List Cond := .code yX2_leastGrey cX2_leastGrey 3 (some .int) :: ([.fieldLink RX2 9 "FilmBench$Sheet" "film" "LFilmBench$Reel;", .fieldLink RX2 32 "FilmBench$Reel" "squares" "I", .fieldLink RX2 23 "FilmBench$Sheet" "now" "[I", .methodLink RX2 119 Lib.Math.min.name, .static Lib.Math.min.name, .initialized "java/lang/Math", .code Lib.Math.min.name Lib.Math.min.code 2 (some .int)] ++ wsX20 ++ wsX10)
def wsX2_greatestGrey : List Cond := .code yX2_greatestGrey cX2_greatestGrey 3 (some .int) :: ([.fieldLink RX2 9 "FilmBench$Sheet" "film" "LFilmBench$Reel;", .fieldLink RX2 32 "FilmBench$Reel" "squares" "I", .fieldLink RX2 23 "FilmBench$Sheet" "now" "[I", .methodLink RX2 122 Lib.Math.max.name, .static Lib.Math.max.name, .initialized "java/lang/Math", .code Lib.Math.max.name Lib.Math.max.code 2 (some .int)] ++ wsX20 ++ wsX10)
def wsX3_init : List Cond := .code yX3_init cX3_init 2 none :: ([.methodLink RX3 3 objectInit, .instanceMethod objectInit, .code objectInit ⟨#[0xb1]⟩ 1 none, .fieldLink RX3 9 "FilmBench$Shifts" "film" "LFilmBench$Reel;"] ++ wsX30)
def wsX3_measure_r1 : List Cond := [Cond.fieldLink RX3 15 "FilmBench$Shifts" "sum" "I", Cond.fieldLink RX3 19 "FilmBench$Shifts" "pairs" "I", Cond.fieldLink RX3 9 "FilmBench$Shifts" "film" "LFilmBench$Reel;", Cond.fieldLink RX3 22 "FilmBench$Reel" "high" "I", Cond.methodLink RX3 27 Lib.Math.min.name, Cond.static Lib.Math.min.name, Cond.initialized "java/lang/Math", Cond.code Lib.Math.min.name Lib.Math.min.code 2 (some .int), Cond.fieldLink RX3 33 "FilmBench$Reel" "wide" "I", Cond.methodLink RX3 36 Lib.Math.max.name, Cond.static Lib.Math.max.name, Cond.code Lib.Math.max.name Lib.Math.max.code 2 (some .int), Cond.methodLink RX3 45 Lib.Math.abs.name, Cond.static Lib.Math.abs.name, Cond.code Lib.Math.abs.name Lib.Math.abs.code 1 (some .int), Cond.methodLink RX3 39 yX1_placeOf, Cond.instanceMethod yX1_placeOf, Cond.selects RX1 yX1_placeOf yX1_placeOf, Cond.initialized RX1, Cond.code yX1_placeOf cX1_placeOf 3 (some .int), Cond.fieldLink RX1 15 "FilmBench$Reel" "high" "I", Cond.fieldLink RX1 19 "FilmBench$Reel" "wide" "I", Cond.methodLink RX3 42 yX1_greyAt, Cond.instanceMethod yX1_greyAt]
def wsX3_measure_r2 : List Cond := [Cond.selects RX1 yX1_greyAt yX1_greyAt, Cond.code yX1_greyAt cX1_greyAt 3 (some .int), Cond.fieldLink RX1 9 "FilmBench$Reel" "greys" "[I", Cond.methodLink RX1 28 yX1_hasFrame, Cond.instanceMethod yX1_hasFrame, Cond.selects RX1 yX1_hasFrame yX1_hasFrame, Cond.code yX1_hasFrame cX1_hasFrame 2 (some .boolean), Cond.fieldLink RX1 25 "FilmBench$Reel" "frames" "I", Cond.methodLink RX1 32 yX1_hasPlace, Cond.instanceMethod yX1_hasPlace, Cond.selects RX1 yX1_hasPlace yX1_hasPlace, Cond.code yX1_hasPlace cX1_hasPlace 2 (some .boolean), Cond.fieldLink RX1 22 "FilmBench$Reel" "squares" "I"]
def wsX3_measure : List Cond := .code yX3_measure cX3_measure 10 none :: ((wsX3_measure_r1 ++ wsX3_measure_r2) ++ wsX30 ++ wsX10)
def wsX3_isEnough : List Cond := .code yX3_isEnough cX3_isEnough 1 (some .boolean) :: ([.fieldLink RX3 19 "FilmBench$Shifts" "pairs" "I", .fieldLink RX3 9 "FilmBench$Shifts" "film" "LFilmBench$Reel;", .fieldLink RX3 49 "FilmBench$Reel" "squares" "I"] ++ wsX30 ++ wsX10)
def wsX3_isBetter : List Cond := .code yX3_isBetter cX3_isBetter 5 (some .boolean) :: ([.fieldLink RX3 58 "FilmBench$Shifts" "bestPairs" "I", .fieldLink RX3 15 "FilmBench$Shifts" "sum" "I", .fieldLink RX3 73 "FilmBench$Shifts" "bestSum" "I", .fieldLink RX3 19 "FilmBench$Shifts" "pairs" "I", .methodLink RX3 45 Lib.Math.abs.name, .static Lib.Math.abs.name, .initialized "java/lang/Math", .code Lib.Math.abs.name Lib.Math.abs.code 1 (some .int), .fieldLink RX3 52 "FilmBench$Shifts" "bestX" "I", .fieldLink RX3 55 "FilmBench$Shifts" "bestY" "I"] ++ wsX30)
def wsX3_find_r1 : List Cond := [Cond.fieldLink RX3 52 "FilmBench$Shifts" "bestX" "I", Cond.fieldLink RX3 55 "FilmBench$Shifts" "bestY" "I", Cond.fieldLink RX3 58 "FilmBench$Shifts" "bestPairs" "I", Cond.fieldLink RX3 15 "FilmBench$Shifts" "sum" "I", Cond.fieldLink RX3 73 "FilmBench$Shifts" "bestSum" "I", Cond.fieldLink RX3 19 "FilmBench$Shifts" "pairs" "I", Cond.methodLink RX3 61 yX3_measure, Cond.instanceMethod yX3_measure, Cond.selects RX3 yX3_measure yX3_measure, Cond.initialized RX3, Cond.code yX3_measure cX3_measure 10 none, Cond.fieldLink RX3 9 "FilmBench$Shifts" "film" "LFilmBench$Reel;", Cond.fieldLink RX3 22 "FilmBench$Reel" "high" "I", Cond.methodLink RX3 27 Lib.Math.min.name, Cond.static Lib.Math.min.name, Cond.initialized "java/lang/Math", Cond.code Lib.Math.min.name Lib.Math.min.code 2 (some .int), Cond.fieldLink RX3 33 "FilmBench$Reel" "wide" "I", Cond.methodLink RX3 36 Lib.Math.max.name, Cond.static Lib.Math.max.name, Cond.code Lib.Math.max.name Lib.Math.max.code 2 (some .int), Cond.methodLink RX3 45 Lib.Math.abs.name, Cond.static Lib.Math.abs.name, Cond.code Lib.Math.abs.name Lib.Math.abs.code 1 (some .int)]
def wsX3_find_r2 : List Cond := [Cond.methodLink RX3 39 yX1_placeOf, Cond.instanceMethod yX1_placeOf, Cond.selects RX1 yX1_placeOf yX1_placeOf, Cond.initialized RX1, Cond.code yX1_placeOf cX1_placeOf 3 (some .int), Cond.fieldLink RX1 15 "FilmBench$Reel" "high" "I", Cond.fieldLink RX1 19 "FilmBench$Reel" "wide" "I", Cond.methodLink RX3 42 yX1_greyAt, Cond.instanceMethod yX1_greyAt, Cond.selects RX1 yX1_greyAt yX1_greyAt, Cond.code yX1_greyAt cX1_greyAt 3 (some .int), Cond.fieldLink RX1 9 "FilmBench$Reel" "greys" "[I", Cond.methodLink RX1 28 yX1_hasFrame, Cond.instanceMethod yX1_hasFrame, Cond.selects RX1 yX1_hasFrame yX1_hasFrame, Cond.code yX1_hasFrame cX1_hasFrame 2 (some .boolean), Cond.fieldLink RX1 25 "FilmBench$Reel" "frames" "I", Cond.methodLink RX1 32 yX1_hasPlace, Cond.instanceMethod yX1_hasPlace, Cond.selects RX1 yX1_hasPlace yX1_hasPlace, Cond.code yX1_hasPlace cX1_hasPlace 2 (some .boolean), Cond.fieldLink RX1 22 "FilmBench$Reel" "squares" "I", Cond.methodLink RX3 65 yX3_isEnough, Cond.instanceMethod yX3_isEnough]
def wsX3_find_r3 : List Cond := [Cond.selects RX3 yX3_isEnough yX3_isEnough, Cond.code yX3_isEnough cX3_isEnough 1 (some .boolean), Cond.fieldLink RX3 49 "FilmBench$Reel" "squares" "I", Cond.methodLink RX3 69 yX3_isBetter, Cond.instanceMethod yX3_isBetter, Cond.selects RX3 yX3_isBetter yX3_isBetter, Cond.code yX3_isBetter cX3_isBetter 5 (some .boolean)]
def wsX3_find : List Cond := .code yX3_find cX3_find 4 none :: ((wsX3_find_r1 ++ (wsX3_find_r2 ++ wsX3_find_r3)) ++ wsX30 ++ wsX10)
def wsX3_along : List Cond := .code yX3_along cX3_along 2 (some .int) :: ([.fieldLink RX3 52 "FilmBench$Shifts" "bestX" "I", .fieldLink RX3 55 "FilmBench$Shifts" "bestY" "I"] ++ wsX30)
def wsX4_init : List Cond := .code yX4_init cX4_init 1 none :: ([.methodLink RX4 5 objectInit, .instanceMethod objectInit, .code objectInit ⟨#[0xb1]⟩ 1 none, .arrayClass .int, .fieldLink RX4 11 "FilmBench$Steady" "drifts" "[I", .fieldLink RX4 15 "FilmBench$Steady" "spots" "[I", .fieldLink RX4 18 "FilmBench$Steady" "costsBehind" "[I"] ++ wsX40)
def wsX4_setDrift : List Cond := .code yX4_setDrift cX4_setDrift 3 none :: ([.fieldLink RX4 11 "FilmBench$Steady" "drifts" "[I"] ++ wsX40)
def wsX4_spotAt : List Cond := .code yX4_spotAt cX4_spotAt 2 (some .int) :: ([.fieldLink RX4 21 "FilmBench$Steady" "frames" "I", .fieldLink RX4 15 "FilmBench$Steady" "spots" "[I"] ++ wsX40)
def wsX4_slotOf : List Cond := .code yX4_slotOf cX4_slotOf 3 (some .int) :: ([])
def wsX4_spotOf : List Cond := .code yX4_spotOf cX4_spotOf 3 (some .int) :: ([.fieldLink RX4 11 "FilmBench$Steady" "drifts" "[I", .fieldLink RX4 25 "FilmBench$Steady" "stray" "I"] ++ wsX40)
def wsX4_costThrough : List Cond := .code yX4_costThrough cX4_costThrough 6 (some .int) :: ([.methodLink RX4 63 Lib.Math.abs.name, .static Lib.Math.abs.name, .initialized "java/lang/Math", .code Lib.Math.abs.name Lib.Math.abs.code 1 (some .int), .fieldLink RX4 25 "FilmBench$Steady" "stray" "I", .fieldLink RX4 18 "FilmBench$Steady" "costsBehind" "[I", .methodLink RX4 60 yX4_spotOf, .instanceMethod yX4_spotOf, .selects RX4 yX4_spotOf yX4_spotOf, .initialized RX4, .code yX4_spotOf cX4_spotOf 3 (some .int), .fieldLink RX4 11 "FilmBench$Steady" "drifts" "[I", .methodLink RX4 43 yX4_slotOf, .static yX4_slotOf, .code yX4_slotOf cX4_slotOf 3 (some .int)] ++ wsX40)
def wsX4_leastCostBehind : List Cond := .code yX4_leastCostBehind cX4_leastCostBehind 6 (some .int) :: ([.fieldLink RX4 21 "FilmBench$Steady" "frames" "I", .fieldLink RX4 28 "FilmBench$Steady" "choices" "I", .methodLink RX4 54 Lib.Math.min.name, .static Lib.Math.min.name, .initialized "java/lang/Math", .code Lib.Math.min.name Lib.Math.min.code 2 (some .int), .methodLink RX4 50 yX4_costThrough, .instanceMethod yX4_costThrough, .selects RX4 yX4_costThrough yX4_costThrough, .initialized RX4, .code yX4_costThrough cX4_costThrough 6 (some .int), .methodLink RX4 63 Lib.Math.abs.name, .static Lib.Math.abs.name, .code Lib.Math.abs.name Lib.Math.abs.code 1 (some .int), .fieldLink RX4 25 "FilmBench$Steady" "stray" "I", .fieldLink RX4 18 "FilmBench$Steady" "costsBehind" "[I", .methodLink RX4 60 yX4_spotOf, .instanceMethod yX4_spotOf, .selects RX4 yX4_spotOf yX4_spotOf, .code yX4_spotOf cX4_spotOf 3 (some .int), .fieldLink RX4 11 "FilmBench$Steady" "drifts" "[I", .methodLink RX4 43 yX4_slotOf, .static yX4_slotOf, .code yX4_slotOf cX4_slotOf 3 (some .int)] ++ wsX40)
def wsX4_findCosts_r1 : List Cond := [Cond.fieldLink RX4 21 "FilmBench$Steady" "frames" "I", Cond.fieldLink RX4 28 "FilmBench$Steady" "choices" "I", Cond.fieldLink RX4 18 "FilmBench$Steady" "costsBehind" "[I", Cond.methodLink RX4 43 yX4_slotOf, Cond.static yX4_slotOf, Cond.initialized RX4, Cond.code yX4_slotOf cX4_slotOf 3 (some .int), Cond.methodLink RX4 47 yX4_leastCostBehind, Cond.instanceMethod yX4_leastCostBehind, Cond.selects RX4 yX4_leastCostBehind yX4_leastCostBehind, Cond.code yX4_leastCostBehind cX4_leastCostBehind 6 (some .int), Cond.methodLink RX4 54 Lib.Math.min.name, Cond.static Lib.Math.min.name, Cond.initialized "java/lang/Math", Cond.code Lib.Math.min.name Lib.Math.min.code 2 (some .int), Cond.methodLink RX4 50 yX4_costThrough, Cond.instanceMethod yX4_costThrough, Cond.selects RX4 yX4_costThrough yX4_costThrough, Cond.code yX4_costThrough cX4_costThrough 6 (some .int), Cond.methodLink RX4 63 Lib.Math.abs.name, Cond.static Lib.Math.abs.name, Cond.code Lib.Math.abs.name Lib.Math.abs.code 1 (some .int), Cond.fieldLink RX4 25 "FilmBench$Steady" "stray" "I", Cond.methodLink RX4 60 yX4_spotOf]
def wsX4_findCosts_r2 : List Cond := [Cond.instanceMethod yX4_spotOf, Cond.selects RX4 yX4_spotOf yX4_spotOf, Cond.code yX4_spotOf cX4_spotOf 3 (some .int), Cond.fieldLink RX4 11 "FilmBench$Steady" "drifts" "[I"]
def wsX4_findCosts : List Cond := .code yX4_findCosts cX4_findCosts 4 none :: ((wsX4_findCosts_r1 ++ wsX4_findCosts_r2) ++ wsX40)
def wsX4_costOfStart : List Cond := .code yX4_costOfStart cX4_costOfStart 3 (some .int) :: ([.fieldLink RX4 25 "FilmBench$Steady" "stray" "I", .methodLink RX4 63 Lib.Math.abs.name, .static Lib.Math.abs.name, .initialized "java/lang/Math", .code Lib.Math.abs.name Lib.Math.abs.code 1 (some .int), .fieldLink RX4 18 "FilmBench$Steady" "costsBehind" "[I", .methodLink RX4 43 yX4_slotOf, .static yX4_slotOf, .initialized RX4, .code yX4_slotOf cX4_slotOf 3 (some .int)] ++ wsX40)
def wsX4_leastThird : List Cond := .code yX4_leastThird cX4_leastThird 6 (some .int) :: ([.fieldLink RX4 28 "FilmBench$Steady" "choices" "I", .methodLink RX4 50 yX4_costThrough, .instanceMethod yX4_costThrough, .selects RX4 yX4_costThrough yX4_costThrough, .initialized RX4, .code yX4_costThrough cX4_costThrough 6 (some .int), .methodLink RX4 63 Lib.Math.abs.name, .static Lib.Math.abs.name, .initialized "java/lang/Math", .code Lib.Math.abs.name Lib.Math.abs.code 1 (some .int), .fieldLink RX4 25 "FilmBench$Steady" "stray" "I", .fieldLink RX4 18 "FilmBench$Steady" "costsBehind" "[I", .methodLink RX4 60 yX4_spotOf, .instanceMethod yX4_spotOf, .selects RX4 yX4_spotOf yX4_spotOf, .code yX4_spotOf cX4_spotOf 3 (some .int), .fieldLink RX4 11 "FilmBench$Steady" "drifts" "[I", .methodLink RX4 43 yX4_slotOf, .static yX4_slotOf, .code yX4_slotOf cX4_slotOf 3 (some .int)] ++ wsX40)
def wsX4_takeChoices_r1 : List Cond := [Cond.fieldLink RX4 28 "FilmBench$Steady" "choices" "I", Cond.fieldLink RX4 15 "FilmBench$Steady" "spots" "[I", Cond.fieldLink RX4 21 "FilmBench$Steady" "frames" "I", Cond.methodLink RX4 67 yX4_costOfStart, Cond.instanceMethod yX4_costOfStart, Cond.selects RX4 yX4_costOfStart yX4_costOfStart, Cond.initialized RX4, Cond.code yX4_costOfStart cX4_costOfStart 3 (some .int), Cond.fieldLink RX4 25 "FilmBench$Steady" "stray" "I", Cond.methodLink RX4 63 Lib.Math.abs.name, Cond.static Lib.Math.abs.name, Cond.initialized "java/lang/Math", Cond.code Lib.Math.abs.name Lib.Math.abs.code 1 (some .int), Cond.fieldLink RX4 18 "FilmBench$Steady" "costsBehind" "[I", Cond.methodLink RX4 43 yX4_slotOf, Cond.static yX4_slotOf, Cond.code yX4_slotOf cX4_slotOf 3 (some .int), Cond.methodLink RX4 60 yX4_spotOf, Cond.instanceMethod yX4_spotOf, Cond.selects RX4 yX4_spotOf yX4_spotOf, Cond.code yX4_spotOf cX4_spotOf 3 (some .int), Cond.fieldLink RX4 11 "FilmBench$Steady" "drifts" "[I", Cond.methodLink RX4 70 yX4_leastThird, Cond.instanceMethod yX4_leastThird]
def wsX4_takeChoices_r2 : List Cond := [Cond.selects RX4 yX4_leastThird yX4_leastThird, Cond.code yX4_leastThird cX4_leastThird 6 (some .int), Cond.methodLink RX4 50 yX4_costThrough, Cond.instanceMethod yX4_costThrough, Cond.selects RX4 yX4_costThrough yX4_costThrough, Cond.code yX4_costThrough cX4_costThrough 6 (some .int)]
def wsX4_takeChoices : List Cond := .code yX4_takeChoices cX4_takeChoices 7 none :: ((wsX4_takeChoices_r1 ++ wsX4_takeChoices_r2) ++ wsX40)
def wsX4_solve_r1 : List Cond := [Cond.fieldLink RX4 21 "FilmBench$Steady" "frames" "I", Cond.fieldLink RX4 25 "FilmBench$Steady" "stray" "I", Cond.fieldLink RX4 28 "FilmBench$Steady" "choices" "I", Cond.fieldLink RX4 11 "FilmBench$Steady" "drifts" "[I", Cond.fieldLink RX4 15 "FilmBench$Steady" "spots" "[I", Cond.methodLink RX4 31 arraycopyName, Cond.native arraycopyName, Cond.static arraycopyName, Cond.initialized "java/lang/System", Cond.methodLink RX4 37 yX4_findCosts, Cond.instanceMethod yX4_findCosts, Cond.selects RX4 yX4_findCosts yX4_findCosts, Cond.initialized RX4, Cond.code yX4_findCosts cX4_findCosts 4 none, Cond.fieldLink RX4 18 "FilmBench$Steady" "costsBehind" "[I", Cond.methodLink RX4 43 yX4_slotOf, Cond.static yX4_slotOf, Cond.code yX4_slotOf cX4_slotOf 3 (some .int), Cond.methodLink RX4 47 yX4_leastCostBehind, Cond.instanceMethod yX4_leastCostBehind, Cond.selects RX4 yX4_leastCostBehind yX4_leastCostBehind, Cond.code yX4_leastCostBehind cX4_leastCostBehind 6 (some .int), Cond.methodLink RX4 54 Lib.Math.min.name, Cond.static Lib.Math.min.name]
def wsX4_solve_r2 : List Cond := [Cond.initialized "java/lang/Math", Cond.code Lib.Math.min.name Lib.Math.min.code 2 (some .int), Cond.methodLink RX4 50 yX4_costThrough, Cond.instanceMethod yX4_costThrough, Cond.selects RX4 yX4_costThrough yX4_costThrough, Cond.code yX4_costThrough cX4_costThrough 6 (some .int), Cond.methodLink RX4 63 Lib.Math.abs.name, Cond.static Lib.Math.abs.name, Cond.code Lib.Math.abs.name Lib.Math.abs.code 1 (some .int), Cond.methodLink RX4 60 yX4_spotOf, Cond.instanceMethod yX4_spotOf, Cond.selects RX4 yX4_spotOf yX4_spotOf, Cond.code yX4_spotOf cX4_spotOf 3 (some .int), Cond.methodLink RX4 40 yX4_takeChoices, Cond.instanceMethod yX4_takeChoices, Cond.selects RX4 yX4_takeChoices yX4_takeChoices, Cond.code yX4_takeChoices cX4_takeChoices 7 none, Cond.methodLink RX4 67 yX4_costOfStart, Cond.instanceMethod yX4_costOfStart, Cond.selects RX4 yX4_costOfStart yX4_costOfStart, Cond.code yX4_costOfStart cX4_costOfStart 3 (some .int), Cond.methodLink RX4 70 yX4_leastThird, Cond.instanceMethod yX4_leastThird, Cond.selects RX4 yX4_leastThird yX4_leastThird]
def wsX4_solve_r3 : List Cond := [Cond.code yX4_leastThird cX4_leastThird 6 (some .int)]
def wsX4_solve : List Cond := .code yX4_solve cX4_solve 3 none :: ((wsX4_solve_r1 ++ (wsX4_solve_r2 ++ wsX4_solve_r3)) ++ wsX40)
def wsX4_sumOfBends : List Cond := .code yX4_sumOfBends cX4_sumOfBends 3 (some .int) :: ([.fieldLink RX4 21 "FilmBench$Steady" "frames" "I", .fieldLink RX4 15 "FilmBench$Steady" "spots" "[I", .methodLink RX4 63 Lib.Math.abs.name, .static Lib.Math.abs.name, .initialized "java/lang/Math", .code Lib.Math.abs.name Lib.Math.abs.code 1 (some .int)] ++ wsX40)
def wsX4_sumOfStrays : List Cond := .code yX4_sumOfStrays cX4_sumOfStrays 3 (some .int) :: ([.fieldLink RX4 21 "FilmBench$Steady" "frames" "I", .fieldLink RX4 15 "FilmBench$Steady" "spots" "[I", .fieldLink RX4 11 "FilmBench$Steady" "drifts" "[I", .methodLink RX4 63 Lib.Math.abs.name, .static Lib.Math.abs.name, .initialized "java/lang/Math", .code Lib.Math.abs.name Lib.Math.abs.code 1 (some .int)] ++ wsX40)
def wsX5_init_r1 : List Cond := [Cond.methodLink RX5 3 objectInit, Cond.instanceMethod objectInit, Cond.code objectInit ⟨#[0xb1]⟩ 1 none, Cond.classLink RX5 9 RX1, Cond.instantiable RX1 5, Cond.initialized RX1, Cond.fieldLink RX5 12 "FilmBench" "film" "LFilmBench$Reel;", Cond.classLink RX5 16 RX0, Cond.instantiable RX0 6, Cond.initialized RX0, Cond.fieldLink RX5 19 "FilmBench" "layers" "LFilmBench$Layers;", Cond.arrayClass .int, Cond.fieldLink RX5 23 "FilmBench" "rules" "[I", Cond.fieldLink RX5 27 "FilmBench" "FIRST_RULES" "[I", Cond.methodLink RX5 30 arraycopyName, Cond.native arraycopyName, Cond.static arraycopyName, Cond.initialized "java/lang/System", Cond.classLink RX5 36 RX3, Cond.instantiable RX3 7, Cond.initialized RX3, Cond.fieldLink RX5 41 "FilmBench" "shifts" "LFilmBench$Shifts;", Cond.classLink RX5 45 RX4, Cond.instantiable RX4 6]
def wsX5_init_r2 : List Cond := [Cond.initialized RX4, Cond.fieldLink RX5 48 "FilmBench" "steady" "LFilmBench$Steady;", Cond.classLink RX5 52 RX2, Cond.instantiable RX2 6, Cond.initialized RX2, Cond.fieldLink RX5 57 "FilmBench" "sheet" "LFilmBench$Sheet;", Cond.fieldLink RX5 61 "FilmBench" "keptFilm" "LFilmBench$Reel;", Cond.fieldLink RX5 64 "FilmBench" "keptLayers" "LFilmBench$Layers;", Cond.fieldLink RX5 67 "FilmBench" "isKept" "Z", Cond.methodLink RX5 11 yX1_init, Cond.instanceMethod yX1_init, Cond.code yX1_init cX1_init 1 none, Cond.methodLink RX1 3 objectInit, Cond.fieldLink RX1 9 "FilmBench$Reel" "greys" "[I", Cond.fieldLink RX1 15 "FilmBench$Reel" "high" "I", Cond.fieldLink RX1 19 "FilmBench$Reel" "wide" "I", Cond.fieldLink RX1 22 "FilmBench$Reel" "squares" "I", Cond.fieldLink RX1 25 "FilmBench$Reel" "frames" "I", Cond.methodLink RX5 18 yX0_init, Cond.instanceMethod yX0_init, Cond.code yX0_init cX0_init 1 none, Cond.methodLink RX0 3 objectInit, Cond.fieldLink RX0 9 "FilmBench$Layers" "count" "I", Cond.fieldLink RX0 15 "FilmBench$Layers" "kinds" "[I"]
def wsX5_init_r3 : List Cond := [Cond.fieldLink RX0 19 "FilmBench$Layers" "owners" "[I", Cond.fieldLink RX0 22 "FilmBench$Layers" "as" "[I", Cond.fieldLink RX0 25 "FilmBench$Layers" "bs" "[I", Cond.arrayClass .boolean, Cond.fieldLink RX0 28 "FilmBench$Layers" "ons" "[Z", Cond.methodLink RX5 38 yX3_init, Cond.instanceMethod yX3_init, Cond.code yX3_init cX3_init 2 none, Cond.methodLink RX3 3 objectInit, Cond.fieldLink RX3 9 "FilmBench$Shifts" "film" "LFilmBench$Reel;", Cond.methodLink RX5 47 yX4_init, Cond.instanceMethod yX4_init, Cond.code yX4_init cX4_init 1 none, Cond.methodLink RX4 5 objectInit, Cond.fieldLink RX4 11 "FilmBench$Steady" "drifts" "[I", Cond.fieldLink RX4 15 "FilmBench$Steady" "spots" "[I", Cond.fieldLink RX4 18 "FilmBench$Steady" "costsBehind" "[I", Cond.methodLink RX5 54 yX2_init, Cond.instanceMethod yX2_init, Cond.code yX2_init cX2_init 4 none, Cond.methodLink RX2 3 objectInit, Cond.fieldLink RX2 9 "FilmBench$Sheet" "film" "LFilmBench$Reel;", Cond.fieldLink RX2 15 "FilmBench$Sheet" "layers" "LFilmBench$Layers;", Cond.fieldLink RX2 19 "FilmBench$Sheet" "rules" "[I"]
def wsX5_init_r4 : List Cond := [Cond.fieldLink RX2 23 "FilmBench$Sheet" "now" "[I", Cond.fieldLink RX2 26 "FilmBench$Sheet" "before" "[I", Cond.fieldLink RX2 29 "FilmBench$Sheet" "rising" "[I"]
def wsX5_init : List Cond := .code yX5_init cX5_init 1 none :: ((wsX5_init_r1 ++ (wsX5_init_r2 ++ (wsX5_init_r3 ++ wsX5_init_r4))) ++ wsX10 ++ wsX50 ++ wsX00 ++ wsX30 ++ wsX40 ++ wsX20)
def wsX5_isWithin : List Cond := .code yX5_isWithin cX5_isWithin 3 (some .boolean) :: ([])
def wsX5_reel : List Cond := .code yX5_reel cX5_reel 3 (some .int) :: ([.fieldLink RX5 12 "FilmBench" "film" "LFilmBench$Reel;", .fieldLink RX5 19 "FilmBench" "layers" "LFilmBench$Layers;", .fieldLink RX5 79 "FilmBench$Layers" "count" "I", .fieldLink RX5 83 "FilmBench$Reel" "squares" "I", .methodLink RX5 71 yX5_isWithin, .static yX5_isWithin, .initialized RX5, .code yX5_isWithin cX5_isWithin 3 (some .boolean), .methodLink RX5 75 yX1_start, .instanceMethod yX1_start, .selects RX1 yX1_start yX1_start, .initialized RX1, .code yX1_start cX1_start 3 none, .fieldLink RX1 15 "FilmBench$Reel" "high" "I", .fieldLink RX1 19 "FilmBench$Reel" "wide" "I", .fieldLink RX1 22 "FilmBench$Reel" "squares" "I", .fieldLink RX1 25 "FilmBench$Reel" "frames" "I"] ++ wsX50 ++ wsX00 ++ wsX10)
def wsX5_frame : List Cond := .code yX5_frame cX5_frame 1 (some .int) :: ([.fieldLink RX5 12 "FilmBench" "film" "LFilmBench$Reel;", .fieldLink RX5 86 "FilmBench$Reel" "frames" "I", .methodLink RX5 89 yX1_addFrame, .instanceMethod yX1_addFrame, .selects RX1 yX1_addFrame yX1_addFrame, .initialized RX1, .code yX1_addFrame cX1_addFrame 3 (some .int), .fieldLink RX1 25 "FilmBench$Reel" "frames" "I", .fieldLink RX1 22 "FilmBench$Reel" "squares" "I", .methodLink RX1 35 yX1_setGrey, .instanceMethod yX1_setGrey, .selects RX1 yX1_setGrey yX1_setGrey, .code yX1_setGrey cX1_setGrey 4 none, .fieldLink RX1 9 "FilmBench$Reel" "greys" "[I", .methodLink RX1 28 yX1_hasFrame, .instanceMethod yX1_hasFrame, .selects RX1 yX1_hasFrame yX1_hasFrame, .code yX1_hasFrame cX1_hasFrame 2 (some .boolean), .methodLink RX1 32 yX1_hasPlace, .instanceMethod yX1_hasPlace, .selects RX1 yX1_hasPlace yX1_hasPlace, .code yX1_hasPlace cX1_hasPlace 2 (some .boolean)] ++ wsX50 ++ wsX10)
def wsX5_again_r1 : List Cond := [Cond.fieldLink RX5 12 "FilmBench" "film" "LFilmBench$Reel;", Cond.fieldLink RX5 86 "FilmBench$Reel" "frames" "I", Cond.fieldLink RX5 83 "FilmBench$Reel" "squares" "I", Cond.methodLink RX5 101 Lib.Math.min.name, Cond.static Lib.Math.min.name, Cond.initialized "java/lang/Math", Cond.code Lib.Math.min.name Lib.Math.min.code 2 (some .int), Cond.methodLink RX5 106 Lib.Math.max.name, Cond.static Lib.Math.max.name, Cond.code Lib.Math.max.name Lib.Math.max.code 2 (some .int), Cond.methodLink RX5 93 yX1_hasFrame, Cond.instanceMethod yX1_hasFrame, Cond.selects RX1 yX1_hasFrame yX1_hasFrame, Cond.initialized RX1, Cond.code yX1_hasFrame cX1_hasFrame 2 (some .boolean), Cond.fieldLink RX1 25 "FilmBench$Reel" "frames" "I", Cond.methodLink RX5 71 yX5_isWithin, Cond.static yX5_isWithin, Cond.initialized RX5, Cond.code yX5_isWithin cX5_isWithin 3 (some .boolean), Cond.methodLink RX5 89 yX1_addFrame, Cond.instanceMethod yX1_addFrame, Cond.selects RX1 yX1_addFrame yX1_addFrame, Cond.code yX1_addFrame cX1_addFrame 3 (some .int)]
def wsX5_again_r2 : List Cond := [Cond.fieldLink RX1 22 "FilmBench$Reel" "squares" "I", Cond.methodLink RX1 35 yX1_setGrey, Cond.instanceMethod yX1_setGrey, Cond.selects RX1 yX1_setGrey yX1_setGrey, Cond.code yX1_setGrey cX1_setGrey 4 none, Cond.fieldLink RX1 9 "FilmBench$Reel" "greys" "[I", Cond.methodLink RX1 28 yX1_hasFrame, Cond.methodLink RX1 32 yX1_hasPlace, Cond.instanceMethod yX1_hasPlace, Cond.selects RX1 yX1_hasPlace yX1_hasPlace, Cond.code yX1_hasPlace cX1_hasPlace 2 (some .boolean), Cond.methodLink RX5 97 yX1_greyAt, Cond.instanceMethod yX1_greyAt, Cond.selects RX1 yX1_greyAt yX1_greyAt, Cond.code yX1_greyAt cX1_greyAt 3 (some .int), Cond.methodLink RX5 109 yX1_setGrey]
def wsX5_again : List Cond := .code yX5_again cX5_again 6 (some .int) :: ((wsX5_again_r1 ++ wsX5_again_r2) ++ wsX50 ++ wsX10)
def wsX5_put_r1 : List Cond := [Cond.fieldLink RX5 12 "FilmBench" "film" "LFilmBench$Reel;", Cond.methodLink RX5 113 yX1_placeOf, Cond.instanceMethod yX1_placeOf, Cond.selects RX1 yX1_placeOf yX1_placeOf, Cond.initialized RX1, Cond.code yX1_placeOf cX1_placeOf 3 (some .int), Cond.fieldLink RX1 15 "FilmBench$Reel" "high" "I", Cond.fieldLink RX1 19 "FilmBench$Reel" "wide" "I", Cond.methodLink RX5 93 yX1_hasFrame, Cond.instanceMethod yX1_hasFrame, Cond.selects RX1 yX1_hasFrame yX1_hasFrame, Cond.code yX1_hasFrame cX1_hasFrame 2 (some .boolean), Cond.fieldLink RX1 25 "FilmBench$Reel" "frames" "I", Cond.methodLink RX5 71 yX5_isWithin, Cond.static yX5_isWithin, Cond.initialized RX5, Cond.code yX5_isWithin cX5_isWithin 3 (some .boolean), Cond.methodLink RX5 97 yX1_greyAt, Cond.instanceMethod yX1_greyAt, Cond.selects RX1 yX1_greyAt yX1_greyAt, Cond.code yX1_greyAt cX1_greyAt 3 (some .int), Cond.fieldLink RX1 9 "FilmBench$Reel" "greys" "[I", Cond.methodLink RX1 28 yX1_hasFrame, Cond.methodLink RX1 32 yX1_hasPlace]
def wsX5_put_r2 : List Cond := [Cond.instanceMethod yX1_hasPlace, Cond.selects RX1 yX1_hasPlace yX1_hasPlace, Cond.code yX1_hasPlace cX1_hasPlace 2 (some .boolean), Cond.fieldLink RX1 22 "FilmBench$Reel" "squares" "I", Cond.methodLink RX5 109 yX1_setGrey, Cond.instanceMethod yX1_setGrey, Cond.selects RX1 yX1_setGrey yX1_setGrey, Cond.code yX1_setGrey cX1_setGrey 4 none]
def wsX5_put : List Cond := .code yX5_put cX5_put 7 (some .int) :: ((wsX5_put_r1 ++ wsX5_put_r2) ++ wsX50 ++ wsX10)
def wsX5_row_r1 : List Cond := [Cond.fieldLink RX5 12 "FilmBench" "film" "LFilmBench$Reel;", Cond.fieldLink RX5 116 "FilmBench$Reel" "wide" "I", Cond.methodLink RX5 93 yX1_hasFrame, Cond.instanceMethod yX1_hasFrame, Cond.selects RX1 yX1_hasFrame yX1_hasFrame, Cond.initialized RX1, Cond.code yX1_hasFrame cX1_hasFrame 2 (some .boolean), Cond.fieldLink RX1 25 "FilmBench$Reel" "frames" "I", Cond.methodLink RX5 113 yX1_placeOf, Cond.instanceMethod yX1_placeOf, Cond.selects RX1 yX1_placeOf yX1_placeOf, Cond.code yX1_placeOf cX1_placeOf 3 (some .int), Cond.fieldLink RX1 15 "FilmBench$Reel" "high" "I", Cond.fieldLink RX1 19 "FilmBench$Reel" "wide" "I", Cond.methodLink RX5 109 yX1_setGrey, Cond.instanceMethod yX1_setGrey, Cond.selects RX1 yX1_setGrey yX1_setGrey, Cond.code yX1_setGrey cX1_setGrey 4 none, Cond.fieldLink RX1 9 "FilmBench$Reel" "greys" "[I", Cond.methodLink RX1 28 yX1_hasFrame, Cond.methodLink RX1 32 yX1_hasPlace, Cond.instanceMethod yX1_hasPlace, Cond.selects RX1 yX1_hasPlace yX1_hasPlace, Cond.code yX1_hasPlace cX1_hasPlace 2 (some .boolean)]
def wsX5_row_r2 : List Cond := [Cond.fieldLink RX1 22 "FilmBench$Reel" "squares" "I"]
def wsX5_row : List Cond := .code yX5_row cX5_row 9 (some .int) :: ((wsX5_row_r1 ++ wsX5_row_r2) ++ wsX50 ++ wsX10)
def wsX5_raw : List Cond := .code yX5_raw cX5_raw 5 (some .int) :: ([.fieldLink RX5 12 "FilmBench" "film" "LFilmBench$Reel;", .methodLink RX5 113 yX1_placeOf, .instanceMethod yX1_placeOf, .selects RX1 yX1_placeOf yX1_placeOf, .initialized RX1, .code yX1_placeOf cX1_placeOf 3 (some .int), .fieldLink RX1 15 "FilmBench$Reel" "high" "I", .fieldLink RX1 19 "FilmBench$Reel" "wide" "I", .methodLink RX5 93 yX1_hasFrame, .instanceMethod yX1_hasFrame, .selects RX1 yX1_hasFrame yX1_hasFrame, .code yX1_hasFrame cX1_hasFrame 2 (some .boolean), .fieldLink RX1 25 "FilmBench$Reel" "frames" "I", .methodLink RX5 97 yX1_greyAt, .instanceMethod yX1_greyAt, .selects RX1 yX1_greyAt yX1_greyAt, .code yX1_greyAt cX1_greyAt 3 (some .int), .fieldLink RX1 9 "FilmBench$Reel" "greys" "[I", .methodLink RX1 28 yX1_hasFrame, .methodLink RX1 32 yX1_hasPlace, .instanceMethod yX1_hasPlace, .selects RX1 yX1_hasPlace yX1_hasPlace, .code yX1_hasPlace cX1_hasPlace 2 (some .boolean), .fieldLink RX1 22 "FilmBench$Reel" "squares" "I"] ++ wsX50 ++ wsX10)
def wsX5_rule : List Cond := .code yX5_rule cX5_rule 4 (some .int) :: ([.fieldLink RX5 119 "FilmBench" "LEAST_RULES" "[I", .fieldLink RX5 122 "FilmBench" "MOST_RULES" "[I", .fieldLink RX5 23 "FilmBench" "rules" "[I", .methodLink RX5 71 yX5_isWithin, .static yX5_isWithin, .initialized RX5, .code yX5_isWithin cX5_isWithin 3 (some .boolean)] ++ wsX50)
def wsX5_commonDivisor : List Cond := .code yX5_commonDivisor cX5_commonDivisor 6 (some .int) :: ([])
def wsX5_miss_r1 : List Cond := [Cond.fieldLink RX5 12 "FilmBench" "film" "LFilmBench$Reel;", Cond.fieldLink RX5 41 "FilmBench" "shifts" "LFilmBench$Shifts;", Cond.fieldLink RX5 132 "FilmBench$Shifts" "sum" "I", Cond.fieldLink RX5 135 "FilmBench$Shifts" "pairs" "I", Cond.methodLink RX5 93 yX1_hasFrame, Cond.instanceMethod yX1_hasFrame, Cond.selects RX1 yX1_hasFrame yX1_hasFrame, Cond.initialized RX1, Cond.code yX1_hasFrame cX1_hasFrame 2 (some .boolean), Cond.fieldLink RX1 25 "FilmBench$Reel" "frames" "I", Cond.methodLink RX5 71 yX5_isWithin, Cond.static yX5_isWithin, Cond.initialized RX5, Cond.code yX5_isWithin cX5_isWithin 3 (some .boolean), Cond.methodLink RX5 125 yX3_measure, Cond.instanceMethod yX3_measure, Cond.selects RX3 yX3_measure yX3_measure, Cond.initialized RX3, Cond.code yX3_measure cX3_measure 10 none, Cond.fieldLink RX3 15 "FilmBench$Shifts" "sum" "I", Cond.fieldLink RX3 19 "FilmBench$Shifts" "pairs" "I", Cond.fieldLink RX3 9 "FilmBench$Shifts" "film" "LFilmBench$Reel;", Cond.fieldLink RX3 22 "FilmBench$Reel" "high" "I", Cond.methodLink RX3 27 Lib.Math.min.name]
def wsX5_miss_r2 : List Cond := [Cond.static Lib.Math.min.name, Cond.initialized "java/lang/Math", Cond.code Lib.Math.min.name Lib.Math.min.code 2 (some .int), Cond.fieldLink RX3 33 "FilmBench$Reel" "wide" "I", Cond.methodLink RX3 36 Lib.Math.max.name, Cond.static Lib.Math.max.name, Cond.code Lib.Math.max.name Lib.Math.max.code 2 (some .int), Cond.methodLink RX3 45 Lib.Math.abs.name, Cond.static Lib.Math.abs.name, Cond.code Lib.Math.abs.name Lib.Math.abs.code 1 (some .int), Cond.methodLink RX3 39 yX1_placeOf, Cond.instanceMethod yX1_placeOf, Cond.selects RX1 yX1_placeOf yX1_placeOf, Cond.code yX1_placeOf cX1_placeOf 3 (some .int), Cond.fieldLink RX1 15 "FilmBench$Reel" "high" "I", Cond.fieldLink RX1 19 "FilmBench$Reel" "wide" "I", Cond.methodLink RX3 42 yX1_greyAt, Cond.instanceMethod yX1_greyAt, Cond.selects RX1 yX1_greyAt yX1_greyAt, Cond.code yX1_greyAt cX1_greyAt 3 (some .int), Cond.fieldLink RX1 9 "FilmBench$Reel" "greys" "[I", Cond.methodLink RX1 28 yX1_hasFrame, Cond.methodLink RX1 32 yX1_hasPlace, Cond.instanceMethod yX1_hasPlace]
def wsX5_miss_r3 : List Cond := [Cond.selects RX1 yX1_hasPlace yX1_hasPlace, Cond.code yX1_hasPlace cX1_hasPlace 2 (some .boolean), Cond.fieldLink RX1 22 "FilmBench$Reel" "squares" "I", Cond.methodLink RX5 128 yX3_isEnough, Cond.instanceMethod yX3_isEnough, Cond.selects RX3 yX3_isEnough yX3_isEnough, Cond.code yX3_isEnough cX3_isEnough 1 (some .boolean), Cond.fieldLink RX3 49 "FilmBench$Reel" "squares" "I", Cond.methodLink RX5 138 yX5_commonDivisor, Cond.static yX5_commonDivisor, Cond.code yX5_commonDivisor cX5_commonDivisor 6 (some .int)]
def wsX5_miss : List Cond := .code yX5_miss cX5_miss 6 (some .int) :: ((wsX5_miss_r1 ++ (wsX5_miss_r2 ++ wsX5_miss_r3)) ++ wsX50 ++ wsX30 ++ wsX10)
def wsX5_shift_r1 : List Cond := [Cond.fieldLink RX5 12 "FilmBench" "film" "LFilmBench$Reel;", Cond.fieldLink RX5 41 "FilmBench" "shifts" "LFilmBench$Shifts;", Cond.methodLink RX5 93 yX1_hasFrame, Cond.instanceMethod yX1_hasFrame, Cond.selects RX1 yX1_hasFrame yX1_hasFrame, Cond.initialized RX1, Cond.code yX1_hasFrame cX1_hasFrame 2 (some .boolean), Cond.fieldLink RX1 25 "FilmBench$Reel" "frames" "I", Cond.methodLink RX5 71 yX5_isWithin, Cond.static yX5_isWithin, Cond.initialized RX5, Cond.code yX5_isWithin cX5_isWithin 3 (some .boolean), Cond.methodLink RX5 141 yX3_find, Cond.instanceMethod yX3_find, Cond.selects RX3 yX3_find yX3_find, Cond.initialized RX3, Cond.code yX3_find cX3_find 4 none, Cond.fieldLink RX3 52 "FilmBench$Shifts" "bestX" "I", Cond.fieldLink RX3 55 "FilmBench$Shifts" "bestY" "I", Cond.fieldLink RX3 58 "FilmBench$Shifts" "bestPairs" "I", Cond.fieldLink RX3 15 "FilmBench$Shifts" "sum" "I", Cond.fieldLink RX3 73 "FilmBench$Shifts" "bestSum" "I", Cond.fieldLink RX3 19 "FilmBench$Shifts" "pairs" "I", Cond.methodLink RX3 61 yX3_measure]
def wsX5_shift_r2 : List Cond := [Cond.instanceMethod yX3_measure, Cond.selects RX3 yX3_measure yX3_measure, Cond.code yX3_measure cX3_measure 10 none, Cond.fieldLink RX3 9 "FilmBench$Shifts" "film" "LFilmBench$Reel;", Cond.fieldLink RX3 22 "FilmBench$Reel" "high" "I", Cond.methodLink RX3 27 Lib.Math.min.name, Cond.static Lib.Math.min.name, Cond.initialized "java/lang/Math", Cond.code Lib.Math.min.name Lib.Math.min.code 2 (some .int), Cond.fieldLink RX3 33 "FilmBench$Reel" "wide" "I", Cond.methodLink RX3 36 Lib.Math.max.name, Cond.static Lib.Math.max.name, Cond.code Lib.Math.max.name Lib.Math.max.code 2 (some .int), Cond.methodLink RX3 45 Lib.Math.abs.name, Cond.static Lib.Math.abs.name, Cond.code Lib.Math.abs.name Lib.Math.abs.code 1 (some .int), Cond.methodLink RX3 39 yX1_placeOf, Cond.instanceMethod yX1_placeOf, Cond.selects RX1 yX1_placeOf yX1_placeOf, Cond.code yX1_placeOf cX1_placeOf 3 (some .int), Cond.fieldLink RX1 15 "FilmBench$Reel" "high" "I", Cond.fieldLink RX1 19 "FilmBench$Reel" "wide" "I", Cond.methodLink RX3 42 yX1_greyAt, Cond.instanceMethod yX1_greyAt]
def wsX5_shift_r3 : List Cond := [Cond.selects RX1 yX1_greyAt yX1_greyAt, Cond.code yX1_greyAt cX1_greyAt 3 (some .int), Cond.fieldLink RX1 9 "FilmBench$Reel" "greys" "[I", Cond.methodLink RX1 28 yX1_hasFrame, Cond.methodLink RX1 32 yX1_hasPlace, Cond.instanceMethod yX1_hasPlace, Cond.selects RX1 yX1_hasPlace yX1_hasPlace, Cond.code yX1_hasPlace cX1_hasPlace 2 (some .boolean), Cond.fieldLink RX1 22 "FilmBench$Reel" "squares" "I", Cond.methodLink RX3 65 yX3_isEnough, Cond.instanceMethod yX3_isEnough, Cond.selects RX3 yX3_isEnough yX3_isEnough, Cond.code yX3_isEnough cX3_isEnough 1 (some .boolean), Cond.fieldLink RX3 49 "FilmBench$Reel" "squares" "I", Cond.methodLink RX3 69 yX3_isBetter, Cond.instanceMethod yX3_isBetter, Cond.selects RX3 yX3_isBetter yX3_isBetter, Cond.code yX3_isBetter cX3_isBetter 5 (some .boolean), Cond.methodLink RX5 145 yX3_along, Cond.instanceMethod yX3_along, Cond.selects RX3 yX3_along yX3_along, Cond.code yX3_along cX3_along 2 (some .int)]
def wsX5_shift : List Cond := .code yX5_shift cX5_shift 3 (some .int) :: ((wsX5_shift_r1 ++ (wsX5_shift_r2 ++ wsX5_shift_r3)) ++ wsX50 ++ wsX10 ++ wsX30)
def wsX5_drift_r1 : List Cond := [Cond.fieldLink RX5 12 "FilmBench" "film" "LFilmBench$Reel;", Cond.fieldLink RX5 41 "FilmBench" "shifts" "LFilmBench$Shifts;", Cond.methodLink RX5 93 yX1_hasFrame, Cond.instanceMethod yX1_hasFrame, Cond.selects RX1 yX1_hasFrame yX1_hasFrame, Cond.initialized RX1, Cond.code yX1_hasFrame cX1_hasFrame 2 (some .boolean), Cond.fieldLink RX1 25 "FilmBench$Reel" "frames" "I", Cond.methodLink RX5 71 yX5_isWithin, Cond.static yX5_isWithin, Cond.initialized RX5, Cond.code yX5_isWithin cX5_isWithin 3 (some .boolean), Cond.methodLink RX5 141 yX3_find, Cond.instanceMethod yX3_find, Cond.selects RX3 yX3_find yX3_find, Cond.initialized RX3, Cond.code yX3_find cX3_find 4 none, Cond.fieldLink RX3 52 "FilmBench$Shifts" "bestX" "I", Cond.fieldLink RX3 55 "FilmBench$Shifts" "bestY" "I", Cond.fieldLink RX3 58 "FilmBench$Shifts" "bestPairs" "I", Cond.fieldLink RX3 15 "FilmBench$Shifts" "sum" "I", Cond.fieldLink RX3 73 "FilmBench$Shifts" "bestSum" "I", Cond.fieldLink RX3 19 "FilmBench$Shifts" "pairs" "I", Cond.methodLink RX3 61 yX3_measure]
def wsX5_drift_r2 : List Cond := [Cond.instanceMethod yX3_measure, Cond.selects RX3 yX3_measure yX3_measure, Cond.code yX3_measure cX3_measure 10 none, Cond.fieldLink RX3 9 "FilmBench$Shifts" "film" "LFilmBench$Reel;", Cond.fieldLink RX3 22 "FilmBench$Reel" "high" "I", Cond.methodLink RX3 27 Lib.Math.min.name, Cond.static Lib.Math.min.name, Cond.initialized "java/lang/Math", Cond.code Lib.Math.min.name Lib.Math.min.code 2 (some .int), Cond.fieldLink RX3 33 "FilmBench$Reel" "wide" "I", Cond.methodLink RX3 36 Lib.Math.max.name, Cond.static Lib.Math.max.name, Cond.code Lib.Math.max.name Lib.Math.max.code 2 (some .int), Cond.methodLink RX3 45 Lib.Math.abs.name, Cond.static Lib.Math.abs.name, Cond.code Lib.Math.abs.name Lib.Math.abs.code 1 (some .int), Cond.methodLink RX3 39 yX1_placeOf, Cond.instanceMethod yX1_placeOf, Cond.selects RX1 yX1_placeOf yX1_placeOf, Cond.code yX1_placeOf cX1_placeOf 3 (some .int), Cond.fieldLink RX1 15 "FilmBench$Reel" "high" "I", Cond.fieldLink RX1 19 "FilmBench$Reel" "wide" "I", Cond.methodLink RX3 42 yX1_greyAt, Cond.instanceMethod yX1_greyAt]
def wsX5_drift_r3 : List Cond := [Cond.selects RX1 yX1_greyAt yX1_greyAt, Cond.code yX1_greyAt cX1_greyAt 3 (some .int), Cond.fieldLink RX1 9 "FilmBench$Reel" "greys" "[I", Cond.methodLink RX1 28 yX1_hasFrame, Cond.methodLink RX1 32 yX1_hasPlace, Cond.instanceMethod yX1_hasPlace, Cond.selects RX1 yX1_hasPlace yX1_hasPlace, Cond.code yX1_hasPlace cX1_hasPlace 2 (some .boolean), Cond.fieldLink RX1 22 "FilmBench$Reel" "squares" "I", Cond.methodLink RX3 65 yX3_isEnough, Cond.instanceMethod yX3_isEnough, Cond.selects RX3 yX3_isEnough yX3_isEnough, Cond.code yX3_isEnough cX3_isEnough 1 (some .boolean), Cond.fieldLink RX3 49 "FilmBench$Reel" "squares" "I", Cond.methodLink RX3 69 yX3_isBetter, Cond.instanceMethod yX3_isBetter, Cond.selects RX3 yX3_isBetter yX3_isBetter, Cond.code yX3_isBetter cX3_isBetter 5 (some .boolean), Cond.methodLink RX5 145 yX3_along, Cond.instanceMethod yX3_along, Cond.selects RX3 yX3_along yX3_along, Cond.code yX3_along cX3_along 2 (some .int)]
def wsX5_drift : List Cond := .code yX5_drift cX5_drift 5 (some .int) :: ((wsX5_drift_r1 ++ (wsX5_drift_r2 ++ wsX5_drift_r3)) ++ wsX50 ++ wsX10 ++ wsX30)
def wsX5_findPath_r1 : List Cond := [Cond.fieldLink RX5 12 "FilmBench" "film" "LFilmBench$Reel;", Cond.fieldLink RX5 86 "FilmBench$Reel" "frames" "I", Cond.fieldLink RX5 41 "FilmBench" "shifts" "LFilmBench$Shifts;", Cond.fieldLink RX5 48 "FilmBench" "steady" "LFilmBench$Steady;", Cond.fieldLink RX5 23 "FilmBench" "rules" "[I", Cond.methodLink RX5 141 yX3_find, Cond.instanceMethod yX3_find, Cond.selects RX3 yX3_find yX3_find, Cond.initialized RX3, Cond.code yX3_find cX3_find 4 none, Cond.fieldLink RX3 52 "FilmBench$Shifts" "bestX" "I", Cond.fieldLink RX3 55 "FilmBench$Shifts" "bestY" "I", Cond.fieldLink RX3 58 "FilmBench$Shifts" "bestPairs" "I", Cond.fieldLink RX3 15 "FilmBench$Shifts" "sum" "I", Cond.fieldLink RX3 73 "FilmBench$Shifts" "bestSum" "I", Cond.fieldLink RX3 19 "FilmBench$Shifts" "pairs" "I", Cond.methodLink RX3 61 yX3_measure, Cond.instanceMethod yX3_measure, Cond.selects RX3 yX3_measure yX3_measure, Cond.code yX3_measure cX3_measure 10 none, Cond.fieldLink RX3 9 "FilmBench$Shifts" "film" "LFilmBench$Reel;", Cond.fieldLink RX3 22 "FilmBench$Reel" "high" "I", Cond.methodLink RX3 27 Lib.Math.min.name, Cond.static Lib.Math.min.name]
def wsX5_findPath_r2 : List Cond := [Cond.initialized "java/lang/Math", Cond.code Lib.Math.min.name Lib.Math.min.code 2 (some .int), Cond.fieldLink RX3 33 "FilmBench$Reel" "wide" "I", Cond.methodLink RX3 36 Lib.Math.max.name, Cond.static Lib.Math.max.name, Cond.code Lib.Math.max.name Lib.Math.max.code 2 (some .int), Cond.methodLink RX3 45 Lib.Math.abs.name, Cond.static Lib.Math.abs.name, Cond.code Lib.Math.abs.name Lib.Math.abs.code 1 (some .int), Cond.methodLink RX3 39 yX1_placeOf, Cond.instanceMethod yX1_placeOf, Cond.selects RX1 yX1_placeOf yX1_placeOf, Cond.initialized RX1, Cond.code yX1_placeOf cX1_placeOf 3 (some .int), Cond.fieldLink RX1 15 "FilmBench$Reel" "high" "I", Cond.fieldLink RX1 19 "FilmBench$Reel" "wide" "I", Cond.methodLink RX3 42 yX1_greyAt, Cond.instanceMethod yX1_greyAt, Cond.selects RX1 yX1_greyAt yX1_greyAt, Cond.code yX1_greyAt cX1_greyAt 3 (some .int), Cond.fieldLink RX1 9 "FilmBench$Reel" "greys" "[I", Cond.methodLink RX1 28 yX1_hasFrame, Cond.instanceMethod yX1_hasFrame, Cond.selects RX1 yX1_hasFrame yX1_hasFrame]
def wsX5_findPath_r3 : List Cond := [Cond.code yX1_hasFrame cX1_hasFrame 2 (some .boolean), Cond.fieldLink RX1 25 "FilmBench$Reel" "frames" "I", Cond.methodLink RX1 32 yX1_hasPlace, Cond.instanceMethod yX1_hasPlace, Cond.selects RX1 yX1_hasPlace yX1_hasPlace, Cond.code yX1_hasPlace cX1_hasPlace 2 (some .boolean), Cond.fieldLink RX1 22 "FilmBench$Reel" "squares" "I", Cond.methodLink RX3 65 yX3_isEnough, Cond.instanceMethod yX3_isEnough, Cond.selects RX3 yX3_isEnough yX3_isEnough, Cond.code yX3_isEnough cX3_isEnough 1 (some .boolean), Cond.fieldLink RX3 49 "FilmBench$Reel" "squares" "I", Cond.methodLink RX3 69 yX3_isBetter, Cond.instanceMethod yX3_isBetter, Cond.selects RX3 yX3_isBetter yX3_isBetter, Cond.code yX3_isBetter cX3_isBetter 5 (some .boolean), Cond.methodLink RX5 145 yX3_along, Cond.instanceMethod yX3_along, Cond.selects RX3 yX3_along yX3_along, Cond.code yX3_along cX3_along 2 (some .int), Cond.methodLink RX5 223 yX4_setDrift, Cond.instanceMethod yX4_setDrift, Cond.selects RX4 yX4_setDrift yX4_setDrift, Cond.initialized RX4]
def wsX5_findPath_r4 : List Cond := [Cond.code yX4_setDrift cX4_setDrift 3 none, Cond.fieldLink RX4 11 "FilmBench$Steady" "drifts" "[I", Cond.methodLink RX5 226 yX4_solve, Cond.instanceMethod yX4_solve, Cond.selects RX4 yX4_solve yX4_solve, Cond.code yX4_solve cX4_solve 3 none, Cond.fieldLink RX4 21 "FilmBench$Steady" "frames" "I", Cond.fieldLink RX4 25 "FilmBench$Steady" "stray" "I", Cond.fieldLink RX4 28 "FilmBench$Steady" "choices" "I", Cond.fieldLink RX4 15 "FilmBench$Steady" "spots" "[I", Cond.methodLink RX4 31 arraycopyName, Cond.native arraycopyName, Cond.static arraycopyName, Cond.initialized "java/lang/System", Cond.methodLink RX4 37 yX4_findCosts, Cond.instanceMethod yX4_findCosts, Cond.selects RX4 yX4_findCosts yX4_findCosts, Cond.code yX4_findCosts cX4_findCosts 4 none, Cond.fieldLink RX4 18 "FilmBench$Steady" "costsBehind" "[I", Cond.methodLink RX4 43 yX4_slotOf, Cond.static yX4_slotOf, Cond.code yX4_slotOf cX4_slotOf 3 (some .int), Cond.methodLink RX4 47 yX4_leastCostBehind, Cond.instanceMethod yX4_leastCostBehind]
def wsX5_findPath_r5 : List Cond := [Cond.selects RX4 yX4_leastCostBehind yX4_leastCostBehind, Cond.code yX4_leastCostBehind cX4_leastCostBehind 6 (some .int), Cond.methodLink RX4 54 Lib.Math.min.name, Cond.methodLink RX4 50 yX4_costThrough, Cond.instanceMethod yX4_costThrough, Cond.selects RX4 yX4_costThrough yX4_costThrough, Cond.code yX4_costThrough cX4_costThrough 6 (some .int), Cond.methodLink RX4 63 Lib.Math.abs.name, Cond.methodLink RX4 60 yX4_spotOf, Cond.instanceMethod yX4_spotOf, Cond.selects RX4 yX4_spotOf yX4_spotOf, Cond.code yX4_spotOf cX4_spotOf 3 (some .int), Cond.methodLink RX4 40 yX4_takeChoices, Cond.instanceMethod yX4_takeChoices, Cond.selects RX4 yX4_takeChoices yX4_takeChoices, Cond.code yX4_takeChoices cX4_takeChoices 7 none, Cond.methodLink RX4 67 yX4_costOfStart, Cond.instanceMethod yX4_costOfStart, Cond.selects RX4 yX4_costOfStart yX4_costOfStart, Cond.code yX4_costOfStart cX4_costOfStart 3 (some .int), Cond.methodLink RX4 70 yX4_leastThird, Cond.instanceMethod yX4_leastThird, Cond.selects RX4 yX4_leastThird yX4_leastThird, Cond.code yX4_leastThird cX4_leastThird 6 (some .int)]
def wsX5_findPath : List Cond := .code yX5_findPath cX5_findPath 4 none :: ((wsX5_findPath_r1 ++ (wsX5_findPath_r2 ++ (wsX5_findPath_r3 ++ (wsX5_findPath_r4 ++ wsX5_findPath_r5)))) ++ wsX50 ++ wsX10 ++ wsX30 ++ wsX40)
def wsX5_path_r1 : List Cond := [Cond.fieldLink RX5 12 "FilmBench" "film" "LFilmBench$Reel;", Cond.fieldLink RX5 48 "FilmBench" "steady" "LFilmBench$Steady;", Cond.methodLink RX5 93 yX1_hasFrame, Cond.instanceMethod yX1_hasFrame, Cond.selects RX1 yX1_hasFrame yX1_hasFrame, Cond.initialized RX1, Cond.code yX1_hasFrame cX1_hasFrame 2 (some .boolean), Cond.fieldLink RX1 25 "FilmBench$Reel" "frames" "I", Cond.methodLink RX5 71 yX5_isWithin, Cond.static yX5_isWithin, Cond.initialized RX5, Cond.code yX5_isWithin cX5_isWithin 3 (some .boolean), Cond.methodLink RX5 149 yX5_findPath, Cond.instanceMethod yX5_findPath, Cond.selects RX5 yX5_findPath yX5_findPath, Cond.code yX5_findPath cX5_findPath 4 none, Cond.fieldLink RX5 86 "FilmBench$Reel" "frames" "I", Cond.fieldLink RX5 41 "FilmBench" "shifts" "LFilmBench$Shifts;", Cond.fieldLink RX5 23 "FilmBench" "rules" "[I", Cond.methodLink RX5 141 yX3_find, Cond.instanceMethod yX3_find, Cond.selects RX3 yX3_find yX3_find, Cond.initialized RX3, Cond.code yX3_find cX3_find 4 none]
def wsX5_path_r2 : List Cond := [Cond.fieldLink RX3 52 "FilmBench$Shifts" "bestX" "I", Cond.fieldLink RX3 55 "FilmBench$Shifts" "bestY" "I", Cond.fieldLink RX3 58 "FilmBench$Shifts" "bestPairs" "I", Cond.fieldLink RX3 15 "FilmBench$Shifts" "sum" "I", Cond.fieldLink RX3 73 "FilmBench$Shifts" "bestSum" "I", Cond.fieldLink RX3 19 "FilmBench$Shifts" "pairs" "I", Cond.methodLink RX3 61 yX3_measure, Cond.instanceMethod yX3_measure, Cond.selects RX3 yX3_measure yX3_measure, Cond.code yX3_measure cX3_measure 10 none, Cond.fieldLink RX3 9 "FilmBench$Shifts" "film" "LFilmBench$Reel;", Cond.fieldLink RX3 22 "FilmBench$Reel" "high" "I", Cond.methodLink RX3 27 Lib.Math.min.name, Cond.static Lib.Math.min.name, Cond.initialized "java/lang/Math", Cond.code Lib.Math.min.name Lib.Math.min.code 2 (some .int), Cond.fieldLink RX3 33 "FilmBench$Reel" "wide" "I", Cond.methodLink RX3 36 Lib.Math.max.name, Cond.static Lib.Math.max.name, Cond.code Lib.Math.max.name Lib.Math.max.code 2 (some .int), Cond.methodLink RX3 45 Lib.Math.abs.name, Cond.static Lib.Math.abs.name, Cond.code Lib.Math.abs.name Lib.Math.abs.code 1 (some .int), Cond.methodLink RX3 39 yX1_placeOf]
def wsX5_path_r3 : List Cond := [Cond.instanceMethod yX1_placeOf, Cond.selects RX1 yX1_placeOf yX1_placeOf, Cond.code yX1_placeOf cX1_placeOf 3 (some .int), Cond.fieldLink RX1 15 "FilmBench$Reel" "high" "I", Cond.fieldLink RX1 19 "FilmBench$Reel" "wide" "I", Cond.methodLink RX3 42 yX1_greyAt, Cond.instanceMethod yX1_greyAt, Cond.selects RX1 yX1_greyAt yX1_greyAt, Cond.code yX1_greyAt cX1_greyAt 3 (some .int), Cond.fieldLink RX1 9 "FilmBench$Reel" "greys" "[I", Cond.methodLink RX1 28 yX1_hasFrame, Cond.methodLink RX1 32 yX1_hasPlace, Cond.instanceMethod yX1_hasPlace, Cond.selects RX1 yX1_hasPlace yX1_hasPlace, Cond.code yX1_hasPlace cX1_hasPlace 2 (some .boolean), Cond.fieldLink RX1 22 "FilmBench$Reel" "squares" "I", Cond.methodLink RX3 65 yX3_isEnough, Cond.instanceMethod yX3_isEnough, Cond.selects RX3 yX3_isEnough yX3_isEnough, Cond.code yX3_isEnough cX3_isEnough 1 (some .boolean), Cond.fieldLink RX3 49 "FilmBench$Reel" "squares" "I", Cond.methodLink RX3 69 yX3_isBetter, Cond.instanceMethod yX3_isBetter, Cond.selects RX3 yX3_isBetter yX3_isBetter]
def wsX5_path_r4 : List Cond := [Cond.code yX3_isBetter cX3_isBetter 5 (some .boolean), Cond.methodLink RX5 145 yX3_along, Cond.instanceMethod yX3_along, Cond.selects RX3 yX3_along yX3_along, Cond.code yX3_along cX3_along 2 (some .int), Cond.methodLink RX5 223 yX4_setDrift, Cond.instanceMethod yX4_setDrift, Cond.selects RX4 yX4_setDrift yX4_setDrift, Cond.initialized RX4, Cond.code yX4_setDrift cX4_setDrift 3 none, Cond.fieldLink RX4 11 "FilmBench$Steady" "drifts" "[I", Cond.methodLink RX5 226 yX4_solve, Cond.instanceMethod yX4_solve, Cond.selects RX4 yX4_solve yX4_solve, Cond.code yX4_solve cX4_solve 3 none, Cond.fieldLink RX4 21 "FilmBench$Steady" "frames" "I", Cond.fieldLink RX4 25 "FilmBench$Steady" "stray" "I", Cond.fieldLink RX4 28 "FilmBench$Steady" "choices" "I", Cond.fieldLink RX4 15 "FilmBench$Steady" "spots" "[I", Cond.methodLink RX4 31 arraycopyName, Cond.native arraycopyName, Cond.static arraycopyName, Cond.initialized "java/lang/System", Cond.methodLink RX4 37 yX4_findCosts]
def wsX5_path_r5 : List Cond := [Cond.instanceMethod yX4_findCosts, Cond.selects RX4 yX4_findCosts yX4_findCosts, Cond.code yX4_findCosts cX4_findCosts 4 none, Cond.fieldLink RX4 18 "FilmBench$Steady" "costsBehind" "[I", Cond.methodLink RX4 43 yX4_slotOf, Cond.static yX4_slotOf, Cond.code yX4_slotOf cX4_slotOf 3 (some .int), Cond.methodLink RX4 47 yX4_leastCostBehind, Cond.instanceMethod yX4_leastCostBehind, Cond.selects RX4 yX4_leastCostBehind yX4_leastCostBehind, Cond.code yX4_leastCostBehind cX4_leastCostBehind 6 (some .int), Cond.methodLink RX4 54 Lib.Math.min.name, Cond.methodLink RX4 50 yX4_costThrough, Cond.instanceMethod yX4_costThrough, Cond.selects RX4 yX4_costThrough yX4_costThrough, Cond.code yX4_costThrough cX4_costThrough 6 (some .int), Cond.methodLink RX4 63 Lib.Math.abs.name, Cond.methodLink RX4 60 yX4_spotOf, Cond.instanceMethod yX4_spotOf, Cond.selects RX4 yX4_spotOf yX4_spotOf, Cond.code yX4_spotOf cX4_spotOf 3 (some .int), Cond.methodLink RX4 40 yX4_takeChoices, Cond.instanceMethod yX4_takeChoices, Cond.selects RX4 yX4_takeChoices yX4_takeChoices]
def wsX5_path_r6 : List Cond := [Cond.code yX4_takeChoices cX4_takeChoices 7 none, Cond.methodLink RX4 67 yX4_costOfStart, Cond.instanceMethod yX4_costOfStart, Cond.selects RX4 yX4_costOfStart yX4_costOfStart, Cond.code yX4_costOfStart cX4_costOfStart 3 (some .int), Cond.methodLink RX4 70 yX4_leastThird, Cond.instanceMethod yX4_leastThird, Cond.selects RX4 yX4_leastThird yX4_leastThird, Cond.code yX4_leastThird cX4_leastThird 6 (some .int), Cond.methodLink RX5 152 yX4_spotAt, Cond.instanceMethod yX4_spotAt, Cond.selects RX4 yX4_spotAt yX4_spotAt, Cond.code yX4_spotAt cX4_spotAt 2 (some .int)]
def wsX5_path : List Cond := .code yX5_path cX5_path 3 (some .int) :: ((wsX5_path_r1 ++ (wsX5_path_r2 ++ (wsX5_path_r3 ++ (wsX5_path_r4 ++ (wsX5_path_r5 ++ wsX5_path_r6))))) ++ wsX50 ++ wsX10 ++ wsX30 ++ wsX40)
def wsX5_bends_r1 : List Cond := [Cond.fieldLink RX5 48 "FilmBench" "steady" "LFilmBench$Steady;", Cond.methodLink RX5 71 yX5_isWithin, Cond.static yX5_isWithin, Cond.initialized RX5, Cond.code yX5_isWithin cX5_isWithin 3 (some .boolean), Cond.methodLink RX5 149 yX5_findPath, Cond.instanceMethod yX5_findPath, Cond.selects RX5 yX5_findPath yX5_findPath, Cond.code yX5_findPath cX5_findPath 4 none, Cond.fieldLink RX5 12 "FilmBench" "film" "LFilmBench$Reel;", Cond.fieldLink RX5 86 "FilmBench$Reel" "frames" "I", Cond.fieldLink RX5 41 "FilmBench" "shifts" "LFilmBench$Shifts;", Cond.fieldLink RX5 23 "FilmBench" "rules" "[I", Cond.methodLink RX5 141 yX3_find, Cond.instanceMethod yX3_find, Cond.selects RX3 yX3_find yX3_find, Cond.initialized RX3, Cond.code yX3_find cX3_find 4 none, Cond.fieldLink RX3 52 "FilmBench$Shifts" "bestX" "I", Cond.fieldLink RX3 55 "FilmBench$Shifts" "bestY" "I", Cond.fieldLink RX3 58 "FilmBench$Shifts" "bestPairs" "I", Cond.fieldLink RX3 15 "FilmBench$Shifts" "sum" "I", Cond.fieldLink RX3 73 "FilmBench$Shifts" "bestSum" "I", Cond.fieldLink RX3 19 "FilmBench$Shifts" "pairs" "I"]
def wsX5_bends_r2 : List Cond := [Cond.methodLink RX3 61 yX3_measure, Cond.instanceMethod yX3_measure, Cond.selects RX3 yX3_measure yX3_measure, Cond.code yX3_measure cX3_measure 10 none, Cond.fieldLink RX3 9 "FilmBench$Shifts" "film" "LFilmBench$Reel;", Cond.fieldLink RX3 22 "FilmBench$Reel" "high" "I", Cond.methodLink RX3 27 Lib.Math.min.name, Cond.static Lib.Math.min.name, Cond.initialized "java/lang/Math", Cond.code Lib.Math.min.name Lib.Math.min.code 2 (some .int), Cond.fieldLink RX3 33 "FilmBench$Reel" "wide" "I", Cond.methodLink RX3 36 Lib.Math.max.name, Cond.static Lib.Math.max.name, Cond.code Lib.Math.max.name Lib.Math.max.code 2 (some .int), Cond.methodLink RX3 45 Lib.Math.abs.name, Cond.static Lib.Math.abs.name, Cond.code Lib.Math.abs.name Lib.Math.abs.code 1 (some .int), Cond.methodLink RX3 39 yX1_placeOf, Cond.instanceMethod yX1_placeOf, Cond.selects RX1 yX1_placeOf yX1_placeOf, Cond.initialized RX1, Cond.code yX1_placeOf cX1_placeOf 3 (some .int), Cond.fieldLink RX1 15 "FilmBench$Reel" "high" "I", Cond.fieldLink RX1 19 "FilmBench$Reel" "wide" "I"]
def wsX5_bends_r3 : List Cond := [Cond.methodLink RX3 42 yX1_greyAt, Cond.instanceMethod yX1_greyAt, Cond.selects RX1 yX1_greyAt yX1_greyAt, Cond.code yX1_greyAt cX1_greyAt 3 (some .int), Cond.fieldLink RX1 9 "FilmBench$Reel" "greys" "[I", Cond.methodLink RX1 28 yX1_hasFrame, Cond.instanceMethod yX1_hasFrame, Cond.selects RX1 yX1_hasFrame yX1_hasFrame, Cond.code yX1_hasFrame cX1_hasFrame 2 (some .boolean), Cond.fieldLink RX1 25 "FilmBench$Reel" "frames" "I", Cond.methodLink RX1 32 yX1_hasPlace, Cond.instanceMethod yX1_hasPlace, Cond.selects RX1 yX1_hasPlace yX1_hasPlace, Cond.code yX1_hasPlace cX1_hasPlace 2 (some .boolean), Cond.fieldLink RX1 22 "FilmBench$Reel" "squares" "I", Cond.methodLink RX3 65 yX3_isEnough, Cond.instanceMethod yX3_isEnough, Cond.selects RX3 yX3_isEnough yX3_isEnough, Cond.code yX3_isEnough cX3_isEnough 1 (some .boolean), Cond.fieldLink RX3 49 "FilmBench$Reel" "squares" "I", Cond.methodLink RX3 69 yX3_isBetter, Cond.instanceMethod yX3_isBetter, Cond.selects RX3 yX3_isBetter yX3_isBetter, Cond.code yX3_isBetter cX3_isBetter 5 (some .boolean)]
def wsX5_bends_r4 : List Cond := [Cond.methodLink RX5 145 yX3_along, Cond.instanceMethod yX3_along, Cond.selects RX3 yX3_along yX3_along, Cond.code yX3_along cX3_along 2 (some .int), Cond.methodLink RX5 223 yX4_setDrift, Cond.instanceMethod yX4_setDrift, Cond.selects RX4 yX4_setDrift yX4_setDrift, Cond.initialized RX4, Cond.code yX4_setDrift cX4_setDrift 3 none, Cond.fieldLink RX4 11 "FilmBench$Steady" "drifts" "[I", Cond.methodLink RX5 226 yX4_solve, Cond.instanceMethod yX4_solve, Cond.selects RX4 yX4_solve yX4_solve, Cond.code yX4_solve cX4_solve 3 none, Cond.fieldLink RX4 21 "FilmBench$Steady" "frames" "I", Cond.fieldLink RX4 25 "FilmBench$Steady" "stray" "I", Cond.fieldLink RX4 28 "FilmBench$Steady" "choices" "I", Cond.fieldLink RX4 15 "FilmBench$Steady" "spots" "[I", Cond.methodLink RX4 31 arraycopyName, Cond.native arraycopyName, Cond.static arraycopyName, Cond.initialized "java/lang/System", Cond.methodLink RX4 37 yX4_findCosts, Cond.instanceMethod yX4_findCosts]
def wsX5_bends_r5 : List Cond := [Cond.selects RX4 yX4_findCosts yX4_findCosts, Cond.code yX4_findCosts cX4_findCosts 4 none, Cond.fieldLink RX4 18 "FilmBench$Steady" "costsBehind" "[I", Cond.methodLink RX4 43 yX4_slotOf, Cond.static yX4_slotOf, Cond.code yX4_slotOf cX4_slotOf 3 (some .int), Cond.methodLink RX4 47 yX4_leastCostBehind, Cond.instanceMethod yX4_leastCostBehind, Cond.selects RX4 yX4_leastCostBehind yX4_leastCostBehind, Cond.code yX4_leastCostBehind cX4_leastCostBehind 6 (some .int), Cond.methodLink RX4 54 Lib.Math.min.name, Cond.methodLink RX4 50 yX4_costThrough, Cond.instanceMethod yX4_costThrough, Cond.selects RX4 yX4_costThrough yX4_costThrough, Cond.code yX4_costThrough cX4_costThrough 6 (some .int), Cond.methodLink RX4 63 Lib.Math.abs.name, Cond.methodLink RX4 60 yX4_spotOf, Cond.instanceMethod yX4_spotOf, Cond.selects RX4 yX4_spotOf yX4_spotOf, Cond.code yX4_spotOf cX4_spotOf 3 (some .int), Cond.methodLink RX4 40 yX4_takeChoices, Cond.instanceMethod yX4_takeChoices, Cond.selects RX4 yX4_takeChoices yX4_takeChoices, Cond.code yX4_takeChoices cX4_takeChoices 7 none]
def wsX5_bends_r6 : List Cond := [Cond.methodLink RX4 67 yX4_costOfStart, Cond.instanceMethod yX4_costOfStart, Cond.selects RX4 yX4_costOfStart yX4_costOfStart, Cond.code yX4_costOfStart cX4_costOfStart 3 (some .int), Cond.methodLink RX4 70 yX4_leastThird, Cond.instanceMethod yX4_leastThird, Cond.selects RX4 yX4_leastThird yX4_leastThird, Cond.code yX4_leastThird cX4_leastThird 6 (some .int), Cond.methodLink RX5 155 yX4_sumOfBends, Cond.instanceMethod yX4_sumOfBends, Cond.selects RX4 yX4_sumOfBends yX4_sumOfBends, Cond.code yX4_sumOfBends cX4_sumOfBends 3 (some .int), Cond.methodLink RX5 158 yX4_sumOfStrays, Cond.instanceMethod yX4_sumOfStrays, Cond.selects RX4 yX4_sumOfStrays yX4_sumOfStrays, Cond.code yX4_sumOfStrays cX4_sumOfStrays 3 (some .int)]
def wsX5_bends : List Cond := .code yX5_bends cX5_bends 3 (some .int) :: ((wsX5_bends_r1 ++ (wsX5_bends_r2 ++ (wsX5_bends_r3 ++ (wsX5_bends_r4 ++ (wsX5_bends_r5 ++ wsX5_bends_r6))))) ++ wsX50 ++ wsX10 ++ wsX30 ++ wsX40)
def wsX5_dust_r1 : List Cond := [Cond.fieldLink RX5 12 "FilmBench" "film" "LFilmBench$Reel;", Cond.fieldLink RX5 83 "FilmBench$Reel" "squares" "I", Cond.fieldLink RX5 57 "FilmBench" "sheet" "LFilmBench$Sheet;", Cond.methodLink RX5 93 yX1_hasFrame, Cond.instanceMethod yX1_hasFrame, Cond.selects RX1 yX1_hasFrame yX1_hasFrame, Cond.initialized RX1, Cond.code yX1_hasFrame cX1_hasFrame 2 (some .boolean), Cond.fieldLink RX1 25 "FilmBench$Reel" "frames" "I", Cond.methodLink RX5 97 yX1_greyAt, Cond.instanceMethod yX1_greyAt, Cond.selects RX1 yX1_greyAt yX1_greyAt, Cond.code yX1_greyAt cX1_greyAt 3 (some .int), Cond.fieldLink RX1 9 "FilmBench$Reel" "greys" "[I", Cond.methodLink RX1 28 yX1_hasFrame, Cond.methodLink RX1 32 yX1_hasPlace, Cond.instanceMethod yX1_hasPlace, Cond.selects RX1 yX1_hasPlace yX1_hasPlace, Cond.code yX1_hasPlace cX1_hasPlace 2 (some .boolean), Cond.fieldLink RX1 22 "FilmBench$Reel" "squares" "I", Cond.methodLink RX5 161 yX2_isDust, Cond.instanceMethod yX2_isDust, Cond.selects RX2 yX2_isDust yX2_isDust, Cond.initialized RX2]
def wsX5_dust_r2 : List Cond := [Cond.code yX2_isDust cX2_isDust 6 (some .boolean), Cond.fieldLink RX2 9 "FilmBench$Sheet" "film" "LFilmBench$Reel;", Cond.methodLink RX2 90 Lib.Math.abs.name, Cond.static Lib.Math.abs.name, Cond.initialized "java/lang/Math", Cond.code Lib.Math.abs.name Lib.Math.abs.code 1 (some .int), Cond.fieldLink RX2 19 "FilmBench$Sheet" "rules" "[I", Cond.methodLink RX2 38 yX1_greyAt]
def wsX5_dust : List Cond := .code yX5_dust cX5_dust 4 (some .int) :: ((wsX5_dust_r1 ++ wsX5_dust_r2) ++ wsX50 ++ wsX10 ++ wsX20)
def wsX5_layer : List Cond := .code yX5_layer cX5_layer 5 (some .int) :: ([.fieldLink RX5 12 "FilmBench" "film" "LFilmBench$Reel;", .fieldLink RX5 19 "FilmBench" "layers" "LFilmBench$Layers;", .fieldLink RX5 79 "FilmBench$Layers" "count" "I", .methodLink RX5 71 yX5_isWithin, .static yX5_isWithin, .initialized RX5, .code yX5_isWithin cX5_isWithin 3 (some .boolean), .methodLink RX5 93 yX1_hasFrame, .instanceMethod yX1_hasFrame, .selects RX1 yX1_hasFrame yX1_hasFrame, .initialized RX1, .code yX1_hasFrame cX1_hasFrame 2 (some .boolean), .fieldLink RX1 25 "FilmBench$Reel" "frames" "I", .methodLink RX5 164 yX0_add, .instanceMethod yX0_add, .selects RX0 yX0_add yX0_add, .initialized RX0, .code yX0_add cX0_add 6 (some .int), .fieldLink RX0 9 "FilmBench$Layers" "count" "I", .fieldLink RX0 15 "FilmBench$Layers" "kinds" "[I", .fieldLink RX0 19 "FilmBench$Layers" "owners" "[I", .fieldLink RX0 22 "FilmBench$Layers" "as" "[I", .fieldLink RX0 25 "FilmBench$Layers" "bs" "[I", .fieldLink RX0 28 "FilmBench$Layers" "ons" "[Z"] ++ wsX50 ++ wsX00 ++ wsX10)
def wsX5_on : List Cond := .code yX5_on cX5_on 4 (some .int) :: ([.fieldLink RX5 19 "FilmBench" "layers" "LFilmBench$Layers;", .fieldLink RX5 171 "FilmBench$Layers" "ons" "[Z", .methodLink RX5 168 yX0_has, .instanceMethod yX0_has, .selects RX0 yX0_has yX0_has, .initialized RX0, .code yX0_has cX0_has 2 (some .boolean), .fieldLink RX0 9 "FilmBench$Layers" "count" "I"] ++ wsX50 ++ wsX00)
def wsX5_peel : List Cond := .code yX5_peel cX5_peel 1 (some .int) :: ([.fieldLink RX5 19 "FilmBench" "layers" "LFilmBench$Layers;", .fieldLink RX5 79 "FilmBench$Layers" "count" "I"] ++ wsX50 ++ wsX00)
def wsX5_made_r1 : List Cond := [Cond.fieldLink RX5 12 "FilmBench" "film" "LFilmBench$Reel;", Cond.fieldLink RX5 57 "FilmBench" "sheet" "LFilmBench$Sheet;", Cond.fieldLink RX5 19 "FilmBench" "layers" "LFilmBench$Layers;", Cond.fieldLink RX5 79 "FilmBench$Layers" "count" "I", Cond.methodLink RX5 113 yX1_placeOf, Cond.instanceMethod yX1_placeOf, Cond.selects RX1 yX1_placeOf yX1_placeOf, Cond.initialized RX1, Cond.code yX1_placeOf cX1_placeOf 3 (some .int), Cond.fieldLink RX1 15 "FilmBench$Reel" "high" "I", Cond.fieldLink RX1 19 "FilmBench$Reel" "wide" "I", Cond.methodLink RX5 93 yX1_hasFrame, Cond.instanceMethod yX1_hasFrame, Cond.selects RX1 yX1_hasFrame yX1_hasFrame, Cond.code yX1_hasFrame cX1_hasFrame 2 (some .boolean), Cond.fieldLink RX1 25 "FilmBench$Reel" "frames" "I", Cond.methodLink RX5 175 yX2_make, Cond.instanceMethod yX2_make, Cond.selects RX2 yX2_make yX2_make, Cond.initialized RX2, Cond.code yX2_make cX2_make 4 none, Cond.fieldLink RX2 9 "FilmBench$Sheet" "film" "LFilmBench$Reel;", Cond.fieldLink RX2 32 "FilmBench$Reel" "squares" "I", Cond.fieldLink RX2 23 "FilmBench$Sheet" "now" "[I"]
def wsX5_made_r2 : List Cond := [Cond.fieldLink RX2 15 "FilmBench$Sheet" "layers" "LFilmBench$Layers;", Cond.fieldLink RX2 42 "FilmBench$Layers" "count" "I", Cond.fieldLink RX2 47 "FilmBench$Layers" "owners" "[I", Cond.fieldLink RX2 50 "FilmBench$Layers" "ons" "[Z", Cond.methodLink RX2 38 yX1_greyAt, Cond.instanceMethod yX1_greyAt, Cond.selects RX1 yX1_greyAt yX1_greyAt, Cond.code yX1_greyAt cX1_greyAt 3 (some .int), Cond.fieldLink RX1 9 "FilmBench$Reel" "greys" "[I", Cond.methodLink RX1 28 yX1_hasFrame, Cond.methodLink RX1 32 yX1_hasPlace, Cond.instanceMethod yX1_hasPlace, Cond.selects RX1 yX1_hasPlace yX1_hasPlace, Cond.code yX1_hasPlace cX1_hasPlace 2 (some .boolean), Cond.fieldLink RX1 22 "FilmBench$Reel" "squares" "I", Cond.methodLink RX2 54 yX2_apply, Cond.instanceMethod yX2_apply, Cond.selects RX2 yX2_apply yX2_apply, Cond.code yX2_apply cX2_apply 3 none, Cond.fieldLink RX2 26 "FilmBench$Sheet" "before" "[I", Cond.methodLink RX2 58 arraycopyName, Cond.native arraycopyName, Cond.static arraycopyName, Cond.initialized "java/lang/System"]
def wsX5_made_r3 : List Cond := [Cond.fieldLink RX2 64 "FilmBench$Layers" "kinds" "[I", Cond.fieldLink RX2 70 "FilmBench$Layers" "as" "[I", Cond.fieldLink RX2 79 "FilmBench$Layers" "bs" "[I", Cond.methodLink RX2 67 yX2_cleanDust, Cond.instanceMethod yX2_cleanDust, Cond.selects RX2 yX2_cleanDust yX2_cleanDust, Cond.code yX2_cleanDust cX2_cleanDust 3 none, Cond.methodLink RX2 86 yX2_isDust, Cond.instanceMethod yX2_isDust, Cond.selects RX2 yX2_isDust yX2_isDust, Cond.code yX2_isDust cX2_isDust 6 (some .boolean), Cond.methodLink RX2 90 Lib.Math.abs.name, Cond.static Lib.Math.abs.name, Cond.initialized "java/lang/Math", Cond.code Lib.Math.abs.name Lib.Math.abs.code 1 (some .int), Cond.fieldLink RX2 19 "FilmBench$Sheet" "rules" "[I", Cond.methodLink RX2 73 yX2_matchLevels, Cond.instanceMethod yX2_matchLevels, Cond.selects RX2 yX2_matchLevels yX2_matchLevels, Cond.code yX2_matchLevels cX2_matchLevels 6 none, Cond.fieldLink RX2 29 "FilmBench$Sheet" "rising" "[I", Cond.methodLink RX2 96 yX2_sortGreysOf, Cond.instanceMethod yX2_sortGreysOf, Cond.selects RX2 yX2_sortGreysOf yX2_sortGreysOf]
def wsX5_made_r4 : List Cond := [Cond.code yX2_sortGreysOf cX2_sortGreysOf 6 (some .int), Cond.methodLink RX2 99 yX2_countLost, Cond.instanceMethod yX2_countLost, Cond.selects RX2 yX2_countLost yX2_countLost, Cond.code yX2_countLost cX2_countLost 3 (some .int), Cond.methodLink RX2 103 yX2_middleRankOf, Cond.instanceMethod yX2_middleRankOf, Cond.selects RX2 yX2_middleRankOf yX2_middleRankOf, Cond.code yX2_middleRankOf cX2_middleRankOf 5 (some .int), Cond.methodLink RX2 76 yX2_fillLost, Cond.instanceMethod yX2_fillLost, Cond.selects RX2 yX2_fillLost yX2_fillLost, Cond.code yX2_fillLost cX2_fillLost 4 none, Cond.methodLink RX2 82 yX2_moveAll, Cond.instanceMethod yX2_moveAll, Cond.selects RX2 yX2_moveAll yX2_moveAll, Cond.code yX2_moveAll cX2_moveAll 6 none, Cond.fieldLink RX2 106 "FilmBench$Reel" "high" "I", Cond.fieldLink RX2 109 "FilmBench$Reel" "wide" "I", Cond.methodLink RX2 112 yX1_placeOf, Cond.methodLink RX2 115 yX1_hasPlace, Cond.methodLink RX5 178 yX2_greyAt, Cond.instanceMethod yX2_greyAt, Cond.selects RX2 yX2_greyAt yX2_greyAt]
def wsX5_made_r5 : List Cond := [Cond.code yX2_greyAt cX2_greyAt 2 (some .int)]
def wsX5_made : List Cond := .code yX5_made cX5_made 5 (some .int) :: ((wsX5_made_r1 ++ (wsX5_made_r2 ++ (wsX5_made_r3 ++ (wsX5_made_r4 ++ wsX5_made_r5)))) ++ wsX50 ++ wsX00 ++ wsX10 ++ wsX20)
def wsX5_changed_r1 : List Cond := [Cond.fieldLink RX5 19 "FilmBench" "layers" "LFilmBench$Layers;", Cond.fieldLink RX5 171 "FilmBench$Layers" "ons" "[Z", Cond.fieldLink RX5 57 "FilmBench" "sheet" "LFilmBench$Sheet;", Cond.fieldLink RX5 180 "FilmBench$Layers" "owners" "[I", Cond.methodLink RX5 168 yX0_has, Cond.instanceMethod yX0_has, Cond.selects RX0 yX0_has yX0_has, Cond.initialized RX0, Cond.code yX0_has cX0_has 2 (some .boolean), Cond.fieldLink RX0 9 "FilmBench$Layers" "count" "I", Cond.methodLink RX5 175 yX2_make, Cond.instanceMethod yX2_make, Cond.selects RX2 yX2_make yX2_make, Cond.initialized RX2, Cond.code yX2_make cX2_make 4 none, Cond.fieldLink RX2 9 "FilmBench$Sheet" "film" "LFilmBench$Reel;", Cond.fieldLink RX2 32 "FilmBench$Reel" "squares" "I", Cond.fieldLink RX2 23 "FilmBench$Sheet" "now" "[I", Cond.fieldLink RX2 15 "FilmBench$Sheet" "layers" "LFilmBench$Layers;", Cond.fieldLink RX2 42 "FilmBench$Layers" "count" "I", Cond.fieldLink RX2 47 "FilmBench$Layers" "owners" "[I", Cond.fieldLink RX2 50 "FilmBench$Layers" "ons" "[Z", Cond.methodLink RX2 38 yX1_greyAt, Cond.instanceMethod yX1_greyAt]
def wsX5_changed_r2 : List Cond := [Cond.selects RX1 yX1_greyAt yX1_greyAt, Cond.initialized RX1, Cond.code yX1_greyAt cX1_greyAt 3 (some .int), Cond.fieldLink RX1 9 "FilmBench$Reel" "greys" "[I", Cond.methodLink RX1 28 yX1_hasFrame, Cond.instanceMethod yX1_hasFrame, Cond.selects RX1 yX1_hasFrame yX1_hasFrame, Cond.code yX1_hasFrame cX1_hasFrame 2 (some .boolean), Cond.fieldLink RX1 25 "FilmBench$Reel" "frames" "I", Cond.methodLink RX1 32 yX1_hasPlace, Cond.instanceMethod yX1_hasPlace, Cond.selects RX1 yX1_hasPlace yX1_hasPlace, Cond.code yX1_hasPlace cX1_hasPlace 2 (some .boolean), Cond.fieldLink RX1 22 "FilmBench$Reel" "squares" "I", Cond.methodLink RX2 54 yX2_apply, Cond.instanceMethod yX2_apply, Cond.selects RX2 yX2_apply yX2_apply, Cond.code yX2_apply cX2_apply 3 none, Cond.fieldLink RX2 26 "FilmBench$Sheet" "before" "[I", Cond.methodLink RX2 58 arraycopyName, Cond.native arraycopyName, Cond.static arraycopyName, Cond.initialized "java/lang/System", Cond.fieldLink RX2 64 "FilmBench$Layers" "kinds" "[I"]
def wsX5_changed_r3 : List Cond := [Cond.fieldLink RX2 70 "FilmBench$Layers" "as" "[I", Cond.fieldLink RX2 79 "FilmBench$Layers" "bs" "[I", Cond.methodLink RX2 67 yX2_cleanDust, Cond.instanceMethod yX2_cleanDust, Cond.selects RX2 yX2_cleanDust yX2_cleanDust, Cond.code yX2_cleanDust cX2_cleanDust 3 none, Cond.methodLink RX2 86 yX2_isDust, Cond.instanceMethod yX2_isDust, Cond.selects RX2 yX2_isDust yX2_isDust, Cond.code yX2_isDust cX2_isDust 6 (some .boolean), Cond.methodLink RX2 90 Lib.Math.abs.name, Cond.static Lib.Math.abs.name, Cond.initialized "java/lang/Math", Cond.code Lib.Math.abs.name Lib.Math.abs.code 1 (some .int), Cond.fieldLink RX2 19 "FilmBench$Sheet" "rules" "[I", Cond.methodLink RX2 73 yX2_matchLevels, Cond.instanceMethod yX2_matchLevels, Cond.selects RX2 yX2_matchLevels yX2_matchLevels, Cond.code yX2_matchLevels cX2_matchLevels 6 none, Cond.fieldLink RX2 29 "FilmBench$Sheet" "rising" "[I", Cond.methodLink RX2 96 yX2_sortGreysOf, Cond.instanceMethod yX2_sortGreysOf, Cond.selects RX2 yX2_sortGreysOf yX2_sortGreysOf, Cond.code yX2_sortGreysOf cX2_sortGreysOf 6 (some .int)]
def wsX5_changed_r4 : List Cond := [Cond.methodLink RX2 99 yX2_countLost, Cond.instanceMethod yX2_countLost, Cond.selects RX2 yX2_countLost yX2_countLost, Cond.code yX2_countLost cX2_countLost 3 (some .int), Cond.methodLink RX2 103 yX2_middleRankOf, Cond.instanceMethod yX2_middleRankOf, Cond.selects RX2 yX2_middleRankOf yX2_middleRankOf, Cond.code yX2_middleRankOf cX2_middleRankOf 5 (some .int), Cond.methodLink RX2 76 yX2_fillLost, Cond.instanceMethod yX2_fillLost, Cond.selects RX2 yX2_fillLost yX2_fillLost, Cond.code yX2_fillLost cX2_fillLost 4 none, Cond.methodLink RX2 82 yX2_moveAll, Cond.instanceMethod yX2_moveAll, Cond.selects RX2 yX2_moveAll yX2_moveAll, Cond.code yX2_moveAll cX2_moveAll 6 none, Cond.fieldLink RX2 106 "FilmBench$Reel" "high" "I", Cond.fieldLink RX2 109 "FilmBench$Reel" "wide" "I", Cond.methodLink RX2 112 yX1_placeOf, Cond.instanceMethod yX1_placeOf, Cond.selects RX1 yX1_placeOf yX1_placeOf, Cond.code yX1_placeOf cX1_placeOf 3 (some .int), Cond.fieldLink RX1 15 "FilmBench$Reel" "high" "I", Cond.fieldLink RX1 19 "FilmBench$Reel" "wide" "I"]
def wsX5_changed_r5 : List Cond := [Cond.methodLink RX2 115 yX1_hasPlace, Cond.methodLink RX5 183 yX2_countChanged, Cond.instanceMethod yX2_countChanged, Cond.selects RX2 yX2_countChanged yX2_countChanged, Cond.code yX2_countChanged cX2_countChanged 3 (some .int)]
def wsX5_changed : List Cond := .code yX5_changed cX5_changed 2 (some .int) :: ((wsX5_changed_r1 ++ (wsX5_changed_r2 ++ (wsX5_changed_r3 ++ (wsX5_changed_r4 ++ wsX5_changed_r5)))) ++ wsX50 ++ wsX00 ++ wsX20 ++ wsX10)
def wsX5_of : List Cond := .code yX5_of cX5_of 3 (some .int) :: ([.fieldLink RX5 19 "FilmBench" "layers" "LFilmBench$Layers;", .fieldLink RX5 186 "FilmBench$Layers" "kinds" "[I", .fieldLink RX5 180 "FilmBench$Layers" "owners" "[I", .fieldLink RX5 189 "FilmBench$Layers" "as" "[I", .fieldLink RX5 192 "FilmBench$Layers" "bs" "[I", .fieldLink RX5 171 "FilmBench$Layers" "ons" "[Z", .methodLink RX5 168 yX0_has, .instanceMethod yX0_has, .selects RX0 yX0_has yX0_has, .initialized RX0, .code yX0_has cX0_has 2 (some .boolean), .fieldLink RX0 9 "FilmBench$Layers" "count" "I"] ++ wsX50 ++ wsX00)
def wsX5_told_r1 : List Cond := [Cond.fieldLink RX5 12 "FilmBench" "film" "LFilmBench$Reel;", Cond.fieldLink RX5 57 "FilmBench" "sheet" "LFilmBench$Sheet;", Cond.fieldLink RX5 19 "FilmBench" "layers" "LFilmBench$Layers;", Cond.fieldLink RX5 79 "FilmBench$Layers" "count" "I", Cond.fieldLink RX5 83 "FilmBench$Reel" "squares" "I", Cond.methodLink RX5 93 yX1_hasFrame, Cond.instanceMethod yX1_hasFrame, Cond.selects RX1 yX1_hasFrame yX1_hasFrame, Cond.initialized RX1, Cond.code yX1_hasFrame cX1_hasFrame 2 (some .boolean), Cond.fieldLink RX1 25 "FilmBench$Reel" "frames" "I", Cond.methodLink RX5 71 yX5_isWithin, Cond.static yX5_isWithin, Cond.initialized RX5, Cond.code yX5_isWithin cX5_isWithin 3 (some .boolean), Cond.methodLink RX5 175 yX2_make, Cond.instanceMethod yX2_make, Cond.selects RX2 yX2_make yX2_make, Cond.initialized RX2, Cond.code yX2_make cX2_make 4 none, Cond.fieldLink RX2 9 "FilmBench$Sheet" "film" "LFilmBench$Reel;", Cond.fieldLink RX2 32 "FilmBench$Reel" "squares" "I", Cond.fieldLink RX2 23 "FilmBench$Sheet" "now" "[I", Cond.fieldLink RX2 15 "FilmBench$Sheet" "layers" "LFilmBench$Layers;"]
def wsX5_told_r2 : List Cond := [Cond.fieldLink RX2 42 "FilmBench$Layers" "count" "I", Cond.fieldLink RX2 47 "FilmBench$Layers" "owners" "[I", Cond.fieldLink RX2 50 "FilmBench$Layers" "ons" "[Z", Cond.methodLink RX2 38 yX1_greyAt, Cond.instanceMethod yX1_greyAt, Cond.selects RX1 yX1_greyAt yX1_greyAt, Cond.code yX1_greyAt cX1_greyAt 3 (some .int), Cond.fieldLink RX1 9 "FilmBench$Reel" "greys" "[I", Cond.methodLink RX1 28 yX1_hasFrame, Cond.methodLink RX1 32 yX1_hasPlace, Cond.instanceMethod yX1_hasPlace, Cond.selects RX1 yX1_hasPlace yX1_hasPlace, Cond.code yX1_hasPlace cX1_hasPlace 2 (some .boolean), Cond.fieldLink RX1 22 "FilmBench$Reel" "squares" "I", Cond.methodLink RX2 54 yX2_apply, Cond.instanceMethod yX2_apply, Cond.selects RX2 yX2_apply yX2_apply, Cond.code yX2_apply cX2_apply 3 none, Cond.fieldLink RX2 26 "FilmBench$Sheet" "before" "[I", Cond.methodLink RX2 58 arraycopyName, Cond.native arraycopyName, Cond.static arraycopyName, Cond.initialized "java/lang/System", Cond.fieldLink RX2 64 "FilmBench$Layers" "kinds" "[I"]
def wsX5_told_r3 : List Cond := [Cond.fieldLink RX2 70 "FilmBench$Layers" "as" "[I", Cond.fieldLink RX2 79 "FilmBench$Layers" "bs" "[I", Cond.methodLink RX2 67 yX2_cleanDust, Cond.instanceMethod yX2_cleanDust, Cond.selects RX2 yX2_cleanDust yX2_cleanDust, Cond.code yX2_cleanDust cX2_cleanDust 3 none, Cond.methodLink RX2 86 yX2_isDust, Cond.instanceMethod yX2_isDust, Cond.selects RX2 yX2_isDust yX2_isDust, Cond.code yX2_isDust cX2_isDust 6 (some .boolean), Cond.methodLink RX2 90 Lib.Math.abs.name, Cond.static Lib.Math.abs.name, Cond.initialized "java/lang/Math", Cond.code Lib.Math.abs.name Lib.Math.abs.code 1 (some .int), Cond.fieldLink RX2 19 "FilmBench$Sheet" "rules" "[I", Cond.methodLink RX2 73 yX2_matchLevels, Cond.instanceMethod yX2_matchLevels, Cond.selects RX2 yX2_matchLevels yX2_matchLevels, Cond.code yX2_matchLevels cX2_matchLevels 6 none, Cond.fieldLink RX2 29 "FilmBench$Sheet" "rising" "[I", Cond.methodLink RX2 96 yX2_sortGreysOf, Cond.instanceMethod yX2_sortGreysOf, Cond.selects RX2 yX2_sortGreysOf yX2_sortGreysOf, Cond.code yX2_sortGreysOf cX2_sortGreysOf 6 (some .int)]
def wsX5_told_r4 : List Cond := [Cond.methodLink RX2 99 yX2_countLost, Cond.instanceMethod yX2_countLost, Cond.selects RX2 yX2_countLost yX2_countLost, Cond.code yX2_countLost cX2_countLost 3 (some .int), Cond.methodLink RX2 103 yX2_middleRankOf, Cond.instanceMethod yX2_middleRankOf, Cond.selects RX2 yX2_middleRankOf yX2_middleRankOf, Cond.code yX2_middleRankOf cX2_middleRankOf 5 (some .int), Cond.methodLink RX2 76 yX2_fillLost, Cond.instanceMethod yX2_fillLost, Cond.selects RX2 yX2_fillLost yX2_fillLost, Cond.code yX2_fillLost cX2_fillLost 4 none, Cond.methodLink RX2 82 yX2_moveAll, Cond.instanceMethod yX2_moveAll, Cond.selects RX2 yX2_moveAll yX2_moveAll, Cond.code yX2_moveAll cX2_moveAll 6 none, Cond.fieldLink RX2 106 "FilmBench$Reel" "high" "I", Cond.fieldLink RX2 109 "FilmBench$Reel" "wide" "I", Cond.methodLink RX2 112 yX1_placeOf, Cond.instanceMethod yX1_placeOf, Cond.selects RX1 yX1_placeOf yX1_placeOf, Cond.code yX1_placeOf cX1_placeOf 3 (some .int), Cond.fieldLink RX1 15 "FilmBench$Reel" "high" "I", Cond.fieldLink RX1 19 "FilmBench$Reel" "wide" "I"]
def wsX5_told_r5 : List Cond := [Cond.methodLink RX2 115 yX1_hasPlace, Cond.methodLink RX5 195 yX2_countLost, Cond.methodLink RX5 198 yX2_sumOfGreys, Cond.instanceMethod yX2_sumOfGreys, Cond.selects RX2 yX2_sumOfGreys yX2_sumOfGreys, Cond.code yX2_sumOfGreys cX2_sumOfGreys 3 (some .int), Cond.methodLink RX5 201 yX2_leastGrey, Cond.instanceMethod yX2_leastGrey, Cond.selects RX2 yX2_leastGrey yX2_leastGrey, Cond.code yX2_leastGrey cX2_leastGrey 3 (some .int), Cond.methodLink RX2 119 Lib.Math.min.name, Cond.static Lib.Math.min.name, Cond.code Lib.Math.min.name Lib.Math.min.code 2 (some .int), Cond.methodLink RX5 204 yX2_greatestGrey, Cond.instanceMethod yX2_greatestGrey, Cond.selects RX2 yX2_greatestGrey yX2_greatestGrey, Cond.code yX2_greatestGrey cX2_greatestGrey 3 (some .int), Cond.methodLink RX2 122 Lib.Math.max.name, Cond.static Lib.Math.max.name, Cond.code Lib.Math.max.name Lib.Math.max.code 2 (some .int), Cond.methodLink RX5 207 yX2_countUnlikeRaw, Cond.instanceMethod yX2_countUnlikeRaw, Cond.selects RX2 yX2_countUnlikeRaw yX2_countUnlikeRaw, Cond.code yX2_countUnlikeRaw cX2_countUnlikeRaw 4 (some .int)]
def wsX5_told : List Cond := .code yX5_told cX5_told 3 (some .int) :: ((wsX5_told_r1 ++ (wsX5_told_r2 ++ (wsX5_told_r3 ++ (wsX5_told_r4 ++ wsX5_told_r5)))) ++ wsX50 ++ wsX00 ++ wsX10 ++ wsX20)
def wsX5_many_r1 : List Cond := [Cond.fieldLink RX5 12 "FilmBench" "film" "LFilmBench$Reel;", Cond.fieldLink RX5 210 "FilmBench$Reel" "high" "I", Cond.fieldLink RX5 116 "FilmBench$Reel" "wide" "I", Cond.fieldLink RX5 86 "FilmBench$Reel" "frames" "I", Cond.fieldLink RX5 19 "FilmBench" "layers" "LFilmBench$Layers;", Cond.fieldLink RX5 79 "FilmBench$Layers" "count" "I", Cond.fieldLink RX5 23 "FilmBench" "rules" "[I", Cond.methodLink RX5 213 yX0_countOn, Cond.instanceMethod yX0_countOn, Cond.selects RX0 yX0_countOn yX0_countOn, Cond.initialized RX0, Cond.code yX0_countOn cX0_countOn 3 (some .int), Cond.fieldLink RX0 9 "FilmBench$Layers" "count" "I", Cond.fieldLink RX0 28 "FilmBench$Layers" "ons" "[Z", Cond.methodLink RX5 216 yX1_countLost, Cond.instanceMethod yX1_countLost, Cond.selects RX1 yX1_countLost yX1_countLost, Cond.initialized RX1, Cond.code yX1_countLost cX1_countLost 4 (some .int), Cond.fieldLink RX1 25 "FilmBench$Reel" "frames" "I", Cond.fieldLink RX1 22 "FilmBench$Reel" "squares" "I", Cond.methodLink RX1 39 yX1_greyAt, Cond.instanceMethod yX1_greyAt, Cond.selects RX1 yX1_greyAt yX1_greyAt]
def wsX5_many_r2 : List Cond := [Cond.code yX1_greyAt cX1_greyAt 3 (some .int), Cond.fieldLink RX1 9 "FilmBench$Reel" "greys" "[I", Cond.methodLink RX1 28 yX1_hasFrame, Cond.instanceMethod yX1_hasFrame, Cond.selects RX1 yX1_hasFrame yX1_hasFrame, Cond.code yX1_hasFrame cX1_hasFrame 2 (some .boolean), Cond.methodLink RX1 32 yX1_hasPlace, Cond.instanceMethod yX1_hasPlace, Cond.selects RX1 yX1_hasPlace yX1_hasPlace, Cond.code yX1_hasPlace cX1_hasPlace 2 (some .boolean)]
def wsX5_many : List Cond := .code yX5_many cX5_many 2 (some .int) :: ((wsX5_many_r1 ++ wsX5_many_r2) ++ wsX50 ++ wsX10 ++ wsX00)
def wsX5_keep_r1 : List Cond := [Cond.fieldLink RX5 61 "FilmBench" "keptFilm" "LFilmBench$Reel;", Cond.fieldLink RX5 12 "FilmBench" "film" "LFilmBench$Reel;", Cond.fieldLink RX5 64 "FilmBench" "keptLayers" "LFilmBench$Layers;", Cond.fieldLink RX5 19 "FilmBench" "layers" "LFilmBench$Layers;", Cond.fieldLink RX5 67 "FilmBench" "isKept" "Z", Cond.methodLink RX5 217 yX1_copyFrom, Cond.instanceMethod yX1_copyFrom, Cond.selects RX1 yX1_copyFrom yX1_copyFrom, Cond.initialized RX1, Cond.code yX1_copyFrom cX1_copyFrom 2 none, Cond.fieldLink RX1 15 "FilmBench$Reel" "high" "I", Cond.fieldLink RX1 19 "FilmBench$Reel" "wide" "I", Cond.fieldLink RX1 22 "FilmBench$Reel" "squares" "I", Cond.fieldLink RX1 25 "FilmBench$Reel" "frames" "I", Cond.fieldLink RX1 9 "FilmBench$Reel" "greys" "[I", Cond.methodLink RX1 43 arraycopyName, Cond.native arraycopyName, Cond.static arraycopyName, Cond.initialized "java/lang/System", Cond.methodLink RX5 220 yX0_copyFrom, Cond.instanceMethod yX0_copyFrom, Cond.selects RX0 yX0_copyFrom yX0_copyFrom, Cond.initialized RX0, Cond.code yX0_copyFrom cX0_copyFrom 3 none]
def wsX5_keep_r2 : List Cond := [Cond.fieldLink RX0 9 "FilmBench$Layers" "count" "I", Cond.fieldLink RX0 15 "FilmBench$Layers" "kinds" "[I", Cond.fieldLink RX0 19 "FilmBench$Layers" "owners" "[I", Cond.fieldLink RX0 22 "FilmBench$Layers" "as" "[I", Cond.fieldLink RX0 25 "FilmBench$Layers" "bs" "[I", Cond.fieldLink RX0 28 "FilmBench$Layers" "ons" "[Z"]
def wsX5_keep : List Cond := .code yX5_keep cX5_keep 1 (some .int) :: ((wsX5_keep_r1 ++ wsX5_keep_r2) ++ wsX50 ++ wsX10 ++ wsX00)
def wsX5_back_r1 : List Cond := [Cond.fieldLink RX5 67 "FilmBench" "isKept" "Z", Cond.fieldLink RX5 12 "FilmBench" "film" "LFilmBench$Reel;", Cond.fieldLink RX5 61 "FilmBench" "keptFilm" "LFilmBench$Reel;", Cond.fieldLink RX5 19 "FilmBench" "layers" "LFilmBench$Layers;", Cond.fieldLink RX5 64 "FilmBench" "keptLayers" "LFilmBench$Layers;", Cond.methodLink RX5 217 yX1_copyFrom, Cond.instanceMethod yX1_copyFrom, Cond.selects RX1 yX1_copyFrom yX1_copyFrom, Cond.initialized RX1, Cond.code yX1_copyFrom cX1_copyFrom 2 none, Cond.fieldLink RX1 15 "FilmBench$Reel" "high" "I", Cond.fieldLink RX1 19 "FilmBench$Reel" "wide" "I", Cond.fieldLink RX1 22 "FilmBench$Reel" "squares" "I", Cond.fieldLink RX1 25 "FilmBench$Reel" "frames" "I", Cond.fieldLink RX1 9 "FilmBench$Reel" "greys" "[I", Cond.methodLink RX1 43 arraycopyName, Cond.native arraycopyName, Cond.static arraycopyName, Cond.initialized "java/lang/System", Cond.methodLink RX5 220 yX0_copyFrom, Cond.instanceMethod yX0_copyFrom, Cond.selects RX0 yX0_copyFrom yX0_copyFrom, Cond.initialized RX0, Cond.code yX0_copyFrom cX0_copyFrom 3 none]
def wsX5_back_r2 : List Cond := [Cond.fieldLink RX0 9 "FilmBench$Layers" "count" "I", Cond.fieldLink RX0 15 "FilmBench$Layers" "kinds" "[I", Cond.fieldLink RX0 19 "FilmBench$Layers" "owners" "[I", Cond.fieldLink RX0 22 "FilmBench$Layers" "as" "[I", Cond.fieldLink RX0 25 "FilmBench$Layers" "bs" "[I", Cond.fieldLink RX0 28 "FilmBench$Layers" "ons" "[Z"]
def wsX5_back : List Cond := .code yX5_back cX5_back 1 (some .int) :: ((wsX5_back_r1 ++ wsX5_back_r2) ++ wsX50 ++ wsX10 ++ wsX00)
def wsX6_init_r1 : List Cond := [Cond.methodLink RX6 1 objectInit, Cond.instanceMethod objectInit, Cond.code objectInit ⟨#[0xb1]⟩ 1 none, Cond.fieldLink RX6 7 "FilmBenchModel" "high" "I", Cond.fieldLink RX6 13 "FilmBenchModel" "wide" "I", Cond.arrayClass .int, Cond.fieldLink RX6 16 "FilmBenchModel" "raw" "[I", Cond.fieldLink RX6 20 "FilmBenchModel" "kind" "[I", Cond.fieldLink RX6 23 "FilmBenchModel" "of" "[I", Cond.fieldLink RX6 26 "FilmBenchModel" "first" "[I", Cond.fieldLink RX6 29 "FilmBenchModel" "second" "[I", Cond.arrayClass .boolean, Cond.fieldLink RX6 32 "FilmBenchModel" "isOn" "[Z", Cond.fieldLink RX6 36 "FilmBenchModel" "rules" "[I", Cond.fieldLink RX6 39 "FilmBenchModel" "keptRaw" "[I", Cond.fieldLink RX6 42 "FilmBenchModel" "keptKind" "[I", Cond.fieldLink RX6 45 "FilmBenchModel" "keptOf" "[I", Cond.fieldLink RX6 48 "FilmBenchModel" "keptFirst" "[I", Cond.fieldLink RX6 51 "FilmBenchModel" "keptSecond" "[I", Cond.fieldLink RX6 54 "FilmBenchModel" "keptOn" "[Z", Cond.fieldLink RX6 57 "FilmBenchModel" "drifts" "[I", Cond.fieldLink RX6 60 "FilmBenchModel" "path" "[I", Cond.fieldLink RX6 63 "FilmBenchModel" "rest" "[I", Cond.fieldLink RX6 66 "FilmBenchModel" "made" "[I"]
def wsX6_init_r2 : List Cond := [Cond.fieldLink RX6 69 "FilmBenchModel" "was" "[I"]
def wsX6_init : List Cond := .code yX6_init cX6_init 1 none :: ((wsX6_init_r1 ++ wsX6_init_r2) ++ wsX60)
def wsX6_in : List Cond := .code yX6_in cX6_in 3 (some .boolean) :: ([])
def wsX6_isFrame : List Cond := .code yX6_isFrame cX6_isFrame 2 (some .boolean) :: ([.fieldLink RX6 72 "FilmBenchModel" "frames" "I", .methodLink RX6 75 yX6_in, .static yX6_in, .initialized RX6, .code yX6_in cX6_in 3 (some .boolean)] ++ wsX60)
def wsX6_isSquare : List Cond := .code yX6_isSquare cX6_isSquare 3 (some .boolean) :: ([.fieldLink RX6 7 "FilmBenchModel" "high" "I", .fieldLink RX6 13 "FilmBenchModel" "wide" "I", .methodLink RX6 75 yX6_in, .static yX6_in, .initialized RX6, .code yX6_in cX6_in 3 (some .boolean)] ++ wsX60)
def wsX6_at : List Cond := .code yX6_at cX6_at 4 (some .int) :: ([.fieldLink RX6 13 "FilmBenchModel" "wide" "I"] ++ wsX60)
def wsX6_reel : List Cond := .code yX6_reel cX6_reel 3 (some .int) :: ([.fieldLink RX6 7 "FilmBenchModel" "high" "I", .fieldLink RX6 13 "FilmBenchModel" "wide" "I", .fieldLink RX6 72 "FilmBenchModel" "frames" "I", .fieldLink RX6 79 "FilmBenchModel" "layers" "I", .methodLink RX6 75 yX6_in, .static yX6_in, .initialized RX6, .code yX6_in cX6_in 3 (some .boolean)] ++ wsX60)
def wsX6_frame : List Cond := .code yX6_frame cX6_frame 2 (some .int) :: ([.fieldLink RX6 72 "FilmBenchModel" "frames" "I", .fieldLink RX6 16 "FilmBenchModel" "raw" "[I"] ++ wsX60)
def wsX6_again : List Cond := .code yX6_again cX6_again 6 (some .int) :: ([.fieldLink RX6 72 "FilmBenchModel" "frames" "I", .fieldLink RX6 16 "FilmBenchModel" "raw" "[I", .methodLink RX6 82 yX6_isFrame, .instanceMethod yX6_isFrame, .selects RX6 yX6_isFrame yX6_isFrame, .initialized RX6, .code yX6_isFrame cX6_isFrame 2 (some .boolean), .methodLink RX6 75 yX6_in, .static yX6_in, .code yX6_in cX6_in 3 (some .boolean)] ++ wsX60)
def wsX6_put : List Cond := .code yX6_put cX6_put 6 (some .int) :: ([.fieldLink RX6 16 "FilmBenchModel" "raw" "[I", .methodLink RX6 82 yX6_isFrame, .instanceMethod yX6_isFrame, .selects RX6 yX6_isFrame yX6_isFrame, .initialized RX6, .code yX6_isFrame cX6_isFrame 2 (some .boolean), .fieldLink RX6 72 "FilmBenchModel" "frames" "I", .methodLink RX6 75 yX6_in, .static yX6_in, .code yX6_in cX6_in 3 (some .boolean), .methodLink RX6 86 yX6_isSquare, .instanceMethod yX6_isSquare, .selects RX6 yX6_isSquare yX6_isSquare, .code yX6_isSquare cX6_isSquare 3 (some .boolean), .fieldLink RX6 7 "FilmBenchModel" "high" "I", .fieldLink RX6 13 "FilmBenchModel" "wide" "I", .methodLink RX6 90 yX6_at, .instanceMethod yX6_at, .selects RX6 yX6_at yX6_at, .code yX6_at cX6_at 4 (some .int)] ++ wsX60)
def wsX6_row : List Cond := .code yX6_row cX6_row 8 (some .int) :: ([.fieldLink RX6 7 "FilmBenchModel" "high" "I", .fieldLink RX6 13 "FilmBenchModel" "wide" "I", .constantLong RX6 94 (127), .fieldLink RX6 16 "FilmBenchModel" "raw" "[I", .methodLink RX6 82 yX6_isFrame, .instanceMethod yX6_isFrame, .selects RX6 yX6_isFrame yX6_isFrame, .initialized RX6, .code yX6_isFrame cX6_isFrame 2 (some .boolean), .fieldLink RX6 72 "FilmBenchModel" "frames" "I", .methodLink RX6 75 yX6_in, .static yX6_in, .code yX6_in cX6_in 3 (some .boolean), .methodLink RX6 90 yX6_at, .instanceMethod yX6_at, .selects RX6 yX6_at yX6_at, .code yX6_at cX6_at 4 (some .int)] ++ wsX60)
def wsX6_raw : List Cond := .code yX6_raw cX6_raw 4 (some .int) :: ([.fieldLink RX6 16 "FilmBenchModel" "raw" "[I", .methodLink RX6 82 yX6_isFrame, .instanceMethod yX6_isFrame, .selects RX6 yX6_isFrame yX6_isFrame, .initialized RX6, .code yX6_isFrame cX6_isFrame 2 (some .boolean), .fieldLink RX6 72 "FilmBenchModel" "frames" "I", .methodLink RX6 75 yX6_in, .static yX6_in, .code yX6_in cX6_in 3 (some .boolean), .methodLink RX6 86 yX6_isSquare, .instanceMethod yX6_isSquare, .selects RX6 yX6_isSquare yX6_isSquare, .code yX6_isSquare cX6_isSquare 3 (some .boolean), .fieldLink RX6 7 "FilmBenchModel" "high" "I", .fieldLink RX6 13 "FilmBenchModel" "wide" "I", .methodLink RX6 90 yX6_at, .instanceMethod yX6_at, .selects RX6 yX6_at yX6_at, .code yX6_at cX6_at 4 (some .int)] ++ wsX60)
def wsX6_rule : List Cond := .code yX6_rule cX6_rule 4 (some .int) :: ([.fieldLink RX6 36 "FilmBenchModel" "rules" "[I", .methodLink RX6 75 yX6_in, .static yX6_in, .initialized RX6, .code yX6_in cX6_in 3 (some .boolean)] ++ wsX60)
def wsX6_findMiss : List Cond := .code yX6_findMiss cX6_findMiss 8 (some .boolean) :: ([.fieldLink RX6 96 "FilmBenchModel" "missAbove" "I", .fieldLink RX6 99 "FilmBenchModel" "missBelow" "I", .fieldLink RX6 7 "FilmBenchModel" "high" "I", .fieldLink RX6 13 "FilmBenchModel" "wide" "I", .fieldLink RX6 16 "FilmBenchModel" "raw" "[I", .methodLink RX6 86 yX6_isSquare, .instanceMethod yX6_isSquare, .selects RX6 yX6_isSquare yX6_isSquare, .initialized RX6, .code yX6_isSquare cX6_isSquare 3 (some .boolean), .methodLink RX6 75 yX6_in, .static yX6_in, .code yX6_in cX6_in 3 (some .boolean), .methodLink RX6 90 yX6_at, .instanceMethod yX6_at, .selects RX6 yX6_at yX6_at, .code yX6_at cX6_at 4 (some .int)] ++ wsX60)
def wsX6_common : List Cond := .code yX6_common cX6_common 5 (some .int) :: ([])
def wsX6_miss_r1 : List Cond := [Cond.fieldLink RX6 96 "FilmBenchModel" "missAbove" "I", Cond.fieldLink RX6 99 "FilmBenchModel" "missBelow" "I", Cond.methodLink RX6 82 yX6_isFrame, Cond.instanceMethod yX6_isFrame, Cond.selects RX6 yX6_isFrame yX6_isFrame, Cond.initialized RX6, Cond.code yX6_isFrame cX6_isFrame 2 (some .boolean), Cond.fieldLink RX6 72 "FilmBenchModel" "frames" "I", Cond.methodLink RX6 75 yX6_in, Cond.static yX6_in, Cond.code yX6_in cX6_in 3 (some .boolean), Cond.methodLink RX6 102 yX6_findMiss, Cond.instanceMethod yX6_findMiss, Cond.selects RX6 yX6_findMiss yX6_findMiss, Cond.code yX6_findMiss cX6_findMiss 8 (some .boolean), Cond.fieldLink RX6 7 "FilmBenchModel" "high" "I", Cond.fieldLink RX6 13 "FilmBenchModel" "wide" "I", Cond.fieldLink RX6 16 "FilmBenchModel" "raw" "[I", Cond.methodLink RX6 86 yX6_isSquare, Cond.instanceMethod yX6_isSquare, Cond.selects RX6 yX6_isSquare yX6_isSquare, Cond.code yX6_isSquare cX6_isSquare 3 (some .boolean), Cond.methodLink RX6 90 yX6_at, Cond.instanceMethod yX6_at]
def wsX6_miss_r2 : List Cond := [Cond.selects RX6 yX6_at yX6_at, Cond.code yX6_at cX6_at 4 (some .int), Cond.methodLink RX6 105 yX6_common, Cond.static yX6_common, Cond.code yX6_common cX6_common 5 (some .int)]
def wsX6_miss : List Cond := .code yX6_miss cX6_miss 6 (some .int) :: ((wsX6_miss_r1 ++ wsX6_miss_r2) ++ wsX60)
def wsX6_size : List Cond := .code yX6_size cX6_size 1 (some .int) :: ([])
def wsX6_findShift_r1 : List Cond := [Cond.fieldLink RX6 109 "FilmBenchModel" "shiftX" "I", Cond.fieldLink RX6 112 "FilmBenchModel" "shiftY" "I", Cond.fieldLink RX6 96 "FilmBenchModel" "missAbove" "I", Cond.fieldLink RX6 99 "FilmBenchModel" "missBelow" "I", Cond.methodLink RX6 102 yX6_findMiss, Cond.instanceMethod yX6_findMiss, Cond.selects RX6 yX6_findMiss yX6_findMiss, Cond.initialized RX6, Cond.code yX6_findMiss cX6_findMiss 8 (some .boolean), Cond.fieldLink RX6 7 "FilmBenchModel" "high" "I", Cond.fieldLink RX6 13 "FilmBenchModel" "wide" "I", Cond.fieldLink RX6 16 "FilmBenchModel" "raw" "[I", Cond.methodLink RX6 86 yX6_isSquare, Cond.instanceMethod yX6_isSquare, Cond.selects RX6 yX6_isSquare yX6_isSquare, Cond.code yX6_isSquare cX6_isSquare 3 (some .boolean), Cond.methodLink RX6 75 yX6_in, Cond.static yX6_in, Cond.code yX6_in cX6_in 3 (some .boolean), Cond.methodLink RX6 90 yX6_at, Cond.instanceMethod yX6_at, Cond.selects RX6 yX6_at yX6_at, Cond.code yX6_at cX6_at 4 (some .int), Cond.methodLink RX6 115 yX6_size]
def wsX6_findShift_r2 : List Cond := [Cond.static yX6_size, Cond.code yX6_size cX6_size 1 (some .int)]
def wsX6_findShift : List Cond := .code yX6_findShift cX6_findShift 9 none :: ((wsX6_findShift_r1 ++ wsX6_findShift_r2) ++ wsX60)
def wsX6_shift_r1 : List Cond := [Cond.fieldLink RX6 109 "FilmBenchModel" "shiftX" "I", Cond.fieldLink RX6 112 "FilmBenchModel" "shiftY" "I", Cond.methodLink RX6 82 yX6_isFrame, Cond.instanceMethod yX6_isFrame, Cond.selects RX6 yX6_isFrame yX6_isFrame, Cond.initialized RX6, Cond.code yX6_isFrame cX6_isFrame 2 (some .boolean), Cond.fieldLink RX6 72 "FilmBenchModel" "frames" "I", Cond.methodLink RX6 75 yX6_in, Cond.static yX6_in, Cond.code yX6_in cX6_in 3 (some .boolean), Cond.methodLink RX6 119 yX6_findShift, Cond.instanceMethod yX6_findShift, Cond.selects RX6 yX6_findShift yX6_findShift, Cond.code yX6_findShift cX6_findShift 9 none, Cond.fieldLink RX6 96 "FilmBenchModel" "missAbove" "I", Cond.fieldLink RX6 99 "FilmBenchModel" "missBelow" "I", Cond.methodLink RX6 102 yX6_findMiss, Cond.instanceMethod yX6_findMiss, Cond.selects RX6 yX6_findMiss yX6_findMiss, Cond.code yX6_findMiss cX6_findMiss 8 (some .boolean), Cond.fieldLink RX6 7 "FilmBenchModel" "high" "I", Cond.fieldLink RX6 13 "FilmBenchModel" "wide" "I", Cond.fieldLink RX6 16 "FilmBenchModel" "raw" "[I"]
def wsX6_shift_r2 : List Cond := [Cond.methodLink RX6 86 yX6_isSquare, Cond.instanceMethod yX6_isSquare, Cond.selects RX6 yX6_isSquare yX6_isSquare, Cond.code yX6_isSquare cX6_isSquare 3 (some .boolean), Cond.methodLink RX6 90 yX6_at, Cond.instanceMethod yX6_at, Cond.selects RX6 yX6_at yX6_at, Cond.code yX6_at cX6_at 4 (some .int), Cond.methodLink RX6 115 yX6_size, Cond.static yX6_size, Cond.code yX6_size cX6_size 1 (some .int)]
def wsX6_shift : List Cond := .code yX6_shift cX6_shift 3 (some .int) :: ((wsX6_shift_r1 ++ wsX6_shift_r2) ++ wsX60)
def wsX6_driftOf_r1 : List Cond := [Cond.fieldLink RX6 109 "FilmBenchModel" "shiftX" "I", Cond.fieldLink RX6 112 "FilmBenchModel" "shiftY" "I", Cond.methodLink RX6 119 yX6_findShift, Cond.instanceMethod yX6_findShift, Cond.selects RX6 yX6_findShift yX6_findShift, Cond.initialized RX6, Cond.code yX6_findShift cX6_findShift 9 none, Cond.fieldLink RX6 96 "FilmBenchModel" "missAbove" "I", Cond.fieldLink RX6 99 "FilmBenchModel" "missBelow" "I", Cond.methodLink RX6 102 yX6_findMiss, Cond.instanceMethod yX6_findMiss, Cond.selects RX6 yX6_findMiss yX6_findMiss, Cond.code yX6_findMiss cX6_findMiss 8 (some .boolean), Cond.fieldLink RX6 7 "FilmBenchModel" "high" "I", Cond.fieldLink RX6 13 "FilmBenchModel" "wide" "I", Cond.fieldLink RX6 16 "FilmBenchModel" "raw" "[I", Cond.methodLink RX6 86 yX6_isSquare, Cond.instanceMethod yX6_isSquare, Cond.selects RX6 yX6_isSquare yX6_isSquare, Cond.code yX6_isSquare cX6_isSquare 3 (some .boolean), Cond.methodLink RX6 75 yX6_in, Cond.static yX6_in, Cond.code yX6_in cX6_in 3 (some .boolean), Cond.methodLink RX6 90 yX6_at]
def wsX6_driftOf_r2 : List Cond := [Cond.instanceMethod yX6_at, Cond.selects RX6 yX6_at yX6_at, Cond.code yX6_at cX6_at 4 (some .int), Cond.methodLink RX6 115 yX6_size, Cond.static yX6_size, Cond.code yX6_size cX6_size 1 (some .int)]
def wsX6_driftOf : List Cond := .code yX6_driftOf cX6_driftOf 5 (some .int) :: ((wsX6_driftOf_r1 ++ wsX6_driftOf_r2) ++ wsX60)
def wsX6_drift_r1 : List Cond := [Cond.methodLink RX6 82 yX6_isFrame, Cond.instanceMethod yX6_isFrame, Cond.selects RX6 yX6_isFrame yX6_isFrame, Cond.initialized RX6, Cond.code yX6_isFrame cX6_isFrame 2 (some .boolean), Cond.fieldLink RX6 72 "FilmBenchModel" "frames" "I", Cond.methodLink RX6 75 yX6_in, Cond.static yX6_in, Cond.code yX6_in cX6_in 3 (some .boolean), Cond.methodLink RX6 123 yX6_driftOf, Cond.instanceMethod yX6_driftOf, Cond.selects RX6 yX6_driftOf yX6_driftOf, Cond.code yX6_driftOf cX6_driftOf 5 (some .int), Cond.fieldLink RX6 109 "FilmBenchModel" "shiftX" "I", Cond.fieldLink RX6 112 "FilmBenchModel" "shiftY" "I", Cond.methodLink RX6 119 yX6_findShift, Cond.instanceMethod yX6_findShift, Cond.selects RX6 yX6_findShift yX6_findShift, Cond.code yX6_findShift cX6_findShift 9 none, Cond.fieldLink RX6 96 "FilmBenchModel" "missAbove" "I", Cond.fieldLink RX6 99 "FilmBenchModel" "missBelow" "I", Cond.methodLink RX6 102 yX6_findMiss, Cond.instanceMethod yX6_findMiss, Cond.selects RX6 yX6_findMiss yX6_findMiss]
def wsX6_drift_r2 : List Cond := [Cond.code yX6_findMiss cX6_findMiss 8 (some .boolean), Cond.fieldLink RX6 7 "FilmBenchModel" "high" "I", Cond.fieldLink RX6 13 "FilmBenchModel" "wide" "I", Cond.fieldLink RX6 16 "FilmBenchModel" "raw" "[I", Cond.methodLink RX6 86 yX6_isSquare, Cond.instanceMethod yX6_isSquare, Cond.selects RX6 yX6_isSquare yX6_isSquare, Cond.code yX6_isSquare cX6_isSquare 3 (some .boolean), Cond.methodLink RX6 90 yX6_at, Cond.instanceMethod yX6_at, Cond.selects RX6 yX6_at yX6_at, Cond.code yX6_at cX6_at 4 (some .int), Cond.methodLink RX6 115 yX6_size, Cond.static yX6_size, Cond.code yX6_size cX6_size 1 (some .int)]
def wsX6_drift : List Cond := .code yX6_drift cX6_drift 3 (some .int) :: ((wsX6_drift_r1 ++ wsX6_drift_r2) ++ wsX60)
def wsX6_placeAt : List Cond := .code yX6_placeAt cX6_placeAt 3 (some .int) :: ([.fieldLink RX6 57 "FilmBenchModel" "drifts" "[I", .fieldLink RX6 36 "FilmBenchModel" "rules" "[I"] ++ wsX60)
def wsX6_strayAt : List Cond := .code yX6_strayAt cX6_strayAt 2 (some .int) :: ([.fieldLink RX6 36 "FilmBenchModel" "rules" "[I", .methodLink RX6 115 yX6_size, .static yX6_size, .initialized RX6, .code yX6_size cX6_size 1 (some .int)] ++ wsX60)
def wsX6_by : List Cond := .code yX6_by cX6_by 6 (some .int) :: ([.fieldLink RX6 63 "FilmBenchModel" "rest" "[I", .methodLink RX6 126 yX6_placeAt, .instanceMethod yX6_placeAt, .selects RX6 yX6_placeAt yX6_placeAt, .initialized RX6, .code yX6_placeAt cX6_placeAt 3 (some .int), .fieldLink RX6 57 "FilmBenchModel" "drifts" "[I", .fieldLink RX6 36 "FilmBenchModel" "rules" "[I", .methodLink RX6 115 yX6_size, .static yX6_size, .code yX6_size cX6_size 1 (some .int), .methodLink RX6 129 yX6_strayAt, .instanceMethod yX6_strayAt, .selects RX6 yX6_strayAt yX6_strayAt, .code yX6_strayAt cX6_strayAt 2 (some .int)] ++ wsX60)
def wsX6_findRest : List Cond := .code yX6_findRest cX6_findRest 7 none :: ([.fieldLink RX6 36 "FilmBenchModel" "rules" "[I", .fieldLink RX6 72 "FilmBenchModel" "frames" "I", .fieldLink RX6 63 "FilmBenchModel" "rest" "[I", .methodLink RX6 132 yX6_by, .instanceMethod yX6_by, .selects RX6 yX6_by yX6_by, .initialized RX6, .code yX6_by cX6_by 6 (some .int), .methodLink RX6 126 yX6_placeAt, .instanceMethod yX6_placeAt, .selects RX6 yX6_placeAt yX6_placeAt, .code yX6_placeAt cX6_placeAt 3 (some .int), .fieldLink RX6 57 "FilmBenchModel" "drifts" "[I", .methodLink RX6 115 yX6_size, .static yX6_size, .code yX6_size cX6_size 1 (some .int), .methodLink RX6 129 yX6_strayAt, .instanceMethod yX6_strayAt, .selects RX6 yX6_strayAt yX6_strayAt, .code yX6_strayAt cX6_strayAt 2 (some .int)] ++ wsX60)
def wsX6_findPath_r1 : List Cond := [Cond.fieldLink RX6 36 "FilmBenchModel" "rules" "[I", Cond.fieldLink RX6 136 "FilmBenchModel" "bendsOf" "I", Cond.fieldLink RX6 139 "FilmBenchModel" "straysOf" "I", Cond.fieldLink RX6 72 "FilmBenchModel" "frames" "I", Cond.fieldLink RX6 57 "FilmBenchModel" "drifts" "[I", Cond.fieldLink RX6 60 "FilmBenchModel" "path" "[I", Cond.fieldLink RX6 63 "FilmBenchModel" "rest" "[I", Cond.methodLink RX6 123 yX6_driftOf, Cond.instanceMethod yX6_driftOf, Cond.selects RX6 yX6_driftOf yX6_driftOf, Cond.initialized RX6, Cond.code yX6_driftOf cX6_driftOf 5 (some .int), Cond.fieldLink RX6 109 "FilmBenchModel" "shiftX" "I", Cond.fieldLink RX6 112 "FilmBenchModel" "shiftY" "I", Cond.methodLink RX6 119 yX6_findShift, Cond.instanceMethod yX6_findShift, Cond.selects RX6 yX6_findShift yX6_findShift, Cond.code yX6_findShift cX6_findShift 9 none, Cond.fieldLink RX6 96 "FilmBenchModel" "missAbove" "I", Cond.fieldLink RX6 99 "FilmBenchModel" "missBelow" "I", Cond.methodLink RX6 102 yX6_findMiss, Cond.instanceMethod yX6_findMiss, Cond.selects RX6 yX6_findMiss yX6_findMiss, Cond.code yX6_findMiss cX6_findMiss 8 (some .boolean)]
def wsX6_findPath_r2 : List Cond := [Cond.fieldLink RX6 7 "FilmBenchModel" "high" "I", Cond.fieldLink RX6 13 "FilmBenchModel" "wide" "I", Cond.fieldLink RX6 16 "FilmBenchModel" "raw" "[I", Cond.methodLink RX6 86 yX6_isSquare, Cond.instanceMethod yX6_isSquare, Cond.selects RX6 yX6_isSquare yX6_isSquare, Cond.code yX6_isSquare cX6_isSquare 3 (some .boolean), Cond.methodLink RX6 75 yX6_in, Cond.static yX6_in, Cond.code yX6_in cX6_in 3 (some .boolean), Cond.methodLink RX6 90 yX6_at, Cond.instanceMethod yX6_at, Cond.selects RX6 yX6_at yX6_at, Cond.code yX6_at cX6_at 4 (some .int), Cond.methodLink RX6 115 yX6_size, Cond.static yX6_size, Cond.code yX6_size cX6_size 1 (some .int), Cond.methodLink RX6 142 yX6_findRest, Cond.instanceMethod yX6_findRest, Cond.selects RX6 yX6_findRest yX6_findRest, Cond.code yX6_findRest cX6_findRest 7 none, Cond.methodLink RX6 132 yX6_by, Cond.instanceMethod yX6_by, Cond.selects RX6 yX6_by yX6_by]
def wsX6_findPath_r3 : List Cond := [Cond.code yX6_by cX6_by 6 (some .int), Cond.methodLink RX6 126 yX6_placeAt, Cond.instanceMethod yX6_placeAt, Cond.selects RX6 yX6_placeAt yX6_placeAt, Cond.code yX6_placeAt cX6_placeAt 3 (some .int), Cond.methodLink RX6 129 yX6_strayAt, Cond.instanceMethod yX6_strayAt, Cond.selects RX6 yX6_strayAt yX6_strayAt, Cond.code yX6_strayAt cX6_strayAt 2 (some .int)]
def wsX6_findPath : List Cond := .code yX6_findPath cX6_findPath 9 none :: ((wsX6_findPath_r1 ++ (wsX6_findPath_r2 ++ wsX6_findPath_r3)) ++ wsX60)
def wsX6_path_r1 : List Cond := [Cond.fieldLink RX6 60 "FilmBenchModel" "path" "[I", Cond.methodLink RX6 82 yX6_isFrame, Cond.instanceMethod yX6_isFrame, Cond.selects RX6 yX6_isFrame yX6_isFrame, Cond.initialized RX6, Cond.code yX6_isFrame cX6_isFrame 2 (some .boolean), Cond.fieldLink RX6 72 "FilmBenchModel" "frames" "I", Cond.methodLink RX6 75 yX6_in, Cond.static yX6_in, Cond.code yX6_in cX6_in 3 (some .boolean), Cond.methodLink RX6 145 yX6_findPath, Cond.instanceMethod yX6_findPath, Cond.selects RX6 yX6_findPath yX6_findPath, Cond.code yX6_findPath cX6_findPath 9 none, Cond.fieldLink RX6 36 "FilmBenchModel" "rules" "[I", Cond.fieldLink RX6 136 "FilmBenchModel" "bendsOf" "I", Cond.fieldLink RX6 139 "FilmBenchModel" "straysOf" "I", Cond.fieldLink RX6 57 "FilmBenchModel" "drifts" "[I", Cond.fieldLink RX6 63 "FilmBenchModel" "rest" "[I", Cond.methodLink RX6 123 yX6_driftOf, Cond.instanceMethod yX6_driftOf, Cond.selects RX6 yX6_driftOf yX6_driftOf, Cond.code yX6_driftOf cX6_driftOf 5 (some .int), Cond.fieldLink RX6 109 "FilmBenchModel" "shiftX" "I"]
def wsX6_path_r2 : List Cond := [Cond.fieldLink RX6 112 "FilmBenchModel" "shiftY" "I", Cond.methodLink RX6 119 yX6_findShift, Cond.instanceMethod yX6_findShift, Cond.selects RX6 yX6_findShift yX6_findShift, Cond.code yX6_findShift cX6_findShift 9 none, Cond.fieldLink RX6 96 "FilmBenchModel" "missAbove" "I", Cond.fieldLink RX6 99 "FilmBenchModel" "missBelow" "I", Cond.methodLink RX6 102 yX6_findMiss, Cond.instanceMethod yX6_findMiss, Cond.selects RX6 yX6_findMiss yX6_findMiss, Cond.code yX6_findMiss cX6_findMiss 8 (some .boolean), Cond.fieldLink RX6 7 "FilmBenchModel" "high" "I", Cond.fieldLink RX6 13 "FilmBenchModel" "wide" "I", Cond.fieldLink RX6 16 "FilmBenchModel" "raw" "[I", Cond.methodLink RX6 86 yX6_isSquare, Cond.instanceMethod yX6_isSquare, Cond.selects RX6 yX6_isSquare yX6_isSquare, Cond.code yX6_isSquare cX6_isSquare 3 (some .boolean), Cond.methodLink RX6 90 yX6_at, Cond.instanceMethod yX6_at, Cond.selects RX6 yX6_at yX6_at, Cond.code yX6_at cX6_at 4 (some .int), Cond.methodLink RX6 115 yX6_size, Cond.static yX6_size]
def wsX6_path_r3 : List Cond := [Cond.code yX6_size cX6_size 1 (some .int), Cond.methodLink RX6 142 yX6_findRest, Cond.instanceMethod yX6_findRest, Cond.selects RX6 yX6_findRest yX6_findRest, Cond.code yX6_findRest cX6_findRest 7 none, Cond.methodLink RX6 132 yX6_by, Cond.instanceMethod yX6_by, Cond.selects RX6 yX6_by yX6_by, Cond.code yX6_by cX6_by 6 (some .int), Cond.methodLink RX6 126 yX6_placeAt, Cond.instanceMethod yX6_placeAt, Cond.selects RX6 yX6_placeAt yX6_placeAt, Cond.code yX6_placeAt cX6_placeAt 3 (some .int), Cond.methodLink RX6 129 yX6_strayAt, Cond.instanceMethod yX6_strayAt, Cond.selects RX6 yX6_strayAt yX6_strayAt, Cond.code yX6_strayAt cX6_strayAt 2 (some .int)]
def wsX6_path : List Cond := .code yX6_path cX6_path 3 (some .int) :: ((wsX6_path_r1 ++ (wsX6_path_r2 ++ wsX6_path_r3)) ++ wsX60)
def wsX6_bends_r1 : List Cond := [Cond.fieldLink RX6 136 "FilmBenchModel" "bendsOf" "I", Cond.fieldLink RX6 139 "FilmBenchModel" "straysOf" "I", Cond.methodLink RX6 75 yX6_in, Cond.static yX6_in, Cond.initialized RX6, Cond.code yX6_in cX6_in 3 (some .boolean), Cond.methodLink RX6 145 yX6_findPath, Cond.instanceMethod yX6_findPath, Cond.selects RX6 yX6_findPath yX6_findPath, Cond.code yX6_findPath cX6_findPath 9 none, Cond.fieldLink RX6 36 "FilmBenchModel" "rules" "[I", Cond.fieldLink RX6 72 "FilmBenchModel" "frames" "I", Cond.fieldLink RX6 57 "FilmBenchModel" "drifts" "[I", Cond.fieldLink RX6 60 "FilmBenchModel" "path" "[I", Cond.fieldLink RX6 63 "FilmBenchModel" "rest" "[I", Cond.methodLink RX6 123 yX6_driftOf, Cond.instanceMethod yX6_driftOf, Cond.selects RX6 yX6_driftOf yX6_driftOf, Cond.code yX6_driftOf cX6_driftOf 5 (some .int), Cond.fieldLink RX6 109 "FilmBenchModel" "shiftX" "I", Cond.fieldLink RX6 112 "FilmBenchModel" "shiftY" "I", Cond.methodLink RX6 119 yX6_findShift, Cond.instanceMethod yX6_findShift, Cond.selects RX6 yX6_findShift yX6_findShift]
def wsX6_bends_r2 : List Cond := [Cond.code yX6_findShift cX6_findShift 9 none, Cond.fieldLink RX6 96 "FilmBenchModel" "missAbove" "I", Cond.fieldLink RX6 99 "FilmBenchModel" "missBelow" "I", Cond.methodLink RX6 102 yX6_findMiss, Cond.instanceMethod yX6_findMiss, Cond.selects RX6 yX6_findMiss yX6_findMiss, Cond.code yX6_findMiss cX6_findMiss 8 (some .boolean), Cond.fieldLink RX6 7 "FilmBenchModel" "high" "I", Cond.fieldLink RX6 13 "FilmBenchModel" "wide" "I", Cond.fieldLink RX6 16 "FilmBenchModel" "raw" "[I", Cond.methodLink RX6 86 yX6_isSquare, Cond.instanceMethod yX6_isSquare, Cond.selects RX6 yX6_isSquare yX6_isSquare, Cond.code yX6_isSquare cX6_isSquare 3 (some .boolean), Cond.methodLink RX6 90 yX6_at, Cond.instanceMethod yX6_at, Cond.selects RX6 yX6_at yX6_at, Cond.code yX6_at cX6_at 4 (some .int), Cond.methodLink RX6 115 yX6_size, Cond.static yX6_size, Cond.code yX6_size cX6_size 1 (some .int), Cond.methodLink RX6 142 yX6_findRest, Cond.instanceMethod yX6_findRest, Cond.selects RX6 yX6_findRest yX6_findRest]
def wsX6_bends_r3 : List Cond := [Cond.code yX6_findRest cX6_findRest 7 none, Cond.methodLink RX6 132 yX6_by, Cond.instanceMethod yX6_by, Cond.selects RX6 yX6_by yX6_by, Cond.code yX6_by cX6_by 6 (some .int), Cond.methodLink RX6 126 yX6_placeAt, Cond.instanceMethod yX6_placeAt, Cond.selects RX6 yX6_placeAt yX6_placeAt, Cond.code yX6_placeAt cX6_placeAt 3 (some .int), Cond.methodLink RX6 129 yX6_strayAt, Cond.instanceMethod yX6_strayAt, Cond.selects RX6 yX6_strayAt yX6_strayAt, Cond.code yX6_strayAt cX6_strayAt 2 (some .int)]
def wsX6_bends : List Cond := .code yX6_bends cX6_bends 3 (some .int) :: ((wsX6_bends_r1 ++ (wsX6_bends_r2 ++ wsX6_bends_r3)) ++ wsX60)
def wsX6_cleaned : List Cond := .code yX6_cleaned cX6_cleaned 7 (some .int) :: ([.fieldLink RX6 72 "FilmBenchModel" "frames" "I", .fieldLink RX6 16 "FilmBenchModel" "raw" "[I", .fieldLink RX6 36 "FilmBenchModel" "rules" "[I", .methodLink RX6 115 yX6_size, .static yX6_size, .initialized RX6, .code yX6_size cX6_size 1 (some .int)] ++ wsX60)
def wsX6_dust : List Cond := .code yX6_dust cX6_dust 4 (some .int) :: ([.fieldLink RX6 7 "FilmBenchModel" "high" "I", .fieldLink RX6 13 "FilmBenchModel" "wide" "I", .fieldLink RX6 16 "FilmBenchModel" "raw" "[I", .methodLink RX6 82 yX6_isFrame, .instanceMethod yX6_isFrame, .selects RX6 yX6_isFrame yX6_isFrame, .initialized RX6, .code yX6_isFrame cX6_isFrame 2 (some .boolean), .fieldLink RX6 72 "FilmBenchModel" "frames" "I", .methodLink RX6 75 yX6_in, .static yX6_in, .code yX6_in cX6_in 3 (some .boolean), .methodLink RX6 148 yX6_cleaned, .instanceMethod yX6_cleaned, .selects RX6 yX6_cleaned yX6_cleaned, .code yX6_cleaned cX6_cleaned 7 (some .int), .fieldLink RX6 36 "FilmBenchModel" "rules" "[I", .methodLink RX6 115 yX6_size, .static yX6_size, .code yX6_size cX6_size 1 (some .int)] ++ wsX60)
def wsX6_layer : List Cond := .code yX6_layer cX6_layer 5 (some .int) :: ([.fieldLink RX6 79 "FilmBenchModel" "layers" "I", .fieldLink RX6 20 "FilmBenchModel" "kind" "[I", .fieldLink RX6 23 "FilmBenchModel" "of" "[I", .fieldLink RX6 26 "FilmBenchModel" "first" "[I", .fieldLink RX6 29 "FilmBenchModel" "second" "[I", .fieldLink RX6 32 "FilmBenchModel" "isOn" "[Z", .methodLink RX6 75 yX6_in, .static yX6_in, .initialized RX6, .code yX6_in cX6_in 3 (some .boolean), .methodLink RX6 82 yX6_isFrame, .instanceMethod yX6_isFrame, .selects RX6 yX6_isFrame yX6_isFrame, .code yX6_isFrame cX6_isFrame 2 (some .boolean), .fieldLink RX6 72 "FilmBenchModel" "frames" "I"] ++ wsX60)
def wsX6_isLayer : List Cond := .code yX6_isLayer cX6_isLayer 2 (some .boolean) :: ([.fieldLink RX6 79 "FilmBenchModel" "layers" "I", .methodLink RX6 75 yX6_in, .static yX6_in, .initialized RX6, .code yX6_in cX6_in 3 (some .boolean)] ++ wsX60)
def wsX6_on : List Cond := .code yX6_on cX6_on 4 (some .int) :: ([.fieldLink RX6 32 "FilmBenchModel" "isOn" "[Z", .methodLink RX6 151 yX6_isLayer, .instanceMethod yX6_isLayer, .selects RX6 yX6_isLayer yX6_isLayer, .initialized RX6, .code yX6_isLayer cX6_isLayer 2 (some .boolean), .fieldLink RX6 79 "FilmBenchModel" "layers" "I", .methodLink RX6 75 yX6_in, .static yX6_in, .code yX6_in cX6_in 3 (some .boolean)] ++ wsX60)
def wsX6_peel : List Cond := .code yX6_peel cX6_peel 1 (some .int) :: ([.fieldLink RX6 79 "FilmBenchModel" "layers" "I"] ++ wsX60)
def wsX6_filledFrom : List Cond := .code yX6_filledFrom cX6_filledFrom 3 (some .int) :: ([.fieldLink RX6 72 "FilmBenchModel" "frames" "I", .fieldLink RX6 16 "FilmBenchModel" "raw" "[I"] ++ wsX60)
def wsX6_rising : List Cond := .code yX6_rising cX6_rising 6 (some .int) :: ([.fieldLink RX6 7 "FilmBenchModel" "high" "I", .fieldLink RX6 13 "FilmBenchModel" "wide" "I", .fieldLink RX6 16 "FilmBenchModel" "raw" "[I"] ++ wsX60)
def wsX6_matched : List Cond := .code yX6_matched cX6_matched 8 (some .int) :: ([.fieldLink RX6 7 "FilmBenchModel" "high" "I", .fieldLink RX6 13 "FilmBenchModel" "wide" "I", .fieldLink RX6 69 "FilmBenchModel" "was" "[I", .fieldLink RX6 16 "FilmBenchModel" "raw" "[I", .methodLink RX6 154 yX6_rising, .instanceMethod yX6_rising, .selects RX6 yX6_rising yX6_rising, .initialized RX6, .code yX6_rising cX6_rising 6 (some .int)] ++ wsX60)
def wsX6_moved : List Cond := .code yX6_moved cX6_moved 5 (some .int) :: ([.fieldLink RX6 13 "FilmBenchModel" "wide" "I", .fieldLink RX6 29 "FilmBenchModel" "second" "[I", .fieldLink RX6 26 "FilmBenchModel" "first" "[I", .fieldLink RX6 69 "FilmBenchModel" "was" "[I", .methodLink RX6 86 yX6_isSquare, .instanceMethod yX6_isSquare, .selects RX6 yX6_isSquare yX6_isSquare, .initialized RX6, .code yX6_isSquare cX6_isSquare 3 (some .boolean), .fieldLink RX6 7 "FilmBenchModel" "high" "I", .methodLink RX6 75 yX6_in, .static yX6_in, .code yX6_in cX6_in 3 (some .boolean)] ++ wsX60)
def wsX6_goes_r1 : List Cond := [Cond.fieldLink RX6 23 "FilmBenchModel" "of" "[I", Cond.fieldLink RX6 7 "FilmBenchModel" "high" "I", Cond.fieldLink RX6 13 "FilmBenchModel" "wide" "I", Cond.fieldLink RX6 69 "FilmBenchModel" "was" "[I", Cond.fieldLink RX6 66 "FilmBenchModel" "made" "[I", Cond.fieldLink RX6 20 "FilmBenchModel" "kind" "[I", Cond.fieldLink RX6 26 "FilmBenchModel" "first" "[I", Cond.methodLink RX6 148 yX6_cleaned, Cond.instanceMethod yX6_cleaned, Cond.selects RX6 yX6_cleaned yX6_cleaned, Cond.initialized RX6, Cond.code yX6_cleaned cX6_cleaned 7 (some .int), Cond.fieldLink RX6 72 "FilmBenchModel" "frames" "I", Cond.fieldLink RX6 16 "FilmBenchModel" "raw" "[I", Cond.fieldLink RX6 36 "FilmBenchModel" "rules" "[I", Cond.methodLink RX6 115 yX6_size, Cond.static yX6_size, Cond.code yX6_size cX6_size 1 (some .int), Cond.methodLink RX6 157 yX6_matched, Cond.instanceMethod yX6_matched, Cond.selects RX6 yX6_matched yX6_matched, Cond.code yX6_matched cX6_matched 8 (some .int), Cond.methodLink RX6 154 yX6_rising, Cond.instanceMethod yX6_rising]
def wsX6_goes_r2 : List Cond := [Cond.selects RX6 yX6_rising yX6_rising, Cond.code yX6_rising cX6_rising 6 (some .int), Cond.methodLink RX6 160 yX6_filledFrom, Cond.instanceMethod yX6_filledFrom, Cond.selects RX6 yX6_filledFrom yX6_filledFrom, Cond.code yX6_filledFrom cX6_filledFrom 3 (some .int), Cond.methodLink RX6 163 yX6_moved, Cond.instanceMethod yX6_moved, Cond.selects RX6 yX6_moved yX6_moved, Cond.code yX6_moved cX6_moved 5 (some .int), Cond.fieldLink RX6 29 "FilmBenchModel" "second" "[I", Cond.methodLink RX6 86 yX6_isSquare, Cond.instanceMethod yX6_isSquare, Cond.selects RX6 yX6_isSquare yX6_isSquare, Cond.code yX6_isSquare cX6_isSquare 3 (some .boolean), Cond.methodLink RX6 75 yX6_in, Cond.static yX6_in, Cond.code yX6_in cX6_in 3 (some .boolean)]
def wsX6_goes : List Cond := .code yX6_goes cX6_goes 6 (some .int) :: ((wsX6_goes_r1 ++ wsX6_goes_r2) ++ wsX60)
def wsX6_makes_r1 : List Cond := [Cond.fieldLink RX6 7 "FilmBenchModel" "high" "I", Cond.fieldLink RX6 13 "FilmBenchModel" "wide" "I", Cond.fieldLink RX6 66 "FilmBenchModel" "made" "[I", Cond.fieldLink RX6 16 "FilmBenchModel" "raw" "[I", Cond.fieldLink RX6 79 "FilmBenchModel" "layers" "I", Cond.fieldLink RX6 23 "FilmBenchModel" "of" "[I", Cond.fieldLink RX6 32 "FilmBenchModel" "isOn" "[Z", Cond.methodLink RX6 166 yX6_goes, Cond.instanceMethod yX6_goes, Cond.selects RX6 yX6_goes yX6_goes, Cond.initialized RX6, Cond.code yX6_goes cX6_goes 6 (some .int), Cond.fieldLink RX6 69 "FilmBenchModel" "was" "[I", Cond.fieldLink RX6 20 "FilmBenchModel" "kind" "[I", Cond.fieldLink RX6 26 "FilmBenchModel" "first" "[I", Cond.methodLink RX6 148 yX6_cleaned, Cond.instanceMethod yX6_cleaned, Cond.selects RX6 yX6_cleaned yX6_cleaned, Cond.code yX6_cleaned cX6_cleaned 7 (some .int), Cond.fieldLink RX6 72 "FilmBenchModel" "frames" "I", Cond.fieldLink RX6 36 "FilmBenchModel" "rules" "[I", Cond.methodLink RX6 115 yX6_size, Cond.static yX6_size, Cond.code yX6_size cX6_size 1 (some .int)]
def wsX6_makes_r2 : List Cond := [Cond.methodLink RX6 157 yX6_matched, Cond.instanceMethod yX6_matched, Cond.selects RX6 yX6_matched yX6_matched, Cond.code yX6_matched cX6_matched 8 (some .int), Cond.methodLink RX6 154 yX6_rising, Cond.instanceMethod yX6_rising, Cond.selects RX6 yX6_rising yX6_rising, Cond.code yX6_rising cX6_rising 6 (some .int), Cond.methodLink RX6 160 yX6_filledFrom, Cond.instanceMethod yX6_filledFrom, Cond.selects RX6 yX6_filledFrom yX6_filledFrom, Cond.code yX6_filledFrom cX6_filledFrom 3 (some .int), Cond.methodLink RX6 163 yX6_moved, Cond.instanceMethod yX6_moved, Cond.selects RX6 yX6_moved yX6_moved, Cond.code yX6_moved cX6_moved 5 (some .int), Cond.fieldLink RX6 29 "FilmBenchModel" "second" "[I", Cond.methodLink RX6 86 yX6_isSquare, Cond.instanceMethod yX6_isSquare, Cond.selects RX6 yX6_isSquare yX6_isSquare, Cond.code yX6_isSquare cX6_isSquare 3 (some .boolean), Cond.methodLink RX6 75 yX6_in, Cond.static yX6_in, Cond.code yX6_in cX6_in 3 (some .boolean)]
def wsX6_makes : List Cond := .code yX6_makes cX6_makes 6 (some .int) :: ((wsX6_makes_r1 ++ wsX6_makes_r2) ++ wsX60)
def wsX6_made_r1 : List Cond := [Cond.fieldLink RX6 66 "FilmBenchModel" "made" "[I", Cond.fieldLink RX6 13 "FilmBenchModel" "wide" "I", Cond.methodLink RX6 82 yX6_isFrame, Cond.instanceMethod yX6_isFrame, Cond.selects RX6 yX6_isFrame yX6_isFrame, Cond.initialized RX6, Cond.code yX6_isFrame cX6_isFrame 2 (some .boolean), Cond.fieldLink RX6 72 "FilmBenchModel" "frames" "I", Cond.methodLink RX6 75 yX6_in, Cond.static yX6_in, Cond.code yX6_in cX6_in 3 (some .boolean), Cond.methodLink RX6 86 yX6_isSquare, Cond.instanceMethod yX6_isSquare, Cond.selects RX6 yX6_isSquare yX6_isSquare, Cond.code yX6_isSquare cX6_isSquare 3 (some .boolean), Cond.fieldLink RX6 7 "FilmBenchModel" "high" "I", Cond.methodLink RX6 169 yX6_makes, Cond.instanceMethod yX6_makes, Cond.selects RX6 yX6_makes yX6_makes, Cond.code yX6_makes cX6_makes 6 (some .int), Cond.fieldLink RX6 16 "FilmBenchModel" "raw" "[I", Cond.fieldLink RX6 79 "FilmBenchModel" "layers" "I", Cond.fieldLink RX6 23 "FilmBenchModel" "of" "[I", Cond.fieldLink RX6 32 "FilmBenchModel" "isOn" "[Z"]
def wsX6_made_r2 : List Cond := [Cond.methodLink RX6 166 yX6_goes, Cond.instanceMethod yX6_goes, Cond.selects RX6 yX6_goes yX6_goes, Cond.code yX6_goes cX6_goes 6 (some .int), Cond.fieldLink RX6 69 "FilmBenchModel" "was" "[I", Cond.fieldLink RX6 20 "FilmBenchModel" "kind" "[I", Cond.fieldLink RX6 26 "FilmBenchModel" "first" "[I", Cond.methodLink RX6 148 yX6_cleaned, Cond.instanceMethod yX6_cleaned, Cond.selects RX6 yX6_cleaned yX6_cleaned, Cond.code yX6_cleaned cX6_cleaned 7 (some .int), Cond.fieldLink RX6 36 "FilmBenchModel" "rules" "[I", Cond.methodLink RX6 115 yX6_size, Cond.static yX6_size, Cond.code yX6_size cX6_size 1 (some .int), Cond.methodLink RX6 157 yX6_matched, Cond.instanceMethod yX6_matched, Cond.selects RX6 yX6_matched yX6_matched, Cond.code yX6_matched cX6_matched 8 (some .int), Cond.methodLink RX6 154 yX6_rising, Cond.instanceMethod yX6_rising, Cond.selects RX6 yX6_rising yX6_rising, Cond.code yX6_rising cX6_rising 6 (some .int), Cond.methodLink RX6 160 yX6_filledFrom]
def wsX6_made_r3 : List Cond := [Cond.instanceMethod yX6_filledFrom, Cond.selects RX6 yX6_filledFrom yX6_filledFrom, Cond.code yX6_filledFrom cX6_filledFrom 3 (some .int), Cond.methodLink RX6 163 yX6_moved, Cond.instanceMethod yX6_moved, Cond.selects RX6 yX6_moved yX6_moved, Cond.code yX6_moved cX6_moved 5 (some .int), Cond.fieldLink RX6 29 "FilmBenchModel" "second" "[I"]
def wsX6_made : List Cond := .code yX6_made cX6_made 5 (some .int) :: ((wsX6_made_r1 ++ (wsX6_made_r2 ++ wsX6_made_r3)) ++ wsX60)
def wsX6_changed_r1 : List Cond := [Cond.fieldLink RX6 23 "FilmBenchModel" "of" "[I", Cond.methodLink RX6 151 yX6_isLayer, Cond.instanceMethod yX6_isLayer, Cond.selects RX6 yX6_isLayer yX6_isLayer, Cond.initialized RX6, Cond.code yX6_isLayer cX6_isLayer 2 (some .boolean), Cond.fieldLink RX6 79 "FilmBenchModel" "layers" "I", Cond.methodLink RX6 75 yX6_in, Cond.static yX6_in, Cond.code yX6_in cX6_in 3 (some .boolean), Cond.methodLink RX6 169 yX6_makes, Cond.instanceMethod yX6_makes, Cond.selects RX6 yX6_makes yX6_makes, Cond.code yX6_makes cX6_makes 6 (some .int), Cond.fieldLink RX6 7 "FilmBenchModel" "high" "I", Cond.fieldLink RX6 13 "FilmBenchModel" "wide" "I", Cond.fieldLink RX6 66 "FilmBenchModel" "made" "[I", Cond.fieldLink RX6 16 "FilmBenchModel" "raw" "[I", Cond.fieldLink RX6 32 "FilmBenchModel" "isOn" "[Z", Cond.methodLink RX6 166 yX6_goes, Cond.instanceMethod yX6_goes, Cond.selects RX6 yX6_goes yX6_goes, Cond.code yX6_goes cX6_goes 6 (some .int), Cond.fieldLink RX6 69 "FilmBenchModel" "was" "[I"]
def wsX6_changed_r2 : List Cond := [Cond.fieldLink RX6 20 "FilmBenchModel" "kind" "[I", Cond.fieldLink RX6 26 "FilmBenchModel" "first" "[I", Cond.methodLink RX6 148 yX6_cleaned, Cond.instanceMethod yX6_cleaned, Cond.selects RX6 yX6_cleaned yX6_cleaned, Cond.code yX6_cleaned cX6_cleaned 7 (some .int), Cond.fieldLink RX6 72 "FilmBenchModel" "frames" "I", Cond.fieldLink RX6 36 "FilmBenchModel" "rules" "[I", Cond.methodLink RX6 115 yX6_size, Cond.static yX6_size, Cond.code yX6_size cX6_size 1 (some .int), Cond.methodLink RX6 157 yX6_matched, Cond.instanceMethod yX6_matched, Cond.selects RX6 yX6_matched yX6_matched, Cond.code yX6_matched cX6_matched 8 (some .int), Cond.methodLink RX6 154 yX6_rising, Cond.instanceMethod yX6_rising, Cond.selects RX6 yX6_rising yX6_rising, Cond.code yX6_rising cX6_rising 6 (some .int), Cond.methodLink RX6 160 yX6_filledFrom, Cond.instanceMethod yX6_filledFrom, Cond.selects RX6 yX6_filledFrom yX6_filledFrom, Cond.code yX6_filledFrom cX6_filledFrom 3 (some .int), Cond.methodLink RX6 163 yX6_moved]
def wsX6_changed_r3 : List Cond := [Cond.instanceMethod yX6_moved, Cond.selects RX6 yX6_moved yX6_moved, Cond.code yX6_moved cX6_moved 5 (some .int), Cond.fieldLink RX6 29 "FilmBenchModel" "second" "[I", Cond.methodLink RX6 86 yX6_isSquare, Cond.instanceMethod yX6_isSquare, Cond.selects RX6 yX6_isSquare yX6_isSquare, Cond.code yX6_isSquare cX6_isSquare 3 (some .boolean)]
def wsX6_changed : List Cond := .code yX6_changed cX6_changed 2 (some .int) :: ((wsX6_changed_r1 ++ (wsX6_changed_r2 ++ wsX6_changed_r3)) ++ wsX60)
def wsX6_of : List Cond := .code yX6_of cX6_of 3 (some .int) :: ([.fieldLink RX6 20 "FilmBenchModel" "kind" "[I", .fieldLink RX6 23 "FilmBenchModel" "of" "[I", .fieldLink RX6 26 "FilmBenchModel" "first" "[I", .fieldLink RX6 29 "FilmBenchModel" "second" "[I", .fieldLink RX6 32 "FilmBenchModel" "isOn" "[Z", .methodLink RX6 151 yX6_isLayer, .instanceMethod yX6_isLayer, .selects RX6 yX6_isLayer yX6_isLayer, .initialized RX6, .code yX6_isLayer cX6_isLayer 2 (some .boolean), .fieldLink RX6 79 "FilmBenchModel" "layers" "I", .methodLink RX6 75 yX6_in, .static yX6_in, .code yX6_in cX6_in 3 (some .boolean)] ++ wsX60)
def wsX6_told_r1 : List Cond := [Cond.fieldLink RX6 7 "FilmBenchModel" "high" "I", Cond.fieldLink RX6 13 "FilmBenchModel" "wide" "I", Cond.fieldLink RX6 66 "FilmBenchModel" "made" "[I", Cond.fieldLink RX6 16 "FilmBenchModel" "raw" "[I", Cond.methodLink RX6 82 yX6_isFrame, Cond.instanceMethod yX6_isFrame, Cond.selects RX6 yX6_isFrame yX6_isFrame, Cond.initialized RX6, Cond.code yX6_isFrame cX6_isFrame 2 (some .boolean), Cond.fieldLink RX6 72 "FilmBenchModel" "frames" "I", Cond.methodLink RX6 75 yX6_in, Cond.static yX6_in, Cond.code yX6_in cX6_in 3 (some .boolean), Cond.methodLink RX6 169 yX6_makes, Cond.instanceMethod yX6_makes, Cond.selects RX6 yX6_makes yX6_makes, Cond.code yX6_makes cX6_makes 6 (some .int), Cond.fieldLink RX6 79 "FilmBenchModel" "layers" "I", Cond.fieldLink RX6 23 "FilmBenchModel" "of" "[I", Cond.fieldLink RX6 32 "FilmBenchModel" "isOn" "[Z", Cond.methodLink RX6 166 yX6_goes, Cond.instanceMethod yX6_goes, Cond.selects RX6 yX6_goes yX6_goes, Cond.code yX6_goes cX6_goes 6 (some .int)]
def wsX6_told_r2 : List Cond := [Cond.fieldLink RX6 69 "FilmBenchModel" "was" "[I", Cond.fieldLink RX6 20 "FilmBenchModel" "kind" "[I", Cond.fieldLink RX6 26 "FilmBenchModel" "first" "[I", Cond.methodLink RX6 148 yX6_cleaned, Cond.instanceMethod yX6_cleaned, Cond.selects RX6 yX6_cleaned yX6_cleaned, Cond.code yX6_cleaned cX6_cleaned 7 (some .int), Cond.fieldLink RX6 36 "FilmBenchModel" "rules" "[I", Cond.methodLink RX6 115 yX6_size, Cond.static yX6_size, Cond.code yX6_size cX6_size 1 (some .int), Cond.methodLink RX6 157 yX6_matched, Cond.instanceMethod yX6_matched, Cond.selects RX6 yX6_matched yX6_matched, Cond.code yX6_matched cX6_matched 8 (some .int), Cond.methodLink RX6 154 yX6_rising, Cond.instanceMethod yX6_rising, Cond.selects RX6 yX6_rising yX6_rising, Cond.code yX6_rising cX6_rising 6 (some .int), Cond.methodLink RX6 160 yX6_filledFrom, Cond.instanceMethod yX6_filledFrom, Cond.selects RX6 yX6_filledFrom yX6_filledFrom, Cond.code yX6_filledFrom cX6_filledFrom 3 (some .int), Cond.methodLink RX6 163 yX6_moved]
def wsX6_told_r3 : List Cond := [Cond.instanceMethod yX6_moved, Cond.selects RX6 yX6_moved yX6_moved, Cond.code yX6_moved cX6_moved 5 (some .int), Cond.fieldLink RX6 29 "FilmBenchModel" "second" "[I", Cond.methodLink RX6 86 yX6_isSquare, Cond.instanceMethod yX6_isSquare, Cond.selects RX6 yX6_isSquare yX6_isSquare, Cond.code yX6_isSquare cX6_isSquare 3 (some .boolean)]
def wsX6_told : List Cond := .code yX6_told cX6_told 11 (some .int) :: ((wsX6_told_r1 ++ (wsX6_told_r2 ++ wsX6_told_r3)) ++ wsX60)
def wsX6_many : List Cond := .code yX6_many cX6_many 5 (some .int) :: ([.fieldLink RX6 7 "FilmBenchModel" "high" "I", .fieldLink RX6 13 "FilmBenchModel" "wide" "I", .fieldLink RX6 72 "FilmBenchModel" "frames" "I", .fieldLink RX6 79 "FilmBenchModel" "layers" "I", .fieldLink RX6 32 "FilmBenchModel" "isOn" "[Z", .fieldLink RX6 16 "FilmBenchModel" "raw" "[I", .fieldLink RX6 36 "FilmBenchModel" "rules" "[I"] ++ wsX60)
def wsX6_keep : List Cond := .code yX6_keep cX6_keep 2 (some .int) :: ([.fieldLink RX6 172 "FilmBenchModel" "hasKept" "Z", .fieldLink RX6 7 "FilmBenchModel" "high" "I", .fieldLink RX6 176 "FilmBenchModel" "keptHigh" "I", .fieldLink RX6 13 "FilmBenchModel" "wide" "I", .fieldLink RX6 179 "FilmBenchModel" "keptWide" "I", .fieldLink RX6 72 "FilmBenchModel" "frames" "I", .fieldLink RX6 182 "FilmBenchModel" "keptFrames" "I", .fieldLink RX6 79 "FilmBenchModel" "layers" "I", .fieldLink RX6 185 "FilmBenchModel" "keptLayers" "I", .fieldLink RX6 39 "FilmBenchModel" "keptRaw" "[I", .fieldLink RX6 16 "FilmBenchModel" "raw" "[I", .fieldLink RX6 42 "FilmBenchModel" "keptKind" "[I", .fieldLink RX6 20 "FilmBenchModel" "kind" "[I", .fieldLink RX6 45 "FilmBenchModel" "keptOf" "[I", .fieldLink RX6 23 "FilmBenchModel" "of" "[I", .fieldLink RX6 48 "FilmBenchModel" "keptFirst" "[I", .fieldLink RX6 26 "FilmBenchModel" "first" "[I", .fieldLink RX6 51 "FilmBenchModel" "keptSecond" "[I", .fieldLink RX6 29 "FilmBenchModel" "second" "[I", .fieldLink RX6 54 "FilmBenchModel" "keptOn" "[Z", .fieldLink RX6 32 "FilmBenchModel" "isOn" "[Z"] ++ wsX60)
def wsX6_back : List Cond := .code yX6_back cX6_back 2 (some .int) :: ([.fieldLink RX6 172 "FilmBenchModel" "hasKept" "Z", .fieldLink RX6 176 "FilmBenchModel" "keptHigh" "I", .fieldLink RX6 7 "FilmBenchModel" "high" "I", .fieldLink RX6 179 "FilmBenchModel" "keptWide" "I", .fieldLink RX6 13 "FilmBenchModel" "wide" "I", .fieldLink RX6 182 "FilmBenchModel" "keptFrames" "I", .fieldLink RX6 72 "FilmBenchModel" "frames" "I", .fieldLink RX6 185 "FilmBenchModel" "keptLayers" "I", .fieldLink RX6 79 "FilmBenchModel" "layers" "I", .fieldLink RX6 16 "FilmBenchModel" "raw" "[I", .fieldLink RX6 39 "FilmBenchModel" "keptRaw" "[I", .fieldLink RX6 20 "FilmBenchModel" "kind" "[I", .fieldLink RX6 42 "FilmBenchModel" "keptKind" "[I", .fieldLink RX6 23 "FilmBenchModel" "of" "[I", .fieldLink RX6 45 "FilmBenchModel" "keptOf" "[I", .fieldLink RX6 26 "FilmBenchModel" "first" "[I", .fieldLink RX6 48 "FilmBenchModel" "keptFirst" "[I", .fieldLink RX6 29 "FilmBenchModel" "second" "[I", .fieldLink RX6 51 "FilmBenchModel" "keptSecond" "[I", .fieldLink RX6 32 "FilmBenchModel" "isOn" "[Z", .fieldLink RX6 54 "FilmBenchModel" "keptOn" "[Z"] ++ wsX60)
def wsJ9_abs_0f7a4 : List Cond := .code yJ9_abs_0f7a4 cJ9_abs_0f7a4 1 (some .int) :: ([])
def wsJ9_max_7cf53 : List Cond := .code yJ9_max_7cf53 cJ9_max_7cf53 2 (some .int) :: ([])
def wsJ9_min_7cf53 : List Cond := .code yJ9_min_7cf53 cJ9_min_7cf53 2 (some .int) :: ([])
def wsL_law_r1 : List Cond := [Cond.classLink RL 7 RX5, Cond.instantiable RX5 9, Cond.initialized RX5, Cond.classLink RL 10 RX6, Cond.instantiable RX6 33, Cond.initialized RX6, Cond.constantLong RL 32 (4294967295), Cond.methodLink RL 9 yX5_init, Cond.instanceMethod yX5_init, Cond.code yX5_init cX5_init 1 none, Cond.methodLink RX5 3 objectInit, Cond.instanceMethod objectInit, Cond.code objectInit ⟨#[0xb1]⟩ 1 none, Cond.classLink RX5 9 RX1, Cond.instantiable RX1 5, Cond.initialized RX1, Cond.fieldLink RX5 12 "FilmBench" "film" "LFilmBench$Reel;", Cond.classLink RX5 16 RX0, Cond.instantiable RX0 6, Cond.initialized RX0, Cond.fieldLink RX5 19 "FilmBench" "layers" "LFilmBench$Layers;", Cond.arrayClass .int, Cond.fieldLink RX5 23 "FilmBench" "rules" "[I", Cond.fieldLink RX5 27 "FilmBench" "FIRST_RULES" "[I"]
def wsL_law_r2 : List Cond := [Cond.methodLink RX5 30 arraycopyName, Cond.native arraycopyName, Cond.static arraycopyName, Cond.initialized "java/lang/System", Cond.classLink RX5 36 RX3, Cond.instantiable RX3 7, Cond.initialized RX3, Cond.fieldLink RX5 41 "FilmBench" "shifts" "LFilmBench$Shifts;", Cond.classLink RX5 45 RX4, Cond.instantiable RX4 6, Cond.initialized RX4, Cond.fieldLink RX5 48 "FilmBench" "steady" "LFilmBench$Steady;", Cond.classLink RX5 52 RX2, Cond.instantiable RX2 6, Cond.initialized RX2, Cond.fieldLink RX5 57 "FilmBench" "sheet" "LFilmBench$Sheet;", Cond.fieldLink RX5 61 "FilmBench" "keptFilm" "LFilmBench$Reel;", Cond.fieldLink RX5 64 "FilmBench" "keptLayers" "LFilmBench$Layers;", Cond.fieldLink RX5 67 "FilmBench" "isKept" "Z", Cond.methodLink RX5 11 yX1_init, Cond.instanceMethod yX1_init, Cond.code yX1_init cX1_init 1 none, Cond.methodLink RX1 3 objectInit, Cond.fieldLink RX1 9 "FilmBench$Reel" "greys" "[I"]
def wsL_law_r3 : List Cond := [Cond.fieldLink RX1 15 "FilmBench$Reel" "high" "I", Cond.fieldLink RX1 19 "FilmBench$Reel" "wide" "I", Cond.fieldLink RX1 22 "FilmBench$Reel" "squares" "I", Cond.fieldLink RX1 25 "FilmBench$Reel" "frames" "I", Cond.methodLink RX5 18 yX0_init, Cond.instanceMethod yX0_init, Cond.code yX0_init cX0_init 1 none, Cond.methodLink RX0 3 objectInit, Cond.fieldLink RX0 9 "FilmBench$Layers" "count" "I", Cond.fieldLink RX0 15 "FilmBench$Layers" "kinds" "[I", Cond.fieldLink RX0 19 "FilmBench$Layers" "owners" "[I", Cond.fieldLink RX0 22 "FilmBench$Layers" "as" "[I", Cond.fieldLink RX0 25 "FilmBench$Layers" "bs" "[I", Cond.arrayClass .boolean, Cond.fieldLink RX0 28 "FilmBench$Layers" "ons" "[Z", Cond.methodLink RX5 38 yX3_init, Cond.instanceMethod yX3_init, Cond.code yX3_init cX3_init 2 none, Cond.methodLink RX3 3 objectInit, Cond.fieldLink RX3 9 "FilmBench$Shifts" "film" "LFilmBench$Reel;", Cond.methodLink RX5 47 yX4_init, Cond.instanceMethod yX4_init, Cond.code yX4_init cX4_init 1 none, Cond.methodLink RX4 5 objectInit]
def wsL_law_r4 : List Cond := [Cond.fieldLink RX4 11 "FilmBench$Steady" "drifts" "[I", Cond.fieldLink RX4 15 "FilmBench$Steady" "spots" "[I", Cond.fieldLink RX4 18 "FilmBench$Steady" "costsBehind" "[I", Cond.methodLink RX5 54 yX2_init, Cond.instanceMethod yX2_init, Cond.code yX2_init cX2_init 4 none, Cond.methodLink RX2 3 objectInit, Cond.fieldLink RX2 9 "FilmBench$Sheet" "film" "LFilmBench$Reel;", Cond.fieldLink RX2 15 "FilmBench$Sheet" "layers" "LFilmBench$Layers;", Cond.fieldLink RX2 19 "FilmBench$Sheet" "rules" "[I", Cond.fieldLink RX2 23 "FilmBench$Sheet" "now" "[I", Cond.fieldLink RX2 26 "FilmBench$Sheet" "before" "[I", Cond.fieldLink RX2 29 "FilmBench$Sheet" "rising" "[I", Cond.methodLink RL 12 yX6_init, Cond.instanceMethod yX6_init, Cond.code yX6_init cX6_init 1 none, Cond.methodLink RX6 1 objectInit, Cond.fieldLink RX6 7 "FilmBenchModel" "high" "I", Cond.fieldLink RX6 13 "FilmBenchModel" "wide" "I", Cond.fieldLink RX6 16 "FilmBenchModel" "raw" "[I", Cond.fieldLink RX6 20 "FilmBenchModel" "kind" "[I", Cond.fieldLink RX6 23 "FilmBenchModel" "of" "[I", Cond.fieldLink RX6 26 "FilmBenchModel" "first" "[I", Cond.fieldLink RX6 29 "FilmBenchModel" "second" "[I"]
def wsL_law_r5 : List Cond := [Cond.fieldLink RX6 32 "FilmBenchModel" "isOn" "[Z", Cond.fieldLink RX6 36 "FilmBenchModel" "rules" "[I", Cond.fieldLink RX6 39 "FilmBenchModel" "keptRaw" "[I", Cond.fieldLink RX6 42 "FilmBenchModel" "keptKind" "[I", Cond.fieldLink RX6 45 "FilmBenchModel" "keptOf" "[I", Cond.fieldLink RX6 48 "FilmBenchModel" "keptFirst" "[I", Cond.fieldLink RX6 51 "FilmBenchModel" "keptSecond" "[I", Cond.fieldLink RX6 54 "FilmBenchModel" "keptOn" "[Z", Cond.fieldLink RX6 57 "FilmBenchModel" "drifts" "[I", Cond.fieldLink RX6 60 "FilmBenchModel" "path" "[I", Cond.fieldLink RX6 63 "FilmBenchModel" "rest" "[I", Cond.fieldLink RX6 66 "FilmBenchModel" "made" "[I", Cond.fieldLink RX6 69 "FilmBenchModel" "was" "[I", Cond.methodLink RL 13 yX5_reel, Cond.instanceMethod yX5_reel, Cond.selects RX5 yX5_reel yX5_reel, Cond.code yX5_reel cX5_reel 3 (some .int), Cond.fieldLink RX5 79 "FilmBench$Layers" "count" "I", Cond.fieldLink RX5 83 "FilmBench$Reel" "squares" "I", Cond.methodLink RX5 71 yX5_isWithin, Cond.static yX5_isWithin, Cond.code yX5_isWithin cX5_isWithin 3 (some .boolean), Cond.methodLink RX5 75 yX1_start, Cond.instanceMethod yX1_start]
def wsL_law_r6 : List Cond := [Cond.selects RX1 yX1_start yX1_start, Cond.code yX1_start cX1_start 3 none, Cond.methodLink RL 17 yX6_reel, Cond.instanceMethod yX6_reel, Cond.selects RX6 yX6_reel yX6_reel, Cond.code yX6_reel cX6_reel 3 (some .int), Cond.fieldLink RX6 72 "FilmBenchModel" "frames" "I", Cond.fieldLink RX6 79 "FilmBenchModel" "layers" "I", Cond.methodLink RX6 75 yX6_in, Cond.static yX6_in, Cond.code yX6_in cX6_in 3 (some .boolean), Cond.methodLink RL 18 yX5_frame, Cond.instanceMethod yX5_frame, Cond.selects RX5 yX5_frame yX5_frame, Cond.code yX5_frame cX5_frame 1 (some .int), Cond.fieldLink RX5 86 "FilmBench$Reel" "frames" "I", Cond.methodLink RX5 89 yX1_addFrame, Cond.instanceMethod yX1_addFrame, Cond.selects RX1 yX1_addFrame yX1_addFrame, Cond.code yX1_addFrame cX1_addFrame 3 (some .int), Cond.methodLink RX1 35 yX1_setGrey, Cond.instanceMethod yX1_setGrey, Cond.selects RX1 yX1_setGrey yX1_setGrey, Cond.code yX1_setGrey cX1_setGrey 4 none]
def wsL_law_r7 : List Cond := [Cond.methodLink RX1 28 yX1_hasFrame, Cond.instanceMethod yX1_hasFrame, Cond.selects RX1 yX1_hasFrame yX1_hasFrame, Cond.code yX1_hasFrame cX1_hasFrame 2 (some .boolean), Cond.methodLink RX1 32 yX1_hasPlace, Cond.instanceMethod yX1_hasPlace, Cond.selects RX1 yX1_hasPlace yX1_hasPlace, Cond.code yX1_hasPlace cX1_hasPlace 2 (some .boolean), Cond.methodLink RL 22 yX6_frame, Cond.instanceMethod yX6_frame, Cond.selects RX6 yX6_frame yX6_frame, Cond.code yX6_frame cX6_frame 2 (some .int), Cond.methodLink RL 23 yX5_again, Cond.instanceMethod yX5_again, Cond.selects RX5 yX5_again yX5_again, Cond.code yX5_again cX5_again 6 (some .int), Cond.methodLink RX5 101 Lib.Math.min.name, Cond.static Lib.Math.min.name, Cond.initialized "java/lang/Math", Cond.code Lib.Math.min.name Lib.Math.min.code 2 (some .int), Cond.methodLink RX5 106 Lib.Math.max.name, Cond.static Lib.Math.max.name, Cond.code Lib.Math.max.name Lib.Math.max.code 2 (some .int), Cond.methodLink RX5 93 yX1_hasFrame]
def wsL_law_r8 : List Cond := [Cond.methodLink RX5 97 yX1_greyAt, Cond.instanceMethod yX1_greyAt, Cond.selects RX1 yX1_greyAt yX1_greyAt, Cond.code yX1_greyAt cX1_greyAt 3 (some .int), Cond.methodLink RX5 109 yX1_setGrey, Cond.methodLink RL 26 yX6_again, Cond.instanceMethod yX6_again, Cond.selects RX6 yX6_again yX6_again, Cond.code yX6_again cX6_again 6 (some .int), Cond.methodLink RX6 82 yX6_isFrame, Cond.instanceMethod yX6_isFrame, Cond.selects RX6 yX6_isFrame yX6_isFrame, Cond.code yX6_isFrame cX6_isFrame 2 (some .boolean), Cond.methodLink RL 27 yX5_put, Cond.instanceMethod yX5_put, Cond.selects RX5 yX5_put yX5_put, Cond.code yX5_put cX5_put 7 (some .int), Cond.methodLink RX5 113 yX1_placeOf, Cond.instanceMethod yX1_placeOf, Cond.selects RX1 yX1_placeOf yX1_placeOf, Cond.code yX1_placeOf cX1_placeOf 3 (some .int), Cond.methodLink RL 31 yX6_put, Cond.instanceMethod yX6_put, Cond.selects RX6 yX6_put yX6_put]
def wsL_law_r9 : List Cond := [Cond.code yX6_put cX6_put 6 (some .int), Cond.methodLink RX6 86 yX6_isSquare, Cond.instanceMethod yX6_isSquare, Cond.selects RX6 yX6_isSquare yX6_isSquare, Cond.code yX6_isSquare cX6_isSquare 3 (some .boolean), Cond.methodLink RX6 90 yX6_at, Cond.instanceMethod yX6_at, Cond.selects RX6 yX6_at yX6_at, Cond.code yX6_at cX6_at 4 (some .int), Cond.methodLink RL 34 yX5_row, Cond.instanceMethod yX5_row, Cond.selects RX5 yX5_row yX5_row, Cond.code yX5_row cX5_row 9 (some .int), Cond.fieldLink RX5 116 "FilmBench$Reel" "wide" "I", Cond.methodLink RL 38 yX6_row, Cond.instanceMethod yX6_row, Cond.selects RX6 yX6_row yX6_row, Cond.code yX6_row cX6_row 8 (some .int), Cond.constantLong RX6 94 (127), Cond.methodLink RL 39 yX5_raw, Cond.instanceMethod yX5_raw, Cond.selects RX5 yX5_raw yX5_raw, Cond.code yX5_raw cX5_raw 5 (some .int), Cond.methodLink RL 43 yX6_raw]
def wsL_law_r10 : List Cond := [Cond.instanceMethod yX6_raw, Cond.selects RX6 yX6_raw yX6_raw, Cond.code yX6_raw cX6_raw 4 (some .int), Cond.methodLink RL 44 yX5_rule, Cond.instanceMethod yX5_rule, Cond.selects RX5 yX5_rule yX5_rule, Cond.code yX5_rule cX5_rule 4 (some .int), Cond.fieldLink RX5 119 "FilmBench" "LEAST_RULES" "[I", Cond.fieldLink RX5 122 "FilmBench" "MOST_RULES" "[I", Cond.methodLink RL 47 yX6_rule, Cond.instanceMethod yX6_rule, Cond.selects RX6 yX6_rule yX6_rule, Cond.code yX6_rule cX6_rule 4 (some .int), Cond.methodLink RL 48 yX5_miss, Cond.instanceMethod yX5_miss, Cond.selects RX5 yX5_miss yX5_miss, Cond.code yX5_miss cX5_miss 6 (some .int), Cond.fieldLink RX5 132 "FilmBench$Shifts" "sum" "I", Cond.fieldLink RX5 135 "FilmBench$Shifts" "pairs" "I", Cond.methodLink RX5 125 yX3_measure, Cond.instanceMethod yX3_measure, Cond.selects RX3 yX3_measure yX3_measure, Cond.code yX3_measure cX3_measure 10 none, Cond.fieldLink RX3 15 "FilmBench$Shifts" "sum" "I"]
def wsL_law_r11 : List Cond := [Cond.fieldLink RX3 19 "FilmBench$Shifts" "pairs" "I", Cond.fieldLink RX3 22 "FilmBench$Reel" "high" "I", Cond.methodLink RX3 27 Lib.Math.min.name, Cond.fieldLink RX3 33 "FilmBench$Reel" "wide" "I", Cond.methodLink RX3 36 Lib.Math.max.name, Cond.methodLink RX3 45 Lib.Math.abs.name, Cond.static Lib.Math.abs.name, Cond.code Lib.Math.abs.name Lib.Math.abs.code 1 (some .int), Cond.methodLink RX3 39 yX1_placeOf, Cond.methodLink RX3 42 yX1_greyAt, Cond.methodLink RX5 128 yX3_isEnough, Cond.instanceMethod yX3_isEnough, Cond.selects RX3 yX3_isEnough yX3_isEnough, Cond.code yX3_isEnough cX3_isEnough 1 (some .boolean), Cond.fieldLink RX3 49 "FilmBench$Reel" "squares" "I", Cond.methodLink RX5 138 yX5_commonDivisor, Cond.static yX5_commonDivisor, Cond.code yX5_commonDivisor cX5_commonDivisor 6 (some .int), Cond.methodLink RL 51 yX6_miss, Cond.instanceMethod yX6_miss, Cond.selects RX6 yX6_miss yX6_miss, Cond.code yX6_miss cX6_miss 6 (some .int), Cond.fieldLink RX6 96 "FilmBenchModel" "missAbove" "I", Cond.fieldLink RX6 99 "FilmBenchModel" "missBelow" "I"]
def wsL_law_r12 : List Cond := [Cond.methodLink RX6 102 yX6_findMiss, Cond.instanceMethod yX6_findMiss, Cond.selects RX6 yX6_findMiss yX6_findMiss, Cond.code yX6_findMiss cX6_findMiss 8 (some .boolean), Cond.methodLink RX6 105 yX6_common, Cond.static yX6_common, Cond.code yX6_common cX6_common 5 (some .int), Cond.methodLink RL 52 yX5_shift, Cond.instanceMethod yX5_shift, Cond.selects RX5 yX5_shift yX5_shift, Cond.code yX5_shift cX5_shift 3 (some .int), Cond.methodLink RX5 141 yX3_find, Cond.instanceMethod yX3_find, Cond.selects RX3 yX3_find yX3_find, Cond.code yX3_find cX3_find 4 none, Cond.fieldLink RX3 52 "FilmBench$Shifts" "bestX" "I", Cond.fieldLink RX3 55 "FilmBench$Shifts" "bestY" "I", Cond.fieldLink RX3 58 "FilmBench$Shifts" "bestPairs" "I", Cond.fieldLink RX3 73 "FilmBench$Shifts" "bestSum" "I", Cond.methodLink RX3 61 yX3_measure, Cond.methodLink RX3 65 yX3_isEnough, Cond.methodLink RX3 69 yX3_isBetter, Cond.instanceMethod yX3_isBetter, Cond.selects RX3 yX3_isBetter yX3_isBetter]
def wsL_law_r13 : List Cond := [Cond.code yX3_isBetter cX3_isBetter 5 (some .boolean), Cond.methodLink RX5 145 yX3_along, Cond.instanceMethod yX3_along, Cond.selects RX3 yX3_along yX3_along, Cond.code yX3_along cX3_along 2 (some .int), Cond.methodLink RL 55 yX6_shift, Cond.instanceMethod yX6_shift, Cond.selects RX6 yX6_shift yX6_shift, Cond.code yX6_shift cX6_shift 3 (some .int), Cond.fieldLink RX6 109 "FilmBenchModel" "shiftX" "I", Cond.fieldLink RX6 112 "FilmBenchModel" "shiftY" "I", Cond.methodLink RX6 119 yX6_findShift, Cond.instanceMethod yX6_findShift, Cond.selects RX6 yX6_findShift yX6_findShift, Cond.code yX6_findShift cX6_findShift 9 none, Cond.methodLink RX6 115 yX6_size, Cond.static yX6_size, Cond.code yX6_size cX6_size 1 (some .int), Cond.methodLink RL 56 yX5_drift, Cond.instanceMethod yX5_drift, Cond.selects RX5 yX5_drift yX5_drift, Cond.code yX5_drift cX5_drift 5 (some .int), Cond.methodLink RL 59 yX6_drift, Cond.instanceMethod yX6_drift]
def wsL_law_r14 : List Cond := [Cond.selects RX6 yX6_drift yX6_drift, Cond.code yX6_drift cX6_drift 3 (some .int), Cond.methodLink RX6 123 yX6_driftOf, Cond.instanceMethod yX6_driftOf, Cond.selects RX6 yX6_driftOf yX6_driftOf, Cond.code yX6_driftOf cX6_driftOf 5 (some .int), Cond.methodLink RL 60 yX5_path, Cond.instanceMethod yX5_path, Cond.selects RX5 yX5_path yX5_path, Cond.code yX5_path cX5_path 3 (some .int), Cond.methodLink RX5 149 yX5_findPath, Cond.instanceMethod yX5_findPath, Cond.selects RX5 yX5_findPath yX5_findPath, Cond.code yX5_findPath cX5_findPath 4 none, Cond.methodLink RX5 223 yX4_setDrift, Cond.instanceMethod yX4_setDrift, Cond.selects RX4 yX4_setDrift yX4_setDrift, Cond.code yX4_setDrift cX4_setDrift 3 none, Cond.methodLink RX5 226 yX4_solve, Cond.instanceMethod yX4_solve, Cond.selects RX4 yX4_solve yX4_solve, Cond.code yX4_solve cX4_solve 3 none, Cond.fieldLink RX4 21 "FilmBench$Steady" "frames" "I", Cond.fieldLink RX4 25 "FilmBench$Steady" "stray" "I"]
def wsL_law_r15 : List Cond := [Cond.fieldLink RX4 28 "FilmBench$Steady" "choices" "I", Cond.methodLink RX4 31 arraycopyName, Cond.methodLink RX4 37 yX4_findCosts, Cond.instanceMethod yX4_findCosts, Cond.selects RX4 yX4_findCosts yX4_findCosts, Cond.code yX4_findCosts cX4_findCosts 4 none, Cond.methodLink RX4 43 yX4_slotOf, Cond.static yX4_slotOf, Cond.code yX4_slotOf cX4_slotOf 3 (some .int), Cond.methodLink RX4 47 yX4_leastCostBehind, Cond.instanceMethod yX4_leastCostBehind, Cond.selects RX4 yX4_leastCostBehind yX4_leastCostBehind, Cond.code yX4_leastCostBehind cX4_leastCostBehind 6 (some .int), Cond.methodLink RX4 54 Lib.Math.min.name, Cond.methodLink RX4 50 yX4_costThrough, Cond.instanceMethod yX4_costThrough, Cond.selects RX4 yX4_costThrough yX4_costThrough, Cond.code yX4_costThrough cX4_costThrough 6 (some .int), Cond.methodLink RX4 63 Lib.Math.abs.name, Cond.methodLink RX4 60 yX4_spotOf, Cond.instanceMethod yX4_spotOf, Cond.selects RX4 yX4_spotOf yX4_spotOf, Cond.code yX4_spotOf cX4_spotOf 3 (some .int), Cond.methodLink RX4 40 yX4_takeChoices]
def wsL_law_r16 : List Cond := [Cond.instanceMethod yX4_takeChoices, Cond.selects RX4 yX4_takeChoices yX4_takeChoices, Cond.code yX4_takeChoices cX4_takeChoices 7 none, Cond.methodLink RX4 67 yX4_costOfStart, Cond.instanceMethod yX4_costOfStart, Cond.selects RX4 yX4_costOfStart yX4_costOfStart, Cond.code yX4_costOfStart cX4_costOfStart 3 (some .int), Cond.methodLink RX4 70 yX4_leastThird, Cond.instanceMethod yX4_leastThird, Cond.selects RX4 yX4_leastThird yX4_leastThird, Cond.code yX4_leastThird cX4_leastThird 6 (some .int), Cond.methodLink RX5 152 yX4_spotAt, Cond.instanceMethod yX4_spotAt, Cond.selects RX4 yX4_spotAt yX4_spotAt, Cond.code yX4_spotAt cX4_spotAt 2 (some .int), Cond.methodLink RL 63 yX6_path, Cond.instanceMethod yX6_path, Cond.selects RX6 yX6_path yX6_path, Cond.code yX6_path cX6_path 3 (some .int), Cond.methodLink RX6 145 yX6_findPath, Cond.instanceMethod yX6_findPath, Cond.selects RX6 yX6_findPath yX6_findPath, Cond.code yX6_findPath cX6_findPath 9 none, Cond.fieldLink RX6 136 "FilmBenchModel" "bendsOf" "I"]
def wsL_law_r17 : List Cond := [Cond.fieldLink RX6 139 "FilmBenchModel" "straysOf" "I", Cond.methodLink RX6 142 yX6_findRest, Cond.instanceMethod yX6_findRest, Cond.selects RX6 yX6_findRest yX6_findRest, Cond.code yX6_findRest cX6_findRest 7 none, Cond.methodLink RX6 132 yX6_by, Cond.instanceMethod yX6_by, Cond.selects RX6 yX6_by yX6_by, Cond.code yX6_by cX6_by 6 (some .int), Cond.methodLink RX6 126 yX6_placeAt, Cond.instanceMethod yX6_placeAt, Cond.selects RX6 yX6_placeAt yX6_placeAt, Cond.code yX6_placeAt cX6_placeAt 3 (some .int), Cond.methodLink RX6 129 yX6_strayAt, Cond.instanceMethod yX6_strayAt, Cond.selects RX6 yX6_strayAt yX6_strayAt, Cond.code yX6_strayAt cX6_strayAt 2 (some .int), Cond.methodLink RL 64 yX5_bends, Cond.instanceMethod yX5_bends, Cond.selects RX5 yX5_bends yX5_bends, Cond.code yX5_bends cX5_bends 3 (some .int), Cond.methodLink RX5 155 yX4_sumOfBends, Cond.instanceMethod yX4_sumOfBends, Cond.selects RX4 yX4_sumOfBends yX4_sumOfBends]
def wsL_law_r18 : List Cond := [Cond.code yX4_sumOfBends cX4_sumOfBends 3 (some .int), Cond.methodLink RX5 158 yX4_sumOfStrays, Cond.instanceMethod yX4_sumOfStrays, Cond.selects RX4 yX4_sumOfStrays yX4_sumOfStrays, Cond.code yX4_sumOfStrays cX4_sumOfStrays 3 (some .int), Cond.methodLink RL 67 yX6_bends, Cond.instanceMethod yX6_bends, Cond.selects RX6 yX6_bends yX6_bends, Cond.code yX6_bends cX6_bends 3 (some .int), Cond.methodLink RL 68 yX5_dust, Cond.instanceMethod yX5_dust, Cond.selects RX5 yX5_dust yX5_dust, Cond.code yX5_dust cX5_dust 4 (some .int), Cond.methodLink RX5 161 yX2_isDust, Cond.instanceMethod yX2_isDust, Cond.selects RX2 yX2_isDust yX2_isDust, Cond.code yX2_isDust cX2_isDust 6 (some .boolean), Cond.methodLink RX2 90 Lib.Math.abs.name, Cond.methodLink RX2 38 yX1_greyAt, Cond.methodLink RL 72 yX6_dust, Cond.instanceMethod yX6_dust, Cond.selects RX6 yX6_dust yX6_dust, Cond.code yX6_dust cX6_dust 4 (some .int), Cond.methodLink RX6 148 yX6_cleaned]
def wsL_law_r19 : List Cond := [Cond.instanceMethod yX6_cleaned, Cond.selects RX6 yX6_cleaned yX6_cleaned, Cond.code yX6_cleaned cX6_cleaned 7 (some .int), Cond.methodLink RL 73 yX5_layer, Cond.instanceMethod yX5_layer, Cond.selects RX5 yX5_layer yX5_layer, Cond.code yX5_layer cX5_layer 5 (some .int), Cond.methodLink RX5 164 yX0_add, Cond.instanceMethod yX0_add, Cond.selects RX0 yX0_add yX0_add, Cond.code yX0_add cX0_add 6 (some .int), Cond.methodLink RL 76 yX6_layer, Cond.instanceMethod yX6_layer, Cond.selects RX6 yX6_layer yX6_layer, Cond.code yX6_layer cX6_layer 5 (some .int), Cond.methodLink RL 77 yX5_on, Cond.instanceMethod yX5_on, Cond.selects RX5 yX5_on yX5_on, Cond.code yX5_on cX5_on 4 (some .int), Cond.fieldLink RX5 171 "FilmBench$Layers" "ons" "[Z", Cond.methodLink RX5 168 yX0_has, Cond.instanceMethod yX0_has, Cond.selects RX0 yX0_has yX0_has, Cond.code yX0_has cX0_has 2 (some .boolean)]
def wsL_law_r20 : List Cond := [Cond.methodLink RL 81 yX6_on, Cond.instanceMethod yX6_on, Cond.selects RX6 yX6_on yX6_on, Cond.code yX6_on cX6_on 4 (some .int), Cond.methodLink RX6 151 yX6_isLayer, Cond.instanceMethod yX6_isLayer, Cond.selects RX6 yX6_isLayer yX6_isLayer, Cond.code yX6_isLayer cX6_isLayer 2 (some .boolean), Cond.methodLink RL 82 yX5_peel, Cond.instanceMethod yX5_peel, Cond.selects RX5 yX5_peel yX5_peel, Cond.code yX5_peel cX5_peel 1 (some .int), Cond.methodLink RL 85 yX6_peel, Cond.instanceMethod yX6_peel, Cond.selects RX6 yX6_peel yX6_peel, Cond.code yX6_peel cX6_peel 1 (some .int), Cond.methodLink RL 86 yX5_made, Cond.instanceMethod yX5_made, Cond.selects RX5 yX5_made yX5_made, Cond.code yX5_made cX5_made 5 (some .int), Cond.methodLink RX5 175 yX2_make, Cond.instanceMethod yX2_make, Cond.selects RX2 yX2_make yX2_make, Cond.code yX2_make cX2_make 4 none]
def wsL_law_r21 : List Cond := [Cond.fieldLink RX2 32 "FilmBench$Reel" "squares" "I", Cond.fieldLink RX2 42 "FilmBench$Layers" "count" "I", Cond.fieldLink RX2 47 "FilmBench$Layers" "owners" "[I", Cond.fieldLink RX2 50 "FilmBench$Layers" "ons" "[Z", Cond.methodLink RX2 54 yX2_apply, Cond.instanceMethod yX2_apply, Cond.selects RX2 yX2_apply yX2_apply, Cond.code yX2_apply cX2_apply 3 none, Cond.methodLink RX2 58 arraycopyName, Cond.fieldLink RX2 64 "FilmBench$Layers" "kinds" "[I", Cond.fieldLink RX2 70 "FilmBench$Layers" "as" "[I", Cond.fieldLink RX2 79 "FilmBench$Layers" "bs" "[I", Cond.methodLink RX2 67 yX2_cleanDust, Cond.instanceMethod yX2_cleanDust, Cond.selects RX2 yX2_cleanDust yX2_cleanDust, Cond.code yX2_cleanDust cX2_cleanDust 3 none, Cond.methodLink RX2 86 yX2_isDust, Cond.methodLink RX2 73 yX2_matchLevels, Cond.instanceMethod yX2_matchLevels, Cond.selects RX2 yX2_matchLevels yX2_matchLevels, Cond.code yX2_matchLevels cX2_matchLevels 6 none, Cond.methodLink RX2 96 yX2_sortGreysOf, Cond.instanceMethod yX2_sortGreysOf, Cond.selects RX2 yX2_sortGreysOf yX2_sortGreysOf]
def wsL_law_r22 : List Cond := [Cond.code yX2_sortGreysOf cX2_sortGreysOf 6 (some .int), Cond.methodLink RX2 99 yX2_countLost, Cond.instanceMethod yX2_countLost, Cond.selects RX2 yX2_countLost yX2_countLost, Cond.code yX2_countLost cX2_countLost 3 (some .int), Cond.methodLink RX2 103 yX2_middleRankOf, Cond.instanceMethod yX2_middleRankOf, Cond.selects RX2 yX2_middleRankOf yX2_middleRankOf, Cond.code yX2_middleRankOf cX2_middleRankOf 5 (some .int), Cond.methodLink RX2 76 yX2_fillLost, Cond.instanceMethod yX2_fillLost, Cond.selects RX2 yX2_fillLost yX2_fillLost, Cond.code yX2_fillLost cX2_fillLost 4 none, Cond.methodLink RX2 82 yX2_moveAll, Cond.instanceMethod yX2_moveAll, Cond.selects RX2 yX2_moveAll yX2_moveAll, Cond.code yX2_moveAll cX2_moveAll 6 none, Cond.fieldLink RX2 106 "FilmBench$Reel" "high" "I", Cond.fieldLink RX2 109 "FilmBench$Reel" "wide" "I", Cond.methodLink RX2 112 yX1_placeOf, Cond.methodLink RX2 115 yX1_hasPlace, Cond.methodLink RX5 178 yX2_greyAt, Cond.instanceMethod yX2_greyAt, Cond.selects RX2 yX2_greyAt yX2_greyAt]
def wsL_law_r23 : List Cond := [Cond.code yX2_greyAt cX2_greyAt 2 (some .int), Cond.methodLink RL 89 yX6_made, Cond.instanceMethod yX6_made, Cond.selects RX6 yX6_made yX6_made, Cond.code yX6_made cX6_made 5 (some .int), Cond.methodLink RX6 169 yX6_makes, Cond.instanceMethod yX6_makes, Cond.selects RX6 yX6_makes yX6_makes, Cond.code yX6_makes cX6_makes 6 (some .int), Cond.methodLink RX6 166 yX6_goes, Cond.instanceMethod yX6_goes, Cond.selects RX6 yX6_goes yX6_goes, Cond.code yX6_goes cX6_goes 6 (some .int), Cond.methodLink RX6 157 yX6_matched, Cond.instanceMethod yX6_matched, Cond.selects RX6 yX6_matched yX6_matched, Cond.code yX6_matched cX6_matched 8 (some .int), Cond.methodLink RX6 154 yX6_rising, Cond.instanceMethod yX6_rising, Cond.selects RX6 yX6_rising yX6_rising, Cond.code yX6_rising cX6_rising 6 (some .int), Cond.methodLink RX6 160 yX6_filledFrom, Cond.instanceMethod yX6_filledFrom, Cond.selects RX6 yX6_filledFrom yX6_filledFrom]
def wsL_law_r24 : List Cond := [Cond.code yX6_filledFrom cX6_filledFrom 3 (some .int), Cond.methodLink RX6 163 yX6_moved, Cond.instanceMethod yX6_moved, Cond.selects RX6 yX6_moved yX6_moved, Cond.code yX6_moved cX6_moved 5 (some .int), Cond.methodLink RL 90 yX5_changed, Cond.instanceMethod yX5_changed, Cond.selects RX5 yX5_changed yX5_changed, Cond.code yX5_changed cX5_changed 2 (some .int), Cond.fieldLink RX5 180 "FilmBench$Layers" "owners" "[I", Cond.methodLink RX5 183 yX2_countChanged, Cond.instanceMethod yX2_countChanged, Cond.selects RX2 yX2_countChanged yX2_countChanged, Cond.code yX2_countChanged cX2_countChanged 3 (some .int), Cond.methodLink RL 93 yX6_changed, Cond.instanceMethod yX6_changed, Cond.selects RX6 yX6_changed yX6_changed, Cond.code yX6_changed cX6_changed 2 (some .int), Cond.methodLink RL 94 yX5_of, Cond.instanceMethod yX5_of, Cond.selects RX5 yX5_of yX5_of, Cond.code yX5_of cX5_of 3 (some .int), Cond.fieldLink RX5 186 "FilmBench$Layers" "kinds" "[I", Cond.fieldLink RX5 189 "FilmBench$Layers" "as" "[I"]
def wsL_law_r25 : List Cond := [Cond.fieldLink RX5 192 "FilmBench$Layers" "bs" "[I", Cond.methodLink RL 97 yX6_of, Cond.instanceMethod yX6_of, Cond.selects RX6 yX6_of yX6_of, Cond.code yX6_of cX6_of 3 (some .int), Cond.methodLink RL 98 yX5_told, Cond.instanceMethod yX5_told, Cond.selects RX5 yX5_told yX5_told, Cond.code yX5_told cX5_told 3 (some .int), Cond.methodLink RX5 195 yX2_countLost, Cond.methodLink RX5 198 yX2_sumOfGreys, Cond.instanceMethod yX2_sumOfGreys, Cond.selects RX2 yX2_sumOfGreys yX2_sumOfGreys, Cond.code yX2_sumOfGreys cX2_sumOfGreys 3 (some .int), Cond.methodLink RX5 201 yX2_leastGrey, Cond.instanceMethod yX2_leastGrey, Cond.selects RX2 yX2_leastGrey yX2_leastGrey, Cond.code yX2_leastGrey cX2_leastGrey 3 (some .int), Cond.methodLink RX2 119 Lib.Math.min.name, Cond.methodLink RX5 204 yX2_greatestGrey, Cond.instanceMethod yX2_greatestGrey, Cond.selects RX2 yX2_greatestGrey yX2_greatestGrey, Cond.code yX2_greatestGrey cX2_greatestGrey 3 (some .int), Cond.methodLink RX2 122 Lib.Math.max.name]
def wsL_law_r26 : List Cond := [Cond.methodLink RX5 207 yX2_countUnlikeRaw, Cond.instanceMethod yX2_countUnlikeRaw, Cond.selects RX2 yX2_countUnlikeRaw yX2_countUnlikeRaw, Cond.code yX2_countUnlikeRaw cX2_countUnlikeRaw 4 (some .int), Cond.methodLink RL 101 yX6_told, Cond.instanceMethod yX6_told, Cond.selects RX6 yX6_told yX6_told, Cond.code yX6_told cX6_told 11 (some .int), Cond.methodLink RL 102 yX5_many, Cond.instanceMethod yX5_many, Cond.selects RX5 yX5_many yX5_many, Cond.code yX5_many cX5_many 2 (some .int), Cond.fieldLink RX5 210 "FilmBench$Reel" "high" "I", Cond.methodLink RX5 213 yX0_countOn, Cond.instanceMethod yX0_countOn, Cond.selects RX0 yX0_countOn yX0_countOn, Cond.code yX0_countOn cX0_countOn 3 (some .int), Cond.methodLink RX5 216 yX1_countLost, Cond.instanceMethod yX1_countLost, Cond.selects RX1 yX1_countLost yX1_countLost, Cond.code yX1_countLost cX1_countLost 4 (some .int), Cond.methodLink RX1 39 yX1_greyAt, Cond.methodLink RL 105 yX6_many, Cond.instanceMethod yX6_many]
def wsL_law_r27 : List Cond := [Cond.selects RX6 yX6_many yX6_many, Cond.code yX6_many cX6_many 5 (some .int), Cond.methodLink RL 106 yX5_keep, Cond.instanceMethod yX5_keep, Cond.selects RX5 yX5_keep yX5_keep, Cond.code yX5_keep cX5_keep 1 (some .int), Cond.methodLink RX5 217 yX1_copyFrom, Cond.instanceMethod yX1_copyFrom, Cond.selects RX1 yX1_copyFrom yX1_copyFrom, Cond.code yX1_copyFrom cX1_copyFrom 2 none, Cond.methodLink RX1 43 arraycopyName, Cond.methodLink RX5 220 yX0_copyFrom, Cond.instanceMethod yX0_copyFrom, Cond.selects RX0 yX0_copyFrom yX0_copyFrom, Cond.code yX0_copyFrom cX0_copyFrom 3 none, Cond.methodLink RL 109 yX6_keep, Cond.instanceMethod yX6_keep, Cond.selects RX6 yX6_keep yX6_keep, Cond.code yX6_keep cX6_keep 2 (some .int), Cond.fieldLink RX6 172 "FilmBenchModel" "hasKept" "Z", Cond.fieldLink RX6 176 "FilmBenchModel" "keptHigh" "I", Cond.fieldLink RX6 179 "FilmBenchModel" "keptWide" "I", Cond.fieldLink RX6 182 "FilmBenchModel" "keptFrames" "I", Cond.fieldLink RX6 185 "FilmBenchModel" "keptLayers" "I"]
def wsL_law_r28 : List Cond := [Cond.methodLink RL 110 yX5_back, Cond.instanceMethod yX5_back, Cond.selects RX5 yX5_back yX5_back, Cond.code yX5_back cX5_back 1 (some .int), Cond.methodLink RL 113 yX6_back, Cond.instanceMethod yX6_back, Cond.selects RX6 yX6_back yX6_back, Cond.code yX6_back cX6_back 2 (some .int)]
def wsL_law : List Cond := (wsL_law_r1 ++ (wsL_law_r2 ++ (wsL_law_r3 ++ (wsL_law_r4 ++ (wsL_law_r5 ++ (wsL_law_r6 ++ (wsL_law_r7 ++ (wsL_law_r8 ++ (wsL_law_r9 ++ (wsL_law_r10 ++ (wsL_law_r11 ++ (wsL_law_r12 ++ (wsL_law_r13 ++ (wsL_law_r14 ++ (wsL_law_r15 ++ (wsL_law_r16 ++ (wsL_law_r17 ++ (wsL_law_r18 ++ (wsL_law_r19 ++ (wsL_law_r20 ++ (wsL_law_r21 ++ (wsL_law_r22 ++ (wsL_law_r23 ++ (wsL_law_r24 ++ (wsL_law_r25 ++ (wsL_law_r26 ++ (wsL_law_r27 ++ wsL_law_r28))))))))))))))))))))))))))) ++ wsX50 ++ wsX60 ++ wsX10 ++ wsX00 ++ wsX30 ++ wsX40 ++ wsX20 ++ ([] : List Cond)
abbrev vwCl : List vw_C := [(RX0, TX0, 6), (RX1, TX1, 5), (RX2, TX2, 6), (RX3, TX3, 7), (RX4, TX4, 6), (RX5, TX5, 9), (RX6, TX6, 33)]
end
section
theorem dX0_init_0 : decode cX0_init 0 = .ok (.aload_n 0, 1) := by decide +kernel
theorem dX0_init_1 : decode cX0_init 1 = .ok (.invokespecial 3, 3) := by decide +kernel
theorem dX0_init_4 : decode cX0_init 4 = .ok (.aload_n 0, 1) := by decide +kernel
theorem dX0_init_5 : decode cX0_init 5 = .ok (.iconst 0, 1) := by decide +kernel
theorem dX0_init_6 : decode cX0_init 6 = .ok (.putfield 9, 3) := by decide +kernel
theorem dX0_init_9 : decode cX0_init 9 = .ok (.aload_n 0, 1) := by decide +kernel
theorem dX0_init_10 : decode cX0_init 10 = .ok (.bipush 12, 2) := by decide +kernel
theorem dX0_init_12 : decode cX0_init 12 = .ok (.newarray .int, 2) := by decide +kernel
theorem dX0_init_14 : decode cX0_init 14 = .ok (.putfield 15, 3) := by decide +kernel
theorem dX0_init_17 : decode cX0_init 17 = .ok (.aload_n 0, 1) := by decide +kernel
theorem dX0_init_18 : decode cX0_init 18 = .ok (.bipush 12, 2) := by decide +kernel
theorem dX0_init_20 : decode cX0_init 20 = .ok (.newarray .int, 2) := by decide +kernel
theorem dX0_init_22 : decode cX0_init 22 = .ok (.putfield 19, 3) := by decide +kernel
theorem dX0_init_25 : decode cX0_init 25 = .ok (.aload_n 0, 1) := by decide +kernel
theorem dX0_init_26 : decode cX0_init 26 = .ok (.bipush 12, 2) := by decide +kernel
theorem dX0_init_28 : decode cX0_init 28 = .ok (.newarray .int, 2) := by decide +kernel
theorem dX0_init_30 : decode cX0_init 30 = .ok (.putfield 22, 3) := by decide +kernel
theorem dX0_init_33 : decode cX0_init 33 = .ok (.aload_n 0, 1) := by decide +kernel
theorem dX0_init_34 : decode cX0_init 34 = .ok (.bipush 12, 2) := by decide +kernel
theorem dX0_init_36 : decode cX0_init 36 = .ok (.newarray .int, 2) := by decide +kernel
theorem dX0_init_38 : decode cX0_init 38 = .ok (.putfield 25, 3) := by decide +kernel
theorem dX0_init_41 : decode cX0_init 41 = .ok (.aload_n 0, 1) := by decide +kernel
theorem dX0_init_42 : decode cX0_init 42 = .ok (.bipush 12, 2) := by decide +kernel
theorem dX0_init_44 : decode cX0_init 44 = .ok (.newarray .boolean, 2) := by decide +kernel
theorem dX0_init_46 : decode cX0_init 46 = .ok (.putfield 28, 3) := by decide +kernel
theorem dX0_init_49 : decode cX0_init 49 = .ok (.return_, 1) := by decide +kernel
theorem dX0_has_0 : decode cX0_has 0 = .ok (.iload_n 1, 1) := by decide +kernel
theorem dX0_has_1 : decode cX0_has 1 = .ok (.ifCond .lt 15, 3) := by decide +kernel
theorem dX0_has_4 : decode cX0_has 4 = .ok (.iload_n 1, 1) := by decide +kernel
theorem dX0_has_5 : decode cX0_has 5 = .ok (.aload_n 0, 1) := by decide +kernel
theorem dX0_has_6 : decode cX0_has 6 = .ok (.getfield 9, 3) := by decide +kernel
theorem dX0_has_9 : decode cX0_has 9 = .ok (.if_icmp .ge 7, 3) := by decide +kernel
theorem dX0_has_12 : decode cX0_has 12 = .ok (.iconst 1, 1) := by decide +kernel
theorem dX0_has_13 : decode cX0_has 13 = .ok (.goto 4, 3) := by decide +kernel
theorem dX0_has_16 : decode cX0_has 16 = .ok (.iconst 0, 1) := by decide +kernel
theorem dX0_has_17 : decode cX0_has 17 = .ok (.ireturn, 1) := by decide +kernel
theorem dX0_add_0 : decode cX0_add 0 = .ok (.aload_n 0, 1) := by decide +kernel
theorem dX0_add_1 : decode cX0_add 1 = .ok (.getfield 9, 3) := by decide +kernel
theorem dX0_add_4 : decode cX0_add 4 = .ok (.istore 5, 2) := by decide +kernel
theorem dX0_add_6 : decode cX0_add 6 = .ok (.aload_n 0, 1) := by decide +kernel
theorem dX0_add_7 : decode cX0_add 7 = .ok (.dup, 1) := by decide +kernel
theorem dX0_add_8 : decode cX0_add 8 = .ok (.getfield 9, 3) := by decide +kernel
theorem dX0_add_11 : decode cX0_add 11 = .ok (.iconst 1, 1) := by decide +kernel
theorem dX0_add_12 : decode cX0_add 12 = .ok (.iadd, 1) := by decide +kernel
theorem dX0_add_13 : decode cX0_add 13 = .ok (.putfield 9, 3) := by decide +kernel
theorem dX0_add_16 : decode cX0_add 16 = .ok (.aload_n 0, 1) := by decide +kernel
theorem dX0_add_17 : decode cX0_add 17 = .ok (.getfield 15, 3) := by decide +kernel
theorem dX0_add_20 : decode cX0_add 20 = .ok (.iload 5, 2) := by decide +kernel
theorem dX0_add_22 : decode cX0_add 22 = .ok (.iload_n 1, 1) := by decide +kernel
theorem dX0_add_23 : decode cX0_add 23 = .ok (.iastore, 1) := by decide +kernel
theorem dX0_add_24 : decode cX0_add 24 = .ok (.aload_n 0, 1) := by decide +kernel
theorem dX0_add_25 : decode cX0_add 25 = .ok (.getfield 19, 3) := by decide +kernel
theorem dX0_add_28 : decode cX0_add 28 = .ok (.iload 5, 2) := by decide +kernel
theorem dX0_add_30 : decode cX0_add 30 = .ok (.iload_n 2, 1) := by decide +kernel
theorem dX0_add_31 : decode cX0_add 31 = .ok (.iastore, 1) := by decide +kernel
theorem dX0_add_32 : decode cX0_add 32 = .ok (.aload_n 0, 1) := by decide +kernel
theorem dX0_add_33 : decode cX0_add 33 = .ok (.getfield 22, 3) := by decide +kernel
theorem dX0_add_36 : decode cX0_add 36 = .ok (.iload 5, 2) := by decide +kernel
theorem dX0_add_38 : decode cX0_add 38 = .ok (.iload_n 3, 1) := by decide +kernel
theorem dX0_add_39 : decode cX0_add 39 = .ok (.iastore, 1) := by decide +kernel
theorem dX0_add_40 : decode cX0_add 40 = .ok (.aload_n 0, 1) := by decide +kernel
theorem dX0_add_41 : decode cX0_add 41 = .ok (.getfield 25, 3) := by decide +kernel
theorem dX0_add_44 : decode cX0_add 44 = .ok (.iload 5, 2) := by decide +kernel
theorem dX0_add_46 : decode cX0_add 46 = .ok (.iload 4, 2) := by decide +kernel
theorem dX0_add_48 : decode cX0_add 48 = .ok (.iastore, 1) := by decide +kernel
theorem dX0_add_49 : decode cX0_add 49 = .ok (.aload_n 0, 1) := by decide +kernel
theorem dX0_add_50 : decode cX0_add 50 = .ok (.getfield 28, 3) := by decide +kernel
theorem dX0_add_53 : decode cX0_add 53 = .ok (.iload 5, 2) := by decide +kernel
theorem dX0_add_55 : decode cX0_add 55 = .ok (.iconst 1, 1) := by decide +kernel
theorem dX0_add_56 : decode cX0_add 56 = .ok (.bastore, 1) := by decide +kernel
theorem dX0_add_57 : decode cX0_add 57 = .ok (.iload 5, 2) := by decide +kernel
theorem dX0_add_59 : decode cX0_add 59 = .ok (.ireturn, 1) := by decide +kernel
theorem dX0_countOn_0 : decode cX0_countOn 0 = .ok (.iconst 0, 1) := by decide +kernel
theorem dX0_countOn_1 : decode cX0_countOn 1 = .ok (.istore_n 1, 1) := by decide +kernel
theorem dX0_countOn_2 : decode cX0_countOn 2 = .ok (.iconst 0, 1) := by decide +kernel
theorem dX0_countOn_3 : decode cX0_countOn 3 = .ok (.istore_n 2, 1) := by decide +kernel
theorem dX0_countOn_4 : decode cX0_countOn 4 = .ok (.iload_n 2, 1) := by decide +kernel
theorem dX0_countOn_5 : decode cX0_countOn 5 = .ok (.aload_n 0, 1) := by decide +kernel
theorem dX0_countOn_6 : decode cX0_countOn 6 = .ok (.getfield 9, 3) := by decide +kernel
theorem dX0_countOn_9 : decode cX0_countOn 9 = .ok (.if_icmp .ge 21, 3) := by decide +kernel
theorem dX0_countOn_12 : decode cX0_countOn 12 = .ok (.aload_n 0, 1) := by decide +kernel
theorem dX0_countOn_13 : decode cX0_countOn 13 = .ok (.getfield 28, 3) := by decide +kernel
theorem dX0_countOn_16 : decode cX0_countOn 16 = .ok (.iload_n 2, 1) := by decide +kernel
theorem dX0_countOn_17 : decode cX0_countOn 17 = .ok (.baload, 1) := by decide +kernel
theorem dX0_countOn_18 : decode cX0_countOn 18 = .ok (.ifCond .eq 6, 3) := by decide +kernel
theorem dX0_countOn_21 : decode cX0_countOn 21 = .ok (.iinc 1 1, 3) := by decide +kernel
theorem dX0_countOn_24 : decode cX0_countOn 24 = .ok (.iinc 2 1, 3) := by decide +kernel
theorem dX0_countOn_27 : decode cX0_countOn 27 = .ok (.goto (-23), 3) := by decide +kernel
theorem dX0_countOn_30 : decode cX0_countOn 30 = .ok (.iload_n 1, 1) := by decide +kernel
theorem dX0_countOn_31 : decode cX0_countOn 31 = .ok (.ireturn, 1) := by decide +kernel
theorem dX0_copyFrom_0 : decode cX0_copyFrom 0 = .ok (.aload_n 0, 1) := by decide +kernel
theorem dX0_copyFrom_1 : decode cX0_copyFrom 1 = .ok (.aload_n 1, 1) := by decide +kernel
theorem dX0_copyFrom_2 : decode cX0_copyFrom 2 = .ok (.getfield 9, 3) := by decide +kernel
theorem dX0_copyFrom_5 : decode cX0_copyFrom 5 = .ok (.putfield 9, 3) := by decide +kernel
theorem dX0_copyFrom_8 : decode cX0_copyFrom 8 = .ok (.iconst 0, 1) := by decide +kernel
theorem dX0_copyFrom_9 : decode cX0_copyFrom 9 = .ok (.istore_n 2, 1) := by decide +kernel
theorem dX0_copyFrom_10 : decode cX0_copyFrom 10 = .ok (.iload_n 2, 1) := by decide +kernel
theorem dX0_copyFrom_11 : decode cX0_copyFrom 11 = .ok (.bipush 12, 2) := by decide +kernel
theorem dX0_copyFrom_13 : decode cX0_copyFrom 13 = .ok (.if_icmp .ge 69, 3) := by decide +kernel
theorem dX0_copyFrom_16 : decode cX0_copyFrom 16 = .ok (.aload_n 0, 1) := by decide +kernel
theorem dX0_copyFrom_17 : decode cX0_copyFrom 17 = .ok (.getfield 15, 3) := by decide +kernel
theorem dX0_copyFrom_20 : decode cX0_copyFrom 20 = .ok (.iload_n 2, 1) := by decide +kernel
theorem dX0_copyFrom_21 : decode cX0_copyFrom 21 = .ok (.aload_n 1, 1) := by decide +kernel
theorem dX0_copyFrom_22 : decode cX0_copyFrom 22 = .ok (.getfield 15, 3) := by decide +kernel
theorem dX0_copyFrom_25 : decode cX0_copyFrom 25 = .ok (.iload_n 2, 1) := by decide +kernel
theorem dX0_copyFrom_26 : decode cX0_copyFrom 26 = .ok (.iaload, 1) := by decide +kernel
theorem dX0_copyFrom_27 : decode cX0_copyFrom 27 = .ok (.iastore, 1) := by decide +kernel
theorem dX0_copyFrom_28 : decode cX0_copyFrom 28 = .ok (.aload_n 0, 1) := by decide +kernel
theorem dX0_copyFrom_29 : decode cX0_copyFrom 29 = .ok (.getfield 19, 3) := by decide +kernel
theorem dX0_copyFrom_32 : decode cX0_copyFrom 32 = .ok (.iload_n 2, 1) := by decide +kernel
theorem dX0_copyFrom_33 : decode cX0_copyFrom 33 = .ok (.aload_n 1, 1) := by decide +kernel
theorem dX0_copyFrom_34 : decode cX0_copyFrom 34 = .ok (.getfield 19, 3) := by decide +kernel
theorem dX0_copyFrom_37 : decode cX0_copyFrom 37 = .ok (.iload_n 2, 1) := by decide +kernel
theorem dX0_copyFrom_38 : decode cX0_copyFrom 38 = .ok (.iaload, 1) := by decide +kernel
theorem dX0_copyFrom_39 : decode cX0_copyFrom 39 = .ok (.iastore, 1) := by decide +kernel
theorem dX0_copyFrom_40 : decode cX0_copyFrom 40 = .ok (.aload_n 0, 1) := by decide +kernel
theorem dX0_copyFrom_41 : decode cX0_copyFrom 41 = .ok (.getfield 22, 3) := by decide +kernel
theorem dX0_copyFrom_44 : decode cX0_copyFrom 44 = .ok (.iload_n 2, 1) := by decide +kernel
theorem dX0_copyFrom_45 : decode cX0_copyFrom 45 = .ok (.aload_n 1, 1) := by decide +kernel
theorem dX0_copyFrom_46 : decode cX0_copyFrom 46 = .ok (.getfield 22, 3) := by decide +kernel
theorem dX0_copyFrom_49 : decode cX0_copyFrom 49 = .ok (.iload_n 2, 1) := by decide +kernel
theorem dX0_copyFrom_50 : decode cX0_copyFrom 50 = .ok (.iaload, 1) := by decide +kernel
theorem dX0_copyFrom_51 : decode cX0_copyFrom 51 = .ok (.iastore, 1) := by decide +kernel
theorem dX0_copyFrom_52 : decode cX0_copyFrom 52 = .ok (.aload_n 0, 1) := by decide +kernel
theorem dX0_copyFrom_53 : decode cX0_copyFrom 53 = .ok (.getfield 25, 3) := by decide +kernel
theorem dX0_copyFrom_56 : decode cX0_copyFrom 56 = .ok (.iload_n 2, 1) := by decide +kernel
theorem dX0_copyFrom_57 : decode cX0_copyFrom 57 = .ok (.aload_n 1, 1) := by decide +kernel
theorem dX0_copyFrom_58 : decode cX0_copyFrom 58 = .ok (.getfield 25, 3) := by decide +kernel
theorem dX0_copyFrom_61 : decode cX0_copyFrom 61 = .ok (.iload_n 2, 1) := by decide +kernel
theorem dX0_copyFrom_62 : decode cX0_copyFrom 62 = .ok (.iaload, 1) := by decide +kernel
theorem dX0_copyFrom_63 : decode cX0_copyFrom 63 = .ok (.iastore, 1) := by decide +kernel
theorem dX0_copyFrom_64 : decode cX0_copyFrom 64 = .ok (.aload_n 0, 1) := by decide +kernel
theorem dX0_copyFrom_65 : decode cX0_copyFrom 65 = .ok (.getfield 28, 3) := by decide +kernel
theorem dX0_copyFrom_68 : decode cX0_copyFrom 68 = .ok (.iload_n 2, 1) := by decide +kernel
theorem dX0_copyFrom_69 : decode cX0_copyFrom 69 = .ok (.aload_n 1, 1) := by decide +kernel
theorem dX0_copyFrom_70 : decode cX0_copyFrom 70 = .ok (.getfield 28, 3) := by decide +kernel
theorem dX0_copyFrom_73 : decode cX0_copyFrom 73 = .ok (.iload_n 2, 1) := by decide +kernel
theorem dX0_copyFrom_74 : decode cX0_copyFrom 74 = .ok (.baload, 1) := by decide +kernel
theorem dX0_copyFrom_75 : decode cX0_copyFrom 75 = .ok (.bastore, 1) := by decide +kernel
theorem dX0_copyFrom_76 : decode cX0_copyFrom 76 = .ok (.iinc 2 1, 3) := by decide +kernel
theorem dX0_copyFrom_79 : decode cX0_copyFrom 79 = .ok (.goto (-69), 3) := by decide +kernel
theorem dX0_copyFrom_82 : decode cX0_copyFrom 82 = .ok (.return_, 1) := by decide +kernel
theorem dX1_init_0 : decode cX1_init 0 = .ok (.aload_n 0, 1) := by decide +kernel
theorem dX1_init_1 : decode cX1_init 1 = .ok (.invokespecial 3, 3) := by decide +kernel
theorem dX1_init_4 : decode cX1_init 4 = .ok (.aload_n 0, 1) := by decide +kernel
theorem dX1_init_5 : decode cX1_init 5 = .ok (.sipush 360, 3) := by decide +kernel
theorem dX1_init_8 : decode cX1_init 8 = .ok (.newarray .int, 2) := by decide +kernel
theorem dX1_init_10 : decode cX1_init 10 = .ok (.putfield 9, 3) := by decide +kernel
theorem dX1_init_13 : decode cX1_init 13 = .ok (.aload_n 0, 1) := by decide +kernel
theorem dX1_init_14 : decode cX1_init 14 = .ok (.iconst 2, 1) := by decide +kernel
theorem dX1_init_15 : decode cX1_init 15 = .ok (.putfield 15, 3) := by decide +kernel
theorem dX1_init_18 : decode cX1_init 18 = .ok (.aload_n 0, 1) := by decide +kernel
theorem dX1_init_19 : decode cX1_init 19 = .ok (.iconst 2, 1) := by decide +kernel
theorem dX1_init_20 : decode cX1_init 20 = .ok (.putfield 19, 3) := by decide +kernel
theorem dX1_init_23 : decode cX1_init 23 = .ok (.aload_n 0, 1) := by decide +kernel
theorem dX1_init_24 : decode cX1_init 24 = .ok (.iconst 4, 1) := by decide +kernel
theorem dX1_init_25 : decode cX1_init 25 = .ok (.putfield 22, 3) := by decide +kernel
theorem dX1_init_28 : decode cX1_init 28 = .ok (.aload_n 0, 1) := by decide +kernel
theorem dX1_init_29 : decode cX1_init 29 = .ok (.iconst 0, 1) := by decide +kernel
theorem dX1_init_30 : decode cX1_init 30 = .ok (.putfield 25, 3) := by decide +kernel
theorem dX1_init_33 : decode cX1_init 33 = .ok (.return_, 1) := by decide +kernel
theorem dX1_start_0 : decode cX1_start 0 = .ok (.aload_n 0, 1) := by decide +kernel
theorem dX1_start_1 : decode cX1_start 1 = .ok (.iload_n 1, 1) := by decide +kernel
theorem dX1_start_2 : decode cX1_start 2 = .ok (.putfield 15, 3) := by decide +kernel
theorem dX1_start_5 : decode cX1_start 5 = .ok (.aload_n 0, 1) := by decide +kernel
theorem dX1_start_6 : decode cX1_start 6 = .ok (.iload_n 2, 1) := by decide +kernel
theorem dX1_start_7 : decode cX1_start 7 = .ok (.putfield 19, 3) := by decide +kernel
theorem dX1_start_10 : decode cX1_start 10 = .ok (.aload_n 0, 1) := by decide +kernel
theorem dX1_start_11 : decode cX1_start 11 = .ok (.iload_n 1, 1) := by decide +kernel
theorem dX1_start_12 : decode cX1_start 12 = .ok (.iload_n 2, 1) := by decide +kernel
theorem dX1_start_13 : decode cX1_start 13 = .ok (.imul, 1) := by decide +kernel
theorem dX1_start_14 : decode cX1_start 14 = .ok (.putfield 22, 3) := by decide +kernel
theorem dX1_start_17 : decode cX1_start 17 = .ok (.aload_n 0, 1) := by decide +kernel
theorem dX1_start_18 : decode cX1_start 18 = .ok (.iconst 0, 1) := by decide +kernel
theorem dX1_start_19 : decode cX1_start 19 = .ok (.putfield 25, 3) := by decide +kernel
theorem dX1_start_22 : decode cX1_start 22 = .ok (.return_, 1) := by decide +kernel
theorem dX1_hasFrame_0 : decode cX1_hasFrame 0 = .ok (.iload_n 1, 1) := by decide +kernel
theorem dX1_hasFrame_1 : decode cX1_hasFrame 1 = .ok (.ifCond .lt 15, 3) := by decide +kernel
theorem dX1_hasFrame_4 : decode cX1_hasFrame 4 = .ok (.iload_n 1, 1) := by decide +kernel
theorem dX1_hasFrame_5 : decode cX1_hasFrame 5 = .ok (.aload_n 0, 1) := by decide +kernel
theorem dX1_hasFrame_6 : decode cX1_hasFrame 6 = .ok (.getfield 25, 3) := by decide +kernel
theorem dX1_hasFrame_9 : decode cX1_hasFrame 9 = .ok (.if_icmp .ge 7, 3) := by decide +kernel
theorem dX1_hasFrame_12 : decode cX1_hasFrame 12 = .ok (.iconst 1, 1) := by decide +kernel
theorem dX1_hasFrame_13 : decode cX1_hasFrame 13 = .ok (.goto 4, 3) := by decide +kernel
theorem dX1_hasFrame_16 : decode cX1_hasFrame 16 = .ok (.iconst 0, 1) := by decide +kernel
theorem dX1_hasFrame_17 : decode cX1_hasFrame 17 = .ok (.ireturn, 1) := by decide +kernel
theorem dX1_hasPlace_0 : decode cX1_hasPlace 0 = .ok (.iload_n 1, 1) := by decide +kernel
theorem dX1_hasPlace_1 : decode cX1_hasPlace 1 = .ok (.ifCond .lt 15, 3) := by decide +kernel
theorem dX1_hasPlace_4 : decode cX1_hasPlace 4 = .ok (.iload_n 1, 1) := by decide +kernel
theorem dX1_hasPlace_5 : decode cX1_hasPlace 5 = .ok (.aload_n 0, 1) := by decide +kernel
theorem dX1_hasPlace_6 : decode cX1_hasPlace 6 = .ok (.getfield 22, 3) := by decide +kernel
theorem dX1_hasPlace_9 : decode cX1_hasPlace 9 = .ok (.if_icmp .ge 7, 3) := by decide +kernel
theorem dX1_hasPlace_12 : decode cX1_hasPlace 12 = .ok (.iconst 1, 1) := by decide +kernel
theorem dX1_hasPlace_13 : decode cX1_hasPlace 13 = .ok (.goto 4, 3) := by decide +kernel
theorem dX1_hasPlace_16 : decode cX1_hasPlace 16 = .ok (.iconst 0, 1) := by decide +kernel
theorem dX1_hasPlace_17 : decode cX1_hasPlace 17 = .ok (.ireturn, 1) := by decide +kernel
theorem dX1_placeOf_0 : decode cX1_placeOf 0 = .ok (.iload_n 1, 1) := by decide +kernel
theorem dX1_placeOf_1 : decode cX1_placeOf 1 = .ok (.ifCond .lt 23, 3) := by decide +kernel
theorem dX1_placeOf_4 : decode cX1_placeOf 4 = .ok (.iload_n 1, 1) := by decide +kernel
theorem dX1_placeOf_5 : decode cX1_placeOf 5 = .ok (.aload_n 0, 1) := by decide +kernel
theorem dX1_placeOf_6 : decode cX1_placeOf 6 = .ok (.getfield 15, 3) := by decide +kernel
theorem dX1_placeOf_9 : decode cX1_placeOf 9 = .ok (.if_icmp .ge 15, 3) := by decide +kernel
theorem dX1_placeOf_12 : decode cX1_placeOf 12 = .ok (.iload_n 2, 1) := by decide +kernel
theorem dX1_placeOf_13 : decode cX1_placeOf 13 = .ok (.ifCond .lt 11, 3) := by decide +kernel
theorem dX1_placeOf_16 : decode cX1_placeOf 16 = .ok (.iload_n 2, 1) := by decide +kernel
theorem dX1_placeOf_17 : decode cX1_placeOf 17 = .ok (.aload_n 0, 1) := by decide +kernel
theorem dX1_placeOf_18 : decode cX1_placeOf 18 = .ok (.getfield 19, 3) := by decide +kernel
theorem dX1_placeOf_21 : decode cX1_placeOf 21 = .ok (.if_icmp .lt 7, 3) := by decide +kernel
theorem dX1_placeOf_24 : decode cX1_placeOf 24 = .ok (.sipush (-1000), 3) := by decide +kernel
theorem dX1_placeOf_27 : decode cX1_placeOf 27 = .ok (.ireturn, 1) := by decide +kernel
theorem dX1_placeOf_28 : decode cX1_placeOf 28 = .ok (.iload_n 1, 1) := by decide +kernel
theorem dX1_placeOf_29 : decode cX1_placeOf 29 = .ok (.aload_n 0, 1) := by decide +kernel
theorem dX1_placeOf_30 : decode cX1_placeOf 30 = .ok (.getfield 19, 3) := by decide +kernel
theorem dX1_placeOf_33 : decode cX1_placeOf 33 = .ok (.imul, 1) := by decide +kernel
theorem dX1_placeOf_34 : decode cX1_placeOf 34 = .ok (.iload_n 2, 1) := by decide +kernel
theorem dX1_placeOf_35 : decode cX1_placeOf 35 = .ok (.iadd, 1) := by decide +kernel
theorem dX1_placeOf_36 : decode cX1_placeOf 36 = .ok (.ireturn, 1) := by decide +kernel
set_option maxRecDepth 20000 in
theorem ggX1_greyAt_X1_hasFrame : GoodIn wsX1_greyAt wsX1_hasFrame := goodIn_r _ [6, 7, 13, 14, 15, 16, 17] (by decide +kernel) (by decide +kernel)
set_option maxRecDepth 20000 in
theorem gX1_greyAt_X1_hasFrame : GoodIn wsX1_greyAt (wsV RX1 28 RX1 yX1_hasFrame wsX1_hasFrame) := goodIn_app (goodIn_of _ (by decide +kernel)) ggX1_greyAt_X1_hasFrame
set_option maxRecDepth 20000 in
theorem ggX1_greyAt_X1_hasPlace : GoodIn wsX1_greyAt wsX1_hasPlace := goodIn_r _ [11, 12, 13, 14, 15, 16, 17] (by decide +kernel) (by decide +kernel)
set_option maxRecDepth 20000 in
theorem gX1_greyAt_X1_hasPlace : GoodIn wsX1_greyAt (wsV RX1 32 RX1 yX1_hasPlace wsX1_hasPlace) := goodIn_app (goodIn_of _ (by decide +kernel)) ggX1_greyAt_X1_hasPlace
theorem dX1_greyAt_0 : decode cX1_greyAt 0 = .ok (.aload_n 0, 1) := by decide +kernel
theorem dX1_greyAt_1 : decode cX1_greyAt 1 = .ok (.iload_n 1, 1) := by decide +kernel
theorem dX1_greyAt_2 : decode cX1_greyAt 2 = .ok (.invokevirtual 28, 3) := by decide +kernel
theorem dX1_greyAt_5 : decode cX1_greyAt 5 = .ok (.ifCond .eq 11, 3) := by decide +kernel
theorem dX1_greyAt_8 : decode cX1_greyAt 8 = .ok (.aload_n 0, 1) := by decide +kernel
theorem dX1_greyAt_9 : decode cX1_greyAt 9 = .ok (.iload_n 2, 1) := by decide +kernel
theorem dX1_greyAt_10 : decode cX1_greyAt 10 = .ok (.invokevirtual 32, 3) := by decide +kernel
theorem dX1_greyAt_13 : decode cX1_greyAt 13 = .ok (.ifCond .ne 5, 3) := by decide +kernel
theorem dX1_greyAt_16 : decode cX1_greyAt 16 = .ok (.iconst (-1), 1) := by decide +kernel
theorem dX1_greyAt_17 : decode cX1_greyAt 17 = .ok (.ireturn, 1) := by decide +kernel
theorem dX1_greyAt_18 : decode cX1_greyAt 18 = .ok (.aload_n 0, 1) := by decide +kernel
theorem dX1_greyAt_19 : decode cX1_greyAt 19 = .ok (.getfield 9, 3) := by decide +kernel
theorem dX1_greyAt_22 : decode cX1_greyAt 22 = .ok (.iload_n 1, 1) := by decide +kernel
theorem dX1_greyAt_23 : decode cX1_greyAt 23 = .ok (.bipush 36, 2) := by decide +kernel
theorem dX1_greyAt_25 : decode cX1_greyAt 25 = .ok (.imul, 1) := by decide +kernel
theorem dX1_greyAt_26 : decode cX1_greyAt 26 = .ok (.iload_n 2, 1) := by decide +kernel
theorem dX1_greyAt_27 : decode cX1_greyAt 27 = .ok (.iadd, 1) := by decide +kernel
theorem dX1_greyAt_28 : decode cX1_greyAt 28 = .ok (.iaload, 1) := by decide +kernel
theorem dX1_greyAt_29 : decode cX1_greyAt 29 = .ok (.ireturn, 1) := by decide +kernel
set_option maxRecDepth 20000 in
theorem ggX1_setGrey_X1_hasFrame : GoodIn wsX1_setGrey wsX1_hasFrame := goodIn_r _ [6, 7, 13, 14, 15, 16, 17] (by decide +kernel) (by decide +kernel)
set_option maxRecDepth 20000 in
theorem gX1_setGrey_X1_hasFrame : GoodIn wsX1_setGrey (wsV RX1 28 RX1 yX1_hasFrame wsX1_hasFrame) := goodIn_app (goodIn_of _ (by decide +kernel)) ggX1_setGrey_X1_hasFrame
set_option maxRecDepth 20000 in
theorem ggX1_setGrey_X1_hasPlace : GoodIn wsX1_setGrey wsX1_hasPlace := goodIn_r _ [11, 12, 13, 14, 15, 16, 17] (by decide +kernel) (by decide +kernel)
set_option maxRecDepth 20000 in
theorem gX1_setGrey_X1_hasPlace : GoodIn wsX1_setGrey (wsV RX1 32 RX1 yX1_hasPlace wsX1_hasPlace) := goodIn_app (goodIn_of _ (by decide +kernel)) ggX1_setGrey_X1_hasPlace
theorem dX1_setGrey_0 : decode cX1_setGrey 0 = .ok (.aload_n 0, 1) := by decide +kernel
theorem dX1_setGrey_1 : decode cX1_setGrey 1 = .ok (.iload_n 1, 1) := by decide +kernel
theorem dX1_setGrey_2 : decode cX1_setGrey 2 = .ok (.invokevirtual 28, 3) := by decide +kernel
theorem dX1_setGrey_5 : decode cX1_setGrey 5 = .ok (.ifCond .eq 23, 3) := by decide +kernel
theorem dX1_setGrey_8 : decode cX1_setGrey 8 = .ok (.aload_n 0, 1) := by decide +kernel
theorem dX1_setGrey_9 : decode cX1_setGrey 9 = .ok (.iload_n 2, 1) := by decide +kernel
theorem dX1_setGrey_10 : decode cX1_setGrey 10 = .ok (.invokevirtual 32, 3) := by decide +kernel
theorem dX1_setGrey_13 : decode cX1_setGrey 13 = .ok (.ifCond .eq 15, 3) := by decide +kernel
theorem dX1_setGrey_16 : decode cX1_setGrey 16 = .ok (.aload_n 0, 1) := by decide +kernel
theorem dX1_setGrey_17 : decode cX1_setGrey 17 = .ok (.getfield 9, 3) := by decide +kernel
theorem dX1_setGrey_20 : decode cX1_setGrey 20 = .ok (.iload_n 1, 1) := by decide +kernel
theorem dX1_setGrey_21 : decode cX1_setGrey 21 = .ok (.bipush 36, 2) := by decide +kernel
theorem dX1_setGrey_23 : decode cX1_setGrey 23 = .ok (.imul, 1) := by decide +kernel
theorem dX1_setGrey_24 : decode cX1_setGrey 24 = .ok (.iload_n 2, 1) := by decide +kernel
theorem dX1_setGrey_25 : decode cX1_setGrey 25 = .ok (.iadd, 1) := by decide +kernel
theorem dX1_setGrey_26 : decode cX1_setGrey 26 = .ok (.iload_n 3, 1) := by decide +kernel
theorem dX1_setGrey_27 : decode cX1_setGrey 27 = .ok (.iastore, 1) := by decide +kernel
theorem dX1_setGrey_28 : decode cX1_setGrey 28 = .ok (.return_, 1) := by decide +kernel
set_option maxRecDepth 20000 in
theorem ggX1_addFrame_X1_setGrey : GoodIn wsX1_addFrame wsX1_setGrey := goodIn_r _ [7, 8, 9, 10, 11, 6, 12, 1, 13, 14, 15, 16, 2, 17, 18, 19, 20, 21] (by decide +kernel) (by decide +kernel)
set_option maxRecDepth 20000 in
theorem gX1_addFrame_X1_setGrey : GoodIn wsX1_addFrame (wsV RX1 35 RX1 yX1_setGrey wsX1_setGrey) := goodIn_app (goodIn_of _ (by decide +kernel)) ggX1_addFrame_X1_setGrey
theorem dX1_addFrame_0 : decode cX1_addFrame 0 = .ok (.aload_n 0, 1) := by decide +kernel
theorem dX1_addFrame_1 : decode cX1_addFrame 1 = .ok (.getfield 25, 3) := by decide +kernel
theorem dX1_addFrame_4 : decode cX1_addFrame 4 = .ok (.istore_n 1, 1) := by decide +kernel
theorem dX1_addFrame_5 : decode cX1_addFrame 5 = .ok (.aload_n 0, 1) := by decide +kernel
theorem dX1_addFrame_6 : decode cX1_addFrame 6 = .ok (.dup, 1) := by decide +kernel
theorem dX1_addFrame_7 : decode cX1_addFrame 7 = .ok (.getfield 25, 3) := by decide +kernel
theorem dX1_addFrame_10 : decode cX1_addFrame 10 = .ok (.iconst 1, 1) := by decide +kernel
theorem dX1_addFrame_11 : decode cX1_addFrame 11 = .ok (.iadd, 1) := by decide +kernel
theorem dX1_addFrame_12 : decode cX1_addFrame 12 = .ok (.putfield 25, 3) := by decide +kernel
theorem dX1_addFrame_15 : decode cX1_addFrame 15 = .ok (.iconst 0, 1) := by decide +kernel
theorem dX1_addFrame_16 : decode cX1_addFrame 16 = .ok (.istore_n 2, 1) := by decide +kernel
theorem dX1_addFrame_17 : decode cX1_addFrame 17 = .ok (.iload_n 2, 1) := by decide +kernel
theorem dX1_addFrame_18 : decode cX1_addFrame 18 = .ok (.aload_n 0, 1) := by decide +kernel
theorem dX1_addFrame_19 : decode cX1_addFrame 19 = .ok (.getfield 22, 3) := by decide +kernel
theorem dX1_addFrame_22 : decode cX1_addFrame 22 = .ok (.if_icmp .ge 16, 3) := by decide +kernel
theorem dX1_addFrame_25 : decode cX1_addFrame 25 = .ok (.aload_n 0, 1) := by decide +kernel
theorem dX1_addFrame_26 : decode cX1_addFrame 26 = .ok (.iload_n 1, 1) := by decide +kernel
theorem dX1_addFrame_27 : decode cX1_addFrame 27 = .ok (.iload_n 2, 1) := by decide +kernel
theorem dX1_addFrame_28 : decode cX1_addFrame 28 = .ok (.iconst (-1), 1) := by decide +kernel
theorem dX1_addFrame_29 : decode cX1_addFrame 29 = .ok (.invokevirtual 35, 3) := by decide +kernel
theorem dX1_addFrame_32 : decode cX1_addFrame 32 = .ok (.iinc 2 1, 3) := by decide +kernel
theorem dX1_addFrame_35 : decode cX1_addFrame 35 = .ok (.goto (-18), 3) := by decide +kernel
theorem dX1_addFrame_38 : decode cX1_addFrame 38 = .ok (.iload_n 1, 1) := by decide +kernel
theorem dX1_addFrame_39 : decode cX1_addFrame 39 = .ok (.ireturn, 1) := by decide +kernel
set_option maxRecDepth 20000 in
theorem ggX1_countLost_X1_greyAt : GoodIn wsX1_countLost wsX1_greyAt := goodIn_r _ [7, 8, 9, 10, 11, 6, 12, 1, 13, 14, 15, 16, 2, 17, 18, 19, 20, 21] (by decide +kernel) (by decide +kernel)
set_option maxRecDepth 20000 in
theorem gX1_countLost_X1_greyAt : GoodIn wsX1_countLost (wsV RX1 39 RX1 yX1_greyAt wsX1_greyAt) := goodIn_app (goodIn_of _ (by decide +kernel)) ggX1_countLost_X1_greyAt
theorem dX1_countLost_0 : decode cX1_countLost 0 = .ok (.iconst 0, 1) := by decide +kernel
theorem dX1_countLost_1 : decode cX1_countLost 1 = .ok (.istore_n 1, 1) := by decide +kernel
theorem dX1_countLost_2 : decode cX1_countLost 2 = .ok (.iconst 0, 1) := by decide +kernel
theorem dX1_countLost_3 : decode cX1_countLost 3 = .ok (.istore_n 2, 1) := by decide +kernel
theorem dX1_countLost_4 : decode cX1_countLost 4 = .ok (.iload_n 2, 1) := by decide +kernel
theorem dX1_countLost_5 : decode cX1_countLost 5 = .ok (.aload_n 0, 1) := by decide +kernel
theorem dX1_countLost_6 : decode cX1_countLost 6 = .ok (.getfield 25, 3) := by decide +kernel
theorem dX1_countLost_9 : decode cX1_countLost 9 = .ok (.if_icmp .ge 38, 3) := by decide +kernel
theorem dX1_countLost_12 : decode cX1_countLost 12 = .ok (.iconst 0, 1) := by decide +kernel
theorem dX1_countLost_13 : decode cX1_countLost 13 = .ok (.istore_n 3, 1) := by decide +kernel
theorem dX1_countLost_14 : decode cX1_countLost 14 = .ok (.iload_n 3, 1) := by decide +kernel
theorem dX1_countLost_15 : decode cX1_countLost 15 = .ok (.aload_n 0, 1) := by decide +kernel
theorem dX1_countLost_16 : decode cX1_countLost 16 = .ok (.getfield 22, 3) := by decide +kernel
theorem dX1_countLost_19 : decode cX1_countLost 19 = .ok (.if_icmp .ge 22, 3) := by decide +kernel
theorem dX1_countLost_22 : decode cX1_countLost 22 = .ok (.aload_n 0, 1) := by decide +kernel
theorem dX1_countLost_23 : decode cX1_countLost 23 = .ok (.iload_n 2, 1) := by decide +kernel
theorem dX1_countLost_24 : decode cX1_countLost 24 = .ok (.iload_n 3, 1) := by decide +kernel
theorem dX1_countLost_25 : decode cX1_countLost 25 = .ok (.invokevirtual 39, 3) := by decide +kernel
theorem dX1_countLost_28 : decode cX1_countLost 28 = .ok (.iconst (-1), 1) := by decide +kernel
theorem dX1_countLost_29 : decode cX1_countLost 29 = .ok (.if_icmp .ne 6, 3) := by decide +kernel
theorem dX1_countLost_32 : decode cX1_countLost 32 = .ok (.iinc 1 1, 3) := by decide +kernel
theorem dX1_countLost_35 : decode cX1_countLost 35 = .ok (.iinc 3 1, 3) := by decide +kernel
theorem dX1_countLost_38 : decode cX1_countLost 38 = .ok (.goto (-24), 3) := by decide +kernel
theorem dX1_countLost_41 : decode cX1_countLost 41 = .ok (.iinc 2 1, 3) := by decide +kernel
theorem dX1_countLost_44 : decode cX1_countLost 44 = .ok (.goto (-40), 3) := by decide +kernel
theorem dX1_countLost_47 : decode cX1_countLost 47 = .ok (.iload_n 1, 1) := by decide +kernel
theorem dX1_countLost_48 : decode cX1_countLost 48 = .ok (.ireturn, 1) := by decide +kernel
theorem dX1_copyFrom_0 : decode cX1_copyFrom 0 = .ok (.aload_n 0, 1) := by decide +kernel
theorem dX1_copyFrom_1 : decode cX1_copyFrom 1 = .ok (.aload_n 1, 1) := by decide +kernel
theorem dX1_copyFrom_2 : decode cX1_copyFrom 2 = .ok (.getfield 15, 3) := by decide +kernel
theorem dX1_copyFrom_5 : decode cX1_copyFrom 5 = .ok (.putfield 15, 3) := by decide +kernel
theorem dX1_copyFrom_8 : decode cX1_copyFrom 8 = .ok (.aload_n 0, 1) := by decide +kernel
theorem dX1_copyFrom_9 : decode cX1_copyFrom 9 = .ok (.aload_n 1, 1) := by decide +kernel
theorem dX1_copyFrom_10 : decode cX1_copyFrom 10 = .ok (.getfield 19, 3) := by decide +kernel
theorem dX1_copyFrom_13 : decode cX1_copyFrom 13 = .ok (.putfield 19, 3) := by decide +kernel
theorem dX1_copyFrom_16 : decode cX1_copyFrom 16 = .ok (.aload_n 0, 1) := by decide +kernel
theorem dX1_copyFrom_17 : decode cX1_copyFrom 17 = .ok (.aload_n 1, 1) := by decide +kernel
theorem dX1_copyFrom_18 : decode cX1_copyFrom 18 = .ok (.getfield 22, 3) := by decide +kernel
theorem dX1_copyFrom_21 : decode cX1_copyFrom 21 = .ok (.putfield 22, 3) := by decide +kernel
theorem dX1_copyFrom_24 : decode cX1_copyFrom 24 = .ok (.aload_n 0, 1) := by decide +kernel
theorem dX1_copyFrom_25 : decode cX1_copyFrom 25 = .ok (.aload_n 1, 1) := by decide +kernel
theorem dX1_copyFrom_26 : decode cX1_copyFrom 26 = .ok (.getfield 25, 3) := by decide +kernel
theorem dX1_copyFrom_29 : decode cX1_copyFrom 29 = .ok (.putfield 25, 3) := by decide +kernel
theorem dX1_copyFrom_32 : decode cX1_copyFrom 32 = .ok (.aload_n 1, 1) := by decide +kernel
theorem dX1_copyFrom_33 : decode cX1_copyFrom 33 = .ok (.getfield 9, 3) := by decide +kernel
theorem dX1_copyFrom_36 : decode cX1_copyFrom 36 = .ok (.iconst 0, 1) := by decide +kernel
theorem dX1_copyFrom_37 : decode cX1_copyFrom 37 = .ok (.aload_n 0, 1) := by decide +kernel
theorem dX1_copyFrom_38 : decode cX1_copyFrom 38 = .ok (.getfield 9, 3) := by decide +kernel
theorem dX1_copyFrom_41 : decode cX1_copyFrom 41 = .ok (.iconst 0, 1) := by decide +kernel
theorem dX1_copyFrom_42 : decode cX1_copyFrom 42 = .ok (.sipush 360, 3) := by decide +kernel
theorem dX1_copyFrom_45 : decode cX1_copyFrom 45 = .ok (.invokestatic 43, 3) := by decide +kernel
theorem dX1_copyFrom_48 : decode cX1_copyFrom 48 = .ok (.return_, 1) := by decide +kernel
end
section
theorem dX2_init_0 : decode cX2_init 0 = .ok (.aload_n 0, 1) := by decide +kernel
theorem dX2_init_1 : decode cX2_init 1 = .ok (.invokespecial 3, 3) := by decide +kernel
theorem dX2_init_4 : decode cX2_init 4 = .ok (.aload_n 0, 1) := by decide +kernel
theorem dX2_init_5 : decode cX2_init 5 = .ok (.aload_n 1, 1) := by decide +kernel
theorem dX2_init_6 : decode cX2_init 6 = .ok (.putfield 9, 3) := by decide +kernel
theorem dX2_init_9 : decode cX2_init 9 = .ok (.aload_n 0, 1) := by decide +kernel
theorem dX2_init_10 : decode cX2_init 10 = .ok (.aload_n 2, 1) := by decide +kernel
theorem dX2_init_11 : decode cX2_init 11 = .ok (.putfield 15, 3) := by decide +kernel
theorem dX2_init_14 : decode cX2_init 14 = .ok (.aload_n 0, 1) := by decide +kernel
theorem dX2_init_15 : decode cX2_init 15 = .ok (.aload_n 3, 1) := by decide +kernel
theorem dX2_init_16 : decode cX2_init 16 = .ok (.putfield 19, 3) := by decide +kernel
theorem dX2_init_19 : decode cX2_init 19 = .ok (.aload_n 0, 1) := by decide +kernel
theorem dX2_init_20 : decode cX2_init 20 = .ok (.bipush 36, 2) := by decide +kernel
theorem dX2_init_22 : decode cX2_init 22 = .ok (.newarray .int, 2) := by decide +kernel
theorem dX2_init_24 : decode cX2_init 24 = .ok (.putfield 23, 3) := by decide +kernel
theorem dX2_init_27 : decode cX2_init 27 = .ok (.aload_n 0, 1) := by decide +kernel
theorem dX2_init_28 : decode cX2_init 28 = .ok (.bipush 36, 2) := by decide +kernel
theorem dX2_init_30 : decode cX2_init 30 = .ok (.newarray .int, 2) := by decide +kernel
theorem dX2_init_32 : decode cX2_init 32 = .ok (.putfield 26, 3) := by decide +kernel
theorem dX2_init_35 : decode cX2_init 35 = .ok (.aload_n 0, 1) := by decide +kernel
theorem dX2_init_36 : decode cX2_init 36 = .ok (.bipush 36, 2) := by decide +kernel
theorem dX2_init_38 : decode cX2_init 38 = .ok (.newarray .int, 2) := by decide +kernel
theorem dX2_init_40 : decode cX2_init 40 = .ok (.putfield 29, 3) := by decide +kernel
theorem dX2_init_43 : decode cX2_init 43 = .ok (.return_, 1) := by decide +kernel
set_option maxRecDepth 20000 in
theorem ggX2_make_X1_greyAt : GoodIn wsX2_make wsX1_greyAt := goodIn_r _ [12, 13, 14, 15, 16, 11, 17, 18, 19, 20, 21, 22, 23, 90, 91, 92, 93, 94] (by decide +kernel) (by decide +kernel)
set_option maxRecDepth 20000 in
theorem gX2_make_X1_greyAt : GoodIn wsX2_make (wsV RX2 38 RX1 yX1_greyAt wsX1_greyAt) := goodIn_app (goodIn_of _ (by decide +kernel)) ggX2_make_X1_greyAt
set_option maxRecDepth 20000 in
theorem ggX2_make_X2_apply : GoodIn wsX2_make wsX2_apply := goodIn_r _ [28, 3, 29, 30, 31, 32, 33, 4, 6, 34, 35, 36, 37, 38, 39, 27, 40, 1, 2, 41, 42, 43, 44, 45, 46, 47, 48, 49, 8, 9, 10, 11, 12, 13, 14, 15, 16, 17, 18, 19, 20, 21, 22, 23, 50, 51, 52, 53, 54, 55, 56, 57, 58, 59, 60, 61, 62, 63, 64, 65, 66, 67, 68, 69, 70, 71, 72, 73, 74, 75, 76, 77, 78, 79, 80, 81, 82, 83, 84, 85, 86, 87, 88, 89, 95, 96, 97, 98, 99, 100, 90, 91, 92, 93, 94] (by decide +kernel) (by decide +kernel)
set_option maxRecDepth 20000 in
theorem gX2_make_X2_apply : GoodIn wsX2_make (wsV RX2 54 RX2 yX2_apply wsX2_apply) := goodIn_app (goodIn_of _ (by decide +kernel)) ggX2_make_X2_apply
theorem dX2_make_0 : decode cX2_make 0 = .ok (.iconst 0, 1) := by decide +kernel
theorem dX2_make_1 : decode cX2_make 1 = .ok (.istore_n 3, 1) := by decide +kernel
theorem dX2_make_2 : decode cX2_make 2 = .ok (.iload_n 3, 1) := by decide +kernel
theorem dX2_make_3 : decode cX2_make 3 = .ok (.aload_n 0, 1) := by decide +kernel
theorem dX2_make_4 : decode cX2_make 4 = .ok (.getfield 9, 3) := by decide +kernel
theorem dX2_make_7 : decode cX2_make 7 = .ok (.getfield 32, 3) := by decide +kernel
theorem dX2_make_10 : decode cX2_make 10 = .ok (.if_icmp .ge 24, 3) := by decide +kernel
theorem dX2_make_13 : decode cX2_make 13 = .ok (.aload_n 0, 1) := by decide +kernel
theorem dX2_make_14 : decode cX2_make 14 = .ok (.getfield 23, 3) := by decide +kernel
theorem dX2_make_17 : decode cX2_make 17 = .ok (.iload_n 3, 1) := by decide +kernel
theorem dX2_make_18 : decode cX2_make 18 = .ok (.aload_n 0, 1) := by decide +kernel
theorem dX2_make_19 : decode cX2_make 19 = .ok (.getfield 9, 3) := by decide +kernel
theorem dX2_make_22 : decode cX2_make 22 = .ok (.iload_n 1, 1) := by decide +kernel
theorem dX2_make_23 : decode cX2_make 23 = .ok (.iload_n 3, 1) := by decide +kernel
theorem dX2_make_24 : decode cX2_make 24 = .ok (.invokevirtual 38, 3) := by decide +kernel
theorem dX2_make_27 : decode cX2_make 27 = .ok (.iastore, 1) := by decide +kernel
theorem dX2_make_28 : decode cX2_make 28 = .ok (.iinc 3 1, 3) := by decide +kernel
theorem dX2_make_31 : decode cX2_make 31 = .ok (.goto (-29), 3) := by decide +kernel
theorem dX2_make_34 : decode cX2_make 34 = .ok (.iconst 0, 1) := by decide +kernel
theorem dX2_make_35 : decode cX2_make 35 = .ok (.istore_n 3, 1) := by decide +kernel
theorem dX2_make_36 : decode cX2_make 36 = .ok (.iload_n 3, 1) := by decide +kernel
theorem dX2_make_37 : decode cX2_make 37 = .ok (.iload_n 2, 1) := by decide +kernel
theorem dX2_make_38 : decode cX2_make 38 = .ok (.if_icmp .ge 50, 3) := by decide +kernel
theorem dX2_make_41 : decode cX2_make 41 = .ok (.iload_n 3, 1) := by decide +kernel
theorem dX2_make_42 : decode cX2_make 42 = .ok (.aload_n 0, 1) := by decide +kernel
theorem dX2_make_43 : decode cX2_make 43 = .ok (.getfield 15, 3) := by decide +kernel
theorem dX2_make_46 : decode cX2_make 46 = .ok (.getfield 42, 3) := by decide +kernel
theorem dX2_make_49 : decode cX2_make 49 = .ok (.if_icmp .ge 39, 3) := by decide +kernel
theorem dX2_make_52 : decode cX2_make 52 = .ok (.aload_n 0, 1) := by decide +kernel
theorem dX2_make_53 : decode cX2_make 53 = .ok (.getfield 15, 3) := by decide +kernel
theorem dX2_make_56 : decode cX2_make 56 = .ok (.getfield 47, 3) := by decide +kernel
theorem dX2_make_59 : decode cX2_make 59 = .ok (.iload_n 3, 1) := by decide +kernel
theorem dX2_make_60 : decode cX2_make 60 = .ok (.iaload, 1) := by decide +kernel
theorem dX2_make_61 : decode cX2_make 61 = .ok (.iload_n 1, 1) := by decide +kernel
theorem dX2_make_62 : decode cX2_make 62 = .ok (.if_icmp .ne 20, 3) := by decide +kernel
theorem dX2_make_65 : decode cX2_make 65 = .ok (.aload_n 0, 1) := by decide +kernel
theorem dX2_make_66 : decode cX2_make 66 = .ok (.getfield 15, 3) := by decide +kernel
theorem dX2_make_69 : decode cX2_make 69 = .ok (.getfield 50, 3) := by decide +kernel
theorem dX2_make_72 : decode cX2_make 72 = .ok (.iload_n 3, 1) := by decide +kernel
theorem dX2_make_73 : decode cX2_make 73 = .ok (.baload, 1) := by decide +kernel
theorem dX2_make_74 : decode cX2_make 74 = .ok (.ifCond .eq 8, 3) := by decide +kernel
theorem dX2_make_77 : decode cX2_make 77 = .ok (.aload_n 0, 1) := by decide +kernel
theorem dX2_make_78 : decode cX2_make 78 = .ok (.iload_n 3, 1) := by decide +kernel
theorem dX2_make_79 : decode cX2_make 79 = .ok (.invokevirtual 54, 3) := by decide +kernel
theorem dX2_make_82 : decode cX2_make 82 = .ok (.iinc 3 1, 3) := by decide +kernel
theorem dX2_make_85 : decode cX2_make 85 = .ok (.goto (-49), 3) := by decide +kernel
theorem dX2_make_88 : decode cX2_make 88 = .ok (.return_, 1) := by decide +kernel
set_option maxRecDepth 20000 in
theorem ggX2_apply_X2_cleanDust : GoodIn wsX2_apply wsX2_cleanDust := goodIn_r _ [16, 17, 18, 2, 1, 19, 20, 21, 15, 22, 23, 24, 25, 26, 27, 28, 29, 30, 31, 32, 33, 34, 35, 36, 37, 38, 39, 40, 41, 42, 43, 78, 79, 80, 81, 82, 83, 90, 91, 92, 93, 94] (by decide +kernel) (by decide +kernel)
set_option maxRecDepth 20000 in
theorem gX2_apply_X2_cleanDust : GoodIn wsX2_apply (wsV RX2 67 RX2 yX2_cleanDust wsX2_cleanDust) := goodIn_app (goodIn_of _ (by decide +kernel)) ggX2_apply_X2_cleanDust
set_option maxRecDepth 20000 in
theorem ggX2_apply_X2_matchLevels : GoodIn wsX2_apply wsX2_matchLevels := goodIn_r _ [47, 17, 18, 2, 1, 48, 49, 50, 51, 15, 52, 28, 29, 30, 31, 32, 33, 34, 35, 36, 37, 38, 39, 40, 41, 42, 43, 53, 54, 55, 56, 57, 58, 59, 60, 78, 79, 80, 81, 82, 83, 90, 91, 92, 93, 94] (by decide +kernel) (by decide +kernel)
set_option maxRecDepth 20000 in
theorem gX2_apply_X2_matchLevels : GoodIn wsX2_apply (wsV RX2 73 RX2 yX2_matchLevels wsX2_matchLevels) := goodIn_app (goodIn_of _ (by decide +kernel)) ggX2_apply_X2_matchLevels
set_option maxRecDepth 20000 in
theorem ggX2_apply_X2_fillLost : GoodIn wsX2_apply wsX2_fillLost := goodIn_r _ [64, 17, 18, 2, 1, 28, 29, 30, 31, 32, 33, 34, 35, 36, 37, 38, 39, 40, 41, 42, 43, 78, 79, 80, 81, 82, 83, 90, 91, 92, 93, 94] (by decide +kernel) (by decide +kernel)
set_option maxRecDepth 20000 in
theorem gX2_apply_X2_fillLost : GoodIn wsX2_apply (wsV RX2 76 RX2 yX2_fillLost wsX2_fillLost) := goodIn_app (goodIn_of _ (by decide +kernel)) ggX2_apply_X2_fillLost
set_option maxRecDepth 20000 in
theorem ggX2_apply_X2_moveAll : GoodIn wsX2_apply wsX2_moveAll := goodIn_r _ [68, 17, 69, 70, 1, 2, 71, 72, 73, 31, 74, 75, 76, 77, 40, 41, 42, 43, 78, 79, 80, 81, 82, 83, 90, 91, 92, 93, 94] (by decide +kernel) (by decide +kernel)
set_option maxRecDepth 20000 in
theorem gX2_apply_X2_moveAll : GoodIn wsX2_apply (wsV RX2 82 RX2 yX2_moveAll wsX2_moveAll) := goodIn_app (goodIn_of _ (by decide +kernel)) ggX2_apply_X2_moveAll
theorem dX2_apply_0 : decode cX2_apply 0 = .ok (.aload_n 0, 1) := by decide +kernel
theorem dX2_apply_1 : decode cX2_apply 1 = .ok (.getfield 23, 3) := by decide +kernel
theorem dX2_apply_4 : decode cX2_apply 4 = .ok (.iconst 0, 1) := by decide +kernel
theorem dX2_apply_5 : decode cX2_apply 5 = .ok (.aload_n 0, 1) := by decide +kernel
theorem dX2_apply_6 : decode cX2_apply 6 = .ok (.getfield 26, 3) := by decide +kernel
theorem dX2_apply_9 : decode cX2_apply 9 = .ok (.iconst 0, 1) := by decide +kernel
theorem dX2_apply_10 : decode cX2_apply 10 = .ok (.bipush 36, 2) := by decide +kernel
theorem dX2_apply_12 : decode cX2_apply 12 = .ok (.invokestatic 58, 3) := by decide +kernel
theorem dX2_apply_15 : decode cX2_apply 15 = .ok (.aload_n 0, 1) := by decide +kernel
theorem dX2_apply_16 : decode cX2_apply 16 = .ok (.getfield 15, 3) := by decide +kernel
theorem dX2_apply_19 : decode cX2_apply 19 = .ok (.getfield 47, 3) := by decide +kernel
theorem dX2_apply_22 : decode cX2_apply 22 = .ok (.iload_n 1, 1) := by decide +kernel
theorem dX2_apply_23 : decode cX2_apply 23 = .ok (.iaload, 1) := by decide +kernel
theorem dX2_apply_24 : decode cX2_apply 24 = .ok (.istore_n 2, 1) := by decide +kernel
theorem dX2_apply_25 : decode cX2_apply 25 = .ok (.aload_n 0, 1) := by decide +kernel
theorem dX2_apply_26 : decode cX2_apply 26 = .ok (.getfield 15, 3) := by decide +kernel
theorem dX2_apply_29 : decode cX2_apply 29 = .ok (.getfield 64, 3) := by decide +kernel
theorem dX2_apply_32 : decode cX2_apply 32 = .ok (.iload_n 1, 1) := by decide +kernel
theorem dX2_apply_33 : decode cX2_apply 33 = .ok (.iaload, 1) := by decide +kernel
theorem dX2_apply_34 : decode cX2_apply 34 = .ok (.tableswitch 58 0 2 #[26, 34, 50], 26) := by decide +kernel
theorem dX2_apply_60 : decode cX2_apply 60 = .ok (.aload_n 0, 1) := by decide +kernel
theorem dX2_apply_61 : decode cX2_apply 61 = .ok (.iload_n 2, 1) := by decide +kernel
theorem dX2_apply_62 : decode cX2_apply 62 = .ok (.invokevirtual 67, 3) := by decide +kernel
theorem dX2_apply_65 : decode cX2_apply 65 = .ok (.goto 49, 3) := by decide +kernel
theorem dX2_apply_68 : decode cX2_apply 68 = .ok (.aload_n 0, 1) := by decide +kernel
theorem dX2_apply_69 : decode cX2_apply 69 = .ok (.aload_n 0, 1) := by decide +kernel
theorem dX2_apply_70 : decode cX2_apply 70 = .ok (.getfield 15, 3) := by decide +kernel
theorem dX2_apply_73 : decode cX2_apply 73 = .ok (.getfield 70, 3) := by decide +kernel
theorem dX2_apply_76 : decode cX2_apply 76 = .ok (.iload_n 1, 1) := by decide +kernel
theorem dX2_apply_77 : decode cX2_apply 77 = .ok (.iaload, 1) := by decide +kernel
theorem dX2_apply_78 : decode cX2_apply 78 = .ok (.invokevirtual 73, 3) := by decide +kernel
theorem dX2_apply_81 : decode cX2_apply 81 = .ok (.goto 33, 3) := by decide +kernel
theorem dX2_apply_84 : decode cX2_apply 84 = .ok (.aload_n 0, 1) := by decide +kernel
theorem dX2_apply_85 : decode cX2_apply 85 = .ok (.iload_n 2, 1) := by decide +kernel
theorem dX2_apply_86 : decode cX2_apply 86 = .ok (.invokevirtual 76, 3) := by decide +kernel
theorem dX2_apply_89 : decode cX2_apply 89 = .ok (.goto 25, 3) := by decide +kernel
theorem dX2_apply_92 : decode cX2_apply 92 = .ok (.aload_n 0, 1) := by decide +kernel
theorem dX2_apply_93 : decode cX2_apply 93 = .ok (.aload_n 0, 1) := by decide +kernel
theorem dX2_apply_94 : decode cX2_apply 94 = .ok (.getfield 15, 3) := by decide +kernel
theorem dX2_apply_97 : decode cX2_apply 97 = .ok (.getfield 70, 3) := by decide +kernel
theorem dX2_apply_100 : decode cX2_apply 100 = .ok (.iload_n 1, 1) := by decide +kernel
theorem dX2_apply_101 : decode cX2_apply 101 = .ok (.iaload, 1) := by decide +kernel
theorem dX2_apply_102 : decode cX2_apply 102 = .ok (.aload_n 0, 1) := by decide +kernel
theorem dX2_apply_103 : decode cX2_apply 103 = .ok (.getfield 15, 3) := by decide +kernel
theorem dX2_apply_106 : decode cX2_apply 106 = .ok (.getfield 79, 3) := by decide +kernel
theorem dX2_apply_109 : decode cX2_apply 109 = .ok (.iload_n 1, 1) := by decide +kernel
theorem dX2_apply_110 : decode cX2_apply 110 = .ok (.iaload, 1) := by decide +kernel
theorem dX2_apply_111 : decode cX2_apply 111 = .ok (.invokevirtual 82, 3) := by decide +kernel
theorem dX2_apply_114 : decode cX2_apply 114 = .ok (.return_, 1) := by decide +kernel
set_option maxRecDepth 20000 in
theorem ggX2_cleanDust_X2_isDust : GoodIn wsX2_cleanDust wsX2_isDust := goodIn_r _ [9, 1, 10, 11, 12, 13, 14, 15, 16, 17, 18, 19, 20, 21, 22, 23, 24, 25, 26, 27, 28, 29, 30, 31, 32, 33, 34, 35, 36, 37, 38, 39, 40, 41] (by decide +kernel) (by decide +kernel)
set_option maxRecDepth 20000 in
theorem gX2_cleanDust_X2_isDust : GoodIn wsX2_cleanDust (wsV RX2 86 RX2 yX2_isDust wsX2_isDust) := goodIn_app (goodIn_of _ (by decide +kernel)) ggX2_cleanDust_X2_isDust
set_option maxRecDepth 20000 in
theorem ggX2_cleanDust_X1_greyAt : GoodIn wsX2_cleanDust wsX1_greyAt := goodIn_r _ [19, 20, 21, 22, 23, 18, 24, 25, 26, 27, 28, 29, 30, 37, 38, 39, 40, 41] (by decide +kernel) (by decide +kernel)
set_option maxRecDepth 20000 in
theorem gX2_cleanDust_X1_greyAt : GoodIn wsX2_cleanDust (wsV RX2 38 RX1 yX1_greyAt wsX1_greyAt) := goodIn_app (goodIn_of _ (by decide +kernel)) ggX2_cleanDust_X1_greyAt
theorem dX2_cleanDust_0 : decode cX2_cleanDust 0 = .ok (.iconst 0, 1) := by decide +kernel
theorem dX2_cleanDust_1 : decode cX2_cleanDust 1 = .ok (.istore_n 2, 1) := by decide +kernel
theorem dX2_cleanDust_2 : decode cX2_cleanDust 2 = .ok (.iload_n 2, 1) := by decide +kernel
theorem dX2_cleanDust_3 : decode cX2_cleanDust 3 = .ok (.aload_n 0, 1) := by decide +kernel
theorem dX2_cleanDust_4 : decode cX2_cleanDust 4 = .ok (.getfield 9, 3) := by decide +kernel
theorem dX2_cleanDust_7 : decode cX2_cleanDust 7 = .ok (.getfield 32, 3) := by decide +kernel
theorem dX2_cleanDust_10 : decode cX2_cleanDust 10 = .ok (.if_icmp .ge 55, 3) := by decide +kernel
theorem dX2_cleanDust_13 : decode cX2_cleanDust 13 = .ok (.aload_n 0, 1) := by decide +kernel
theorem dX2_cleanDust_14 : decode cX2_cleanDust 14 = .ok (.aload_n 0, 1) := by decide +kernel
theorem dX2_cleanDust_15 : decode cX2_cleanDust 15 = .ok (.getfield 26, 3) := by decide +kernel
theorem dX2_cleanDust_18 : decode cX2_cleanDust 18 = .ok (.iload_n 2, 1) := by decide +kernel
theorem dX2_cleanDust_19 : decode cX2_cleanDust 19 = .ok (.iaload, 1) := by decide +kernel
theorem dX2_cleanDust_20 : decode cX2_cleanDust 20 = .ok (.iload_n 1, 1) := by decide +kernel
theorem dX2_cleanDust_21 : decode cX2_cleanDust 21 = .ok (.iload_n 2, 1) := by decide +kernel
theorem dX2_cleanDust_22 : decode cX2_cleanDust 22 = .ok (.invokevirtual 86, 3) := by decide +kernel
theorem dX2_cleanDust_25 : decode cX2_cleanDust 25 = .ok (.ifCond .eq 34, 3) := by decide +kernel
theorem dX2_cleanDust_28 : decode cX2_cleanDust 28 = .ok (.aload_n 0, 1) := by decide +kernel
theorem dX2_cleanDust_29 : decode cX2_cleanDust 29 = .ok (.getfield 23, 3) := by decide +kernel
theorem dX2_cleanDust_32 : decode cX2_cleanDust 32 = .ok (.iload_n 2, 1) := by decide +kernel
theorem dX2_cleanDust_33 : decode cX2_cleanDust 33 = .ok (.aload_n 0, 1) := by decide +kernel
theorem dX2_cleanDust_34 : decode cX2_cleanDust 34 = .ok (.getfield 9, 3) := by decide +kernel
theorem dX2_cleanDust_37 : decode cX2_cleanDust 37 = .ok (.iload_n 1, 1) := by decide +kernel
theorem dX2_cleanDust_38 : decode cX2_cleanDust 38 = .ok (.iconst 1, 1) := by decide +kernel
theorem dX2_cleanDust_39 : decode cX2_cleanDust 39 = .ok (.isub, 1) := by decide +kernel
theorem dX2_cleanDust_40 : decode cX2_cleanDust 40 = .ok (.iload_n 2, 1) := by decide +kernel
theorem dX2_cleanDust_41 : decode cX2_cleanDust 41 = .ok (.invokevirtual 38, 3) := by decide +kernel
theorem dX2_cleanDust_44 : decode cX2_cleanDust 44 = .ok (.aload_n 0, 1) := by decide +kernel
theorem dX2_cleanDust_45 : decode cX2_cleanDust 45 = .ok (.getfield 9, 3) := by decide +kernel
theorem dX2_cleanDust_48 : decode cX2_cleanDust 48 = .ok (.iload_n 1, 1) := by decide +kernel
theorem dX2_cleanDust_49 : decode cX2_cleanDust 49 = .ok (.iconst 1, 1) := by decide +kernel
theorem dX2_cleanDust_50 : decode cX2_cleanDust 50 = .ok (.iadd, 1) := by decide +kernel
theorem dX2_cleanDust_51 : decode cX2_cleanDust 51 = .ok (.iload_n 2, 1) := by decide +kernel
theorem dX2_cleanDust_52 : decode cX2_cleanDust 52 = .ok (.invokevirtual 38, 3) := by decide +kernel
theorem dX2_cleanDust_55 : decode cX2_cleanDust 55 = .ok (.iadd, 1) := by decide +kernel
theorem dX2_cleanDust_56 : decode cX2_cleanDust 56 = .ok (.iconst 2, 1) := by decide +kernel
theorem dX2_cleanDust_57 : decode cX2_cleanDust 57 = .ok (.idiv, 1) := by decide +kernel
theorem dX2_cleanDust_58 : decode cX2_cleanDust 58 = .ok (.iastore, 1) := by decide +kernel
theorem dX2_cleanDust_59 : decode cX2_cleanDust 59 = .ok (.iinc 2 1, 3) := by decide +kernel
theorem dX2_cleanDust_62 : decode cX2_cleanDust 62 = .ok (.goto (-60), 3) := by decide +kernel
theorem dX2_cleanDust_65 : decode cX2_cleanDust 65 = .ok (.return_, 1) := by decide +kernel
set_option maxRecDepth 20000 in
theorem ggX2_isDust_X1_greyAt : GoodIn wsX2_isDust wsX1_greyAt := goodIn_r _ [11, 12, 13, 14, 15, 10, 16, 17, 18, 19, 20, 21, 22, 29, 30, 31, 32, 33] (by decide +kernel) (by decide +kernel)
set_option maxRecDepth 20000 in
theorem gX2_isDust_X1_greyAt : GoodIn wsX2_isDust (wsV RX2 38 RX1 yX1_greyAt wsX1_greyAt) := goodIn_app (goodIn_of _ (by decide +kernel)) ggX2_isDust_X1_greyAt
theorem dX2_isDust_0 : decode cX2_isDust 0 = .ok (.aload_n 0, 1) := by decide +kernel
theorem dX2_isDust_1 : decode cX2_isDust 1 = .ok (.getfield 9, 3) := by decide +kernel
theorem dX2_isDust_4 : decode cX2_isDust 4 = .ok (.iload_n 2, 1) := by decide +kernel
theorem dX2_isDust_5 : decode cX2_isDust 5 = .ok (.iconst 1, 1) := by decide +kernel
theorem dX2_isDust_6 : decode cX2_isDust 6 = .ok (.isub, 1) := by decide +kernel
theorem dX2_isDust_7 : decode cX2_isDust 7 = .ok (.iload_n 3, 1) := by decide +kernel
theorem dX2_isDust_8 : decode cX2_isDust 8 = .ok (.invokevirtual 38, 3) := by decide +kernel
theorem dX2_isDust_11 : decode cX2_isDust 11 = .ok (.istore 4, 2) := by decide +kernel
theorem dX2_isDust_13 : decode cX2_isDust 13 = .ok (.aload_n 0, 1) := by decide +kernel
theorem dX2_isDust_14 : decode cX2_isDust 14 = .ok (.getfield 9, 3) := by decide +kernel
theorem dX2_isDust_17 : decode cX2_isDust 17 = .ok (.iload_n 2, 1) := by decide +kernel
theorem dX2_isDust_18 : decode cX2_isDust 18 = .ok (.iconst 1, 1) := by decide +kernel
theorem dX2_isDust_19 : decode cX2_isDust 19 = .ok (.iadd, 1) := by decide +kernel
theorem dX2_isDust_20 : decode cX2_isDust 20 = .ok (.iload_n 3, 1) := by decide +kernel
theorem dX2_isDust_21 : decode cX2_isDust 21 = .ok (.invokevirtual 38, 3) := by decide +kernel
theorem dX2_isDust_24 : decode cX2_isDust 24 = .ok (.istore 5, 2) := by decide +kernel
theorem dX2_isDust_26 : decode cX2_isDust 26 = .ok (.iload_n 1, 1) := by decide +kernel
theorem dX2_isDust_27 : decode cX2_isDust 27 = .ok (.iconst (-1), 1) := by decide +kernel
theorem dX2_isDust_28 : decode cX2_isDust 28 = .ok (.if_icmp .eq 15, 3) := by decide +kernel
theorem dX2_isDust_31 : decode cX2_isDust 31 = .ok (.iload 4, 2) := by decide +kernel
theorem dX2_isDust_33 : decode cX2_isDust 33 = .ok (.iconst (-1), 1) := by decide +kernel
theorem dX2_isDust_34 : decode cX2_isDust 34 = .ok (.if_icmp .eq 9, 3) := by decide +kernel
theorem dX2_isDust_37 : decode cX2_isDust 37 = .ok (.iload 5, 2) := by decide +kernel
theorem dX2_isDust_39 : decode cX2_isDust 39 = .ok (.iconst (-1), 1) := by decide +kernel
theorem dX2_isDust_40 : decode cX2_isDust 40 = .ok (.if_icmp .ne 5, 3) := by decide +kernel
theorem dX2_isDust_43 : decode cX2_isDust 43 = .ok (.iconst 0, 1) := by decide +kernel
theorem dX2_isDust_44 : decode cX2_isDust 44 = .ok (.ireturn, 1) := by decide +kernel
theorem dX2_isDust_45 : decode cX2_isDust 45 = .ok (.iload 4, 2) := by decide +kernel
theorem dX2_isDust_47 : decode cX2_isDust 47 = .ok (.iload 5, 2) := by decide +kernel
theorem dX2_isDust_49 : decode cX2_isDust 49 = .ok (.isub, 1) := by decide +kernel
theorem dX2_isDust_50 : decode cX2_isDust 50 = .ok (.invokestatic 90, 3) := by decide +kernel
theorem dX2_isDust_53 : decode cX2_isDust 53 = .ok (.aload_n 0, 1) := by decide +kernel
theorem dX2_isDust_54 : decode cX2_isDust 54 = .ok (.getfield 19, 3) := by decide +kernel
theorem dX2_isDust_57 : decode cX2_isDust 57 = .ok (.iconst 1, 1) := by decide +kernel
theorem dX2_isDust_58 : decode cX2_isDust 58 = .ok (.iaload, 1) := by decide +kernel
theorem dX2_isDust_59 : decode cX2_isDust 59 = .ok (.if_icmp .gt 39, 3) := by decide +kernel
theorem dX2_isDust_62 : decode cX2_isDust 62 = .ok (.iload_n 1, 1) := by decide +kernel
theorem dX2_isDust_63 : decode cX2_isDust 63 = .ok (.iload 4, 2) := by decide +kernel
theorem dX2_isDust_65 : decode cX2_isDust 65 = .ok (.isub, 1) := by decide +kernel
theorem dX2_isDust_66 : decode cX2_isDust 66 = .ok (.invokestatic 90, 3) := by decide +kernel
theorem dX2_isDust_69 : decode cX2_isDust 69 = .ok (.aload_n 0, 1) := by decide +kernel
theorem dX2_isDust_70 : decode cX2_isDust 70 = .ok (.getfield 19, 3) := by decide +kernel
theorem dX2_isDust_73 : decode cX2_isDust 73 = .ok (.iconst 2, 1) := by decide +kernel
theorem dX2_isDust_74 : decode cX2_isDust 74 = .ok (.iaload, 1) := by decide +kernel
theorem dX2_isDust_75 : decode cX2_isDust 75 = .ok (.if_icmp .le 23, 3) := by decide +kernel
theorem dX2_isDust_78 : decode cX2_isDust 78 = .ok (.iload_n 1, 1) := by decide +kernel
theorem dX2_isDust_79 : decode cX2_isDust 79 = .ok (.iload 5, 2) := by decide +kernel
theorem dX2_isDust_81 : decode cX2_isDust 81 = .ok (.isub, 1) := by decide +kernel
theorem dX2_isDust_82 : decode cX2_isDust 82 = .ok (.invokestatic 90, 3) := by decide +kernel
theorem dX2_isDust_85 : decode cX2_isDust 85 = .ok (.aload_n 0, 1) := by decide +kernel
theorem dX2_isDust_86 : decode cX2_isDust 86 = .ok (.getfield 19, 3) := by decide +kernel
theorem dX2_isDust_89 : decode cX2_isDust 89 = .ok (.iconst 2, 1) := by decide +kernel
theorem dX2_isDust_90 : decode cX2_isDust 90 = .ok (.iaload, 1) := by decide +kernel
theorem dX2_isDust_91 : decode cX2_isDust 91 = .ok (.if_icmp .le 7, 3) := by decide +kernel
theorem dX2_isDust_94 : decode cX2_isDust 94 = .ok (.iconst 1, 1) := by decide +kernel
theorem dX2_isDust_95 : decode cX2_isDust 95 = .ok (.goto 4, 3) := by decide +kernel
theorem dX2_isDust_98 : decode cX2_isDust 98 = .ok (.iconst 0, 1) := by decide +kernel
theorem dX2_isDust_99 : decode cX2_isDust 99 = .ok (.ireturn, 1) := by decide +kernel
set_option maxRecDepth 20000 in
theorem ggX2_matchLevels_X2_sortGreysOf : GoodIn wsX2_matchLevels wsX2_sortGreysOf := goodIn_r _ [10, 1, 2, 5, 11, 12, 13, 14, 15, 16, 17, 18, 19, 20, 21, 22, 23, 24, 25, 26, 35, 36, 37, 38, 39, 40, 41, 42, 43, 44, 45] (by decide +kernel) (by decide +kernel)
set_option maxRecDepth 20000 in
theorem gX2_matchLevels_X2_sortGreysOf : GoodIn wsX2_matchLevels (wsV RX2 96 RX2 yX2_sortGreysOf wsX2_sortGreysOf) := goodIn_app (goodIn_of _ (by decide +kernel)) ggX2_matchLevels_X2_sortGreysOf
set_option maxRecDepth 20000 in
theorem ggX2_matchLevels_X2_countLost : GoodIn wsX2_matchLevels wsX2_countLost := goodIn_r _ [30, 1, 2, 4, 35, 36, 37, 38, 39, 40, 41, 42, 43, 44, 45] (by decide +kernel) (by decide +kernel)
set_option maxRecDepth 20000 in
theorem gX2_matchLevels_X2_countLost : GoodIn wsX2_matchLevels (wsV RX2 99 RX2 yX2_countLost wsX2_countLost) := goodIn_app (goodIn_of _ (by decide +kernel)) ggX2_matchLevels_X2_countLost
set_option maxRecDepth 20000 in
theorem ggX2_matchLevels_X2_middleRankOf : GoodIn wsX2_matchLevels wsX2_middleRankOf := goodIn_r _ [34, 1, 2, 3, 35, 36, 37, 38, 39, 40, 41, 42, 43, 44, 45] (by decide +kernel) (by decide +kernel)
set_option maxRecDepth 20000 in
theorem gX2_matchLevels_X2_middleRankOf : GoodIn wsX2_matchLevels (wsV RX2 103 RX2 yX2_middleRankOf wsX2_middleRankOf) := goodIn_app (goodIn_of _ (by decide +kernel)) ggX2_matchLevels_X2_middleRankOf
theorem dX2_matchLevels_0 : decode cX2_matchLevels 0 = .ok (.aload_n 0, 1) := by decide +kernel
theorem dX2_matchLevels_1 : decode cX2_matchLevels 1 = .ok (.iload_n 1, 1) := by decide +kernel
theorem dX2_matchLevels_2 : decode cX2_matchLevels 2 = .ok (.invokevirtual 96, 3) := by decide +kernel
theorem dX2_matchLevels_5 : decode cX2_matchLevels 5 = .ok (.istore_n 2, 1) := by decide +kernel
theorem dX2_matchLevels_6 : decode cX2_matchLevels 6 = .ok (.aload_n 0, 1) := by decide +kernel
theorem dX2_matchLevels_7 : decode cX2_matchLevels 7 = .ok (.getfield 9, 3) := by decide +kernel
theorem dX2_matchLevels_10 : decode cX2_matchLevels 10 = .ok (.getfield 32, 3) := by decide +kernel
theorem dX2_matchLevels_13 : decode cX2_matchLevels 13 = .ok (.aload_n 0, 1) := by decide +kernel
theorem dX2_matchLevels_14 : decode cX2_matchLevels 14 = .ok (.invokevirtual 99, 3) := by decide +kernel
theorem dX2_matchLevels_17 : decode cX2_matchLevels 17 = .ok (.isub, 1) := by decide +kernel
theorem dX2_matchLevels_18 : decode cX2_matchLevels 18 = .ok (.istore_n 3, 1) := by decide +kernel
theorem dX2_matchLevels_19 : decode cX2_matchLevels 19 = .ok (.iload_n 3, 1) := by decide +kernel
theorem dX2_matchLevels_20 : decode cX2_matchLevels 20 = .ok (.ifCond .le 7, 3) := by decide +kernel
theorem dX2_matchLevels_23 : decode cX2_matchLevels 23 = .ok (.iload_n 2, 1) := by decide +kernel
theorem dX2_matchLevels_24 : decode cX2_matchLevels 24 = .ok (.ifCond .gt 4, 3) := by decide +kernel
theorem dX2_matchLevels_27 : decode cX2_matchLevels 27 = .ok (.return_, 1) := by decide +kernel
theorem dX2_matchLevels_28 : decode cX2_matchLevels 28 = .ok (.iconst 0, 1) := by decide +kernel
theorem dX2_matchLevels_29 : decode cX2_matchLevels 29 = .ok (.istore 4, 2) := by decide +kernel
theorem dX2_matchLevels_31 : decode cX2_matchLevels 31 = .ok (.iload 4, 2) := by decide +kernel
theorem dX2_matchLevels_33 : decode cX2_matchLevels 33 = .ok (.aload_n 0, 1) := by decide +kernel
theorem dX2_matchLevels_34 : decode cX2_matchLevels 34 = .ok (.getfield 9, 3) := by decide +kernel
theorem dX2_matchLevels_37 : decode cX2_matchLevels 37 = .ok (.getfield 32, 3) := by decide +kernel
theorem dX2_matchLevels_40 : decode cX2_matchLevels 40 = .ok (.if_icmp .ge 62, 3) := by decide +kernel
theorem dX2_matchLevels_43 : decode cX2_matchLevels 43 = .ok (.aload_n 0, 1) := by decide +kernel
theorem dX2_matchLevels_44 : decode cX2_matchLevels 44 = .ok (.getfield 26, 3) := by decide +kernel
theorem dX2_matchLevels_47 : decode cX2_matchLevels 47 = .ok (.iload 4, 2) := by decide +kernel
theorem dX2_matchLevels_49 : decode cX2_matchLevels 49 = .ok (.iaload, 1) := by decide +kernel
theorem dX2_matchLevels_50 : decode cX2_matchLevels 50 = .ok (.iconst (-1), 1) := by decide +kernel
theorem dX2_matchLevels_51 : decode cX2_matchLevels 51 = .ok (.if_icmp .eq 45, 3) := by decide +kernel
theorem dX2_matchLevels_54 : decode cX2_matchLevels 54 = .ok (.aload_n 0, 1) := by decide +kernel
theorem dX2_matchLevels_55 : decode cX2_matchLevels 55 = .ok (.aload_n 0, 1) := by decide +kernel
theorem dX2_matchLevels_56 : decode cX2_matchLevels 56 = .ok (.getfield 26, 3) := by decide +kernel
theorem dX2_matchLevels_59 : decode cX2_matchLevels 59 = .ok (.iload 4, 2) := by decide +kernel
theorem dX2_matchLevels_61 : decode cX2_matchLevels 61 = .ok (.iaload, 1) := by decide +kernel
theorem dX2_matchLevels_62 : decode cX2_matchLevels 62 = .ok (.invokevirtual 103, 3) := by decide +kernel
theorem dX2_matchLevels_65 : decode cX2_matchLevels 65 = .ok (.iload_n 2, 1) := by decide +kernel
theorem dX2_matchLevels_66 : decode cX2_matchLevels 66 = .ok (.imul, 1) := by decide +kernel
theorem dX2_matchLevels_67 : decode cX2_matchLevels 67 = .ok (.iload_n 3, 1) := by decide +kernel
theorem dX2_matchLevels_68 : decode cX2_matchLevels 68 = .ok (.idiv, 1) := by decide +kernel
theorem dX2_matchLevels_69 : decode cX2_matchLevels 69 = .ok (.istore 5, 2) := by decide +kernel
theorem dX2_matchLevels_71 : decode cX2_matchLevels 71 = .ok (.iload 5, 2) := by decide +kernel
theorem dX2_matchLevels_73 : decode cX2_matchLevels 73 = .ok (.ifCond .lt 23, 3) := by decide +kernel
theorem dX2_matchLevels_76 : decode cX2_matchLevels 76 = .ok (.iload 5, 2) := by decide +kernel
theorem dX2_matchLevels_78 : decode cX2_matchLevels 78 = .ok (.iload_n 2, 1) := by decide +kernel
theorem dX2_matchLevels_79 : decode cX2_matchLevels 79 = .ok (.if_icmp .ge 17, 3) := by decide +kernel
theorem dX2_matchLevels_82 : decode cX2_matchLevels 82 = .ok (.aload_n 0, 1) := by decide +kernel
theorem dX2_matchLevels_83 : decode cX2_matchLevels 83 = .ok (.getfield 23, 3) := by decide +kernel
theorem dX2_matchLevels_86 : decode cX2_matchLevels 86 = .ok (.iload 4, 2) := by decide +kernel
theorem dX2_matchLevels_88 : decode cX2_matchLevels 88 = .ok (.aload_n 0, 1) := by decide +kernel
theorem dX2_matchLevels_89 : decode cX2_matchLevels 89 = .ok (.getfield 29, 3) := by decide +kernel
theorem dX2_matchLevels_92 : decode cX2_matchLevels 92 = .ok (.iload 5, 2) := by decide +kernel
theorem dX2_matchLevels_94 : decode cX2_matchLevels 94 = .ok (.iaload, 1) := by decide +kernel
theorem dX2_matchLevels_95 : decode cX2_matchLevels 95 = .ok (.iastore, 1) := by decide +kernel
theorem dX2_matchLevels_96 : decode cX2_matchLevels 96 = .ok (.iinc 4 1, 3) := by decide +kernel
theorem dX2_matchLevels_99 : decode cX2_matchLevels 99 = .ok (.goto (-68), 3) := by decide +kernel
theorem dX2_matchLevels_102 : decode cX2_matchLevels 102 = .ok (.return_, 1) := by decide +kernel
set_option maxRecDepth 20000 in
theorem ggX2_sortGreysOf_X1_greyAt : GoodIn wsX2_sortGreysOf wsX1_greyAt := goodIn_r _ [8, 9, 10, 11, 12, 7, 13, 14, 15, 16, 17, 18, 19, 26, 27, 28, 29, 30] (by decide +kernel) (by decide +kernel)
set_option maxRecDepth 20000 in
theorem gX2_sortGreysOf_X1_greyAt : GoodIn wsX2_sortGreysOf (wsV RX2 38 RX1 yX1_greyAt wsX1_greyAt) := goodIn_app (goodIn_of _ (by decide +kernel)) ggX2_sortGreysOf_X1_greyAt
theorem dX2_sortGreysOf_0 : decode cX2_sortGreysOf 0 = .ok (.iconst 0, 1) := by decide +kernel
theorem dX2_sortGreysOf_1 : decode cX2_sortGreysOf 1 = .ok (.istore_n 2, 1) := by decide +kernel
theorem dX2_sortGreysOf_2 : decode cX2_sortGreysOf 2 = .ok (.iconst 0, 1) := by decide +kernel
theorem dX2_sortGreysOf_3 : decode cX2_sortGreysOf 3 = .ok (.istore_n 3, 1) := by decide +kernel
theorem dX2_sortGreysOf_4 : decode cX2_sortGreysOf 4 = .ok (.iload_n 3, 1) := by decide +kernel
theorem dX2_sortGreysOf_5 : decode cX2_sortGreysOf 5 = .ok (.aload_n 0, 1) := by decide +kernel
theorem dX2_sortGreysOf_6 : decode cX2_sortGreysOf 6 = .ok (.getfield 9, 3) := by decide +kernel
theorem dX2_sortGreysOf_9 : decode cX2_sortGreysOf 9 = .ok (.getfield 32, 3) := by decide +kernel
theorem dX2_sortGreysOf_12 : decode cX2_sortGreysOf 12 = .ok (.if_icmp .ge 82, 3) := by decide +kernel
theorem dX2_sortGreysOf_15 : decode cX2_sortGreysOf 15 = .ok (.aload_n 0, 1) := by decide +kernel
theorem dX2_sortGreysOf_16 : decode cX2_sortGreysOf 16 = .ok (.getfield 9, 3) := by decide +kernel
theorem dX2_sortGreysOf_19 : decode cX2_sortGreysOf 19 = .ok (.iload_n 1, 1) := by decide +kernel
theorem dX2_sortGreysOf_20 : decode cX2_sortGreysOf 20 = .ok (.iload_n 3, 1) := by decide +kernel
theorem dX2_sortGreysOf_21 : decode cX2_sortGreysOf 21 = .ok (.invokevirtual 38, 3) := by decide +kernel
theorem dX2_sortGreysOf_24 : decode cX2_sortGreysOf 24 = .ok (.istore 4, 2) := by decide +kernel
theorem dX2_sortGreysOf_26 : decode cX2_sortGreysOf 26 = .ok (.iload 4, 2) := by decide +kernel
theorem dX2_sortGreysOf_28 : decode cX2_sortGreysOf 28 = .ok (.iconst (-1), 1) := by decide +kernel
theorem dX2_sortGreysOf_29 : decode cX2_sortGreysOf 29 = .ok (.if_icmp .eq 59, 3) := by decide +kernel
theorem dX2_sortGreysOf_32 : decode cX2_sortGreysOf 32 = .ok (.iload_n 2, 1) := by decide +kernel
theorem dX2_sortGreysOf_33 : decode cX2_sortGreysOf 33 = .ok (.istore 5, 2) := by decide +kernel
theorem dX2_sortGreysOf_35 : decode cX2_sortGreysOf 35 = .ok (.iload 5, 2) := by decide +kernel
theorem dX2_sortGreysOf_37 : decode cX2_sortGreysOf 37 = .ok (.ifCond .le 39, 3) := by decide +kernel
theorem dX2_sortGreysOf_40 : decode cX2_sortGreysOf 40 = .ok (.aload_n 0, 1) := by decide +kernel
theorem dX2_sortGreysOf_41 : decode cX2_sortGreysOf 41 = .ok (.getfield 29, 3) := by decide +kernel
theorem dX2_sortGreysOf_44 : decode cX2_sortGreysOf 44 = .ok (.iload 5, 2) := by decide +kernel
theorem dX2_sortGreysOf_46 : decode cX2_sortGreysOf 46 = .ok (.iconst 1, 1) := by decide +kernel
theorem dX2_sortGreysOf_47 : decode cX2_sortGreysOf 47 = .ok (.isub, 1) := by decide +kernel
theorem dX2_sortGreysOf_48 : decode cX2_sortGreysOf 48 = .ok (.iaload, 1) := by decide +kernel
theorem dX2_sortGreysOf_49 : decode cX2_sortGreysOf 49 = .ok (.iload 4, 2) := by decide +kernel
theorem dX2_sortGreysOf_51 : decode cX2_sortGreysOf 51 = .ok (.if_icmp .le 25, 3) := by decide +kernel
theorem dX2_sortGreysOf_54 : decode cX2_sortGreysOf 54 = .ok (.aload_n 0, 1) := by decide +kernel
theorem dX2_sortGreysOf_55 : decode cX2_sortGreysOf 55 = .ok (.getfield 29, 3) := by decide +kernel
theorem dX2_sortGreysOf_58 : decode cX2_sortGreysOf 58 = .ok (.iload 5, 2) := by decide +kernel
theorem dX2_sortGreysOf_60 : decode cX2_sortGreysOf 60 = .ok (.aload_n 0, 1) := by decide +kernel
theorem dX2_sortGreysOf_61 : decode cX2_sortGreysOf 61 = .ok (.getfield 29, 3) := by decide +kernel
theorem dX2_sortGreysOf_64 : decode cX2_sortGreysOf 64 = .ok (.iload 5, 2) := by decide +kernel
theorem dX2_sortGreysOf_66 : decode cX2_sortGreysOf 66 = .ok (.iconst 1, 1) := by decide +kernel
theorem dX2_sortGreysOf_67 : decode cX2_sortGreysOf 67 = .ok (.isub, 1) := by decide +kernel
theorem dX2_sortGreysOf_68 : decode cX2_sortGreysOf 68 = .ok (.iaload, 1) := by decide +kernel
theorem dX2_sortGreysOf_69 : decode cX2_sortGreysOf 69 = .ok (.iastore, 1) := by decide +kernel
theorem dX2_sortGreysOf_70 : decode cX2_sortGreysOf 70 = .ok (.iinc 5 (-1), 3) := by decide +kernel
theorem dX2_sortGreysOf_73 : decode cX2_sortGreysOf 73 = .ok (.goto (-38), 3) := by decide +kernel
theorem dX2_sortGreysOf_76 : decode cX2_sortGreysOf 76 = .ok (.aload_n 0, 1) := by decide +kernel
theorem dX2_sortGreysOf_77 : decode cX2_sortGreysOf 77 = .ok (.getfield 29, 3) := by decide +kernel
theorem dX2_sortGreysOf_80 : decode cX2_sortGreysOf 80 = .ok (.iload 5, 2) := by decide +kernel
theorem dX2_sortGreysOf_82 : decode cX2_sortGreysOf 82 = .ok (.iload 4, 2) := by decide +kernel
theorem dX2_sortGreysOf_84 : decode cX2_sortGreysOf 84 = .ok (.iastore, 1) := by decide +kernel
theorem dX2_sortGreysOf_85 : decode cX2_sortGreysOf 85 = .ok (.iinc 2 1, 3) := by decide +kernel
theorem dX2_sortGreysOf_88 : decode cX2_sortGreysOf 88 = .ok (.iinc 3 1, 3) := by decide +kernel
theorem dX2_sortGreysOf_91 : decode cX2_sortGreysOf 91 = .ok (.goto (-87), 3) := by decide +kernel
theorem dX2_sortGreysOf_94 : decode cX2_sortGreysOf 94 = .ok (.iload_n 2, 1) := by decide +kernel
theorem dX2_sortGreysOf_95 : decode cX2_sortGreysOf 95 = .ok (.ireturn, 1) := by decide +kernel
theorem dX2_middleRankOf_0 : decode cX2_middleRankOf 0 = .ok (.iconst 0, 1) := by decide +kernel
theorem dX2_middleRankOf_1 : decode cX2_middleRankOf 1 = .ok (.istore_n 2, 1) := by decide +kernel
theorem dX2_middleRankOf_2 : decode cX2_middleRankOf 2 = .ok (.iconst 0, 1) := by decide +kernel
theorem dX2_middleRankOf_3 : decode cX2_middleRankOf 3 = .ok (.istore_n 3, 1) := by decide +kernel
theorem dX2_middleRankOf_4 : decode cX2_middleRankOf 4 = .ok (.iconst 0, 1) := by decide +kernel
theorem dX2_middleRankOf_5 : decode cX2_middleRankOf 5 = .ok (.istore 4, 2) := by decide +kernel
theorem dX2_middleRankOf_7 : decode cX2_middleRankOf 7 = .ok (.iload 4, 2) := by decide +kernel
theorem dX2_middleRankOf_9 : decode cX2_middleRankOf 9 = .ok (.aload_n 0, 1) := by decide +kernel
theorem dX2_middleRankOf_10 : decode cX2_middleRankOf 10 = .ok (.getfield 9, 3) := by decide +kernel
theorem dX2_middleRankOf_13 : decode cX2_middleRankOf 13 = .ok (.getfield 32, 3) := by decide +kernel
theorem dX2_middleRankOf_16 : decode cX2_middleRankOf 16 = .ok (.if_icmp .ge 51, 3) := by decide +kernel
theorem dX2_middleRankOf_19 : decode cX2_middleRankOf 19 = .ok (.aload_n 0, 1) := by decide +kernel
theorem dX2_middleRankOf_20 : decode cX2_middleRankOf 20 = .ok (.getfield 26, 3) := by decide +kernel
theorem dX2_middleRankOf_23 : decode cX2_middleRankOf 23 = .ok (.iload 4, 2) := by decide +kernel
theorem dX2_middleRankOf_25 : decode cX2_middleRankOf 25 = .ok (.iaload, 1) := by decide +kernel
theorem dX2_middleRankOf_26 : decode cX2_middleRankOf 26 = .ok (.iload_n 1, 1) := by decide +kernel
theorem dX2_middleRankOf_27 : decode cX2_middleRankOf 27 = .ok (.if_icmp .ne 9, 3) := by decide +kernel
theorem dX2_middleRankOf_30 : decode cX2_middleRankOf 30 = .ok (.iinc 3 1, 3) := by decide +kernel
theorem dX2_middleRankOf_33 : decode cX2_middleRankOf 33 = .ok (.goto 28, 3) := by decide +kernel
theorem dX2_middleRankOf_36 : decode cX2_middleRankOf 36 = .ok (.aload_n 0, 1) := by decide +kernel
theorem dX2_middleRankOf_37 : decode cX2_middleRankOf 37 = .ok (.getfield 26, 3) := by decide +kernel
theorem dX2_middleRankOf_40 : decode cX2_middleRankOf 40 = .ok (.iload 4, 2) := by decide +kernel
theorem dX2_middleRankOf_42 : decode cX2_middleRankOf 42 = .ok (.iaload, 1) := by decide +kernel
theorem dX2_middleRankOf_43 : decode cX2_middleRankOf 43 = .ok (.iconst (-1), 1) := by decide +kernel
theorem dX2_middleRankOf_44 : decode cX2_middleRankOf 44 = .ok (.if_icmp .eq 17, 3) := by decide +kernel
theorem dX2_middleRankOf_47 : decode cX2_middleRankOf 47 = .ok (.aload_n 0, 1) := by decide +kernel
theorem dX2_middleRankOf_48 : decode cX2_middleRankOf 48 = .ok (.getfield 26, 3) := by decide +kernel
theorem dX2_middleRankOf_51 : decode cX2_middleRankOf 51 = .ok (.iload 4, 2) := by decide +kernel
theorem dX2_middleRankOf_53 : decode cX2_middleRankOf 53 = .ok (.iaload, 1) := by decide +kernel
theorem dX2_middleRankOf_54 : decode cX2_middleRankOf 54 = .ok (.iload_n 1, 1) := by decide +kernel
theorem dX2_middleRankOf_55 : decode cX2_middleRankOf 55 = .ok (.if_icmp .ge 6, 3) := by decide +kernel
theorem dX2_middleRankOf_58 : decode cX2_middleRankOf 58 = .ok (.iinc 2 1, 3) := by decide +kernel
theorem dX2_middleRankOf_61 : decode cX2_middleRankOf 61 = .ok (.iinc 4 1, 3) := by decide +kernel
theorem dX2_middleRankOf_64 : decode cX2_middleRankOf 64 = .ok (.goto (-57), 3) := by decide +kernel
theorem dX2_middleRankOf_67 : decode cX2_middleRankOf 67 = .ok (.iconst 2, 1) := by decide +kernel
theorem dX2_middleRankOf_68 : decode cX2_middleRankOf 68 = .ok (.iload_n 2, 1) := by decide +kernel
theorem dX2_middleRankOf_69 : decode cX2_middleRankOf 69 = .ok (.imul, 1) := by decide +kernel
theorem dX2_middleRankOf_70 : decode cX2_middleRankOf 70 = .ok (.iload_n 3, 1) := by decide +kernel
theorem dX2_middleRankOf_71 : decode cX2_middleRankOf 71 = .ok (.iadd, 1) := by decide +kernel
theorem dX2_middleRankOf_72 : decode cX2_middleRankOf 72 = .ok (.iconst 1, 1) := by decide +kernel
theorem dX2_middleRankOf_73 : decode cX2_middleRankOf 73 = .ok (.isub, 1) := by decide +kernel
theorem dX2_middleRankOf_74 : decode cX2_middleRankOf 74 = .ok (.iconst 2, 1) := by decide +kernel
theorem dX2_middleRankOf_75 : decode cX2_middleRankOf 75 = .ok (.idiv, 1) := by decide +kernel
theorem dX2_middleRankOf_76 : decode cX2_middleRankOf 76 = .ok (.ireturn, 1) := by decide +kernel
set_option maxRecDepth 20000 in
theorem ggX2_fillLost_X1_greyAt : GoodIn wsX2_fillLost wsX1_greyAt := goodIn_r _ [9, 10, 11, 12, 13, 8, 14, 15, 16, 17, 18, 19, 20, 27, 28, 29, 30, 31] (by decide +kernel) (by decide +kernel)
set_option maxRecDepth 20000 in
theorem gX2_fillLost_X1_greyAt : GoodIn wsX2_fillLost (wsV RX2 38 RX1 yX1_greyAt wsX1_greyAt) := goodIn_app (goodIn_of _ (by decide +kernel)) ggX2_fillLost_X1_greyAt
theorem dX2_fillLost_0 : decode cX2_fillLost 0 = .ok (.iconst 0, 1) := by decide +kernel
theorem dX2_fillLost_1 : decode cX2_fillLost 1 = .ok (.istore_n 2, 1) := by decide +kernel
theorem dX2_fillLost_2 : decode cX2_fillLost 2 = .ok (.iload_n 2, 1) := by decide +kernel
theorem dX2_fillLost_3 : decode cX2_fillLost 3 = .ok (.aload_n 0, 1) := by decide +kernel
theorem dX2_fillLost_4 : decode cX2_fillLost 4 = .ok (.getfield 9, 3) := by decide +kernel
theorem dX2_fillLost_7 : decode cX2_fillLost 7 = .ok (.getfield 32, 3) := by decide +kernel
theorem dX2_fillLost_10 : decode cX2_fillLost 10 = .ok (.if_icmp .ge 57, 3) := by decide +kernel
theorem dX2_fillLost_13 : decode cX2_fillLost 13 = .ok (.aload_n 0, 1) := by decide +kernel
theorem dX2_fillLost_14 : decode cX2_fillLost 14 = .ok (.getfield 26, 3) := by decide +kernel
theorem dX2_fillLost_17 : decode cX2_fillLost 17 = .ok (.iload_n 2, 1) := by decide +kernel
theorem dX2_fillLost_18 : decode cX2_fillLost 18 = .ok (.iaload, 1) := by decide +kernel
theorem dX2_fillLost_19 : decode cX2_fillLost 19 = .ok (.iconst (-1), 1) := by decide +kernel
theorem dX2_fillLost_20 : decode cX2_fillLost 20 = .ok (.if_icmp .ne 41, 3) := by decide +kernel
theorem dX2_fillLost_23 : decode cX2_fillLost 23 = .ok (.aload_n 0, 1) := by decide +kernel
theorem dX2_fillLost_24 : decode cX2_fillLost 24 = .ok (.getfield 9, 3) := by decide +kernel
theorem dX2_fillLost_27 : decode cX2_fillLost 27 = .ok (.iload_n 1, 1) := by decide +kernel
theorem dX2_fillLost_28 : decode cX2_fillLost 28 = .ok (.iconst 1, 1) := by decide +kernel
theorem dX2_fillLost_29 : decode cX2_fillLost 29 = .ok (.isub, 1) := by decide +kernel
theorem dX2_fillLost_30 : decode cX2_fillLost 30 = .ok (.iload_n 2, 1) := by decide +kernel
theorem dX2_fillLost_31 : decode cX2_fillLost 31 = .ok (.invokevirtual 38, 3) := by decide +kernel
theorem dX2_fillLost_34 : decode cX2_fillLost 34 = .ok (.istore_n 3, 1) := by decide +kernel
theorem dX2_fillLost_35 : decode cX2_fillLost 35 = .ok (.aload_n 0, 1) := by decide +kernel
theorem dX2_fillLost_36 : decode cX2_fillLost 36 = .ok (.getfield 23, 3) := by decide +kernel
theorem dX2_fillLost_39 : decode cX2_fillLost 39 = .ok (.iload_n 2, 1) := by decide +kernel
theorem dX2_fillLost_40 : decode cX2_fillLost 40 = .ok (.iload_n 3, 1) := by decide +kernel
theorem dX2_fillLost_41 : decode cX2_fillLost 41 = .ok (.iconst (-1), 1) := by decide +kernel
theorem dX2_fillLost_42 : decode cX2_fillLost 42 = .ok (.if_icmp .eq 7, 3) := by decide +kernel
theorem dX2_fillLost_45 : decode cX2_fillLost 45 = .ok (.iload_n 3, 1) := by decide +kernel
theorem dX2_fillLost_46 : decode cX2_fillLost 46 = .ok (.goto 14, 3) := by decide +kernel
theorem dX2_fillLost_49 : decode cX2_fillLost 49 = .ok (.aload_n 0, 1) := by decide +kernel
theorem dX2_fillLost_50 : decode cX2_fillLost 50 = .ok (.getfield 9, 3) := by decide +kernel
theorem dX2_fillLost_53 : decode cX2_fillLost 53 = .ok (.iload_n 1, 1) := by decide +kernel
theorem dX2_fillLost_54 : decode cX2_fillLost 54 = .ok (.iconst 1, 1) := by decide +kernel
theorem dX2_fillLost_55 : decode cX2_fillLost 55 = .ok (.iadd, 1) := by decide +kernel
theorem dX2_fillLost_56 : decode cX2_fillLost 56 = .ok (.iload_n 2, 1) := by decide +kernel
theorem dX2_fillLost_57 : decode cX2_fillLost 57 = .ok (.invokevirtual 38, 3) := by decide +kernel
theorem dX2_fillLost_60 : decode cX2_fillLost 60 = .ok (.iastore, 1) := by decide +kernel
theorem dX2_fillLost_61 : decode cX2_fillLost 61 = .ok (.iinc 2 1, 3) := by decide +kernel
theorem dX2_fillLost_64 : decode cX2_fillLost 64 = .ok (.goto (-62), 3) := by decide +kernel
theorem dX2_fillLost_67 : decode cX2_fillLost 67 = .ok (.return_, 1) := by decide +kernel
set_option maxRecDepth 20000 in
theorem ggX2_moveAll_X1_placeOf : GoodIn wsX2_moveAll wsX1_placeOf := goodIn_r _ [10, 11, 12, 24, 25, 26, 27, 28] (by decide +kernel) (by decide +kernel)
set_option maxRecDepth 20000 in
theorem gX2_moveAll_X1_placeOf : GoodIn wsX2_moveAll (wsV RX2 112 RX1 yX1_placeOf wsX1_placeOf) := goodIn_app (goodIn_of _ (by decide +kernel)) ggX2_moveAll_X1_placeOf
set_option maxRecDepth 20000 in
theorem ggX2_moveAll_X1_hasPlace : GoodIn wsX2_moveAll wsX1_hasPlace := goodIn_r _ [16, 17, 24, 25, 26, 27, 28] (by decide +kernel) (by decide +kernel)
set_option maxRecDepth 20000 in
theorem gX2_moveAll_X1_hasPlace : GoodIn wsX2_moveAll (wsV RX2 115 RX1 yX1_hasPlace wsX1_hasPlace) := goodIn_app (goodIn_of _ (by decide +kernel)) ggX2_moveAll_X1_hasPlace
theorem dX2_moveAll_0 : decode cX2_moveAll 0 = .ok (.iconst 0, 1) := by decide +kernel
theorem dX2_moveAll_1 : decode cX2_moveAll 1 = .ok (.istore_n 3, 1) := by decide +kernel
theorem dX2_moveAll_2 : decode cX2_moveAll 2 = .ok (.iload_n 3, 1) := by decide +kernel
theorem dX2_moveAll_3 : decode cX2_moveAll 3 = .ok (.aload_n 0, 1) := by decide +kernel
theorem dX2_moveAll_4 : decode cX2_moveAll 4 = .ok (.getfield 9, 3) := by decide +kernel
theorem dX2_moveAll_7 : decode cX2_moveAll 7 = .ok (.getfield 106, 3) := by decide +kernel
theorem dX2_moveAll_10 : decode cX2_moveAll 10 = .ok (.if_icmp .ge 84, 3) := by decide +kernel
theorem dX2_moveAll_13 : decode cX2_moveAll 13 = .ok (.iconst 0, 1) := by decide +kernel
theorem dX2_moveAll_14 : decode cX2_moveAll 14 = .ok (.istore 4, 2) := by decide +kernel
theorem dX2_moveAll_16 : decode cX2_moveAll 16 = .ok (.iload 4, 2) := by decide +kernel
theorem dX2_moveAll_18 : decode cX2_moveAll 18 = .ok (.aload_n 0, 1) := by decide +kernel
theorem dX2_moveAll_19 : decode cX2_moveAll 19 = .ok (.getfield 9, 3) := by decide +kernel
theorem dX2_moveAll_22 : decode cX2_moveAll 22 = .ok (.getfield 109, 3) := by decide +kernel
theorem dX2_moveAll_25 : decode cX2_moveAll 25 = .ok (.if_icmp .ge 63, 3) := by decide +kernel
theorem dX2_moveAll_28 : decode cX2_moveAll 28 = .ok (.aload_n 0, 1) := by decide +kernel
theorem dX2_moveAll_29 : decode cX2_moveAll 29 = .ok (.getfield 9, 3) := by decide +kernel
theorem dX2_moveAll_32 : decode cX2_moveAll 32 = .ok (.iload_n 3, 1) := by decide +kernel
theorem dX2_moveAll_33 : decode cX2_moveAll 33 = .ok (.iload_n 2, 1) := by decide +kernel
theorem dX2_moveAll_34 : decode cX2_moveAll 34 = .ok (.isub, 1) := by decide +kernel
theorem dX2_moveAll_35 : decode cX2_moveAll 35 = .ok (.iload 4, 2) := by decide +kernel
theorem dX2_moveAll_37 : decode cX2_moveAll 37 = .ok (.iload_n 1, 1) := by decide +kernel
theorem dX2_moveAll_38 : decode cX2_moveAll 38 = .ok (.isub, 1) := by decide +kernel
theorem dX2_moveAll_39 : decode cX2_moveAll 39 = .ok (.invokevirtual 112, 3) := by decide +kernel
theorem dX2_moveAll_42 : decode cX2_moveAll 42 = .ok (.istore 5, 2) := by decide +kernel
theorem dX2_moveAll_44 : decode cX2_moveAll 44 = .ok (.aload_n 0, 1) := by decide +kernel
theorem dX2_moveAll_45 : decode cX2_moveAll 45 = .ok (.getfield 23, 3) := by decide +kernel
theorem dX2_moveAll_48 : decode cX2_moveAll 48 = .ok (.aload_n 0, 1) := by decide +kernel
theorem dX2_moveAll_49 : decode cX2_moveAll 49 = .ok (.getfield 9, 3) := by decide +kernel
theorem dX2_moveAll_52 : decode cX2_moveAll 52 = .ok (.iload_n 3, 1) := by decide +kernel
theorem dX2_moveAll_53 : decode cX2_moveAll 53 = .ok (.iload 4, 2) := by decide +kernel
theorem dX2_moveAll_55 : decode cX2_moveAll 55 = .ok (.invokevirtual 112, 3) := by decide +kernel
theorem dX2_moveAll_58 : decode cX2_moveAll 58 = .ok (.aload_n 0, 1) := by decide +kernel
theorem dX2_moveAll_59 : decode cX2_moveAll 59 = .ok (.getfield 9, 3) := by decide +kernel
theorem dX2_moveAll_62 : decode cX2_moveAll 62 = .ok (.iload 5, 2) := by decide +kernel
theorem dX2_moveAll_64 : decode cX2_moveAll 64 = .ok (.invokevirtual 115, 3) := by decide +kernel
theorem dX2_moveAll_67 : decode cX2_moveAll 67 = .ok (.ifCond .eq 13, 3) := by decide +kernel
theorem dX2_moveAll_70 : decode cX2_moveAll 70 = .ok (.aload_n 0, 1) := by decide +kernel
theorem dX2_moveAll_71 : decode cX2_moveAll 71 = .ok (.getfield 26, 3) := by decide +kernel
theorem dX2_moveAll_74 : decode cX2_moveAll 74 = .ok (.iload 5, 2) := by decide +kernel
theorem dX2_moveAll_76 : decode cX2_moveAll 76 = .ok (.iaload, 1) := by decide +kernel
theorem dX2_moveAll_77 : decode cX2_moveAll 77 = .ok (.goto 4, 3) := by decide +kernel
theorem dX2_moveAll_80 : decode cX2_moveAll 80 = .ok (.iconst (-1), 1) := by decide +kernel
theorem dX2_moveAll_81 : decode cX2_moveAll 81 = .ok (.iastore, 1) := by decide +kernel
theorem dX2_moveAll_82 : decode cX2_moveAll 82 = .ok (.iinc 4 1, 3) := by decide +kernel
theorem dX2_moveAll_85 : decode cX2_moveAll 85 = .ok (.goto (-69), 3) := by decide +kernel
theorem dX2_moveAll_88 : decode cX2_moveAll 88 = .ok (.iinc 3 1, 3) := by decide +kernel
theorem dX2_moveAll_91 : decode cX2_moveAll 91 = .ok (.goto (-89), 3) := by decide +kernel
theorem dX2_moveAll_94 : decode cX2_moveAll 94 = .ok (.return_, 1) := by decide +kernel
set_option maxRecDepth 20000 in
theorem ggX2_greyAt_X1_hasPlace : GoodIn wsX2_greyAt wsX1_hasPlace := goodIn_r _ [7, 8, 15, 16, 17, 18, 19] (by decide +kernel) (by decide +kernel)
set_option maxRecDepth 20000 in
theorem gX2_greyAt_X1_hasPlace : GoodIn wsX2_greyAt (wsV RX2 115 RX1 yX1_hasPlace wsX1_hasPlace) := goodIn_app (goodIn_of _ (by decide +kernel)) ggX2_greyAt_X1_hasPlace
theorem dX2_greyAt_0 : decode cX2_greyAt 0 = .ok (.aload_n 0, 1) := by decide +kernel
theorem dX2_greyAt_1 : decode cX2_greyAt 1 = .ok (.getfield 9, 3) := by decide +kernel
theorem dX2_greyAt_4 : decode cX2_greyAt 4 = .ok (.iload_n 1, 1) := by decide +kernel
theorem dX2_greyAt_5 : decode cX2_greyAt 5 = .ok (.invokevirtual 115, 3) := by decide +kernel
theorem dX2_greyAt_8 : decode cX2_greyAt 8 = .ok (.ifCond .eq 12, 3) := by decide +kernel
theorem dX2_greyAt_11 : decode cX2_greyAt 11 = .ok (.aload_n 0, 1) := by decide +kernel
theorem dX2_greyAt_12 : decode cX2_greyAt 12 = .ok (.getfield 23, 3) := by decide +kernel
theorem dX2_greyAt_15 : decode cX2_greyAt 15 = .ok (.iload_n 1, 1) := by decide +kernel
theorem dX2_greyAt_16 : decode cX2_greyAt 16 = .ok (.iaload, 1) := by decide +kernel
theorem dX2_greyAt_17 : decode cX2_greyAt 17 = .ok (.goto 4, 3) := by decide +kernel
theorem dX2_greyAt_20 : decode cX2_greyAt 20 = .ok (.iconst (-1), 1) := by decide +kernel
theorem dX2_greyAt_21 : decode cX2_greyAt 21 = .ok (.ireturn, 1) := by decide +kernel
theorem dX2_countChanged_0 : decode cX2_countChanged 0 = .ok (.iconst 0, 1) := by decide +kernel
theorem dX2_countChanged_1 : decode cX2_countChanged 1 = .ok (.istore_n 1, 1) := by decide +kernel
theorem dX2_countChanged_2 : decode cX2_countChanged 2 = .ok (.iconst 0, 1) := by decide +kernel
theorem dX2_countChanged_3 : decode cX2_countChanged 3 = .ok (.istore_n 2, 1) := by decide +kernel
theorem dX2_countChanged_4 : decode cX2_countChanged 4 = .ok (.iload_n 2, 1) := by decide +kernel
theorem dX2_countChanged_5 : decode cX2_countChanged 5 = .ok (.aload_n 0, 1) := by decide +kernel
theorem dX2_countChanged_6 : decode cX2_countChanged 6 = .ok (.getfield 9, 3) := by decide +kernel
theorem dX2_countChanged_9 : decode cX2_countChanged 9 = .ok (.getfield 32, 3) := by decide +kernel
theorem dX2_countChanged_12 : decode cX2_countChanged 12 = .ok (.if_icmp .ge 27, 3) := by decide +kernel
theorem dX2_countChanged_15 : decode cX2_countChanged 15 = .ok (.aload_n 0, 1) := by decide +kernel
theorem dX2_countChanged_16 : decode cX2_countChanged 16 = .ok (.getfield 23, 3) := by decide +kernel
theorem dX2_countChanged_19 : decode cX2_countChanged 19 = .ok (.iload_n 2, 1) := by decide +kernel
theorem dX2_countChanged_20 : decode cX2_countChanged 20 = .ok (.iaload, 1) := by decide +kernel
theorem dX2_countChanged_21 : decode cX2_countChanged 21 = .ok (.aload_n 0, 1) := by decide +kernel
theorem dX2_countChanged_22 : decode cX2_countChanged 22 = .ok (.getfield 26, 3) := by decide +kernel
theorem dX2_countChanged_25 : decode cX2_countChanged 25 = .ok (.iload_n 2, 1) := by decide +kernel
theorem dX2_countChanged_26 : decode cX2_countChanged 26 = .ok (.iaload, 1) := by decide +kernel
theorem dX2_countChanged_27 : decode cX2_countChanged 27 = .ok (.if_icmp .eq 6, 3) := by decide +kernel
theorem dX2_countChanged_30 : decode cX2_countChanged 30 = .ok (.iinc 1 1, 3) := by decide +kernel
theorem dX2_countChanged_33 : decode cX2_countChanged 33 = .ok (.iinc 2 1, 3) := by decide +kernel
theorem dX2_countChanged_36 : decode cX2_countChanged 36 = .ok (.goto (-32), 3) := by decide +kernel
theorem dX2_countChanged_39 : decode cX2_countChanged 39 = .ok (.iload_n 1, 1) := by decide +kernel
theorem dX2_countChanged_40 : decode cX2_countChanged 40 = .ok (.ireturn, 1) := by decide +kernel
set_option maxRecDepth 20000 in
theorem ggX2_countUnlikeRaw_X1_greyAt : GoodIn wsX2_countUnlikeRaw wsX1_greyAt := goodIn_r _ [8, 9, 10, 11, 12, 7, 13, 14, 15, 16, 17, 18, 19, 26, 27, 28, 29, 30] (by decide +kernel) (by decide +kernel)
set_option maxRecDepth 20000 in
theorem gX2_countUnlikeRaw_X1_greyAt : GoodIn wsX2_countUnlikeRaw (wsV RX2 38 RX1 yX1_greyAt wsX1_greyAt) := goodIn_app (goodIn_of _ (by decide +kernel)) ggX2_countUnlikeRaw_X1_greyAt
theorem dX2_countUnlikeRaw_0 : decode cX2_countUnlikeRaw 0 = .ok (.iconst 0, 1) := by decide +kernel
theorem dX2_countUnlikeRaw_1 : decode cX2_countUnlikeRaw 1 = .ok (.istore_n 2, 1) := by decide +kernel
theorem dX2_countUnlikeRaw_2 : decode cX2_countUnlikeRaw 2 = .ok (.iconst 0, 1) := by decide +kernel
theorem dX2_countUnlikeRaw_3 : decode cX2_countUnlikeRaw 3 = .ok (.istore_n 3, 1) := by decide +kernel
theorem dX2_countUnlikeRaw_4 : decode cX2_countUnlikeRaw 4 = .ok (.iload_n 3, 1) := by decide +kernel
theorem dX2_countUnlikeRaw_5 : decode cX2_countUnlikeRaw 5 = .ok (.aload_n 0, 1) := by decide +kernel
theorem dX2_countUnlikeRaw_6 : decode cX2_countUnlikeRaw 6 = .ok (.getfield 9, 3) := by decide +kernel
theorem dX2_countUnlikeRaw_9 : decode cX2_countUnlikeRaw 9 = .ok (.getfield 32, 3) := by decide +kernel
theorem dX2_countUnlikeRaw_12 : decode cX2_countUnlikeRaw 12 = .ok (.if_icmp .ge 30, 3) := by decide +kernel
theorem dX2_countUnlikeRaw_15 : decode cX2_countUnlikeRaw 15 = .ok (.aload_n 0, 1) := by decide +kernel
theorem dX2_countUnlikeRaw_16 : decode cX2_countUnlikeRaw 16 = .ok (.getfield 23, 3) := by decide +kernel
theorem dX2_countUnlikeRaw_19 : decode cX2_countUnlikeRaw 19 = .ok (.iload_n 3, 1) := by decide +kernel
theorem dX2_countUnlikeRaw_20 : decode cX2_countUnlikeRaw 20 = .ok (.iaload, 1) := by decide +kernel
theorem dX2_countUnlikeRaw_21 : decode cX2_countUnlikeRaw 21 = .ok (.aload_n 0, 1) := by decide +kernel
theorem dX2_countUnlikeRaw_22 : decode cX2_countUnlikeRaw 22 = .ok (.getfield 9, 3) := by decide +kernel
theorem dX2_countUnlikeRaw_25 : decode cX2_countUnlikeRaw 25 = .ok (.iload_n 1, 1) := by decide +kernel
theorem dX2_countUnlikeRaw_26 : decode cX2_countUnlikeRaw 26 = .ok (.iload_n 3, 1) := by decide +kernel
theorem dX2_countUnlikeRaw_27 : decode cX2_countUnlikeRaw 27 = .ok (.invokevirtual 38, 3) := by decide +kernel
theorem dX2_countUnlikeRaw_30 : decode cX2_countUnlikeRaw 30 = .ok (.if_icmp .eq 6, 3) := by decide +kernel
theorem dX2_countUnlikeRaw_33 : decode cX2_countUnlikeRaw 33 = .ok (.iinc 2 1, 3) := by decide +kernel
theorem dX2_countUnlikeRaw_36 : decode cX2_countUnlikeRaw 36 = .ok (.iinc 3 1, 3) := by decide +kernel
theorem dX2_countUnlikeRaw_39 : decode cX2_countUnlikeRaw 39 = .ok (.goto (-35), 3) := by decide +kernel
theorem dX2_countUnlikeRaw_42 : decode cX2_countUnlikeRaw 42 = .ok (.iload_n 2, 1) := by decide +kernel
theorem dX2_countUnlikeRaw_43 : decode cX2_countUnlikeRaw 43 = .ok (.ireturn, 1) := by decide +kernel
theorem dX2_countLost_0 : decode cX2_countLost 0 = .ok (.iconst 0, 1) := by decide +kernel
theorem dX2_countLost_1 : decode cX2_countLost 1 = .ok (.istore_n 1, 1) := by decide +kernel
theorem dX2_countLost_2 : decode cX2_countLost 2 = .ok (.iconst 0, 1) := by decide +kernel
theorem dX2_countLost_3 : decode cX2_countLost 3 = .ok (.istore_n 2, 1) := by decide +kernel
theorem dX2_countLost_4 : decode cX2_countLost 4 = .ok (.iload_n 2, 1) := by decide +kernel
theorem dX2_countLost_5 : decode cX2_countLost 5 = .ok (.aload_n 0, 1) := by decide +kernel
theorem dX2_countLost_6 : decode cX2_countLost 6 = .ok (.getfield 9, 3) := by decide +kernel
theorem dX2_countLost_9 : decode cX2_countLost 9 = .ok (.getfield 32, 3) := by decide +kernel
theorem dX2_countLost_12 : decode cX2_countLost 12 = .ok (.if_icmp .ge 22, 3) := by decide +kernel
theorem dX2_countLost_15 : decode cX2_countLost 15 = .ok (.aload_n 0, 1) := by decide +kernel
theorem dX2_countLost_16 : decode cX2_countLost 16 = .ok (.getfield 23, 3) := by decide +kernel
theorem dX2_countLost_19 : decode cX2_countLost 19 = .ok (.iload_n 2, 1) := by decide +kernel
theorem dX2_countLost_20 : decode cX2_countLost 20 = .ok (.iaload, 1) := by decide +kernel
theorem dX2_countLost_21 : decode cX2_countLost 21 = .ok (.iconst (-1), 1) := by decide +kernel
theorem dX2_countLost_22 : decode cX2_countLost 22 = .ok (.if_icmp .ne 6, 3) := by decide +kernel
theorem dX2_countLost_25 : decode cX2_countLost 25 = .ok (.iinc 1 1, 3) := by decide +kernel
theorem dX2_countLost_28 : decode cX2_countLost 28 = .ok (.iinc 2 1, 3) := by decide +kernel
theorem dX2_countLost_31 : decode cX2_countLost 31 = .ok (.goto (-27), 3) := by decide +kernel
theorem dX2_countLost_34 : decode cX2_countLost 34 = .ok (.iload_n 1, 1) := by decide +kernel
theorem dX2_countLost_35 : decode cX2_countLost 35 = .ok (.ireturn, 1) := by decide +kernel
theorem dX2_sumOfGreys_0 : decode cX2_sumOfGreys 0 = .ok (.iconst 0, 1) := by decide +kernel
theorem dX2_sumOfGreys_1 : decode cX2_sumOfGreys 1 = .ok (.istore_n 1, 1) := by decide +kernel
theorem dX2_sumOfGreys_2 : decode cX2_sumOfGreys 2 = .ok (.iconst 0, 1) := by decide +kernel
theorem dX2_sumOfGreys_3 : decode cX2_sumOfGreys 3 = .ok (.istore_n 2, 1) := by decide +kernel
theorem dX2_sumOfGreys_4 : decode cX2_sumOfGreys 4 = .ok (.iload_n 2, 1) := by decide +kernel
theorem dX2_sumOfGreys_5 : decode cX2_sumOfGreys 5 = .ok (.aload_n 0, 1) := by decide +kernel
theorem dX2_sumOfGreys_6 : decode cX2_sumOfGreys 6 = .ok (.getfield 9, 3) := by decide +kernel
theorem dX2_sumOfGreys_9 : decode cX2_sumOfGreys 9 = .ok (.getfield 32, 3) := by decide +kernel
theorem dX2_sumOfGreys_12 : decode cX2_sumOfGreys 12 = .ok (.if_icmp .ge 28, 3) := by decide +kernel
theorem dX2_sumOfGreys_15 : decode cX2_sumOfGreys 15 = .ok (.aload_n 0, 1) := by decide +kernel
theorem dX2_sumOfGreys_16 : decode cX2_sumOfGreys 16 = .ok (.getfield 23, 3) := by decide +kernel
theorem dX2_sumOfGreys_19 : decode cX2_sumOfGreys 19 = .ok (.iload_n 2, 1) := by decide +kernel
theorem dX2_sumOfGreys_20 : decode cX2_sumOfGreys 20 = .ok (.iaload, 1) := by decide +kernel
theorem dX2_sumOfGreys_21 : decode cX2_sumOfGreys 21 = .ok (.iconst (-1), 1) := by decide +kernel
theorem dX2_sumOfGreys_22 : decode cX2_sumOfGreys 22 = .ok (.if_icmp .eq 12, 3) := by decide +kernel
theorem dX2_sumOfGreys_25 : decode cX2_sumOfGreys 25 = .ok (.iload_n 1, 1) := by decide +kernel
theorem dX2_sumOfGreys_26 : decode cX2_sumOfGreys 26 = .ok (.aload_n 0, 1) := by decide +kernel
theorem dX2_sumOfGreys_27 : decode cX2_sumOfGreys 27 = .ok (.getfield 23, 3) := by decide +kernel
theorem dX2_sumOfGreys_30 : decode cX2_sumOfGreys 30 = .ok (.iload_n 2, 1) := by decide +kernel
theorem dX2_sumOfGreys_31 : decode cX2_sumOfGreys 31 = .ok (.iaload, 1) := by decide +kernel
theorem dX2_sumOfGreys_32 : decode cX2_sumOfGreys 32 = .ok (.iadd, 1) := by decide +kernel
theorem dX2_sumOfGreys_33 : decode cX2_sumOfGreys 33 = .ok (.istore_n 1, 1) := by decide +kernel
theorem dX2_sumOfGreys_34 : decode cX2_sumOfGreys 34 = .ok (.iinc 2 1, 3) := by decide +kernel
theorem dX2_sumOfGreys_37 : decode cX2_sumOfGreys 37 = .ok (.goto (-33), 3) := by decide +kernel
theorem dX2_sumOfGreys_40 : decode cX2_sumOfGreys 40 = .ok (.iload_n 1, 1) := by decide +kernel
theorem dX2_sumOfGreys_41 : decode cX2_sumOfGreys 41 = .ok (.ireturn, 1) := by decide +kernel
theorem dX2_leastGrey_0 : decode cX2_leastGrey 0 = .ok (.bipush 63, 2) := by decide +kernel
theorem dX2_leastGrey_2 : decode cX2_leastGrey 2 = .ok (.istore_n 1, 1) := by decide +kernel
theorem dX2_leastGrey_3 : decode cX2_leastGrey 3 = .ok (.iconst 0, 1) := by decide +kernel
theorem dX2_leastGrey_4 : decode cX2_leastGrey 4 = .ok (.istore_n 2, 1) := by decide +kernel
theorem dX2_leastGrey_5 : decode cX2_leastGrey 5 = .ok (.iload_n 2, 1) := by decide +kernel
theorem dX2_leastGrey_6 : decode cX2_leastGrey 6 = .ok (.aload_n 0, 1) := by decide +kernel
theorem dX2_leastGrey_7 : decode cX2_leastGrey 7 = .ok (.getfield 9, 3) := by decide +kernel
theorem dX2_leastGrey_10 : decode cX2_leastGrey 10 = .ok (.getfield 32, 3) := by decide +kernel
theorem dX2_leastGrey_13 : decode cX2_leastGrey 13 = .ok (.if_icmp .ge 30, 3) := by decide +kernel
theorem dX2_leastGrey_16 : decode cX2_leastGrey 16 = .ok (.aload_n 0, 1) := by decide +kernel
theorem dX2_leastGrey_17 : decode cX2_leastGrey 17 = .ok (.getfield 23, 3) := by decide +kernel
theorem dX2_leastGrey_20 : decode cX2_leastGrey 20 = .ok (.iload_n 2, 1) := by decide +kernel
theorem dX2_leastGrey_21 : decode cX2_leastGrey 21 = .ok (.iaload, 1) := by decide +kernel
theorem dX2_leastGrey_22 : decode cX2_leastGrey 22 = .ok (.iconst (-1), 1) := by decide +kernel
theorem dX2_leastGrey_23 : decode cX2_leastGrey 23 = .ok (.if_icmp .eq 14, 3) := by decide +kernel
theorem dX2_leastGrey_26 : decode cX2_leastGrey 26 = .ok (.iload_n 1, 1) := by decide +kernel
theorem dX2_leastGrey_27 : decode cX2_leastGrey 27 = .ok (.aload_n 0, 1) := by decide +kernel
theorem dX2_leastGrey_28 : decode cX2_leastGrey 28 = .ok (.getfield 23, 3) := by decide +kernel
theorem dX2_leastGrey_31 : decode cX2_leastGrey 31 = .ok (.iload_n 2, 1) := by decide +kernel
theorem dX2_leastGrey_32 : decode cX2_leastGrey 32 = .ok (.iaload, 1) := by decide +kernel
theorem dX2_leastGrey_33 : decode cX2_leastGrey 33 = .ok (.invokestatic 119, 3) := by decide +kernel
theorem dX2_leastGrey_36 : decode cX2_leastGrey 36 = .ok (.istore_n 1, 1) := by decide +kernel
theorem dX2_leastGrey_37 : decode cX2_leastGrey 37 = .ok (.iinc 2 1, 3) := by decide +kernel
theorem dX2_leastGrey_40 : decode cX2_leastGrey 40 = .ok (.goto (-35), 3) := by decide +kernel
theorem dX2_leastGrey_43 : decode cX2_leastGrey 43 = .ok (.iload_n 1, 1) := by decide +kernel
theorem dX2_leastGrey_44 : decode cX2_leastGrey 44 = .ok (.ireturn, 1) := by decide +kernel
theorem dX2_greatestGrey_0 : decode cX2_greatestGrey 0 = .ok (.iconst 0, 1) := by decide +kernel
theorem dX2_greatestGrey_1 : decode cX2_greatestGrey 1 = .ok (.istore_n 1, 1) := by decide +kernel
theorem dX2_greatestGrey_2 : decode cX2_greatestGrey 2 = .ok (.iconst 0, 1) := by decide +kernel
theorem dX2_greatestGrey_3 : decode cX2_greatestGrey 3 = .ok (.istore_n 2, 1) := by decide +kernel
theorem dX2_greatestGrey_4 : decode cX2_greatestGrey 4 = .ok (.iload_n 2, 1) := by decide +kernel
theorem dX2_greatestGrey_5 : decode cX2_greatestGrey 5 = .ok (.aload_n 0, 1) := by decide +kernel
theorem dX2_greatestGrey_6 : decode cX2_greatestGrey 6 = .ok (.getfield 9, 3) := by decide +kernel
theorem dX2_greatestGrey_9 : decode cX2_greatestGrey 9 = .ok (.getfield 32, 3) := by decide +kernel
theorem dX2_greatestGrey_12 : decode cX2_greatestGrey 12 = .ok (.if_icmp .ge 20, 3) := by decide +kernel
theorem dX2_greatestGrey_15 : decode cX2_greatestGrey 15 = .ok (.iload_n 1, 1) := by decide +kernel
theorem dX2_greatestGrey_16 : decode cX2_greatestGrey 16 = .ok (.aload_n 0, 1) := by decide +kernel
theorem dX2_greatestGrey_17 : decode cX2_greatestGrey 17 = .ok (.getfield 23, 3) := by decide +kernel
theorem dX2_greatestGrey_20 : decode cX2_greatestGrey 20 = .ok (.iload_n 2, 1) := by decide +kernel
theorem dX2_greatestGrey_21 : decode cX2_greatestGrey 21 = .ok (.iaload, 1) := by decide +kernel
theorem dX2_greatestGrey_22 : decode cX2_greatestGrey 22 = .ok (.invokestatic 122, 3) := by decide +kernel
theorem dX2_greatestGrey_25 : decode cX2_greatestGrey 25 = .ok (.istore_n 1, 1) := by decide +kernel
theorem dX2_greatestGrey_26 : decode cX2_greatestGrey 26 = .ok (.iinc 2 1, 3) := by decide +kernel
theorem dX2_greatestGrey_29 : decode cX2_greatestGrey 29 = .ok (.goto (-25), 3) := by decide +kernel
theorem dX2_greatestGrey_32 : decode cX2_greatestGrey 32 = .ok (.iload_n 1, 1) := by decide +kernel
theorem dX2_greatestGrey_33 : decode cX2_greatestGrey 33 = .ok (.ireturn, 1) := by decide +kernel
end
section
theorem dX3_init_0 : decode cX3_init 0 = .ok (.aload_n 0, 1) := by decide +kernel
theorem dX3_init_1 : decode cX3_init 1 = .ok (.invokespecial 3, 3) := by decide +kernel
theorem dX3_init_4 : decode cX3_init 4 = .ok (.aload_n 0, 1) := by decide +kernel
theorem dX3_init_5 : decode cX3_init 5 = .ok (.aload_n 1, 1) := by decide +kernel
theorem dX3_init_6 : decode cX3_init 6 = .ok (.putfield 9, 3) := by decide +kernel
theorem dX3_init_9 : decode cX3_init 9 = .ok (.return_, 1) := by decide +kernel
set_option maxRecDepth 20000 in
theorem ggX3_measure_X1_placeOf : GoodIn wsX3_measure wsX1_placeOf := goodIn_r _ [20, 21, 22, 45, 46, 47, 48, 49] (by decide +kernel) (by decide +kernel)
set_option maxRecDepth 20000 in
theorem gX3_measure_X1_placeOf : GoodIn wsX3_measure (wsV RX3 39 RX1 yX1_placeOf wsX1_placeOf) := goodIn_app (goodIn_of _ (by decide +kernel)) ggX3_measure_X1_placeOf
set_option maxRecDepth 20000 in
theorem ggX3_measure_X1_greyAt : GoodIn wsX3_measure wsX1_greyAt := goodIn_r _ [26, 27, 28, 29, 30, 19, 31, 32, 33, 34, 35, 36, 37, 45, 46, 47, 48, 49] (by decide +kernel) (by decide +kernel)
set_option maxRecDepth 20000 in
theorem gX3_measure_X1_greyAt : GoodIn wsX3_measure (wsV RX3 42 RX1 yX1_greyAt wsX1_greyAt) := goodIn_app (goodIn_of _ (by decide +kernel)) ggX3_measure_X1_greyAt
theorem dX3_measure_0 : decode cX3_measure 0 = .ok (.aload_n 0, 1) := by decide +kernel
theorem dX3_measure_1 : decode cX3_measure 1 = .ok (.iconst 0, 1) := by decide +kernel
theorem dX3_measure_2 : decode cX3_measure 2 = .ok (.putfield 15, 3) := by decide +kernel
theorem dX3_measure_5 : decode cX3_measure 5 = .ok (.aload_n 0, 1) := by decide +kernel
theorem dX3_measure_6 : decode cX3_measure 6 = .ok (.iconst 0, 1) := by decide +kernel
theorem dX3_measure_7 : decode cX3_measure 7 = .ok (.putfield 19, 3) := by decide +kernel
theorem dX3_measure_10 : decode cX3_measure 10 = .ok (.aload_n 0, 1) := by decide +kernel
theorem dX3_measure_11 : decode cX3_measure 11 = .ok (.getfield 9, 3) := by decide +kernel
theorem dX3_measure_14 : decode cX3_measure 14 = .ok (.getfield 22, 3) := by decide +kernel
theorem dX3_measure_17 : decode cX3_measure 17 = .ok (.aload_n 0, 1) := by decide +kernel
theorem dX3_measure_18 : decode cX3_measure 18 = .ok (.getfield 9, 3) := by decide +kernel
theorem dX3_measure_21 : decode cX3_measure 21 = .ok (.getfield 22, 3) := by decide +kernel
theorem dX3_measure_24 : decode cX3_measure 24 = .ok (.iload_n 3, 1) := by decide +kernel
theorem dX3_measure_25 : decode cX3_measure 25 = .ok (.isub, 1) := by decide +kernel
theorem dX3_measure_26 : decode cX3_measure 26 = .ok (.invokestatic 27, 3) := by decide +kernel
theorem dX3_measure_29 : decode cX3_measure 29 = .ok (.istore 4, 2) := by decide +kernel
theorem dX3_measure_31 : decode cX3_measure 31 = .ok (.aload_n 0, 1) := by decide +kernel
theorem dX3_measure_32 : decode cX3_measure 32 = .ok (.getfield 9, 3) := by decide +kernel
theorem dX3_measure_35 : decode cX3_measure 35 = .ok (.getfield 33, 3) := by decide +kernel
theorem dX3_measure_38 : decode cX3_measure 38 = .ok (.aload_n 0, 1) := by decide +kernel
theorem dX3_measure_39 : decode cX3_measure 39 = .ok (.getfield 9, 3) := by decide +kernel
theorem dX3_measure_42 : decode cX3_measure 42 = .ok (.getfield 33, 3) := by decide +kernel
theorem dX3_measure_45 : decode cX3_measure 45 = .ok (.iload_n 2, 1) := by decide +kernel
theorem dX3_measure_46 : decode cX3_measure 46 = .ok (.isub, 1) := by decide +kernel
theorem dX3_measure_47 : decode cX3_measure 47 = .ok (.invokestatic 27, 3) := by decide +kernel
theorem dX3_measure_50 : decode cX3_measure 50 = .ok (.istore 5, 2) := by decide +kernel
theorem dX3_measure_52 : decode cX3_measure 52 = .ok (.iconst 0, 1) := by decide +kernel
theorem dX3_measure_53 : decode cX3_measure 53 = .ok (.iload_n 3, 1) := by decide +kernel
theorem dX3_measure_54 : decode cX3_measure 54 = .ok (.ineg, 1) := by decide +kernel
theorem dX3_measure_55 : decode cX3_measure 55 = .ok (.invokestatic 36, 3) := by decide +kernel
theorem dX3_measure_58 : decode cX3_measure 58 = .ok (.istore 6, 2) := by decide +kernel
theorem dX3_measure_60 : decode cX3_measure 60 = .ok (.iload 6, 2) := by decide +kernel
theorem dX3_measure_62 : decode cX3_measure 62 = .ok (.iload 4, 2) := by decide +kernel
theorem dX3_measure_64 : decode cX3_measure 64 = .ok (.if_icmp .ge 117, 3) := by decide +kernel
theorem dX3_measure_67 : decode cX3_measure 67 = .ok (.iconst 0, 1) := by decide +kernel
theorem dX3_measure_68 : decode cX3_measure 68 = .ok (.iload_n 2, 1) := by decide +kernel
theorem dX3_measure_69 : decode cX3_measure 69 = .ok (.ineg, 1) := by decide +kernel
theorem dX3_measure_70 : decode cX3_measure 70 = .ok (.invokestatic 36, 3) := by decide +kernel
theorem dX3_measure_73 : decode cX3_measure 73 = .ok (.istore 7, 2) := by decide +kernel
theorem dX3_measure_75 : decode cX3_measure 75 = .ok (.iload 7, 2) := by decide +kernel
theorem dX3_measure_77 : decode cX3_measure 77 = .ok (.iload 5, 2) := by decide +kernel
theorem dX3_measure_79 : decode cX3_measure 79 = .ok (.if_icmp .ge 96, 3) := by decide +kernel
theorem dX3_measure_82 : decode cX3_measure 82 = .ok (.aload_n 0, 1) := by decide +kernel
theorem dX3_measure_83 : decode cX3_measure 83 = .ok (.getfield 9, 3) := by decide +kernel
theorem dX3_measure_86 : decode cX3_measure 86 = .ok (.iload_n 1, 1) := by decide +kernel
theorem dX3_measure_87 : decode cX3_measure 87 = .ok (.iconst 1, 1) := by decide +kernel
theorem dX3_measure_88 : decode cX3_measure 88 = .ok (.isub, 1) := by decide +kernel
theorem dX3_measure_89 : decode cX3_measure 89 = .ok (.aload_n 0, 1) := by decide +kernel
theorem dX3_measure_90 : decode cX3_measure 90 = .ok (.getfield 9, 3) := by decide +kernel
theorem dX3_measure_93 : decode cX3_measure 93 = .ok (.iload 6, 2) := by decide +kernel
theorem dX3_measure_95 : decode cX3_measure 95 = .ok (.iload 7, 2) := by decide +kernel
theorem dX3_measure_97 : decode cX3_measure 97 = .ok (.invokevirtual 39, 3) := by decide +kernel
theorem dX3_measure_100 : decode cX3_measure 100 = .ok (.invokevirtual 42, 3) := by decide +kernel
theorem dX3_measure_103 : decode cX3_measure 103 = .ok (.istore 8, 2) := by decide +kernel
theorem dX3_measure_105 : decode cX3_measure 105 = .ok (.aload_n 0, 1) := by decide +kernel
theorem dX3_measure_106 : decode cX3_measure 106 = .ok (.getfield 9, 3) := by decide +kernel
theorem dX3_measure_109 : decode cX3_measure 109 = .ok (.iload_n 1, 1) := by decide +kernel
theorem dX3_measure_110 : decode cX3_measure 110 = .ok (.aload_n 0, 1) := by decide +kernel
theorem dX3_measure_111 : decode cX3_measure 111 = .ok (.getfield 9, 3) := by decide +kernel
theorem dX3_measure_114 : decode cX3_measure 114 = .ok (.iload 6, 2) := by decide +kernel
theorem dX3_measure_116 : decode cX3_measure 116 = .ok (.iload_n 3, 1) := by decide +kernel
theorem dX3_measure_117 : decode cX3_measure 117 = .ok (.iadd, 1) := by decide +kernel
theorem dX3_measure_118 : decode cX3_measure 118 = .ok (.iload 7, 2) := by decide +kernel
theorem dX3_measure_120 : decode cX3_measure 120 = .ok (.iload_n 2, 1) := by decide +kernel
theorem dX3_measure_121 : decode cX3_measure 121 = .ok (.iadd, 1) := by decide +kernel
theorem dX3_measure_122 : decode cX3_measure 122 = .ok (.invokevirtual 39, 3) := by decide +kernel
theorem dX3_measure_125 : decode cX3_measure 125 = .ok (.invokevirtual 42, 3) := by decide +kernel
theorem dX3_measure_128 : decode cX3_measure 128 = .ok (.istore 9, 2) := by decide +kernel
theorem dX3_measure_130 : decode cX3_measure 130 = .ok (.iload 8, 2) := by decide +kernel
theorem dX3_measure_132 : decode cX3_measure 132 = .ok (.iconst (-1), 1) := by decide +kernel
theorem dX3_measure_133 : decode cX3_measure 133 = .ok (.if_icmp .eq 36, 3) := by decide +kernel
theorem dX3_measure_136 : decode cX3_measure 136 = .ok (.iload 9, 2) := by decide +kernel
theorem dX3_measure_138 : decode cX3_measure 138 = .ok (.iconst (-1), 1) := by decide +kernel
theorem dX3_measure_139 : decode cX3_measure 139 = .ok (.if_icmp .eq 30, 3) := by decide +kernel
theorem dX3_measure_142 : decode cX3_measure 142 = .ok (.aload_n 0, 1) := by decide +kernel
theorem dX3_measure_143 : decode cX3_measure 143 = .ok (.dup, 1) := by decide +kernel
theorem dX3_measure_144 : decode cX3_measure 144 = .ok (.getfield 15, 3) := by decide +kernel
theorem dX3_measure_147 : decode cX3_measure 147 = .ok (.iload 9, 2) := by decide +kernel
theorem dX3_measure_149 : decode cX3_measure 149 = .ok (.iload 8, 2) := by decide +kernel
theorem dX3_measure_151 : decode cX3_measure 151 = .ok (.isub, 1) := by decide +kernel
theorem dX3_measure_152 : decode cX3_measure 152 = .ok (.invokestatic 45, 3) := by decide +kernel
theorem dX3_measure_155 : decode cX3_measure 155 = .ok (.iadd, 1) := by decide +kernel
theorem dX3_measure_156 : decode cX3_measure 156 = .ok (.putfield 15, 3) := by decide +kernel
theorem dX3_measure_159 : decode cX3_measure 159 = .ok (.aload_n 0, 1) := by decide +kernel
theorem dX3_measure_160 : decode cX3_measure 160 = .ok (.dup, 1) := by decide +kernel
theorem dX3_measure_161 : decode cX3_measure 161 = .ok (.getfield 19, 3) := by decide +kernel
theorem dX3_measure_164 : decode cX3_measure 164 = .ok (.iconst 1, 1) := by decide +kernel
theorem dX3_measure_165 : decode cX3_measure 165 = .ok (.iadd, 1) := by decide +kernel
theorem dX3_measure_166 : decode cX3_measure 166 = .ok (.putfield 19, 3) := by decide +kernel
theorem dX3_measure_169 : decode cX3_measure 169 = .ok (.iinc 7 1, 3) := by decide +kernel
theorem dX3_measure_172 : decode cX3_measure 172 = .ok (.goto (-97), 3) := by decide +kernel
theorem dX3_measure_175 : decode cX3_measure 175 = .ok (.iinc 6 1, 3) := by decide +kernel
theorem dX3_measure_178 : decode cX3_measure 178 = .ok (.goto (-118), 3) := by decide +kernel
theorem dX3_measure_181 : decode cX3_measure 181 = .ok (.return_, 1) := by decide +kernel
theorem dX3_isEnough_0 : decode cX3_isEnough 0 = .ok (.iconst 4, 1) := by decide +kernel
theorem dX3_isEnough_1 : decode cX3_isEnough 1 = .ok (.aload_n 0, 1) := by decide +kernel
theorem dX3_isEnough_2 : decode cX3_isEnough 2 = .ok (.getfield 19, 3) := by decide +kernel
theorem dX3_isEnough_5 : decode cX3_isEnough 5 = .ok (.imul, 1) := by decide +kernel
theorem dX3_isEnough_6 : decode cX3_isEnough 6 = .ok (.aload_n 0, 1) := by decide +kernel
theorem dX3_isEnough_7 : decode cX3_isEnough 7 = .ok (.getfield 9, 3) := by decide +kernel
theorem dX3_isEnough_10 : decode cX3_isEnough 10 = .ok (.getfield 49, 3) := by decide +kernel
theorem dX3_isEnough_13 : decode cX3_isEnough 13 = .ok (.if_icmp .lt 7, 3) := by decide +kernel
theorem dX3_isEnough_16 : decode cX3_isEnough 16 = .ok (.iconst 1, 1) := by decide +kernel
theorem dX3_isEnough_17 : decode cX3_isEnough 17 = .ok (.goto 4, 3) := by decide +kernel
theorem dX3_isEnough_20 : decode cX3_isEnough 20 = .ok (.iconst 0, 1) := by decide +kernel
theorem dX3_isEnough_21 : decode cX3_isEnough 21 = .ok (.ireturn, 1) := by decide +kernel
set_option maxRecDepth 20000 in
theorem ggX3_find_X3_measure : GoodIn wsX3_find wsX3_measure := goodIn_r _ [11, 4, 6, 12, 13, 14, 15, 16, 17, 18, 19, 20, 21, 22, 23, 24, 25, 26, 27, 28, 29, 30, 31, 32, 33, 34, 35, 36, 37, 38, 39, 40, 41, 42, 43, 44, 45, 46, 56, 57, 58, 59, 60, 61, 62, 63, 64, 65, 66, 67] (by decide +kernel) (by decide +kernel)
set_option maxRecDepth 20000 in
theorem gX3_find_X3_measure : GoodIn wsX3_find (wsV RX3 61 RX3 yX3_measure wsX3_measure) := goodIn_app (goodIn_of _ (by decide +kernel)) ggX3_find_X3_measure
set_option maxRecDepth 20000 in
theorem ggX3_find_X3_isEnough : GoodIn wsX3_find wsX3_isEnough := goodIn_r _ [50, 6, 12, 51, 56, 57, 58, 59, 60, 61, 62, 63, 64, 65, 66, 67] (by decide +kernel) (by decide +kernel)
set_option maxRecDepth 20000 in
theorem gX3_find_X3_isEnough : GoodIn wsX3_find (wsV RX3 65 RX3 yX3_isEnough wsX3_isEnough) := goodIn_app (goodIn_of _ (by decide +kernel)) ggX3_find_X3_isEnough
set_option maxRecDepth 20000 in
theorem ggX3_find_X3_isBetter : GoodIn wsX3_find wsX3_isBetter := goodIn_r _ [55, 3, 4, 5, 6, 22, 23, 16, 24, 1, 2, 56, 57, 58, 59, 60, 61, 62] (by decide +kernel) (by decide +kernel)
set_option maxRecDepth 20000 in
theorem gX3_find_X3_isBetter : GoodIn wsX3_find (wsV RX3 69 RX3 yX3_isBetter wsX3_isBetter) := goodIn_app (goodIn_of _ (by decide +kernel)) ggX3_find_X3_isBetter
theorem dX3_find_0 : decode cX3_find 0 = .ok (.aload_n 0, 1) := by decide +kernel
theorem dX3_find_1 : decode cX3_find 1 = .ok (.iconst 0, 1) := by decide +kernel
theorem dX3_find_2 : decode cX3_find 2 = .ok (.putfield 52, 3) := by decide +kernel
theorem dX3_find_5 : decode cX3_find 5 = .ok (.aload_n 0, 1) := by decide +kernel
theorem dX3_find_6 : decode cX3_find 6 = .ok (.iconst 0, 1) := by decide +kernel
theorem dX3_find_7 : decode cX3_find 7 = .ok (.putfield 55, 3) := by decide +kernel
theorem dX3_find_10 : decode cX3_find 10 = .ok (.aload_n 0, 1) := by decide +kernel
theorem dX3_find_11 : decode cX3_find 11 = .ok (.iconst 0, 1) := by decide +kernel
theorem dX3_find_12 : decode cX3_find 12 = .ok (.putfield 58, 3) := by decide +kernel
theorem dX3_find_15 : decode cX3_find 15 = .ok (.bipush (-2), 2) := by decide +kernel
theorem dX3_find_17 : decode cX3_find 17 = .ok (.istore_n 2, 1) := by decide +kernel
theorem dX3_find_18 : decode cX3_find 18 = .ok (.iload_n 2, 1) := by decide +kernel
theorem dX3_find_19 : decode cX3_find 19 = .ok (.iconst 2, 1) := by decide +kernel
theorem dX3_find_20 : decode cX3_find 20 = .ok (.if_icmp .gt 72, 3) := by decide +kernel
theorem dX3_find_23 : decode cX3_find 23 = .ok (.bipush (-2), 2) := by decide +kernel
theorem dX3_find_25 : decode cX3_find 25 = .ok (.istore_n 3, 1) := by decide +kernel
theorem dX3_find_26 : decode cX3_find 26 = .ok (.iload_n 3, 1) := by decide +kernel
theorem dX3_find_27 : decode cX3_find 27 = .ok (.iconst 2, 1) := by decide +kernel
theorem dX3_find_28 : decode cX3_find 28 = .ok (.if_icmp .gt 58, 3) := by decide +kernel
theorem dX3_find_31 : decode cX3_find 31 = .ok (.aload_n 0, 1) := by decide +kernel
theorem dX3_find_32 : decode cX3_find 32 = .ok (.iload_n 1, 1) := by decide +kernel
theorem dX3_find_33 : decode cX3_find 33 = .ok (.iload_n 3, 1) := by decide +kernel
theorem dX3_find_34 : decode cX3_find 34 = .ok (.iload_n 2, 1) := by decide +kernel
theorem dX3_find_35 : decode cX3_find 35 = .ok (.invokevirtual 61, 3) := by decide +kernel
theorem dX3_find_38 : decode cX3_find 38 = .ok (.aload_n 0, 1) := by decide +kernel
theorem dX3_find_39 : decode cX3_find 39 = .ok (.invokevirtual 65, 3) := by decide +kernel
theorem dX3_find_42 : decode cX3_find 42 = .ok (.ifCond .eq 38, 3) := by decide +kernel
theorem dX3_find_45 : decode cX3_find 45 = .ok (.aload_n 0, 1) := by decide +kernel
theorem dX3_find_46 : decode cX3_find 46 = .ok (.iload_n 3, 1) := by decide +kernel
theorem dX3_find_47 : decode cX3_find 47 = .ok (.iload_n 2, 1) := by decide +kernel
theorem dX3_find_48 : decode cX3_find 48 = .ok (.invokevirtual 69, 3) := by decide +kernel
theorem dX3_find_51 : decode cX3_find 51 = .ok (.ifCond .eq 29, 3) := by decide +kernel
theorem dX3_find_54 : decode cX3_find 54 = .ok (.aload_n 0, 1) := by decide +kernel
theorem dX3_find_55 : decode cX3_find 55 = .ok (.iload_n 3, 1) := by decide +kernel
theorem dX3_find_56 : decode cX3_find 56 = .ok (.putfield 52, 3) := by decide +kernel
theorem dX3_find_59 : decode cX3_find 59 = .ok (.aload_n 0, 1) := by decide +kernel
theorem dX3_find_60 : decode cX3_find 60 = .ok (.iload_n 2, 1) := by decide +kernel
theorem dX3_find_61 : decode cX3_find 61 = .ok (.putfield 55, 3) := by decide +kernel
theorem dX3_find_64 : decode cX3_find 64 = .ok (.aload_n 0, 1) := by decide +kernel
theorem dX3_find_65 : decode cX3_find 65 = .ok (.aload_n 0, 1) := by decide +kernel
theorem dX3_find_66 : decode cX3_find 66 = .ok (.getfield 15, 3) := by decide +kernel
theorem dX3_find_69 : decode cX3_find 69 = .ok (.putfield 73, 3) := by decide +kernel
theorem dX3_find_72 : decode cX3_find 72 = .ok (.aload_n 0, 1) := by decide +kernel
theorem dX3_find_73 : decode cX3_find 73 = .ok (.aload_n 0, 1) := by decide +kernel
theorem dX3_find_74 : decode cX3_find 74 = .ok (.getfield 19, 3) := by decide +kernel
theorem dX3_find_77 : decode cX3_find 77 = .ok (.putfield 58, 3) := by decide +kernel
theorem dX3_find_80 : decode cX3_find 80 = .ok (.iinc 3 1, 3) := by decide +kernel
theorem dX3_find_83 : decode cX3_find 83 = .ok (.goto (-57), 3) := by decide +kernel
theorem dX3_find_86 : decode cX3_find 86 = .ok (.iinc 2 1, 3) := by decide +kernel
theorem dX3_find_89 : decode cX3_find 89 = .ok (.goto (-71), 3) := by decide +kernel
theorem dX3_find_92 : decode cX3_find 92 = .ok (.return_, 1) := by decide +kernel
theorem dX3_isBetter_0 : decode cX3_isBetter 0 = .ok (.aload_n 0, 1) := by decide +kernel
theorem dX3_isBetter_1 : decode cX3_isBetter 1 = .ok (.getfield 58, 3) := by decide +kernel
theorem dX3_isBetter_4 : decode cX3_isBetter 4 = .ok (.ifCond .ne 5, 3) := by decide +kernel
theorem dX3_isBetter_7 : decode cX3_isBetter 7 = .ok (.iconst 1, 1) := by decide +kernel
theorem dX3_isBetter_8 : decode cX3_isBetter 8 = .ok (.ireturn, 1) := by decide +kernel
theorem dX3_isBetter_9 : decode cX3_isBetter 9 = .ok (.aload_n 0, 1) := by decide +kernel
theorem dX3_isBetter_10 : decode cX3_isBetter 10 = .ok (.getfield 15, 3) := by decide +kernel
theorem dX3_isBetter_13 : decode cX3_isBetter 13 = .ok (.aload_n 0, 1) := by decide +kernel
theorem dX3_isBetter_14 : decode cX3_isBetter 14 = .ok (.getfield 58, 3) := by decide +kernel
theorem dX3_isBetter_17 : decode cX3_isBetter 17 = .ok (.imul, 1) := by decide +kernel
theorem dX3_isBetter_18 : decode cX3_isBetter 18 = .ok (.istore_n 3, 1) := by decide +kernel
theorem dX3_isBetter_19 : decode cX3_isBetter 19 = .ok (.aload_n 0, 1) := by decide +kernel
theorem dX3_isBetter_20 : decode cX3_isBetter 20 = .ok (.getfield 73, 3) := by decide +kernel
theorem dX3_isBetter_23 : decode cX3_isBetter 23 = .ok (.aload_n 0, 1) := by decide +kernel
theorem dX3_isBetter_24 : decode cX3_isBetter 24 = .ok (.getfield 19, 3) := by decide +kernel
theorem dX3_isBetter_27 : decode cX3_isBetter 27 = .ok (.imul, 1) := by decide +kernel
theorem dX3_isBetter_28 : decode cX3_isBetter 28 = .ok (.istore 4, 2) := by decide +kernel
theorem dX3_isBetter_30 : decode cX3_isBetter 30 = .ok (.iload_n 3, 1) := by decide +kernel
theorem dX3_isBetter_31 : decode cX3_isBetter 31 = .ok (.iload 4, 2) := by decide +kernel
theorem dX3_isBetter_33 : decode cX3_isBetter 33 = .ok (.if_icmp .eq 15, 3) := by decide +kernel
theorem dX3_isBetter_36 : decode cX3_isBetter 36 = .ok (.iload_n 3, 1) := by decide +kernel
theorem dX3_isBetter_37 : decode cX3_isBetter 37 = .ok (.iload 4, 2) := by decide +kernel
theorem dX3_isBetter_39 : decode cX3_isBetter 39 = .ok (.if_icmp .ge 7, 3) := by decide +kernel
theorem dX3_isBetter_42 : decode cX3_isBetter 42 = .ok (.iconst 1, 1) := by decide +kernel
theorem dX3_isBetter_43 : decode cX3_isBetter 43 = .ok (.goto 4, 3) := by decide +kernel
theorem dX3_isBetter_46 : decode cX3_isBetter 46 = .ok (.iconst 0, 1) := by decide +kernel
theorem dX3_isBetter_47 : decode cX3_isBetter 47 = .ok (.ireturn, 1) := by decide +kernel
theorem dX3_isBetter_48 : decode cX3_isBetter 48 = .ok (.iload_n 1, 1) := by decide +kernel
theorem dX3_isBetter_49 : decode cX3_isBetter 49 = .ok (.invokestatic 45, 3) := by decide +kernel
theorem dX3_isBetter_52 : decode cX3_isBetter 52 = .ok (.iload_n 2, 1) := by decide +kernel
theorem dX3_isBetter_53 : decode cX3_isBetter 53 = .ok (.invokestatic 45, 3) := by decide +kernel
theorem dX3_isBetter_56 : decode cX3_isBetter 56 = .ok (.iadd, 1) := by decide +kernel
theorem dX3_isBetter_57 : decode cX3_isBetter 57 = .ok (.aload_n 0, 1) := by decide +kernel
theorem dX3_isBetter_58 : decode cX3_isBetter 58 = .ok (.getfield 52, 3) := by decide +kernel
theorem dX3_isBetter_61 : decode cX3_isBetter 61 = .ok (.invokestatic 45, 3) := by decide +kernel
theorem dX3_isBetter_64 : decode cX3_isBetter 64 = .ok (.aload_n 0, 1) := by decide +kernel
theorem dX3_isBetter_65 : decode cX3_isBetter 65 = .ok (.getfield 55, 3) := by decide +kernel
theorem dX3_isBetter_68 : decode cX3_isBetter 68 = .ok (.invokestatic 45, 3) := by decide +kernel
theorem dX3_isBetter_71 : decode cX3_isBetter 71 = .ok (.iadd, 1) := by decide +kernel
theorem dX3_isBetter_72 : decode cX3_isBetter 72 = .ok (.if_icmp .ge 7, 3) := by decide +kernel
theorem dX3_isBetter_75 : decode cX3_isBetter 75 = .ok (.iconst 1, 1) := by decide +kernel
theorem dX3_isBetter_76 : decode cX3_isBetter 76 = .ok (.goto 4, 3) := by decide +kernel
theorem dX3_isBetter_79 : decode cX3_isBetter 79 = .ok (.iconst 0, 1) := by decide +kernel
theorem dX3_isBetter_80 : decode cX3_isBetter 80 = .ok (.ireturn, 1) := by decide +kernel
theorem dX3_along_0 : decode cX3_along 0 = .ok (.iload_n 1, 1) := by decide +kernel
theorem dX3_along_1 : decode cX3_along 1 = .ok (.ifCond .ne 10, 3) := by decide +kernel
theorem dX3_along_4 : decode cX3_along 4 = .ok (.aload_n 0, 1) := by decide +kernel
theorem dX3_along_5 : decode cX3_along 5 = .ok (.getfield 52, 3) := by decide +kernel
theorem dX3_along_8 : decode cX3_along 8 = .ok (.goto 7, 3) := by decide +kernel
theorem dX3_along_11 : decode cX3_along 11 = .ok (.aload_n 0, 1) := by decide +kernel
theorem dX3_along_12 : decode cX3_along 12 = .ok (.getfield 55, 3) := by decide +kernel
theorem dX3_along_15 : decode cX3_along 15 = .ok (.ireturn, 1) := by decide +kernel
theorem dX4_init_0 : decode cX4_init 0 = .ok (.aload_n 0, 1) := by decide +kernel
theorem dX4_init_1 : decode cX4_init 1 = .ok (.invokespecial 5, 3) := by decide +kernel
theorem dX4_init_4 : decode cX4_init 4 = .ok (.aload_n 0, 1) := by decide +kernel
theorem dX4_init_5 : decode cX4_init 5 = .ok (.bipush 10, 2) := by decide +kernel
theorem dX4_init_7 : decode cX4_init 7 = .ok (.newarray .int, 2) := by decide +kernel
theorem dX4_init_9 : decode cX4_init 9 = .ok (.putfield 11, 3) := by decide +kernel
theorem dX4_init_12 : decode cX4_init 12 = .ok (.aload_n 0, 1) := by decide +kernel
theorem dX4_init_13 : decode cX4_init 13 = .ok (.bipush 10, 2) := by decide +kernel
theorem dX4_init_15 : decode cX4_init 15 = .ok (.newarray .int, 2) := by decide +kernel
theorem dX4_init_17 : decode cX4_init 17 = .ok (.putfield 15, 3) := by decide +kernel
theorem dX4_init_20 : decode cX4_init 20 = .ok (.aload_n 0, 1) := by decide +kernel
theorem dX4_init_21 : decode cX4_init 21 = .ok (.sipush 490, 3) := by decide +kernel
theorem dX4_init_24 : decode cX4_init 24 = .ok (.newarray .int, 2) := by decide +kernel
theorem dX4_init_26 : decode cX4_init 26 = .ok (.putfield 18, 3) := by decide +kernel
theorem dX4_init_29 : decode cX4_init 29 = .ok (.return_, 1) := by decide +kernel
theorem dX4_setDrift_0 : decode cX4_setDrift 0 = .ok (.iload_n 1, 1) := by decide +kernel
theorem dX4_setDrift_1 : decode cX4_setDrift 1 = .ok (.ifCond .lt 16, 3) := by decide +kernel
theorem dX4_setDrift_4 : decode cX4_setDrift 4 = .ok (.iload_n 1, 1) := by decide +kernel
theorem dX4_setDrift_5 : decode cX4_setDrift 5 = .ok (.bipush 10, 2) := by decide +kernel
theorem dX4_setDrift_7 : decode cX4_setDrift 7 = .ok (.if_icmp .ge 10, 3) := by decide +kernel
theorem dX4_setDrift_10 : decode cX4_setDrift 10 = .ok (.aload_n 0, 1) := by decide +kernel
theorem dX4_setDrift_11 : decode cX4_setDrift 11 = .ok (.getfield 11, 3) := by decide +kernel
theorem dX4_setDrift_14 : decode cX4_setDrift 14 = .ok (.iload_n 1, 1) := by decide +kernel
theorem dX4_setDrift_15 : decode cX4_setDrift 15 = .ok (.iload_n 2, 1) := by decide +kernel
theorem dX4_setDrift_16 : decode cX4_setDrift 16 = .ok (.iastore, 1) := by decide +kernel
theorem dX4_setDrift_17 : decode cX4_setDrift 17 = .ok (.return_, 1) := by decide +kernel
theorem dX4_spotAt_0 : decode cX4_spotAt 0 = .ok (.iload_n 1, 1) := by decide +kernel
theorem dX4_spotAt_1 : decode cX4_spotAt 1 = .ok (.ifCond .lt 20, 3) := by decide +kernel
theorem dX4_spotAt_4 : decode cX4_spotAt 4 = .ok (.iload_n 1, 1) := by decide +kernel
theorem dX4_spotAt_5 : decode cX4_spotAt 5 = .ok (.aload_n 0, 1) := by decide +kernel
theorem dX4_spotAt_6 : decode cX4_spotAt 6 = .ok (.getfield 21, 3) := by decide +kernel
theorem dX4_spotAt_9 : decode cX4_spotAt 9 = .ok (.if_icmp .ge 12, 3) := by decide +kernel
theorem dX4_spotAt_12 : decode cX4_spotAt 12 = .ok (.aload_n 0, 1) := by decide +kernel
theorem dX4_spotAt_13 : decode cX4_spotAt 13 = .ok (.getfield 15, 3) := by decide +kernel
theorem dX4_spotAt_16 : decode cX4_spotAt 16 = .ok (.iload_n 1, 1) := by decide +kernel
theorem dX4_spotAt_17 : decode cX4_spotAt 17 = .ok (.iaload, 1) := by decide +kernel
theorem dX4_spotAt_18 : decode cX4_spotAt 18 = .ok (.goto 6, 3) := by decide +kernel
theorem dX4_spotAt_21 : decode cX4_spotAt 21 = .ok (.sipush (-1000), 3) := by decide +kernel
theorem dX4_spotAt_24 : decode cX4_spotAt 24 = .ok (.ireturn, 1) := by decide +kernel
set_option maxRecDepth 20000 in
theorem ggX4_solve_X4_findCosts : GoodIn wsX4_solve wsX4_findCosts := goodIn_r _ [14, 1, 3, 15, 16, 17, 13, 18, 19, 20, 21, 22, 23, 24, 25, 26, 27, 28, 29, 30, 31, 32, 33, 2, 34, 35, 36, 37, 4, 50, 51, 52, 53, 54, 55] (by decide +kernel) (by decide +kernel)
set_option maxRecDepth 20000 in
theorem gX4_solve_X4_findCosts : GoodIn wsX4_solve (wsV RX4 37 RX4 yX4_findCosts wsX4_findCosts) := goodIn_app (goodIn_of _ (by decide +kernel)) ggX4_solve_X4_findCosts
set_option maxRecDepth 20000 in
theorem ggX4_solve_X4_takeChoices : GoodIn wsX4_solve wsX4_takeChoices := goodIn_r _ [41, 3, 5, 1, 42, 43, 44, 13, 45, 2, 31, 32, 25, 33, 15, 16, 17, 18, 34, 35, 36, 37, 4, 46, 47, 48, 49, 27, 28, 29, 30, 50, 51, 52, 53, 54, 55] (by decide +kernel) (by decide +kernel)
set_option maxRecDepth 20000 in
theorem gX4_solve_X4_takeChoices : GoodIn wsX4_solve (wsV RX4 40 RX4 yX4_takeChoices wsX4_takeChoices) := goodIn_app (goodIn_of _ (by decide +kernel)) ggX4_solve_X4_takeChoices
theorem dX4_solve_0 : decode cX4_solve 0 = .ok (.aload_n 0, 1) := by decide +kernel
theorem dX4_solve_1 : decode cX4_solve 1 = .ok (.iload_n 1, 1) := by decide +kernel
theorem dX4_solve_2 : decode cX4_solve 2 = .ok (.putfield 21, 3) := by decide +kernel
theorem dX4_solve_5 : decode cX4_solve 5 = .ok (.aload_n 0, 1) := by decide +kernel
theorem dX4_solve_6 : decode cX4_solve 6 = .ok (.iload_n 2, 1) := by decide +kernel
theorem dX4_solve_7 : decode cX4_solve 7 = .ok (.putfield 25, 3) := by decide +kernel
theorem dX4_solve_10 : decode cX4_solve 10 = .ok (.aload_n 0, 1) := by decide +kernel
theorem dX4_solve_11 : decode cX4_solve 11 = .ok (.iconst 2, 1) := by decide +kernel
theorem dX4_solve_12 : decode cX4_solve 12 = .ok (.iload_n 2, 1) := by decide +kernel
theorem dX4_solve_13 : decode cX4_solve 13 = .ok (.imul, 1) := by decide +kernel
theorem dX4_solve_14 : decode cX4_solve 14 = .ok (.iconst 1, 1) := by decide +kernel
theorem dX4_solve_15 : decode cX4_solve 15 = .ok (.iadd, 1) := by decide +kernel
theorem dX4_solve_16 : decode cX4_solve 16 = .ok (.putfield 28, 3) := by decide +kernel
theorem dX4_solve_19 : decode cX4_solve 19 = .ok (.aload_n 0, 1) := by decide +kernel
theorem dX4_solve_20 : decode cX4_solve 20 = .ok (.getfield 21, 3) := by decide +kernel
theorem dX4_solve_23 : decode cX4_solve 23 = .ok (.iconst 3, 1) := by decide +kernel
theorem dX4_solve_24 : decode cX4_solve 24 = .ok (.if_icmp .ge 21, 3) := by decide +kernel
theorem dX4_solve_27 : decode cX4_solve 27 = .ok (.aload_n 0, 1) := by decide +kernel
theorem dX4_solve_28 : decode cX4_solve 28 = .ok (.getfield 11, 3) := by decide +kernel
theorem dX4_solve_31 : decode cX4_solve 31 = .ok (.iconst 0, 1) := by decide +kernel
theorem dX4_solve_32 : decode cX4_solve 32 = .ok (.aload_n 0, 1) := by decide +kernel
theorem dX4_solve_33 : decode cX4_solve 33 = .ok (.getfield 15, 3) := by decide +kernel
theorem dX4_solve_36 : decode cX4_solve 36 = .ok (.iconst 0, 1) := by decide +kernel
theorem dX4_solve_37 : decode cX4_solve 37 = .ok (.aload_n 0, 1) := by decide +kernel
theorem dX4_solve_38 : decode cX4_solve 38 = .ok (.getfield 21, 3) := by decide +kernel
theorem dX4_solve_41 : decode cX4_solve 41 = .ok (.invokestatic 31, 3) := by decide +kernel
theorem dX4_solve_44 : decode cX4_solve 44 = .ok (.return_, 1) := by decide +kernel
theorem dX4_solve_45 : decode cX4_solve 45 = .ok (.aload_n 0, 1) := by decide +kernel
theorem dX4_solve_46 : decode cX4_solve 46 = .ok (.invokevirtual 37, 3) := by decide +kernel
theorem dX4_solve_49 : decode cX4_solve 49 = .ok (.aload_n 0, 1) := by decide +kernel
theorem dX4_solve_50 : decode cX4_solve 50 = .ok (.invokevirtual 40, 3) := by decide +kernel
theorem dX4_solve_53 : decode cX4_solve 53 = .ok (.return_, 1) := by decide +kernel
set_option maxRecDepth 20000 in
theorem ggX4_findCosts_X4_slotOf : GoodIn wsX4_findCosts wsX4_slotOf := goodIn_r _ [7] (by decide +kernel) (by decide +kernel)
set_option maxRecDepth 20000 in
theorem gX4_findCosts_X4_slotOf : GoodIn wsX4_findCosts (va_wsS RX4 43 yX4_slotOf wsX4_slotOf) := goodIn_app (goodIn_of _ (by decide +kernel)) ggX4_findCosts_X4_slotOf
set_option maxRecDepth 20000 in
theorem ggX4_findCosts_X4_leastCostBehind : GoodIn wsX4_findCosts wsX4_leastCostBehind := goodIn_r _ [11, 1, 2, 12, 13, 14, 15, 16, 17, 18, 6, 19, 20, 21, 22, 23, 3, 24, 25, 26, 27, 28, 4, 5, 7, 29, 30, 31, 32, 33, 34] (by decide +kernel) (by decide +kernel)
set_option maxRecDepth 20000 in
theorem gX4_findCosts_X4_leastCostBehind : GoodIn wsX4_findCosts (wsV RX4 47 RX4 yX4_leastCostBehind wsX4_leastCostBehind) := goodIn_app (goodIn_of _ (by decide +kernel)) ggX4_findCosts_X4_leastCostBehind
theorem dX4_findCosts_0 : decode cX4_findCosts 0 = .ok (.aload_n 0, 1) := by decide +kernel
theorem dX4_findCosts_1 : decode cX4_findCosts 1 = .ok (.getfield 21, 3) := by decide +kernel
theorem dX4_findCosts_4 : decode cX4_findCosts 4 = .ok (.iconst 2, 1) := by decide +kernel
theorem dX4_findCosts_5 : decode cX4_findCosts 5 = .ok (.isub, 1) := by decide +kernel
theorem dX4_findCosts_6 : decode cX4_findCosts 6 = .ok (.istore_n 1, 1) := by decide +kernel
theorem dX4_findCosts_7 : decode cX4_findCosts 7 = .ok (.iload_n 1, 1) := by decide +kernel
theorem dX4_findCosts_8 : decode cX4_findCosts 8 = .ok (.ifCond .lt 59, 3) := by decide +kernel
theorem dX4_findCosts_11 : decode cX4_findCosts 11 = .ok (.iconst 0, 1) := by decide +kernel
theorem dX4_findCosts_12 : decode cX4_findCosts 12 = .ok (.istore_n 2, 1) := by decide +kernel
theorem dX4_findCosts_13 : decode cX4_findCosts 13 = .ok (.iload_n 2, 1) := by decide +kernel
theorem dX4_findCosts_14 : decode cX4_findCosts 14 = .ok (.aload_n 0, 1) := by decide +kernel
theorem dX4_findCosts_15 : decode cX4_findCosts 15 = .ok (.getfield 28, 3) := by decide +kernel
theorem dX4_findCosts_18 : decode cX4_findCosts 18 = .ok (.if_icmp .ge 43, 3) := by decide +kernel
theorem dX4_findCosts_21 : decode cX4_findCosts 21 = .ok (.iconst 0, 1) := by decide +kernel
theorem dX4_findCosts_22 : decode cX4_findCosts 22 = .ok (.istore_n 3, 1) := by decide +kernel
theorem dX4_findCosts_23 : decode cX4_findCosts 23 = .ok (.iload_n 3, 1) := by decide +kernel
theorem dX4_findCosts_24 : decode cX4_findCosts 24 = .ok (.aload_n 0, 1) := by decide +kernel
theorem dX4_findCosts_25 : decode cX4_findCosts 25 = .ok (.getfield 28, 3) := by decide +kernel
theorem dX4_findCosts_28 : decode cX4_findCosts 28 = .ok (.if_icmp .ge 27, 3) := by decide +kernel
theorem dX4_findCosts_31 : decode cX4_findCosts 31 = .ok (.aload_n 0, 1) := by decide +kernel
theorem dX4_findCosts_32 : decode cX4_findCosts 32 = .ok (.getfield 18, 3) := by decide +kernel
theorem dX4_findCosts_35 : decode cX4_findCosts 35 = .ok (.iload_n 1, 1) := by decide +kernel
theorem dX4_findCosts_36 : decode cX4_findCosts 36 = .ok (.iload_n 2, 1) := by decide +kernel
theorem dX4_findCosts_37 : decode cX4_findCosts 37 = .ok (.iload_n 3, 1) := by decide +kernel
theorem dX4_findCosts_38 : decode cX4_findCosts 38 = .ok (.invokestatic 43, 3) := by decide +kernel
theorem dX4_findCosts_41 : decode cX4_findCosts 41 = .ok (.aload_n 0, 1) := by decide +kernel
theorem dX4_findCosts_42 : decode cX4_findCosts 42 = .ok (.iload_n 1, 1) := by decide +kernel
theorem dX4_findCosts_43 : decode cX4_findCosts 43 = .ok (.iload_n 2, 1) := by decide +kernel
theorem dX4_findCosts_44 : decode cX4_findCosts 44 = .ok (.iload_n 3, 1) := by decide +kernel
theorem dX4_findCosts_45 : decode cX4_findCosts 45 = .ok (.invokevirtual 47, 3) := by decide +kernel
theorem dX4_findCosts_48 : decode cX4_findCosts 48 = .ok (.iastore, 1) := by decide +kernel
theorem dX4_findCosts_49 : decode cX4_findCosts 49 = .ok (.iinc 3 1, 3) := by decide +kernel
theorem dX4_findCosts_52 : decode cX4_findCosts 52 = .ok (.goto (-29), 3) := by decide +kernel
theorem dX4_findCosts_55 : decode cX4_findCosts 55 = .ok (.iinc 2 1, 3) := by decide +kernel
theorem dX4_findCosts_58 : decode cX4_findCosts 58 = .ok (.goto (-45), 3) := by decide +kernel
theorem dX4_findCosts_61 : decode cX4_findCosts 61 = .ok (.iinc 1 (-1), 3) := by decide +kernel
theorem dX4_findCosts_64 : decode cX4_findCosts 64 = .ok (.goto (-57), 3) := by decide +kernel
theorem dX4_findCosts_67 : decode cX4_findCosts 67 = .ok (.return_, 1) := by decide +kernel
set_option maxRecDepth 20000 in
theorem ggX4_leastCostBehind_X4_costThrough : GoodIn wsX4_leastCostBehind wsX4_costThrough := goodIn_r _ [11, 12, 13, 5, 14, 15, 16, 17, 18, 19, 10, 20, 21, 22, 23, 24, 25, 26, 27, 28, 29, 30] (by decide +kernel) (by decide +kernel)
set_option maxRecDepth 20000 in
theorem gX4_leastCostBehind_X4_costThrough : GoodIn wsX4_leastCostBehind (wsV RX4 50 RX4 yX4_costThrough wsX4_costThrough) := goodIn_app (goodIn_of _ (by decide +kernel)) ggX4_leastCostBehind_X4_costThrough
theorem dX4_leastCostBehind_0 : decode cX4_leastCostBehind 0 = .ok (.iload_n 1, 1) := by decide +kernel
theorem dX4_leastCostBehind_1 : decode cX4_leastCostBehind 1 = .ok (.iconst 2, 1) := by decide +kernel
theorem dX4_leastCostBehind_2 : decode cX4_leastCostBehind 2 = .ok (.iadd, 1) := by decide +kernel
theorem dX4_leastCostBehind_3 : decode cX4_leastCostBehind 3 = .ok (.aload_n 0, 1) := by decide +kernel
theorem dX4_leastCostBehind_4 : decode cX4_leastCostBehind 4 = .ok (.getfield 21, 3) := by decide +kernel
theorem dX4_leastCostBehind_7 : decode cX4_leastCostBehind 7 = .ok (.if_icmp .lt 5, 3) := by decide +kernel
theorem dX4_leastCostBehind_10 : decode cX4_leastCostBehind 10 = .ok (.iconst 0, 1) := by decide +kernel
theorem dX4_leastCostBehind_11 : decode cX4_leastCostBehind 11 = .ok (.ireturn, 1) := by decide +kernel
theorem dX4_leastCostBehind_12 : decode cX4_leastCostBehind 12 = .ok (.aload_n 0, 1) := by decide +kernel
theorem dX4_leastCostBehind_13 : decode cX4_leastCostBehind 13 = .ok (.iload_n 1, 1) := by decide +kernel
theorem dX4_leastCostBehind_14 : decode cX4_leastCostBehind 14 = .ok (.iload_n 2, 1) := by decide +kernel
theorem dX4_leastCostBehind_15 : decode cX4_leastCostBehind 15 = .ok (.iload_n 3, 1) := by decide +kernel
theorem dX4_leastCostBehind_16 : decode cX4_leastCostBehind 16 = .ok (.iconst 0, 1) := by decide +kernel
theorem dX4_leastCostBehind_17 : decode cX4_leastCostBehind 17 = .ok (.invokevirtual 50, 3) := by decide +kernel
theorem dX4_leastCostBehind_20 : decode cX4_leastCostBehind 20 = .ok (.istore 4, 2) := by decide +kernel
theorem dX4_leastCostBehind_22 : decode cX4_leastCostBehind 22 = .ok (.iconst 1, 1) := by decide +kernel
theorem dX4_leastCostBehind_23 : decode cX4_leastCostBehind 23 = .ok (.istore 5, 2) := by decide +kernel
theorem dX4_leastCostBehind_25 : decode cX4_leastCostBehind 25 = .ok (.iload 5, 2) := by decide +kernel
theorem dX4_leastCostBehind_27 : decode cX4_leastCostBehind 27 = .ok (.aload_n 0, 1) := by decide +kernel
theorem dX4_leastCostBehind_28 : decode cX4_leastCostBehind 28 = .ok (.getfield 28, 3) := by decide +kernel
theorem dX4_leastCostBehind_31 : decode cX4_leastCostBehind 31 = .ok (.if_icmp .ge 25, 3) := by decide +kernel
theorem dX4_leastCostBehind_34 : decode cX4_leastCostBehind 34 = .ok (.iload 4, 2) := by decide +kernel
theorem dX4_leastCostBehind_36 : decode cX4_leastCostBehind 36 = .ok (.aload_n 0, 1) := by decide +kernel
theorem dX4_leastCostBehind_37 : decode cX4_leastCostBehind 37 = .ok (.iload_n 1, 1) := by decide +kernel
theorem dX4_leastCostBehind_38 : decode cX4_leastCostBehind 38 = .ok (.iload_n 2, 1) := by decide +kernel
theorem dX4_leastCostBehind_39 : decode cX4_leastCostBehind 39 = .ok (.iload_n 3, 1) := by decide +kernel
theorem dX4_leastCostBehind_40 : decode cX4_leastCostBehind 40 = .ok (.iload 5, 2) := by decide +kernel
theorem dX4_leastCostBehind_42 : decode cX4_leastCostBehind 42 = .ok (.invokevirtual 50, 3) := by decide +kernel
theorem dX4_leastCostBehind_45 : decode cX4_leastCostBehind 45 = .ok (.invokestatic 54, 3) := by decide +kernel
theorem dX4_leastCostBehind_48 : decode cX4_leastCostBehind 48 = .ok (.istore 4, 2) := by decide +kernel
theorem dX4_leastCostBehind_50 : decode cX4_leastCostBehind 50 = .ok (.iinc 5 1, 3) := by decide +kernel
theorem dX4_leastCostBehind_53 : decode cX4_leastCostBehind 53 = .ok (.goto (-28), 3) := by decide +kernel
theorem dX4_leastCostBehind_56 : decode cX4_leastCostBehind 56 = .ok (.iload 4, 2) := by decide +kernel
theorem dX4_leastCostBehind_58 : decode cX4_leastCostBehind 58 = .ok (.ireturn, 1) := by decide +kernel
set_option maxRecDepth 20000 in
theorem ggX4_costThrough_X4_spotOf : GoodIn wsX4_costThrough wsX4_spotOf := goodIn_r _ [11, 12, 5, 16, 17, 18, 19, 20, 21] (by decide +kernel) (by decide +kernel)
set_option maxRecDepth 20000 in
theorem gX4_costThrough_X4_spotOf : GoodIn wsX4_costThrough (wsV RX4 60 RX4 yX4_spotOf wsX4_spotOf) := goodIn_app (goodIn_of _ (by decide +kernel)) ggX4_costThrough_X4_spotOf
set_option maxRecDepth 20000 in
theorem ggX4_costThrough_X4_slotOf : GoodIn wsX4_costThrough wsX4_slotOf := goodIn_r _ [15] (by decide +kernel) (by decide +kernel)
set_option maxRecDepth 20000 in
theorem gX4_costThrough_X4_slotOf : GoodIn wsX4_costThrough (va_wsS RX4 43 yX4_slotOf wsX4_slotOf) := goodIn_app (goodIn_of _ (by decide +kernel)) ggX4_costThrough_X4_slotOf
theorem dX4_costThrough_0 : decode cX4_costThrough 0 = .ok (.aload_n 0, 1) := by decide +kernel
theorem dX4_costThrough_1 : decode cX4_costThrough 1 = .ok (.iload_n 1, 1) := by decide +kernel
theorem dX4_costThrough_2 : decode cX4_costThrough 2 = .ok (.iconst 2, 1) := by decide +kernel
theorem dX4_costThrough_3 : decode cX4_costThrough 3 = .ok (.iadd, 1) := by decide +kernel
theorem dX4_costThrough_4 : decode cX4_costThrough 4 = .ok (.iload 4, 2) := by decide +kernel
theorem dX4_costThrough_6 : decode cX4_costThrough 6 = .ok (.invokevirtual 60, 3) := by decide +kernel
theorem dX4_costThrough_9 : decode cX4_costThrough 9 = .ok (.iconst 2, 1) := by decide +kernel
theorem dX4_costThrough_10 : decode cX4_costThrough 10 = .ok (.aload_n 0, 1) := by decide +kernel
theorem dX4_costThrough_11 : decode cX4_costThrough 11 = .ok (.iload_n 1, 1) := by decide +kernel
theorem dX4_costThrough_12 : decode cX4_costThrough 12 = .ok (.iconst 1, 1) := by decide +kernel
theorem dX4_costThrough_13 : decode cX4_costThrough 13 = .ok (.iadd, 1) := by decide +kernel
theorem dX4_costThrough_14 : decode cX4_costThrough 14 = .ok (.iload_n 3, 1) := by decide +kernel
theorem dX4_costThrough_15 : decode cX4_costThrough 15 = .ok (.invokevirtual 60, 3) := by decide +kernel
theorem dX4_costThrough_18 : decode cX4_costThrough 18 = .ok (.imul, 1) := by decide +kernel
theorem dX4_costThrough_19 : decode cX4_costThrough 19 = .ok (.isub, 1) := by decide +kernel
theorem dX4_costThrough_20 : decode cX4_costThrough 20 = .ok (.aload_n 0, 1) := by decide +kernel
theorem dX4_costThrough_21 : decode cX4_costThrough 21 = .ok (.iload_n 1, 1) := by decide +kernel
theorem dX4_costThrough_22 : decode cX4_costThrough 22 = .ok (.iload_n 2, 1) := by decide +kernel
theorem dX4_costThrough_23 : decode cX4_costThrough 23 = .ok (.invokevirtual 60, 3) := by decide +kernel
theorem dX4_costThrough_26 : decode cX4_costThrough 26 = .ok (.iadd, 1) := by decide +kernel
theorem dX4_costThrough_27 : decode cX4_costThrough 27 = .ok (.invokestatic 63, 3) := by decide +kernel
theorem dX4_costThrough_30 : decode cX4_costThrough 30 = .ok (.istore 5, 2) := by decide +kernel
theorem dX4_costThrough_32 : decode cX4_costThrough 32 = .ok (.bipush 100, 2) := by decide +kernel
theorem dX4_costThrough_34 : decode cX4_costThrough 34 = .ok (.iload 5, 2) := by decide +kernel
theorem dX4_costThrough_36 : decode cX4_costThrough 36 = .ok (.imul, 1) := by decide +kernel
theorem dX4_costThrough_37 : decode cX4_costThrough 37 = .ok (.iload 4, 2) := by decide +kernel
theorem dX4_costThrough_39 : decode cX4_costThrough 39 = .ok (.aload_n 0, 1) := by decide +kernel
theorem dX4_costThrough_40 : decode cX4_costThrough 40 = .ok (.getfield 25, 3) := by decide +kernel
theorem dX4_costThrough_43 : decode cX4_costThrough 43 = .ok (.isub, 1) := by decide +kernel
theorem dX4_costThrough_44 : decode cX4_costThrough 44 = .ok (.invokestatic 63, 3) := by decide +kernel
theorem dX4_costThrough_47 : decode cX4_costThrough 47 = .ok (.iadd, 1) := by decide +kernel
theorem dX4_costThrough_48 : decode cX4_costThrough 48 = .ok (.aload_n 0, 1) := by decide +kernel
theorem dX4_costThrough_49 : decode cX4_costThrough 49 = .ok (.getfield 18, 3) := by decide +kernel
theorem dX4_costThrough_52 : decode cX4_costThrough 52 = .ok (.iload_n 1, 1) := by decide +kernel
theorem dX4_costThrough_53 : decode cX4_costThrough 53 = .ok (.iconst 1, 1) := by decide +kernel
theorem dX4_costThrough_54 : decode cX4_costThrough 54 = .ok (.iadd, 1) := by decide +kernel
theorem dX4_costThrough_55 : decode cX4_costThrough 55 = .ok (.iload_n 3, 1) := by decide +kernel
theorem dX4_costThrough_56 : decode cX4_costThrough 56 = .ok (.iload 4, 2) := by decide +kernel
theorem dX4_costThrough_58 : decode cX4_costThrough 58 = .ok (.invokestatic 43, 3) := by decide +kernel
theorem dX4_costThrough_61 : decode cX4_costThrough 61 = .ok (.iaload, 1) := by decide +kernel
theorem dX4_costThrough_62 : decode cX4_costThrough 62 = .ok (.iadd, 1) := by decide +kernel
theorem dX4_costThrough_63 : decode cX4_costThrough 63 = .ok (.ireturn, 1) := by decide +kernel
set_option maxRecDepth 20000 in
theorem ggX4_takeChoices_X4_costOfStart : GoodIn wsX4_takeChoices wsX4_costOfStart := goodIn_r _ [8, 9, 10, 11, 12, 13, 14, 15, 16, 7, 17, 31, 32, 33, 34, 35, 36] (by decide +kernel) (by decide +kernel)
set_option maxRecDepth 20000 in
theorem gX4_takeChoices_X4_costOfStart : GoodIn wsX4_takeChoices (wsV RX4 67 RX4 yX4_costOfStart wsX4_costOfStart) := goodIn_app (goodIn_of _ (by decide +kernel)) ggX4_takeChoices_X4_costOfStart
set_option maxRecDepth 20000 in
theorem ggX4_takeChoices_X4_spotOf : GoodIn wsX4_takeChoices wsX4_spotOf := goodIn_r _ [21, 22, 9, 31, 32, 33, 34, 35, 36] (by decide +kernel) (by decide +kernel)
set_option maxRecDepth 20000 in
theorem gX4_takeChoices_X4_spotOf : GoodIn wsX4_takeChoices (wsV RX4 60 RX4 yX4_spotOf wsX4_spotOf) := goodIn_app (goodIn_of _ (by decide +kernel)) ggX4_takeChoices_X4_spotOf
set_option maxRecDepth 20000 in
theorem ggX4_takeChoices_X4_leastThird : GoodIn wsX4_takeChoices wsX4_leastThird := goodIn_r _ [26, 1, 27, 28, 29, 7, 30, 10, 11, 12, 13, 9, 14, 18, 19, 20, 21, 22, 15, 16, 17, 31, 32, 33, 34, 35, 36] (by decide +kernel) (by decide +kernel)
set_option maxRecDepth 20000 in
theorem gX4_takeChoices_X4_leastThird : GoodIn wsX4_takeChoices (wsV RX4 70 RX4 yX4_leastThird wsX4_leastThird) := goodIn_app (goodIn_of _ (by decide +kernel)) ggX4_takeChoices_X4_leastThird
theorem dX4_takeChoices_0 : decode cX4_takeChoices 0 = .ok (.iconst 0, 1) := by decide +kernel
theorem dX4_takeChoices_1 : decode cX4_takeChoices 1 = .ok (.istore_n 1, 1) := by decide +kernel
theorem dX4_takeChoices_2 : decode cX4_takeChoices 2 = .ok (.iconst 0, 1) := by decide +kernel
theorem dX4_takeChoices_3 : decode cX4_takeChoices 3 = .ok (.istore_n 2, 1) := by decide +kernel
theorem dX4_takeChoices_4 : decode cX4_takeChoices 4 = .ok (.aload_n 0, 1) := by decide +kernel
theorem dX4_takeChoices_5 : decode cX4_takeChoices 5 = .ok (.iconst 0, 1) := by decide +kernel
theorem dX4_takeChoices_6 : decode cX4_takeChoices 6 = .ok (.iconst 0, 1) := by decide +kernel
theorem dX4_takeChoices_7 : decode cX4_takeChoices 7 = .ok (.invokevirtual 67, 3) := by decide +kernel
theorem dX4_takeChoices_10 : decode cX4_takeChoices 10 = .ok (.istore_n 3, 1) := by decide +kernel
theorem dX4_takeChoices_11 : decode cX4_takeChoices 11 = .ok (.iconst 0, 1) := by decide +kernel
theorem dX4_takeChoices_12 : decode cX4_takeChoices 12 = .ok (.istore 4, 2) := by decide +kernel
theorem dX4_takeChoices_14 : decode cX4_takeChoices 14 = .ok (.iload 4, 2) := by decide +kernel
theorem dX4_takeChoices_16 : decode cX4_takeChoices 16 = .ok (.aload_n 0, 1) := by decide +kernel
theorem dX4_takeChoices_17 : decode cX4_takeChoices 17 = .ok (.getfield 28, 3) := by decide +kernel
theorem dX4_takeChoices_20 : decode cX4_takeChoices 20 = .ok (.if_icmp .ge 52, 3) := by decide +kernel
theorem dX4_takeChoices_23 : decode cX4_takeChoices 23 = .ok (.iconst 0, 1) := by decide +kernel
theorem dX4_takeChoices_24 : decode cX4_takeChoices 24 = .ok (.istore 5, 2) := by decide +kernel
theorem dX4_takeChoices_26 : decode cX4_takeChoices 26 = .ok (.iload 5, 2) := by decide +kernel
theorem dX4_takeChoices_28 : decode cX4_takeChoices 28 = .ok (.aload_n 0, 1) := by decide +kernel
theorem dX4_takeChoices_29 : decode cX4_takeChoices 29 = .ok (.getfield 28, 3) := by decide +kernel
theorem dX4_takeChoices_32 : decode cX4_takeChoices 32 = .ok (.if_icmp .ge 34, 3) := by decide +kernel
theorem dX4_takeChoices_35 : decode cX4_takeChoices 35 = .ok (.aload_n 0, 1) := by decide +kernel
theorem dX4_takeChoices_36 : decode cX4_takeChoices 36 = .ok (.iload 4, 2) := by decide +kernel
theorem dX4_takeChoices_38 : decode cX4_takeChoices 38 = .ok (.iload 5, 2) := by decide +kernel
theorem dX4_takeChoices_40 : decode cX4_takeChoices 40 = .ok (.invokevirtual 67, 3) := by decide +kernel
theorem dX4_takeChoices_43 : decode cX4_takeChoices 43 = .ok (.istore 6, 2) := by decide +kernel
theorem dX4_takeChoices_45 : decode cX4_takeChoices 45 = .ok (.iload 6, 2) := by decide +kernel
theorem dX4_takeChoices_47 : decode cX4_takeChoices 47 = .ok (.iload_n 3, 1) := by decide +kernel
theorem dX4_takeChoices_48 : decode cX4_takeChoices 48 = .ok (.if_icmp .ge 12, 3) := by decide +kernel
theorem dX4_takeChoices_51 : decode cX4_takeChoices 51 = .ok (.iload 6, 2) := by decide +kernel
theorem dX4_takeChoices_53 : decode cX4_takeChoices 53 = .ok (.istore_n 3, 1) := by decide +kernel
theorem dX4_takeChoices_54 : decode cX4_takeChoices 54 = .ok (.iload 4, 2) := by decide +kernel
theorem dX4_takeChoices_56 : decode cX4_takeChoices 56 = .ok (.istore_n 1, 1) := by decide +kernel
theorem dX4_takeChoices_57 : decode cX4_takeChoices 57 = .ok (.iload 5, 2) := by decide +kernel
theorem dX4_takeChoices_59 : decode cX4_takeChoices 59 = .ok (.istore_n 2, 1) := by decide +kernel
theorem dX4_takeChoices_60 : decode cX4_takeChoices 60 = .ok (.iinc 5 1, 3) := by decide +kernel
theorem dX4_takeChoices_63 : decode cX4_takeChoices 63 = .ok (.goto (-37), 3) := by decide +kernel
theorem dX4_takeChoices_66 : decode cX4_takeChoices 66 = .ok (.iinc 4 1, 3) := by decide +kernel
theorem dX4_takeChoices_69 : decode cX4_takeChoices 69 = .ok (.goto (-55), 3) := by decide +kernel
theorem dX4_takeChoices_72 : decode cX4_takeChoices 72 = .ok (.aload_n 0, 1) := by decide +kernel
theorem dX4_takeChoices_73 : decode cX4_takeChoices 73 = .ok (.getfield 15, 3) := by decide +kernel
theorem dX4_takeChoices_76 : decode cX4_takeChoices 76 = .ok (.iconst 0, 1) := by decide +kernel
theorem dX4_takeChoices_77 : decode cX4_takeChoices 77 = .ok (.aload_n 0, 1) := by decide +kernel
theorem dX4_takeChoices_78 : decode cX4_takeChoices 78 = .ok (.iconst 0, 1) := by decide +kernel
theorem dX4_takeChoices_79 : decode cX4_takeChoices 79 = .ok (.iload_n 1, 1) := by decide +kernel
theorem dX4_takeChoices_80 : decode cX4_takeChoices 80 = .ok (.invokevirtual 60, 3) := by decide +kernel
theorem dX4_takeChoices_83 : decode cX4_takeChoices 83 = .ok (.iastore, 1) := by decide +kernel
theorem dX4_takeChoices_84 : decode cX4_takeChoices 84 = .ok (.aload_n 0, 1) := by decide +kernel
theorem dX4_takeChoices_85 : decode cX4_takeChoices 85 = .ok (.getfield 15, 3) := by decide +kernel
theorem dX4_takeChoices_88 : decode cX4_takeChoices 88 = .ok (.iconst 1, 1) := by decide +kernel
theorem dX4_takeChoices_89 : decode cX4_takeChoices 89 = .ok (.aload_n 0, 1) := by decide +kernel
theorem dX4_takeChoices_90 : decode cX4_takeChoices 90 = .ok (.iconst 1, 1) := by decide +kernel
theorem dX4_takeChoices_91 : decode cX4_takeChoices 91 = .ok (.iload_n 2, 1) := by decide +kernel
theorem dX4_takeChoices_92 : decode cX4_takeChoices 92 = .ok (.invokevirtual 60, 3) := by decide +kernel
theorem dX4_takeChoices_95 : decode cX4_takeChoices 95 = .ok (.iastore, 1) := by decide +kernel
theorem dX4_takeChoices_96 : decode cX4_takeChoices 96 = .ok (.iconst 0, 1) := by decide +kernel
theorem dX4_takeChoices_97 : decode cX4_takeChoices 97 = .ok (.istore 4, 2) := by decide +kernel
theorem dX4_takeChoices_99 : decode cX4_takeChoices 99 = .ok (.iload 4, 2) := by decide +kernel
theorem dX4_takeChoices_101 : decode cX4_takeChoices 101 = .ok (.iconst 2, 1) := by decide +kernel
theorem dX4_takeChoices_102 : decode cX4_takeChoices 102 = .ok (.iadd, 1) := by decide +kernel
theorem dX4_takeChoices_103 : decode cX4_takeChoices 103 = .ok (.aload_n 0, 1) := by decide +kernel
theorem dX4_takeChoices_104 : decode cX4_takeChoices 104 = .ok (.getfield 21, 3) := by decide +kernel
theorem dX4_takeChoices_107 : decode cX4_takeChoices 107 = .ok (.if_icmp .ge 43, 3) := by decide +kernel
theorem dX4_takeChoices_110 : decode cX4_takeChoices 110 = .ok (.aload_n 0, 1) := by decide +kernel
theorem dX4_takeChoices_111 : decode cX4_takeChoices 111 = .ok (.iload 4, 2) := by decide +kernel
theorem dX4_takeChoices_113 : decode cX4_takeChoices 113 = .ok (.iload_n 1, 1) := by decide +kernel
theorem dX4_takeChoices_114 : decode cX4_takeChoices 114 = .ok (.iload_n 2, 1) := by decide +kernel
theorem dX4_takeChoices_115 : decode cX4_takeChoices 115 = .ok (.invokevirtual 70, 3) := by decide +kernel
theorem dX4_takeChoices_118 : decode cX4_takeChoices 118 = .ok (.istore 5, 2) := by decide +kernel
theorem dX4_takeChoices_120 : decode cX4_takeChoices 120 = .ok (.aload_n 0, 1) := by decide +kernel
theorem dX4_takeChoices_121 : decode cX4_takeChoices 121 = .ok (.getfield 15, 3) := by decide +kernel
theorem dX4_takeChoices_124 : decode cX4_takeChoices 124 = .ok (.iload 4, 2) := by decide +kernel
theorem dX4_takeChoices_126 : decode cX4_takeChoices 126 = .ok (.iconst 2, 1) := by decide +kernel
theorem dX4_takeChoices_127 : decode cX4_takeChoices 127 = .ok (.iadd, 1) := by decide +kernel
theorem dX4_takeChoices_128 : decode cX4_takeChoices 128 = .ok (.aload_n 0, 1) := by decide +kernel
theorem dX4_takeChoices_129 : decode cX4_takeChoices 129 = .ok (.iload 4, 2) := by decide +kernel
theorem dX4_takeChoices_131 : decode cX4_takeChoices 131 = .ok (.iconst 2, 1) := by decide +kernel
theorem dX4_takeChoices_132 : decode cX4_takeChoices 132 = .ok (.iadd, 1) := by decide +kernel
theorem dX4_takeChoices_133 : decode cX4_takeChoices 133 = .ok (.iload 5, 2) := by decide +kernel
theorem dX4_takeChoices_135 : decode cX4_takeChoices 135 = .ok (.invokevirtual 60, 3) := by decide +kernel
theorem dX4_takeChoices_138 : decode cX4_takeChoices 138 = .ok (.iastore, 1) := by decide +kernel
theorem dX4_takeChoices_139 : decode cX4_takeChoices 139 = .ok (.iload_n 2, 1) := by decide +kernel
theorem dX4_takeChoices_140 : decode cX4_takeChoices 140 = .ok (.istore_n 1, 1) := by decide +kernel
theorem dX4_takeChoices_141 : decode cX4_takeChoices 141 = .ok (.iload 5, 2) := by decide +kernel
theorem dX4_takeChoices_143 : decode cX4_takeChoices 143 = .ok (.istore_n 2, 1) := by decide +kernel
theorem dX4_takeChoices_144 : decode cX4_takeChoices 144 = .ok (.iinc 4 1, 3) := by decide +kernel
theorem dX4_takeChoices_147 : decode cX4_takeChoices 147 = .ok (.goto (-48), 3) := by decide +kernel
theorem dX4_takeChoices_150 : decode cX4_takeChoices 150 = .ok (.return_, 1) := by decide +kernel
set_option maxRecDepth 20000 in
theorem ggX4_costOfStart_X4_slotOf : GoodIn wsX4_costOfStart wsX4_slotOf := goodIn_r _ [10] (by decide +kernel) (by decide +kernel)
set_option maxRecDepth 20000 in
theorem gX4_costOfStart_X4_slotOf : GoodIn wsX4_costOfStart (va_wsS RX4 43 yX4_slotOf wsX4_slotOf) := goodIn_app (goodIn_of _ (by decide +kernel)) ggX4_costOfStart_X4_slotOf
theorem dX4_costOfStart_0 : decode cX4_costOfStart 0 = .ok (.iload_n 1, 1) := by decide +kernel
theorem dX4_costOfStart_1 : decode cX4_costOfStart 1 = .ok (.aload_n 0, 1) := by decide +kernel
theorem dX4_costOfStart_2 : decode cX4_costOfStart 2 = .ok (.getfield 25, 3) := by decide +kernel
theorem dX4_costOfStart_5 : decode cX4_costOfStart 5 = .ok (.isub, 1) := by decide +kernel
theorem dX4_costOfStart_6 : decode cX4_costOfStart 6 = .ok (.invokestatic 63, 3) := by decide +kernel
theorem dX4_costOfStart_9 : decode cX4_costOfStart 9 = .ok (.iload_n 2, 1) := by decide +kernel
theorem dX4_costOfStart_10 : decode cX4_costOfStart 10 = .ok (.aload_n 0, 1) := by decide +kernel
theorem dX4_costOfStart_11 : decode cX4_costOfStart 11 = .ok (.getfield 25, 3) := by decide +kernel
theorem dX4_costOfStart_14 : decode cX4_costOfStart 14 = .ok (.isub, 1) := by decide +kernel
theorem dX4_costOfStart_15 : decode cX4_costOfStart 15 = .ok (.invokestatic 63, 3) := by decide +kernel
theorem dX4_costOfStart_18 : decode cX4_costOfStart 18 = .ok (.iadd, 1) := by decide +kernel
theorem dX4_costOfStart_19 : decode cX4_costOfStart 19 = .ok (.aload_n 0, 1) := by decide +kernel
theorem dX4_costOfStart_20 : decode cX4_costOfStart 20 = .ok (.getfield 18, 3) := by decide +kernel
theorem dX4_costOfStart_23 : decode cX4_costOfStart 23 = .ok (.iconst 0, 1) := by decide +kernel
theorem dX4_costOfStart_24 : decode cX4_costOfStart 24 = .ok (.iload_n 1, 1) := by decide +kernel
theorem dX4_costOfStart_25 : decode cX4_costOfStart 25 = .ok (.iload_n 2, 1) := by decide +kernel
theorem dX4_costOfStart_26 : decode cX4_costOfStart 26 = .ok (.invokestatic 43, 3) := by decide +kernel
theorem dX4_costOfStart_29 : decode cX4_costOfStart 29 = .ok (.iaload, 1) := by decide +kernel
theorem dX4_costOfStart_30 : decode cX4_costOfStart 30 = .ok (.iadd, 1) := by decide +kernel
theorem dX4_costOfStart_31 : decode cX4_costOfStart 31 = .ok (.ireturn, 1) := by decide +kernel
set_option maxRecDepth 20000 in
theorem ggX4_leastThird_X4_costThrough : GoodIn wsX4_leastThird wsX4_costThrough := goodIn_r _ [6, 7, 8, 9, 10, 11, 12, 13, 14, 15, 5, 16, 17, 18, 19, 20, 21, 22, 23, 24, 25, 26] (by decide +kernel) (by decide +kernel)
set_option maxRecDepth 20000 in
theorem gX4_leastThird_X4_costThrough : GoodIn wsX4_leastThird (wsV RX4 50 RX4 yX4_costThrough wsX4_costThrough) := goodIn_app (goodIn_of _ (by decide +kernel)) ggX4_leastThird_X4_costThrough
theorem dX4_leastThird_0 : decode cX4_leastThird 0 = .ok (.iconst 0, 1) := by decide +kernel
theorem dX4_leastThird_1 : decode cX4_leastThird 1 = .ok (.istore 4, 2) := by decide +kernel
theorem dX4_leastThird_3 : decode cX4_leastThird 3 = .ok (.iconst 1, 1) := by decide +kernel
theorem dX4_leastThird_4 : decode cX4_leastThird 4 = .ok (.istore 5, 2) := by decide +kernel
theorem dX4_leastThird_6 : decode cX4_leastThird 6 = .ok (.iload 5, 2) := by decide +kernel
theorem dX4_leastThird_8 : decode cX4_leastThird 8 = .ok (.aload_n 0, 1) := by decide +kernel
theorem dX4_leastThird_9 : decode cX4_leastThird 9 = .ok (.getfield 28, 3) := by decide +kernel
theorem dX4_leastThird_12 : decode cX4_leastThird 12 = .ok (.if_icmp .ge 34, 3) := by decide +kernel
theorem dX4_leastThird_15 : decode cX4_leastThird 15 = .ok (.aload_n 0, 1) := by decide +kernel
theorem dX4_leastThird_16 : decode cX4_leastThird 16 = .ok (.iload_n 1, 1) := by decide +kernel
theorem dX4_leastThird_17 : decode cX4_leastThird 17 = .ok (.iload_n 2, 1) := by decide +kernel
theorem dX4_leastThird_18 : decode cX4_leastThird 18 = .ok (.iload_n 3, 1) := by decide +kernel
theorem dX4_leastThird_19 : decode cX4_leastThird 19 = .ok (.iload 5, 2) := by decide +kernel
theorem dX4_leastThird_21 : decode cX4_leastThird 21 = .ok (.invokevirtual 50, 3) := by decide +kernel
theorem dX4_leastThird_24 : decode cX4_leastThird 24 = .ok (.aload_n 0, 1) := by decide +kernel
theorem dX4_leastThird_25 : decode cX4_leastThird 25 = .ok (.iload_n 1, 1) := by decide +kernel
theorem dX4_leastThird_26 : decode cX4_leastThird 26 = .ok (.iload_n 2, 1) := by decide +kernel
theorem dX4_leastThird_27 : decode cX4_leastThird 27 = .ok (.iload_n 3, 1) := by decide +kernel
theorem dX4_leastThird_28 : decode cX4_leastThird 28 = .ok (.iload 4, 2) := by decide +kernel
theorem dX4_leastThird_30 : decode cX4_leastThird 30 = .ok (.invokevirtual 50, 3) := by decide +kernel
theorem dX4_leastThird_33 : decode cX4_leastThird 33 = .ok (.if_icmp .ge 7, 3) := by decide +kernel
theorem dX4_leastThird_36 : decode cX4_leastThird 36 = .ok (.iload 5, 2) := by decide +kernel
theorem dX4_leastThird_38 : decode cX4_leastThird 38 = .ok (.istore 4, 2) := by decide +kernel
theorem dX4_leastThird_40 : decode cX4_leastThird 40 = .ok (.iinc 5 1, 3) := by decide +kernel
theorem dX4_leastThird_43 : decode cX4_leastThird 43 = .ok (.goto (-37), 3) := by decide +kernel
theorem dX4_leastThird_46 : decode cX4_leastThird 46 = .ok (.iload 4, 2) := by decide +kernel
theorem dX4_leastThird_48 : decode cX4_leastThird 48 = .ok (.ireturn, 1) := by decide +kernel
theorem dX4_spotOf_0 : decode cX4_spotOf 0 = .ok (.aload_n 0, 1) := by decide +kernel
theorem dX4_spotOf_1 : decode cX4_spotOf 1 = .ok (.getfield 11, 3) := by decide +kernel
theorem dX4_spotOf_4 : decode cX4_spotOf 4 = .ok (.iload_n 1, 1) := by decide +kernel
theorem dX4_spotOf_5 : decode cX4_spotOf 5 = .ok (.iaload, 1) := by decide +kernel
theorem dX4_spotOf_6 : decode cX4_spotOf 6 = .ok (.iload_n 2, 1) := by decide +kernel
theorem dX4_spotOf_7 : decode cX4_spotOf 7 = .ok (.iadd, 1) := by decide +kernel
theorem dX4_spotOf_8 : decode cX4_spotOf 8 = .ok (.aload_n 0, 1) := by decide +kernel
theorem dX4_spotOf_9 : decode cX4_spotOf 9 = .ok (.getfield 25, 3) := by decide +kernel
theorem dX4_spotOf_12 : decode cX4_spotOf 12 = .ok (.isub, 1) := by decide +kernel
theorem dX4_spotOf_13 : decode cX4_spotOf 13 = .ok (.ireturn, 1) := by decide +kernel
theorem dX4_slotOf_0 : decode cX4_slotOf 0 = .ok (.iload_n 0, 1) := by decide +kernel
theorem dX4_slotOf_1 : decode cX4_slotOf 1 = .ok (.bipush 49, 2) := by decide +kernel
theorem dX4_slotOf_3 : decode cX4_slotOf 3 = .ok (.imul, 1) := by decide +kernel
theorem dX4_slotOf_4 : decode cX4_slotOf 4 = .ok (.iload_n 1, 1) := by decide +kernel
theorem dX4_slotOf_5 : decode cX4_slotOf 5 = .ok (.bipush 7, 2) := by decide +kernel
theorem dX4_slotOf_7 : decode cX4_slotOf 7 = .ok (.imul, 1) := by decide +kernel
theorem dX4_slotOf_8 : decode cX4_slotOf 8 = .ok (.iadd, 1) := by decide +kernel
theorem dX4_slotOf_9 : decode cX4_slotOf 9 = .ok (.iload_n 2, 1) := by decide +kernel
theorem dX4_slotOf_10 : decode cX4_slotOf 10 = .ok (.iadd, 1) := by decide +kernel
theorem dX4_slotOf_11 : decode cX4_slotOf 11 = .ok (.ireturn, 1) := by decide +kernel
theorem dX4_sumOfBends_0 : decode cX4_sumOfBends 0 = .ok (.iconst 0, 1) := by decide +kernel
theorem dX4_sumOfBends_1 : decode cX4_sumOfBends 1 = .ok (.istore_n 1, 1) := by decide +kernel
theorem dX4_sumOfBends_2 : decode cX4_sumOfBends 2 = .ok (.iconst 1, 1) := by decide +kernel
theorem dX4_sumOfBends_3 : decode cX4_sumOfBends 3 = .ok (.istore_n 2, 1) := by decide +kernel
theorem dX4_sumOfBends_4 : decode cX4_sumOfBends 4 = .ok (.iload_n 2, 1) := by decide +kernel
theorem dX4_sumOfBends_5 : decode cX4_sumOfBends 5 = .ok (.iconst 1, 1) := by decide +kernel
theorem dX4_sumOfBends_6 : decode cX4_sumOfBends 6 = .ok (.iadd, 1) := by decide +kernel
theorem dX4_sumOfBends_7 : decode cX4_sumOfBends 7 = .ok (.aload_n 0, 1) := by decide +kernel
theorem dX4_sumOfBends_8 : decode cX4_sumOfBends 8 = .ok (.getfield 21, 3) := by decide +kernel
theorem dX4_sumOfBends_11 : decode cX4_sumOfBends 11 = .ok (.if_icmp .ge 41, 3) := by decide +kernel
theorem dX4_sumOfBends_14 : decode cX4_sumOfBends 14 = .ok (.iload_n 1, 1) := by decide +kernel
theorem dX4_sumOfBends_15 : decode cX4_sumOfBends 15 = .ok (.aload_n 0, 1) := by decide +kernel
theorem dX4_sumOfBends_16 : decode cX4_sumOfBends 16 = .ok (.getfield 15, 3) := by decide +kernel
theorem dX4_sumOfBends_19 : decode cX4_sumOfBends 19 = .ok (.iload_n 2, 1) := by decide +kernel
theorem dX4_sumOfBends_20 : decode cX4_sumOfBends 20 = .ok (.iconst 1, 1) := by decide +kernel
theorem dX4_sumOfBends_21 : decode cX4_sumOfBends 21 = .ok (.iadd, 1) := by decide +kernel
theorem dX4_sumOfBends_22 : decode cX4_sumOfBends 22 = .ok (.iaload, 1) := by decide +kernel
theorem dX4_sumOfBends_23 : decode cX4_sumOfBends 23 = .ok (.iconst 2, 1) := by decide +kernel
theorem dX4_sumOfBends_24 : decode cX4_sumOfBends 24 = .ok (.aload_n 0, 1) := by decide +kernel
theorem dX4_sumOfBends_25 : decode cX4_sumOfBends 25 = .ok (.getfield 15, 3) := by decide +kernel
theorem dX4_sumOfBends_28 : decode cX4_sumOfBends 28 = .ok (.iload_n 2, 1) := by decide +kernel
theorem dX4_sumOfBends_29 : decode cX4_sumOfBends 29 = .ok (.iaload, 1) := by decide +kernel
theorem dX4_sumOfBends_30 : decode cX4_sumOfBends 30 = .ok (.imul, 1) := by decide +kernel
theorem dX4_sumOfBends_31 : decode cX4_sumOfBends 31 = .ok (.isub, 1) := by decide +kernel
theorem dX4_sumOfBends_32 : decode cX4_sumOfBends 32 = .ok (.aload_n 0, 1) := by decide +kernel
theorem dX4_sumOfBends_33 : decode cX4_sumOfBends 33 = .ok (.getfield 15, 3) := by decide +kernel
theorem dX4_sumOfBends_36 : decode cX4_sumOfBends 36 = .ok (.iload_n 2, 1) := by decide +kernel
theorem dX4_sumOfBends_37 : decode cX4_sumOfBends 37 = .ok (.iconst 1, 1) := by decide +kernel
theorem dX4_sumOfBends_38 : decode cX4_sumOfBends 38 = .ok (.isub, 1) := by decide +kernel
theorem dX4_sumOfBends_39 : decode cX4_sumOfBends 39 = .ok (.iaload, 1) := by decide +kernel
theorem dX4_sumOfBends_40 : decode cX4_sumOfBends 40 = .ok (.iadd, 1) := by decide +kernel
theorem dX4_sumOfBends_41 : decode cX4_sumOfBends 41 = .ok (.invokestatic 63, 3) := by decide +kernel
theorem dX4_sumOfBends_44 : decode cX4_sumOfBends 44 = .ok (.iadd, 1) := by decide +kernel
theorem dX4_sumOfBends_45 : decode cX4_sumOfBends 45 = .ok (.istore_n 1, 1) := by decide +kernel
theorem dX4_sumOfBends_46 : decode cX4_sumOfBends 46 = .ok (.iinc 2 1, 3) := by decide +kernel
theorem dX4_sumOfBends_49 : decode cX4_sumOfBends 49 = .ok (.goto (-45), 3) := by decide +kernel
theorem dX4_sumOfBends_52 : decode cX4_sumOfBends 52 = .ok (.iload_n 1, 1) := by decide +kernel
theorem dX4_sumOfBends_53 : decode cX4_sumOfBends 53 = .ok (.ireturn, 1) := by decide +kernel
theorem dX4_sumOfStrays_0 : decode cX4_sumOfStrays 0 = .ok (.iconst 0, 1) := by decide +kernel
theorem dX4_sumOfStrays_1 : decode cX4_sumOfStrays 1 = .ok (.istore_n 1, 1) := by decide +kernel
theorem dX4_sumOfStrays_2 : decode cX4_sumOfStrays 2 = .ok (.iconst 0, 1) := by decide +kernel
theorem dX4_sumOfStrays_3 : decode cX4_sumOfStrays 3 = .ok (.istore_n 2, 1) := by decide +kernel
theorem dX4_sumOfStrays_4 : decode cX4_sumOfStrays 4 = .ok (.iload_n 2, 1) := by decide +kernel
theorem dX4_sumOfStrays_5 : decode cX4_sumOfStrays 5 = .ok (.aload_n 0, 1) := by decide +kernel
theorem dX4_sumOfStrays_6 : decode cX4_sumOfStrays 6 = .ok (.getfield 21, 3) := by decide +kernel
theorem dX4_sumOfStrays_9 : decode cX4_sumOfStrays 9 = .ok (.if_icmp .ge 28, 3) := by decide +kernel
theorem dX4_sumOfStrays_12 : decode cX4_sumOfStrays 12 = .ok (.iload_n 1, 1) := by decide +kernel
theorem dX4_sumOfStrays_13 : decode cX4_sumOfStrays 13 = .ok (.aload_n 0, 1) := by decide +kernel
theorem dX4_sumOfStrays_14 : decode cX4_sumOfStrays 14 = .ok (.getfield 15, 3) := by decide +kernel
theorem dX4_sumOfStrays_17 : decode cX4_sumOfStrays 17 = .ok (.iload_n 2, 1) := by decide +kernel
theorem dX4_sumOfStrays_18 : decode cX4_sumOfStrays 18 = .ok (.iaload, 1) := by decide +kernel
theorem dX4_sumOfStrays_19 : decode cX4_sumOfStrays 19 = .ok (.aload_n 0, 1) := by decide +kernel
theorem dX4_sumOfStrays_20 : decode cX4_sumOfStrays 20 = .ok (.getfield 11, 3) := by decide +kernel
theorem dX4_sumOfStrays_23 : decode cX4_sumOfStrays 23 = .ok (.iload_n 2, 1) := by decide +kernel
theorem dX4_sumOfStrays_24 : decode cX4_sumOfStrays 24 = .ok (.iaload, 1) := by decide +kernel
theorem dX4_sumOfStrays_25 : decode cX4_sumOfStrays 25 = .ok (.isub, 1) := by decide +kernel
theorem dX4_sumOfStrays_26 : decode cX4_sumOfStrays 26 = .ok (.invokestatic 63, 3) := by decide +kernel
theorem dX4_sumOfStrays_29 : decode cX4_sumOfStrays 29 = .ok (.iadd, 1) := by decide +kernel
theorem dX4_sumOfStrays_30 : decode cX4_sumOfStrays 30 = .ok (.istore_n 1, 1) := by decide +kernel
theorem dX4_sumOfStrays_31 : decode cX4_sumOfStrays 31 = .ok (.iinc 2 1, 3) := by decide +kernel
theorem dX4_sumOfStrays_34 : decode cX4_sumOfStrays 34 = .ok (.goto (-30), 3) := by decide +kernel
theorem dX4_sumOfStrays_37 : decode cX4_sumOfStrays 37 = .ok (.iload_n 1, 1) := by decide +kernel
theorem dX4_sumOfStrays_38 : decode cX4_sumOfStrays 38 = .ok (.ireturn, 1) := by decide +kernel
end
section
set_option maxRecDepth 20000 in
theorem ggX5_init_X1_init : GoodIn wsX5_init wsX1_init := goodIn_r _ [36, 37, 2, 3, 12, 38, 39, 40, 41, 42, 76, 77, 78, 79, 80] (by decide +kernel) (by decide +kernel)
set_option maxRecDepth 20000 in
theorem gX5_init_X1_init : GoodIn wsX5_init (wsX1_init) := ggX5_init_X1_init
set_option maxRecDepth 20000 in
theorem ggX5_init_X0_init : GoodIn wsX5_init wsX0_init := goodIn_r _ [45, 46, 2, 3, 47, 12, 48, 49, 50, 51, 52, 53, 90, 91, 92, 93, 94, 95] (by decide +kernel) (by decide +kernel)
set_option maxRecDepth 20000 in
theorem gX5_init_X0_init : GoodIn wsX5_init (wsX0_init) := ggX5_init_X0_init
set_option maxRecDepth 20000 in
theorem ggX5_init_X3_init : GoodIn wsX5_init wsX3_init := goodIn_r _ [56, 57, 2, 3, 58, 96, 97, 98, 99, 100, 101, 102] (by decide +kernel) (by decide +kernel)
set_option maxRecDepth 20000 in
theorem gX5_init_X3_init : GoodIn wsX5_init (wsX3_init) := ggX5_init_X3_init
set_option maxRecDepth 20000 in
theorem ggX5_init_X4_init : GoodIn wsX5_init wsX4_init := goodIn_r _ [61, 62, 2, 3, 12, 63, 64, 65, 103, 104, 105, 106, 107, 108] (by decide +kernel) (by decide +kernel)
set_option maxRecDepth 20000 in
theorem gX5_init_X4_init : GoodIn wsX5_init (wsX4_init) := ggX5_init_X4_init
set_option maxRecDepth 20000 in
theorem ggX5_init_X2_init : GoodIn wsX5_init wsX2_init := goodIn_r _ [68, 69, 2, 3, 70, 71, 72, 12, 73, 74, 75, 109, 110, 111, 112, 113, 114] (by decide +kernel) (by decide +kernel)
set_option maxRecDepth 20000 in
theorem gX5_init_X2_init : GoodIn wsX5_init (wsX2_init) := ggX5_init_X2_init
theorem dX5_init_0 : decode cX5_init 0 = .ok (.aload_n 0, 1) := by decide +kernel
theorem dX5_init_1 : decode cX5_init 1 = .ok (.invokespecial 3, 3) := by decide +kernel
theorem dX5_init_4 : decode cX5_init 4 = .ok (.aload_n 0, 1) := by decide +kernel
theorem dX5_init_5 : decode cX5_init 5 = .ok (.new 9, 3) := by decide +kernel
theorem dX5_init_8 : decode cX5_init 8 = .ok (.dup, 1) := by decide +kernel
theorem dX5_init_9 : decode cX5_init 9 = .ok (.invokespecial 11, 3) := by decide +kernel
theorem dX5_init_12 : decode cX5_init 12 = .ok (.putfield 12, 3) := by decide +kernel
theorem dX5_init_15 : decode cX5_init 15 = .ok (.aload_n 0, 1) := by decide +kernel
theorem dX5_init_16 : decode cX5_init 16 = .ok (.new 16, 3) := by decide +kernel
theorem dX5_init_19 : decode cX5_init 19 = .ok (.dup, 1) := by decide +kernel
theorem dX5_init_20 : decode cX5_init 20 = .ok (.invokespecial 18, 3) := by decide +kernel
theorem dX5_init_23 : decode cX5_init 23 = .ok (.putfield 19, 3) := by decide +kernel
theorem dX5_init_26 : decode cX5_init 26 = .ok (.aload_n 0, 1) := by decide +kernel
theorem dX5_init_27 : decode cX5_init 27 = .ok (.iconst 3, 1) := by decide +kernel
theorem dX5_init_28 : decode cX5_init 28 = .ok (.newarray .int, 2) := by decide +kernel
theorem dX5_init_30 : decode cX5_init 30 = .ok (.putfield 23, 3) := by decide +kernel
theorem dX5_init_33 : decode cX5_init 33 = .ok (.getstatic 27, 3) := by decide +kernel
theorem dX5_init_36 : decode cX5_init 36 = .ok (.iconst 0, 1) := by decide +kernel
theorem dX5_init_37 : decode cX5_init 37 = .ok (.aload_n 0, 1) := by decide +kernel
theorem dX5_init_38 : decode cX5_init 38 = .ok (.getfield 23, 3) := by decide +kernel
theorem dX5_init_41 : decode cX5_init 41 = .ok (.iconst 0, 1) := by decide +kernel
theorem dX5_init_42 : decode cX5_init 42 = .ok (.iconst 3, 1) := by decide +kernel
theorem dX5_init_43 : decode cX5_init 43 = .ok (.invokestatic 30, 3) := by decide +kernel
theorem dX5_init_46 : decode cX5_init 46 = .ok (.aload_n 0, 1) := by decide +kernel
theorem dX5_init_47 : decode cX5_init 47 = .ok (.new 36, 3) := by decide +kernel
theorem dX5_init_50 : decode cX5_init 50 = .ok (.dup, 1) := by decide +kernel
theorem dX5_init_51 : decode cX5_init 51 = .ok (.aload_n 0, 1) := by decide +kernel
theorem dX5_init_52 : decode cX5_init 52 = .ok (.getfield 12, 3) := by decide +kernel
theorem dX5_init_55 : decode cX5_init 55 = .ok (.invokespecial 38, 3) := by decide +kernel
theorem dX5_init_58 : decode cX5_init 58 = .ok (.putfield 41, 3) := by decide +kernel
theorem dX5_init_61 : decode cX5_init 61 = .ok (.aload_n 0, 1) := by decide +kernel
theorem dX5_init_62 : decode cX5_init 62 = .ok (.new 45, 3) := by decide +kernel
theorem dX5_init_65 : decode cX5_init 65 = .ok (.dup, 1) := by decide +kernel
theorem dX5_init_66 : decode cX5_init 66 = .ok (.invokespecial 47, 3) := by decide +kernel
theorem dX5_init_69 : decode cX5_init 69 = .ok (.putfield 48, 3) := by decide +kernel
theorem dX5_init_72 : decode cX5_init 72 = .ok (.aload_n 0, 1) := by decide +kernel
theorem dX5_init_73 : decode cX5_init 73 = .ok (.new 52, 3) := by decide +kernel
theorem dX5_init_76 : decode cX5_init 76 = .ok (.dup, 1) := by decide +kernel
theorem dX5_init_77 : decode cX5_init 77 = .ok (.aload_n 0, 1) := by decide +kernel
theorem dX5_init_78 : decode cX5_init 78 = .ok (.getfield 12, 3) := by decide +kernel
theorem dX5_init_81 : decode cX5_init 81 = .ok (.aload_n 0, 1) := by decide +kernel
theorem dX5_init_82 : decode cX5_init 82 = .ok (.getfield 19, 3) := by decide +kernel
theorem dX5_init_85 : decode cX5_init 85 = .ok (.aload_n 0, 1) := by decide +kernel
theorem dX5_init_86 : decode cX5_init 86 = .ok (.getfield 23, 3) := by decide +kernel
theorem dX5_init_89 : decode cX5_init 89 = .ok (.invokespecial 54, 3) := by decide +kernel
theorem dX5_init_92 : decode cX5_init 92 = .ok (.putfield 57, 3) := by decide +kernel
theorem dX5_init_95 : decode cX5_init 95 = .ok (.aload_n 0, 1) := by decide +kernel
theorem dX5_init_96 : decode cX5_init 96 = .ok (.new 9, 3) := by decide +kernel
theorem dX5_init_99 : decode cX5_init 99 = .ok (.dup, 1) := by decide +kernel
theorem dX5_init_100 : decode cX5_init 100 = .ok (.invokespecial 11, 3) := by decide +kernel
theorem dX5_init_103 : decode cX5_init 103 = .ok (.putfield 61, 3) := by decide +kernel
theorem dX5_init_106 : decode cX5_init 106 = .ok (.aload_n 0, 1) := by decide +kernel
theorem dX5_init_107 : decode cX5_init 107 = .ok (.new 16, 3) := by decide +kernel
theorem dX5_init_110 : decode cX5_init 110 = .ok (.dup, 1) := by decide +kernel
theorem dX5_init_111 : decode cX5_init 111 = .ok (.invokespecial 18, 3) := by decide +kernel
theorem dX5_init_114 : decode cX5_init 114 = .ok (.putfield 64, 3) := by decide +kernel
theorem dX5_init_117 : decode cX5_init 117 = .ok (.aload_n 0, 1) := by decide +kernel
theorem dX5_init_118 : decode cX5_init 118 = .ok (.iconst 0, 1) := by decide +kernel
theorem dX5_init_119 : decode cX5_init 119 = .ok (.putfield 67, 3) := by decide +kernel
theorem dX5_init_122 : decode cX5_init 122 = .ok (.return_, 1) := by decide +kernel
set_option maxRecDepth 20000 in
theorem ggX5_reel_X5_isWithin : GoodIn wsX5_reel wsX5_isWithin := goodIn_r _ [8] (by decide +kernel) (by decide +kernel)
set_option maxRecDepth 20000 in
theorem gX5_reel_X5_isWithin : GoodIn wsX5_reel (va_wsS RX5 71 yX5_isWithin wsX5_isWithin) := goodIn_app (goodIn_of _ (by decide +kernel)) ggX5_reel_X5_isWithin
set_option maxRecDepth 20000 in
theorem ggX5_reel_X1_start : GoodIn wsX5_reel wsX1_start := goodIn_r _ [13, 14, 15, 16, 17, 33, 34, 35, 36, 37] (by decide +kernel) (by decide +kernel)
set_option maxRecDepth 20000 in
theorem gX5_reel_X1_start : GoodIn wsX5_reel (wsV RX5 75 RX1 yX1_start wsX1_start) := goodIn_app (goodIn_of _ (by decide +kernel)) ggX5_reel_X1_start
theorem dX5_reel_0 : decode cX5_reel 0 = .ok (.iload_n 1, 1) := by decide +kernel
theorem dX5_reel_1 : decode cX5_reel 1 = .ok (.iconst 2, 1) := by decide +kernel
theorem dX5_reel_2 : decode cX5_reel 2 = .ok (.bipush 6, 2) := by decide +kernel
theorem dX5_reel_4 : decode cX5_reel 4 = .ok (.invokestatic 71, 3) := by decide +kernel
theorem dX5_reel_7 : decode cX5_reel 7 = .ok (.ifCond .eq 13, 3) := by decide +kernel
theorem dX5_reel_10 : decode cX5_reel 10 = .ok (.iload_n 2, 1) := by decide +kernel
theorem dX5_reel_11 : decode cX5_reel 11 = .ok (.iconst 2, 1) := by decide +kernel
theorem dX5_reel_12 : decode cX5_reel 12 = .ok (.bipush 6, 2) := by decide +kernel
theorem dX5_reel_14 : decode cX5_reel 14 = .ok (.invokestatic 71, 3) := by decide +kernel
theorem dX5_reel_17 : decode cX5_reel 17 = .ok (.ifCond .ne 5, 3) := by decide +kernel
theorem dX5_reel_20 : decode cX5_reel 20 = .ok (.iconst (-1), 1) := by decide +kernel
theorem dX5_reel_21 : decode cX5_reel 21 = .ok (.ireturn, 1) := by decide +kernel
theorem dX5_reel_22 : decode cX5_reel 22 = .ok (.aload_n 0, 1) := by decide +kernel
theorem dX5_reel_23 : decode cX5_reel 23 = .ok (.getfield 12, 3) := by decide +kernel
theorem dX5_reel_26 : decode cX5_reel 26 = .ok (.iload_n 1, 1) := by decide +kernel
theorem dX5_reel_27 : decode cX5_reel 27 = .ok (.iload_n 2, 1) := by decide +kernel
theorem dX5_reel_28 : decode cX5_reel 28 = .ok (.invokevirtual 75, 3) := by decide +kernel
theorem dX5_reel_31 : decode cX5_reel 31 = .ok (.aload_n 0, 1) := by decide +kernel
theorem dX5_reel_32 : decode cX5_reel 32 = .ok (.getfield 19, 3) := by decide +kernel
theorem dX5_reel_35 : decode cX5_reel 35 = .ok (.iconst 0, 1) := by decide +kernel
theorem dX5_reel_36 : decode cX5_reel 36 = .ok (.putfield 79, 3) := by decide +kernel
theorem dX5_reel_39 : decode cX5_reel 39 = .ok (.aload_n 0, 1) := by decide +kernel
theorem dX5_reel_40 : decode cX5_reel 40 = .ok (.getfield 12, 3) := by decide +kernel
theorem dX5_reel_43 : decode cX5_reel 43 = .ok (.getfield 83, 3) := by decide +kernel
theorem dX5_reel_46 : decode cX5_reel 46 = .ok (.ireturn, 1) := by decide +kernel
set_option maxRecDepth 20000 in
theorem ggX5_frame_X1_addFrame : GoodIn wsX5_frame wsX1_addFrame := goodIn_r _ [7, 8, 9, 10, 11, 12, 6, 13, 14, 15, 16, 17, 18, 19, 20, 21, 22, 32, 33, 34, 35, 36] (by decide +kernel) (by decide +kernel)
set_option maxRecDepth 20000 in
theorem gX5_frame_X1_addFrame : GoodIn wsX5_frame (wsV RX5 89 RX1 yX1_addFrame wsX1_addFrame) := goodIn_app (goodIn_of _ (by decide +kernel)) ggX5_frame_X1_addFrame
theorem dX5_frame_0 : decode cX5_frame 0 = .ok (.aload_n 0, 1) := by decide +kernel
theorem dX5_frame_1 : decode cX5_frame 1 = .ok (.getfield 12, 3) := by decide +kernel
theorem dX5_frame_4 : decode cX5_frame 4 = .ok (.getfield 86, 3) := by decide +kernel
theorem dX5_frame_7 : decode cX5_frame 7 = .ok (.bipush 10, 2) := by decide +kernel
theorem dX5_frame_9 : decode cX5_frame 9 = .ok (.if_icmp .lt 8, 3) := by decide +kernel
theorem dX5_frame_12 : decode cX5_frame 12 = .ok (.bipush (-2), 2) := by decide +kernel
theorem dX5_frame_14 : decode cX5_frame 14 = .ok (.goto 10, 3) := by decide +kernel
theorem dX5_frame_17 : decode cX5_frame 17 = .ok (.aload_n 0, 1) := by decide +kernel
theorem dX5_frame_18 : decode cX5_frame 18 = .ok (.getfield 12, 3) := by decide +kernel
theorem dX5_frame_21 : decode cX5_frame 21 = .ok (.invokevirtual 89, 3) := by decide +kernel
theorem dX5_frame_24 : decode cX5_frame 24 = .ok (.ireturn, 1) := by decide +kernel
set_option maxRecDepth 20000 in
theorem ggX5_again_X1_hasFrame : GoodIn wsX5_again wsX1_hasFrame := goodIn_r _ [15, 16, 50, 51, 52, 53, 54] (by decide +kernel) (by decide +kernel)
set_option maxRecDepth 20000 in
theorem gX5_again_X1_hasFrame : GoodIn wsX5_again (wsV RX5 93 RX1 yX1_hasFrame wsX1_hasFrame) := goodIn_app (goodIn_of _ (by decide +kernel)) ggX5_again_X1_hasFrame
set_option maxRecDepth 20000 in
theorem ggX5_again_X5_isWithin : GoodIn wsX5_again wsX5_isWithin := goodIn_r _ [20] (by decide +kernel) (by decide +kernel)
set_option maxRecDepth 20000 in
theorem gX5_again_X5_isWithin : GoodIn wsX5_again (va_wsS RX5 71 yX5_isWithin wsX5_isWithin) := goodIn_app (goodIn_of _ (by decide +kernel)) ggX5_again_X5_isWithin
set_option maxRecDepth 20000 in
theorem ggX5_again_X1_addFrame : GoodIn wsX5_again wsX1_addFrame := goodIn_r _ [24, 16, 25, 26, 27, 28, 14, 29, 30, 31, 12, 13, 15, 32, 33, 34, 35, 50, 51, 52, 53, 54] (by decide +kernel) (by decide +kernel)
set_option maxRecDepth 20000 in
theorem gX5_again_X1_addFrame : GoodIn wsX5_again (wsV RX5 89 RX1 yX1_addFrame wsX1_addFrame) := goodIn_app (goodIn_of _ (by decide +kernel)) ggX5_again_X1_addFrame
set_option maxRecDepth 20000 in
theorem ggX5_again_X1_greyAt : GoodIn wsX5_again wsX1_greyAt := goodIn_r _ [39, 30, 31, 12, 13, 14, 15, 16, 32, 33, 34, 35, 25, 50, 51, 52, 53, 54] (by decide +kernel) (by decide +kernel)
set_option maxRecDepth 20000 in
theorem gX5_again_X1_greyAt : GoodIn wsX5_again (wsV RX5 97 RX1 yX1_greyAt wsX1_greyAt) := goodIn_app (goodIn_of _ (by decide +kernel)) ggX5_again_X1_greyAt
set_option maxRecDepth 20000 in
theorem ggX5_again_X1_setGrey : GoodIn wsX5_again wsX1_setGrey := goodIn_r _ [29, 30, 31, 12, 13, 14, 15, 16, 32, 33, 34, 35, 25, 50, 51, 52, 53, 54] (by decide +kernel) (by decide +kernel)
set_option maxRecDepth 20000 in
theorem gX5_again_X1_setGrey : GoodIn wsX5_again (wsV RX5 109 RX1 yX1_setGrey wsX1_setGrey) := goodIn_app (goodIn_of _ (by decide +kernel)) ggX5_again_X1_setGrey
theorem dX5_again_0 : decode cX5_again 0 = .ok (.aload_n 0, 1) := by decide +kernel
theorem dX5_again_1 : decode cX5_again 1 = .ok (.getfield 12, 3) := by decide +kernel
theorem dX5_again_4 : decode cX5_again 4 = .ok (.iload_n 1, 1) := by decide +kernel
theorem dX5_again_5 : decode cX5_again 5 = .ok (.invokevirtual 93, 3) := by decide +kernel
theorem dX5_again_8 : decode cX5_again 8 = .ok (.ifCond .eq 14, 3) := by decide +kernel
theorem dX5_again_11 : decode cX5_again 11 = .ok (.iload_n 2, 1) := by decide +kernel
theorem dX5_again_12 : decode cX5_again 12 = .ok (.bipush (-63), 2) := by decide +kernel
theorem dX5_again_14 : decode cX5_again 14 = .ok (.bipush 63, 2) := by decide +kernel
theorem dX5_again_16 : decode cX5_again 16 = .ok (.invokestatic 71, 3) := by decide +kernel
theorem dX5_again_19 : decode cX5_again 19 = .ok (.ifCond .ne 5, 3) := by decide +kernel
theorem dX5_again_22 : decode cX5_again 22 = .ok (.iconst (-1), 1) := by decide +kernel
theorem dX5_again_23 : decode cX5_again 23 = .ok (.ireturn, 1) := by decide +kernel
theorem dX5_again_24 : decode cX5_again 24 = .ok (.aload_n 0, 1) := by decide +kernel
theorem dX5_again_25 : decode cX5_again 25 = .ok (.getfield 12, 3) := by decide +kernel
theorem dX5_again_28 : decode cX5_again 28 = .ok (.getfield 86, 3) := by decide +kernel
theorem dX5_again_31 : decode cX5_again 31 = .ok (.bipush 10, 2) := by decide +kernel
theorem dX5_again_33 : decode cX5_again 33 = .ok (.if_icmp .lt 6, 3) := by decide +kernel
theorem dX5_again_36 : decode cX5_again 36 = .ok (.bipush (-2), 2) := by decide +kernel
theorem dX5_again_38 : decode cX5_again 38 = .ok (.ireturn, 1) := by decide +kernel
theorem dX5_again_39 : decode cX5_again 39 = .ok (.aload_n 0, 1) := by decide +kernel
theorem dX5_again_40 : decode cX5_again 40 = .ok (.getfield 12, 3) := by decide +kernel
theorem dX5_again_43 : decode cX5_again 43 = .ok (.invokevirtual 89, 3) := by decide +kernel
theorem dX5_again_46 : decode cX5_again 46 = .ok (.istore_n 3, 1) := by decide +kernel
theorem dX5_again_47 : decode cX5_again 47 = .ok (.iconst 0, 1) := by decide +kernel
theorem dX5_again_48 : decode cX5_again 48 = .ok (.istore 4, 2) := by decide +kernel
theorem dX5_again_50 : decode cX5_again 50 = .ok (.iload 4, 2) := by decide +kernel
theorem dX5_again_52 : decode cX5_again 52 = .ok (.aload_n 0, 1) := by decide +kernel
theorem dX5_again_53 : decode cX5_again 53 = .ok (.getfield 12, 3) := by decide +kernel
theorem dX5_again_56 : decode cX5_again 56 = .ok (.getfield 83, 3) := by decide +kernel
theorem dX5_again_59 : decode cX5_again 59 = .ok (.if_icmp .ge 50, 3) := by decide +kernel
theorem dX5_again_62 : decode cX5_again 62 = .ok (.aload_n 0, 1) := by decide +kernel
theorem dX5_again_63 : decode cX5_again 63 = .ok (.getfield 12, 3) := by decide +kernel
theorem dX5_again_66 : decode cX5_again 66 = .ok (.iload_n 1, 1) := by decide +kernel
theorem dX5_again_67 : decode cX5_again 67 = .ok (.iload 4, 2) := by decide +kernel
theorem dX5_again_69 : decode cX5_again 69 = .ok (.invokevirtual 97, 3) := by decide +kernel
theorem dX5_again_72 : decode cX5_again 72 = .ok (.istore 5, 2) := by decide +kernel
theorem dX5_again_74 : decode cX5_again 74 = .ok (.iload 5, 2) := by decide +kernel
theorem dX5_again_76 : decode cX5_again 76 = .ok (.iconst (-1), 1) := by decide +kernel
theorem dX5_again_77 : decode cX5_again 77 = .ok (.if_icmp .eq 26, 3) := by decide +kernel
theorem dX5_again_80 : decode cX5_again 80 = .ok (.aload_n 0, 1) := by decide +kernel
theorem dX5_again_81 : decode cX5_again 81 = .ok (.getfield 12, 3) := by decide +kernel
theorem dX5_again_84 : decode cX5_again 84 = .ok (.iload_n 3, 1) := by decide +kernel
theorem dX5_again_85 : decode cX5_again 85 = .ok (.iload 4, 2) := by decide +kernel
theorem dX5_again_87 : decode cX5_again 87 = .ok (.iconst 0, 1) := by decide +kernel
theorem dX5_again_88 : decode cX5_again 88 = .ok (.bipush 63, 2) := by decide +kernel
theorem dX5_again_90 : decode cX5_again 90 = .ok (.iload 5, 2) := by decide +kernel
theorem dX5_again_92 : decode cX5_again 92 = .ok (.iload_n 2, 1) := by decide +kernel
theorem dX5_again_93 : decode cX5_again 93 = .ok (.iadd, 1) := by decide +kernel
theorem dX5_again_94 : decode cX5_again 94 = .ok (.invokestatic 101, 3) := by decide +kernel
theorem dX5_again_97 : decode cX5_again 97 = .ok (.invokestatic 106, 3) := by decide +kernel
theorem dX5_again_100 : decode cX5_again 100 = .ok (.invokevirtual 109, 3) := by decide +kernel
theorem dX5_again_103 : decode cX5_again 103 = .ok (.iinc 4 1, 3) := by decide +kernel
theorem dX5_again_106 : decode cX5_again 106 = .ok (.goto (-56), 3) := by decide +kernel
theorem dX5_again_109 : decode cX5_again 109 = .ok (.iload_n 3, 1) := by decide +kernel
theorem dX5_again_110 : decode cX5_again 110 = .ok (.ireturn, 1) := by decide +kernel
set_option maxRecDepth 20000 in
theorem ggX5_put_X1_placeOf : GoodIn wsX5_put wsX1_placeOf := goodIn_r _ [6, 7, 8, 42, 43, 44, 45, 46] (by decide +kernel) (by decide +kernel)
set_option maxRecDepth 20000 in
theorem gX5_put_X1_placeOf : GoodIn wsX5_put (wsV RX5 113 RX1 yX1_placeOf wsX1_placeOf) := goodIn_app (goodIn_of _ (by decide +kernel)) ggX5_put_X1_placeOf
set_option maxRecDepth 20000 in
theorem ggX5_put_X1_hasFrame : GoodIn wsX5_put wsX1_hasFrame := goodIn_r _ [12, 13, 42, 43, 44, 45, 46] (by decide +kernel) (by decide +kernel)
set_option maxRecDepth 20000 in
theorem gX5_put_X1_hasFrame : GoodIn wsX5_put (wsV RX5 93 RX1 yX1_hasFrame wsX1_hasFrame) := goodIn_app (goodIn_of _ (by decide +kernel)) ggX5_put_X1_hasFrame
set_option maxRecDepth 20000 in
theorem ggX5_put_X5_isWithin : GoodIn wsX5_put wsX5_isWithin := goodIn_r _ [17] (by decide +kernel) (by decide +kernel)
set_option maxRecDepth 20000 in
theorem gX5_put_X5_isWithin : GoodIn wsX5_put (va_wsS RX5 71 yX5_isWithin wsX5_isWithin) := goodIn_app (goodIn_of _ (by decide +kernel)) ggX5_put_X5_isWithin
set_option maxRecDepth 20000 in
theorem ggX5_put_X1_greyAt : GoodIn wsX5_put wsX1_greyAt := goodIn_r _ [21, 22, 23, 10, 11, 5, 12, 13, 24, 25, 26, 27, 28, 42, 43, 44, 45, 46] (by decide +kernel) (by decide +kernel)
set_option maxRecDepth 20000 in
theorem gX5_put_X1_greyAt : GoodIn wsX5_put (wsV RX5 97 RX1 yX1_greyAt wsX1_greyAt) := goodIn_app (goodIn_of _ (by decide +kernel)) ggX5_put_X1_greyAt
set_option maxRecDepth 20000 in
theorem ggX5_put_X1_setGrey : GoodIn wsX5_put wsX1_setGrey := goodIn_r _ [32, 22, 23, 10, 11, 5, 12, 13, 24, 25, 26, 27, 28, 42, 43, 44, 45, 46] (by decide +kernel) (by decide +kernel)
set_option maxRecDepth 20000 in
theorem gX5_put_X1_setGrey : GoodIn wsX5_put (wsV RX5 109 RX1 yX1_setGrey wsX1_setGrey) := goodIn_app (goodIn_of _ (by decide +kernel)) ggX5_put_X1_setGrey
theorem dX5_put_0 : decode cX5_put 0 = .ok (.aload_n 0, 1) := by decide +kernel
theorem dX5_put_1 : decode cX5_put 1 = .ok (.getfield 12, 3) := by decide +kernel
theorem dX5_put_4 : decode cX5_put 4 = .ok (.iload_n 2, 1) := by decide +kernel
theorem dX5_put_5 : decode cX5_put 5 = .ok (.iload_n 3, 1) := by decide +kernel
theorem dX5_put_6 : decode cX5_put 6 = .ok (.invokevirtual 113, 3) := by decide +kernel
theorem dX5_put_9 : decode cX5_put 9 = .ok (.istore 5, 2) := by decide +kernel
theorem dX5_put_11 : decode cX5_put 11 = .ok (.aload_n 0, 1) := by decide +kernel
theorem dX5_put_12 : decode cX5_put 12 = .ok (.getfield 12, 3) := by decide +kernel
theorem dX5_put_15 : decode cX5_put 15 = .ok (.iload_n 1, 1) := by decide +kernel
theorem dX5_put_16 : decode cX5_put 16 = .ok (.invokevirtual 93, 3) := by decide +kernel
theorem dX5_put_19 : decode cX5_put 19 = .ok (.ifCond .eq 19, 3) := by decide +kernel
theorem dX5_put_22 : decode cX5_put 22 = .ok (.iload 5, 2) := by decide +kernel
theorem dX5_put_24 : decode cX5_put 24 = .ok (.ifCond .lt 14, 3) := by decide +kernel
theorem dX5_put_27 : decode cX5_put 27 = .ok (.iload 4, 2) := by decide +kernel
theorem dX5_put_29 : decode cX5_put 29 = .ok (.iconst (-1), 1) := by decide +kernel
theorem dX5_put_30 : decode cX5_put 30 = .ok (.bipush 63, 2) := by decide +kernel
theorem dX5_put_32 : decode cX5_put 32 = .ok (.invokestatic 71, 3) := by decide +kernel
theorem dX5_put_35 : decode cX5_put 35 = .ok (.ifCond .ne 7, 3) := by decide +kernel
theorem dX5_put_38 : decode cX5_put 38 = .ok (.sipush (-1000), 3) := by decide +kernel
theorem dX5_put_41 : decode cX5_put 41 = .ok (.ireturn, 1) := by decide +kernel
theorem dX5_put_42 : decode cX5_put 42 = .ok (.aload_n 0, 1) := by decide +kernel
theorem dX5_put_43 : decode cX5_put 43 = .ok (.getfield 12, 3) := by decide +kernel
theorem dX5_put_46 : decode cX5_put 46 = .ok (.iload_n 1, 1) := by decide +kernel
theorem dX5_put_47 : decode cX5_put 47 = .ok (.iload 5, 2) := by decide +kernel
theorem dX5_put_49 : decode cX5_put 49 = .ok (.invokevirtual 97, 3) := by decide +kernel
theorem dX5_put_52 : decode cX5_put 52 = .ok (.istore 6, 2) := by decide +kernel
theorem dX5_put_54 : decode cX5_put 54 = .ok (.aload_n 0, 1) := by decide +kernel
theorem dX5_put_55 : decode cX5_put 55 = .ok (.getfield 12, 3) := by decide +kernel
theorem dX5_put_58 : decode cX5_put 58 = .ok (.iload_n 1, 1) := by decide +kernel
theorem dX5_put_59 : decode cX5_put 59 = .ok (.iload 5, 2) := by decide +kernel
theorem dX5_put_61 : decode cX5_put 61 = .ok (.iload 4, 2) := by decide +kernel
theorem dX5_put_63 : decode cX5_put 63 = .ok (.invokevirtual 109, 3) := by decide +kernel
theorem dX5_put_66 : decode cX5_put 66 = .ok (.iload 6, 2) := by decide +kernel
theorem dX5_put_68 : decode cX5_put 68 = .ok (.ireturn, 1) := by decide +kernel
set_option maxRecDepth 20000 in
theorem ggX5_row_X1_hasFrame : GoodIn wsX5_row wsX1_hasFrame := goodIn_r _ [7, 8, 35, 36, 37, 38, 39] (by decide +kernel) (by decide +kernel)
set_option maxRecDepth 20000 in
theorem gX5_row_X1_hasFrame : GoodIn wsX5_row (wsV RX5 93 RX1 yX1_hasFrame wsX1_hasFrame) := goodIn_app (goodIn_of _ (by decide +kernel)) ggX5_row_X1_hasFrame
set_option maxRecDepth 20000 in
theorem ggX5_row_X1_placeOf : GoodIn wsX5_row wsX1_placeOf := goodIn_r _ [12, 13, 14, 35, 36, 37, 38, 39] (by decide +kernel) (by decide +kernel)
set_option maxRecDepth 20000 in
theorem gX5_row_X1_placeOf : GoodIn wsX5_row (wsV RX5 113 RX1 yX1_placeOf wsX1_placeOf) := goodIn_app (goodIn_of _ (by decide +kernel)) ggX5_row_X1_placeOf
set_option maxRecDepth 20000 in
theorem ggX5_row_X1_setGrey : GoodIn wsX5_row wsX1_setGrey := goodIn_r _ [18, 19, 20, 4, 5, 6, 7, 8, 21, 22, 23, 24, 25, 35, 36, 37, 38, 39] (by decide +kernel) (by decide +kernel)
set_option maxRecDepth 20000 in
theorem gX5_row_X1_setGrey : GoodIn wsX5_row (wsV RX5 109 RX1 yX1_setGrey wsX1_setGrey) := goodIn_app (goodIn_of _ (by decide +kernel)) ggX5_row_X1_setGrey
theorem dX5_row_0 : decode cX5_row 0 = .ok (.aload_n 0, 1) := by decide +kernel
theorem dX5_row_1 : decode cX5_row 1 = .ok (.getfield 12, 3) := by decide +kernel
theorem dX5_row_4 : decode cX5_row 4 = .ok (.iload_n 1, 1) := by decide +kernel
theorem dX5_row_5 : decode cX5_row 5 = .ok (.invokevirtual 93, 3) := by decide +kernel
theorem dX5_row_8 : decode cX5_row 8 = .ok (.ifCond .eq 15, 3) := by decide +kernel
theorem dX5_row_11 : decode cX5_row 11 = .ok (.aload_n 0, 1) := by decide +kernel
theorem dX5_row_12 : decode cX5_row 12 = .ok (.getfield 12, 3) := by decide +kernel
theorem dX5_row_15 : decode cX5_row 15 = .ok (.iload_n 2, 1) := by decide +kernel
theorem dX5_row_16 : decode cX5_row 16 = .ok (.iconst 0, 1) := by decide +kernel
theorem dX5_row_17 : decode cX5_row 17 = .ok (.invokevirtual 113, 3) := by decide +kernel
theorem dX5_row_20 : decode cX5_row 20 = .ok (.ifCond .ge 5, 3) := by decide +kernel
theorem dX5_row_23 : decode cX5_row 23 = .ok (.iconst (-1), 1) := by decide +kernel
theorem dX5_row_24 : decode cX5_row 24 = .ok (.ireturn, 1) := by decide +kernel
theorem dX5_row_25 : decode cX5_row 25 = .ok (.iconst 0, 1) := by decide +kernel
theorem dX5_row_26 : decode cX5_row 26 = .ok (.istore 5, 2) := by decide +kernel
theorem dX5_row_28 : decode cX5_row 28 = .ok (.iconst 0, 1) := by decide +kernel
theorem dX5_row_29 : decode cX5_row 29 = .ok (.istore 6, 2) := by decide +kernel
theorem dX5_row_31 : decode cX5_row 31 = .ok (.iload 6, 2) := by decide +kernel
theorem dX5_row_33 : decode cX5_row 33 = .ok (.aload_n 0, 1) := by decide +kernel
theorem dX5_row_34 : decode cX5_row 34 = .ok (.getfield 12, 3) := by decide +kernel
theorem dX5_row_37 : decode cX5_row 37 = .ok (.getfield 116, 3) := by decide +kernel
theorem dX5_row_40 : decode cX5_row 40 = .ok (.if_icmp .ge 66, 3) := by decide +kernel
theorem dX5_row_43 : decode cX5_row 43 = .ok (.lload_n 3, 1) := by decide +kernel
theorem dX5_row_44 : decode cX5_row 44 = .ok (.bipush 7, 2) := by decide +kernel
theorem dX5_row_46 : decode cX5_row 46 = .ok (.iload 6, 2) := by decide +kernel
theorem dX5_row_48 : decode cX5_row 48 = .ok (.imul, 1) := by decide +kernel
theorem dX5_row_49 : decode cX5_row 49 = .ok (.lushr, 1) := by decide +kernel
theorem dX5_row_50 : decode cX5_row 50 = .ok (.l2i, 1) := by decide +kernel
theorem dX5_row_51 : decode cX5_row 51 = .ok (.bipush 127, 2) := by decide +kernel
theorem dX5_row_53 : decode cX5_row 53 = .ok (.iand, 1) := by decide +kernel
theorem dX5_row_54 : decode cX5_row 54 = .ok (.istore 7, 2) := by decide +kernel
theorem dX5_row_56 : decode cX5_row 56 = .ok (.iload 7, 2) := by decide +kernel
theorem dX5_row_58 : decode cX5_row 58 = .ok (.bipush 63, 2) := by decide +kernel
theorem dX5_row_60 : decode cX5_row 60 = .ok (.if_icmp .le 7, 3) := by decide +kernel
theorem dX5_row_63 : decode cX5_row 63 = .ok (.iconst (-1), 1) := by decide +kernel
theorem dX5_row_64 : decode cX5_row 64 = .ok (.goto 5, 3) := by decide +kernel
theorem dX5_row_67 : decode cX5_row 67 = .ok (.iload 7, 2) := by decide +kernel
theorem dX5_row_69 : decode cX5_row 69 = .ok (.istore 8, 2) := by decide +kernel
theorem dX5_row_71 : decode cX5_row 71 = .ok (.aload_n 0, 1) := by decide +kernel
theorem dX5_row_72 : decode cX5_row 72 = .ok (.getfield 12, 3) := by decide +kernel
theorem dX5_row_75 : decode cX5_row 75 = .ok (.iload_n 1, 1) := by decide +kernel
theorem dX5_row_76 : decode cX5_row 76 = .ok (.aload_n 0, 1) := by decide +kernel
theorem dX5_row_77 : decode cX5_row 77 = .ok (.getfield 12, 3) := by decide +kernel
theorem dX5_row_80 : decode cX5_row 80 = .ok (.iload_n 2, 1) := by decide +kernel
theorem dX5_row_81 : decode cX5_row 81 = .ok (.iload 6, 2) := by decide +kernel
theorem dX5_row_83 : decode cX5_row 83 = .ok (.invokevirtual 113, 3) := by decide +kernel
theorem dX5_row_86 : decode cX5_row 86 = .ok (.iload 8, 2) := by decide +kernel
theorem dX5_row_88 : decode cX5_row 88 = .ok (.invokevirtual 109, 3) := by decide +kernel
theorem dX5_row_91 : decode cX5_row 91 = .ok (.iload 8, 2) := by decide +kernel
theorem dX5_row_93 : decode cX5_row 93 = .ok (.iconst (-1), 1) := by decide +kernel
theorem dX5_row_94 : decode cX5_row 94 = .ok (.if_icmp .eq 6, 3) := by decide +kernel
theorem dX5_row_97 : decode cX5_row 97 = .ok (.iinc 5 1, 3) := by decide +kernel
theorem dX5_row_100 : decode cX5_row 100 = .ok (.iinc 6 1, 3) := by decide +kernel
theorem dX5_row_103 : decode cX5_row 103 = .ok (.goto (-72), 3) := by decide +kernel
theorem dX5_row_106 : decode cX5_row 106 = .ok (.iload 5, 2) := by decide +kernel
theorem dX5_row_108 : decode cX5_row 108 = .ok (.ireturn, 1) := by decide +kernel
set_option maxRecDepth 20000 in
theorem ggX5_raw_X1_placeOf : GoodIn wsX5_raw wsX1_placeOf := goodIn_r _ [6, 7, 8, 34, 35, 36, 37, 38] (by decide +kernel) (by decide +kernel)
set_option maxRecDepth 20000 in
theorem gX5_raw_X1_placeOf : GoodIn wsX5_raw (wsV RX5 113 RX1 yX1_placeOf wsX1_placeOf) := goodIn_app (goodIn_of _ (by decide +kernel)) ggX5_raw_X1_placeOf
set_option maxRecDepth 20000 in
theorem ggX5_raw_X1_hasFrame : GoodIn wsX5_raw wsX1_hasFrame := goodIn_r _ [12, 13, 34, 35, 36, 37, 38] (by decide +kernel) (by decide +kernel)
set_option maxRecDepth 20000 in
theorem gX5_raw_X1_hasFrame : GoodIn wsX5_raw (wsV RX5 93 RX1 yX1_hasFrame wsX1_hasFrame) := goodIn_app (goodIn_of _ (by decide +kernel)) ggX5_raw_X1_hasFrame
set_option maxRecDepth 20000 in
theorem ggX5_raw_X1_greyAt : GoodIn wsX5_raw wsX1_greyAt := goodIn_r _ [17, 18, 19, 10, 11, 5, 12, 13, 20, 21, 22, 23, 24, 34, 35, 36, 37, 38] (by decide +kernel) (by decide +kernel)
set_option maxRecDepth 20000 in
theorem gX5_raw_X1_greyAt : GoodIn wsX5_raw (wsV RX5 97 RX1 yX1_greyAt wsX1_greyAt) := goodIn_app (goodIn_of _ (by decide +kernel)) ggX5_raw_X1_greyAt
theorem dX5_raw_0 : decode cX5_raw 0 = .ok (.aload_n 0, 1) := by decide +kernel
theorem dX5_raw_1 : decode cX5_raw 1 = .ok (.getfield 12, 3) := by decide +kernel
theorem dX5_raw_4 : decode cX5_raw 4 = .ok (.iload_n 2, 1) := by decide +kernel
theorem dX5_raw_5 : decode cX5_raw 5 = .ok (.iload_n 3, 1) := by decide +kernel
theorem dX5_raw_6 : decode cX5_raw 6 = .ok (.invokevirtual 113, 3) := by decide +kernel
theorem dX5_raw_9 : decode cX5_raw 9 = .ok (.istore 4, 2) := by decide +kernel
theorem dX5_raw_11 : decode cX5_raw 11 = .ok (.aload_n 0, 1) := by decide +kernel
theorem dX5_raw_12 : decode cX5_raw 12 = .ok (.getfield 12, 3) := by decide +kernel
theorem dX5_raw_15 : decode cX5_raw 15 = .ok (.iload_n 1, 1) := by decide +kernel
theorem dX5_raw_16 : decode cX5_raw 16 = .ok (.invokevirtual 93, 3) := by decide +kernel
theorem dX5_raw_19 : decode cX5_raw 19 = .ok (.ifCond .eq 8, 3) := by decide +kernel
theorem dX5_raw_22 : decode cX5_raw 22 = .ok (.iload 4, 2) := by decide +kernel
theorem dX5_raw_24 : decode cX5_raw 24 = .ok (.ifCond .ge 7, 3) := by decide +kernel
theorem dX5_raw_27 : decode cX5_raw 27 = .ok (.sipush (-1000), 3) := by decide +kernel
theorem dX5_raw_30 : decode cX5_raw 30 = .ok (.ireturn, 1) := by decide +kernel
theorem dX5_raw_31 : decode cX5_raw 31 = .ok (.aload_n 0, 1) := by decide +kernel
theorem dX5_raw_32 : decode cX5_raw 32 = .ok (.getfield 12, 3) := by decide +kernel
theorem dX5_raw_35 : decode cX5_raw 35 = .ok (.iload_n 1, 1) := by decide +kernel
theorem dX5_raw_36 : decode cX5_raw 36 = .ok (.iload 4, 2) := by decide +kernel
theorem dX5_raw_38 : decode cX5_raw 38 = .ok (.invokevirtual 97, 3) := by decide +kernel
theorem dX5_raw_41 : decode cX5_raw 41 = .ok (.ireturn, 1) := by decide +kernel
set_option maxRecDepth 20000 in
theorem ggX5_rule_X5_isWithin : GoodIn wsX5_rule wsX5_isWithin := goodIn_r _ [7] (by decide +kernel) (by decide +kernel)
set_option maxRecDepth 20000 in
theorem gX5_rule_X5_isWithin : GoodIn wsX5_rule (va_wsS RX5 71 yX5_isWithin wsX5_isWithin) := goodIn_app (goodIn_of _ (by decide +kernel)) ggX5_rule_X5_isWithin
theorem dX5_rule_0 : decode cX5_rule 0 = .ok (.iload_n 1, 1) := by decide +kernel
theorem dX5_rule_1 : decode cX5_rule 1 = .ok (.iconst 0, 1) := by decide +kernel
theorem dX5_rule_2 : decode cX5_rule 2 = .ok (.iconst 2, 1) := by decide +kernel
theorem dX5_rule_3 : decode cX5_rule 3 = .ok (.invokestatic 71, 3) := by decide +kernel
theorem dX5_rule_6 : decode cX5_rule 6 = .ok (.ifCond .eq 20, 3) := by decide +kernel
theorem dX5_rule_9 : decode cX5_rule 9 = .ok (.iload_n 2, 1) := by decide +kernel
theorem dX5_rule_10 : decode cX5_rule 10 = .ok (.getstatic 119, 3) := by decide +kernel
theorem dX5_rule_13 : decode cX5_rule 13 = .ok (.iload_n 1, 1) := by decide +kernel
theorem dX5_rule_14 : decode cX5_rule 14 = .ok (.iaload, 1) := by decide +kernel
theorem dX5_rule_15 : decode cX5_rule 15 = .ok (.getstatic 122, 3) := by decide +kernel
theorem dX5_rule_18 : decode cX5_rule 18 = .ok (.iload_n 1, 1) := by decide +kernel
theorem dX5_rule_19 : decode cX5_rule 19 = .ok (.iaload, 1) := by decide +kernel
theorem dX5_rule_20 : decode cX5_rule 20 = .ok (.invokestatic 71, 3) := by decide +kernel
theorem dX5_rule_23 : decode cX5_rule 23 = .ok (.ifCond .ne 5, 3) := by decide +kernel
theorem dX5_rule_26 : decode cX5_rule 26 = .ok (.iconst (-1), 1) := by decide +kernel
theorem dX5_rule_27 : decode cX5_rule 27 = .ok (.ireturn, 1) := by decide +kernel
theorem dX5_rule_28 : decode cX5_rule 28 = .ok (.aload_n 0, 1) := by decide +kernel
theorem dX5_rule_29 : decode cX5_rule 29 = .ok (.getfield 23, 3) := by decide +kernel
theorem dX5_rule_32 : decode cX5_rule 32 = .ok (.iload_n 1, 1) := by decide +kernel
theorem dX5_rule_33 : decode cX5_rule 33 = .ok (.iaload, 1) := by decide +kernel
theorem dX5_rule_34 : decode cX5_rule 34 = .ok (.istore_n 3, 1) := by decide +kernel
theorem dX5_rule_35 : decode cX5_rule 35 = .ok (.aload_n 0, 1) := by decide +kernel
theorem dX5_rule_36 : decode cX5_rule 36 = .ok (.getfield 23, 3) := by decide +kernel
theorem dX5_rule_39 : decode cX5_rule 39 = .ok (.iload_n 1, 1) := by decide +kernel
theorem dX5_rule_40 : decode cX5_rule 40 = .ok (.iload_n 2, 1) := by decide +kernel
theorem dX5_rule_41 : decode cX5_rule 41 = .ok (.iastore, 1) := by decide +kernel
theorem dX5_rule_42 : decode cX5_rule 42 = .ok (.iload_n 3, 1) := by decide +kernel
theorem dX5_rule_43 : decode cX5_rule 43 = .ok (.ireturn, 1) := by decide +kernel
set_option maxRecDepth 20000 in
theorem ggX5_miss_X1_hasFrame : GoodIn wsX5_miss wsX1_hasFrame := goodIn_r _ [9, 10, 76, 77, 78, 79, 80] (by decide +kernel) (by decide +kernel)
set_option maxRecDepth 20000 in
theorem gX5_miss_X1_hasFrame : GoodIn wsX5_miss (wsV RX5 93 RX1 yX1_hasFrame wsX1_hasFrame) := goodIn_app (goodIn_of _ (by decide +kernel)) ggX5_miss_X1_hasFrame
set_option maxRecDepth 20000 in
theorem ggX5_miss_X5_isWithin : GoodIn wsX5_miss wsX5_isWithin := goodIn_r _ [14] (by decide +kernel) (by decide +kernel)
set_option maxRecDepth 20000 in
theorem gX5_miss_X5_isWithin : GoodIn wsX5_miss (va_wsS RX5 71 yX5_isWithin wsX5_isWithin) := goodIn_app (goodIn_of _ (by decide +kernel)) ggX5_miss_X5_isWithin
set_option maxRecDepth 20000 in
theorem ggX5_miss_X3_measure : GoodIn wsX5_miss wsX3_measure := goodIn_r _ [19, 20, 21, 22, 23, 24, 25, 26, 27, 28, 29, 30, 31, 32, 33, 34, 35, 36, 37, 8, 38, 39, 40, 41, 42, 43, 44, 45, 46, 6, 7, 9, 10, 47, 48, 49, 50, 51, 69, 70, 71, 72, 73, 74, 75, 76, 77, 78, 79, 80] (by decide +kernel) (by decide +kernel)
set_option maxRecDepth 20000 in
theorem gX5_miss_X3_measure : GoodIn wsX5_miss (wsV RX5 125 RX3 yX3_measure wsX3_measure) := goodIn_app (goodIn_of _ (by decide +kernel)) ggX5_miss_X3_measure
set_option maxRecDepth 20000 in
theorem ggX5_miss_X3_isEnough : GoodIn wsX5_miss wsX3_isEnough := goodIn_r _ [55, 21, 22, 56, 69, 70, 71, 72, 73, 74, 75, 76, 77, 78, 79, 80] (by decide +kernel) (by decide +kernel)
set_option maxRecDepth 20000 in
theorem gX5_miss_X3_isEnough : GoodIn wsX5_miss (wsV RX5 128 RX3 yX3_isEnough wsX3_isEnough) := goodIn_app (goodIn_of _ (by decide +kernel)) ggX5_miss_X3_isEnough
set_option maxRecDepth 20000 in
theorem ggX5_miss_X5_commonDivisor : GoodIn wsX5_miss wsX5_commonDivisor := goodIn_r _ [59] (by decide +kernel) (by decide +kernel)
set_option maxRecDepth 20000 in
theorem gX5_miss_X5_commonDivisor : GoodIn wsX5_miss (va_wsS RX5 138 yX5_commonDivisor wsX5_commonDivisor) := goodIn_app (goodIn_of _ (by decide +kernel)) ggX5_miss_X5_commonDivisor
theorem dX5_miss_0 : decode cX5_miss 0 = .ok (.aload_n 0, 1) := by decide +kernel
theorem dX5_miss_1 : decode cX5_miss 1 = .ok (.getfield 12, 3) := by decide +kernel
theorem dX5_miss_4 : decode cX5_miss 4 = .ok (.iload_n 1, 1) := by decide +kernel
theorem dX5_miss_5 : decode cX5_miss 5 = .ok (.invokevirtual 93, 3) := by decide +kernel
theorem dX5_miss_8 : decode cX5_miss 8 = .ok (.ifCond .eq 37, 3) := by decide +kernel
theorem dX5_miss_11 : decode cX5_miss 11 = .ok (.iload_n 1, 1) := by decide +kernel
theorem dX5_miss_12 : decode cX5_miss 12 = .ok (.ifCond .eq 33, 3) := by decide +kernel
theorem dX5_miss_15 : decode cX5_miss 15 = .ok (.iload 4, 2) := by decide +kernel
theorem dX5_miss_17 : decode cX5_miss 17 = .ok (.iconst 0, 1) := by decide +kernel
theorem dX5_miss_18 : decode cX5_miss 18 = .ok (.iconst 1, 1) := by decide +kernel
theorem dX5_miss_19 : decode cX5_miss 19 = .ok (.invokestatic 71, 3) := by decide +kernel
theorem dX5_miss_22 : decode cX5_miss 22 = .ok (.ifCond .eq 23, 3) := by decide +kernel
theorem dX5_miss_25 : decode cX5_miss 25 = .ok (.iload_n 2, 1) := by decide +kernel
theorem dX5_miss_26 : decode cX5_miss 26 = .ok (.bipush (-2), 2) := by decide +kernel
theorem dX5_miss_28 : decode cX5_miss 28 = .ok (.iconst 2, 1) := by decide +kernel
theorem dX5_miss_29 : decode cX5_miss 29 = .ok (.invokestatic 71, 3) := by decide +kernel
theorem dX5_miss_32 : decode cX5_miss 32 = .ok (.ifCond .eq 13, 3) := by decide +kernel
theorem dX5_miss_35 : decode cX5_miss 35 = .ok (.iload_n 3, 1) := by decide +kernel
theorem dX5_miss_36 : decode cX5_miss 36 = .ok (.bipush (-2), 2) := by decide +kernel
theorem dX5_miss_38 : decode cX5_miss 38 = .ok (.iconst 2, 1) := by decide +kernel
theorem dX5_miss_39 : decode cX5_miss 39 = .ok (.invokestatic 71, 3) := by decide +kernel
theorem dX5_miss_42 : decode cX5_miss 42 = .ok (.ifCond .ne 5, 3) := by decide +kernel
theorem dX5_miss_45 : decode cX5_miss 45 = .ok (.iconst (-1), 1) := by decide +kernel
theorem dX5_miss_46 : decode cX5_miss 46 = .ok (.ireturn, 1) := by decide +kernel
theorem dX5_miss_47 : decode cX5_miss 47 = .ok (.aload_n 0, 1) := by decide +kernel
theorem dX5_miss_48 : decode cX5_miss 48 = .ok (.getfield 41, 3) := by decide +kernel
theorem dX5_miss_51 : decode cX5_miss 51 = .ok (.iload_n 1, 1) := by decide +kernel
theorem dX5_miss_52 : decode cX5_miss 52 = .ok (.iload_n 2, 1) := by decide +kernel
theorem dX5_miss_53 : decode cX5_miss 53 = .ok (.iload_n 3, 1) := by decide +kernel
theorem dX5_miss_54 : decode cX5_miss 54 = .ok (.invokevirtual 125, 3) := by decide +kernel
theorem dX5_miss_57 : decode cX5_miss 57 = .ok (.aload_n 0, 1) := by decide +kernel
theorem dX5_miss_58 : decode cX5_miss 58 = .ok (.getfield 41, 3) := by decide +kernel
theorem dX5_miss_61 : decode cX5_miss 61 = .ok (.invokevirtual 128, 3) := by decide +kernel
theorem dX5_miss_64 : decode cX5_miss 64 = .ok (.ifCond .ne 6, 3) := by decide +kernel
theorem dX5_miss_67 : decode cX5_miss 67 = .ok (.bipush (-3), 2) := by decide +kernel
theorem dX5_miss_69 : decode cX5_miss 69 = .ok (.ireturn, 1) := by decide +kernel
theorem dX5_miss_70 : decode cX5_miss 70 = .ok (.aload_n 0, 1) := by decide +kernel
theorem dX5_miss_71 : decode cX5_miss 71 = .ok (.getfield 41, 3) := by decide +kernel
theorem dX5_miss_74 : decode cX5_miss 74 = .ok (.getfield 132, 3) := by decide +kernel
theorem dX5_miss_77 : decode cX5_miss 77 = .ok (.aload_n 0, 1) := by decide +kernel
theorem dX5_miss_78 : decode cX5_miss 78 = .ok (.getfield 41, 3) := by decide +kernel
theorem dX5_miss_81 : decode cX5_miss 81 = .ok (.getfield 135, 3) := by decide +kernel
theorem dX5_miss_84 : decode cX5_miss 84 = .ok (.invokestatic 138, 3) := by decide +kernel
theorem dX5_miss_87 : decode cX5_miss 87 = .ok (.istore 5, 2) := by decide +kernel
theorem dX5_miss_89 : decode cX5_miss 89 = .ok (.iload 5, 2) := by decide +kernel
theorem dX5_miss_91 : decode cX5_miss 91 = .ok (.iconst 1, 1) := by decide +kernel
theorem dX5_miss_92 : decode cX5_miss 92 = .ok (.if_icmp .ge 6, 3) := by decide +kernel
theorem dX5_miss_95 : decode cX5_miss 95 = .ok (.bipush (-3), 2) := by decide +kernel
theorem dX5_miss_97 : decode cX5_miss 97 = .ok (.ireturn, 1) := by decide +kernel
theorem dX5_miss_98 : decode cX5_miss 98 = .ok (.iload 4, 2) := by decide +kernel
theorem dX5_miss_100 : decode cX5_miss 100 = .ok (.ifCond .ne 13, 3) := by decide +kernel
theorem dX5_miss_103 : decode cX5_miss 103 = .ok (.aload_n 0, 1) := by decide +kernel
theorem dX5_miss_104 : decode cX5_miss 104 = .ok (.getfield 41, 3) := by decide +kernel
theorem dX5_miss_107 : decode cX5_miss 107 = .ok (.getfield 132, 3) := by decide +kernel
theorem dX5_miss_110 : decode cX5_miss 110 = .ok (.goto 10, 3) := by decide +kernel
theorem dX5_miss_113 : decode cX5_miss 113 = .ok (.aload_n 0, 1) := by decide +kernel
theorem dX5_miss_114 : decode cX5_miss 114 = .ok (.getfield 41, 3) := by decide +kernel
theorem dX5_miss_117 : decode cX5_miss 117 = .ok (.getfield 135, 3) := by decide +kernel
theorem dX5_miss_120 : decode cX5_miss 120 = .ok (.iload 5, 2) := by decide +kernel
theorem dX5_miss_122 : decode cX5_miss 122 = .ok (.idiv, 1) := by decide +kernel
theorem dX5_miss_123 : decode cX5_miss 123 = .ok (.ireturn, 1) := by decide +kernel
set_option maxRecDepth 20000 in
theorem ggX5_shift_X1_hasFrame : GoodIn wsX5_shift wsX1_hasFrame := goodIn_r _ [7, 8, 80, 81, 82, 83, 84] (by decide +kernel) (by decide +kernel)
set_option maxRecDepth 20000 in
theorem gX5_shift_X1_hasFrame : GoodIn wsX5_shift (wsV RX5 93 RX1 yX1_hasFrame wsX1_hasFrame) := goodIn_app (goodIn_of _ (by decide +kernel)) ggX5_shift_X1_hasFrame
set_option maxRecDepth 20000 in
theorem ggX5_shift_X5_isWithin : GoodIn wsX5_shift wsX5_isWithin := goodIn_r _ [12] (by decide +kernel) (by decide +kernel)
set_option maxRecDepth 20000 in
theorem gX5_shift_X5_isWithin : GoodIn wsX5_shift (va_wsS RX5 71 yX5_isWithin wsX5_isWithin) := goodIn_app (goodIn_of _ (by decide +kernel)) ggX5_shift_X5_isWithin
set_option maxRecDepth 20000 in
theorem ggX5_shift_X3_find : GoodIn wsX5_shift wsX3_find := goodIn_r _ [17, 18, 19, 20, 21, 22, 23, 24, 25, 26, 16, 27, 28, 29, 30, 31, 32, 33, 34, 35, 36, 37, 38, 39, 40, 41, 42, 43, 6, 44, 45, 46, 47, 48, 49, 50, 51, 52, 4, 5, 7, 8, 53, 54, 55, 56, 57, 58, 59, 60, 61, 62, 63, 64, 65, 66, 85, 86, 87, 88, 89, 90, 91, 80, 81, 82, 83, 84] (by decide +kernel) (by decide +kernel)
set_option maxRecDepth 20000 in
theorem gX5_shift_X3_find : GoodIn wsX5_shift (wsV RX5 141 RX3 yX3_find wsX3_find) := goodIn_app (goodIn_of _ (by decide +kernel)) ggX5_shift_X3_find
set_option maxRecDepth 20000 in
theorem ggX5_shift_X3_along : GoodIn wsX5_shift wsX3_along := goodIn_r _ [70, 18, 19, 85, 86, 87, 88, 89, 90, 91] (by decide +kernel) (by decide +kernel)
set_option maxRecDepth 20000 in
theorem gX5_shift_X3_along : GoodIn wsX5_shift (wsV RX5 145 RX3 yX3_along wsX3_along) := goodIn_app (goodIn_of _ (by decide +kernel)) ggX5_shift_X3_along
theorem dX5_shift_0 : decode cX5_shift 0 = .ok (.aload_n 0, 1) := by decide +kernel
theorem dX5_shift_1 : decode cX5_shift 1 = .ok (.getfield 12, 3) := by decide +kernel
theorem dX5_shift_4 : decode cX5_shift 4 = .ok (.iload_n 1, 1) := by decide +kernel
theorem dX5_shift_5 : decode cX5_shift 5 = .ok (.invokevirtual 93, 3) := by decide +kernel
theorem dX5_shift_8 : decode cX5_shift 8 = .ok (.ifCond .eq 16, 3) := by decide +kernel
theorem dX5_shift_11 : decode cX5_shift 11 = .ok (.iload_n 1, 1) := by decide +kernel
theorem dX5_shift_12 : decode cX5_shift 12 = .ok (.ifCond .eq 12, 3) := by decide +kernel
theorem dX5_shift_15 : decode cX5_shift 15 = .ok (.iload_n 2, 1) := by decide +kernel
theorem dX5_shift_16 : decode cX5_shift 16 = .ok (.iconst 0, 1) := by decide +kernel
theorem dX5_shift_17 : decode cX5_shift 17 = .ok (.iconst 1, 1) := by decide +kernel
theorem dX5_shift_18 : decode cX5_shift 18 = .ok (.invokestatic 71, 3) := by decide +kernel
theorem dX5_shift_21 : decode cX5_shift 21 = .ok (.ifCond .ne 7, 3) := by decide +kernel
theorem dX5_shift_24 : decode cX5_shift 24 = .ok (.sipush (-1000), 3) := by decide +kernel
theorem dX5_shift_27 : decode cX5_shift 27 = .ok (.ireturn, 1) := by decide +kernel
theorem dX5_shift_28 : decode cX5_shift 28 = .ok (.aload_n 0, 1) := by decide +kernel
theorem dX5_shift_29 : decode cX5_shift 29 = .ok (.getfield 41, 3) := by decide +kernel
theorem dX5_shift_32 : decode cX5_shift 32 = .ok (.iload_n 1, 1) := by decide +kernel
theorem dX5_shift_33 : decode cX5_shift 33 = .ok (.invokevirtual 141, 3) := by decide +kernel
theorem dX5_shift_36 : decode cX5_shift 36 = .ok (.aload_n 0, 1) := by decide +kernel
theorem dX5_shift_37 : decode cX5_shift 37 = .ok (.getfield 41, 3) := by decide +kernel
theorem dX5_shift_40 : decode cX5_shift 40 = .ok (.iload_n 2, 1) := by decide +kernel
theorem dX5_shift_41 : decode cX5_shift 41 = .ok (.invokevirtual 145, 3) := by decide +kernel
theorem dX5_shift_44 : decode cX5_shift 44 = .ok (.ireturn, 1) := by decide +kernel
set_option maxRecDepth 20000 in
theorem ggX5_drift_X1_hasFrame : GoodIn wsX5_drift wsX1_hasFrame := goodIn_r _ [7, 8, 80, 81, 82, 83, 84] (by decide +kernel) (by decide +kernel)
set_option maxRecDepth 20000 in
theorem gX5_drift_X1_hasFrame : GoodIn wsX5_drift (wsV RX5 93 RX1 yX1_hasFrame wsX1_hasFrame) := goodIn_app (goodIn_of _ (by decide +kernel)) ggX5_drift_X1_hasFrame
set_option maxRecDepth 20000 in
theorem ggX5_drift_X5_isWithin : GoodIn wsX5_drift wsX5_isWithin := goodIn_r _ [12] (by decide +kernel) (by decide +kernel)
set_option maxRecDepth 20000 in
theorem gX5_drift_X5_isWithin : GoodIn wsX5_drift (va_wsS RX5 71 yX5_isWithin wsX5_isWithin) := goodIn_app (goodIn_of _ (by decide +kernel)) ggX5_drift_X5_isWithin
set_option maxRecDepth 20000 in
theorem ggX5_drift_X3_find : GoodIn wsX5_drift wsX3_find := goodIn_r _ [17, 18, 19, 20, 21, 22, 23, 24, 25, 26, 16, 27, 28, 29, 30, 31, 32, 33, 34, 35, 36, 37, 38, 39, 40, 41, 42, 43, 6, 44, 45, 46, 47, 48, 49, 50, 51, 52, 4, 5, 7, 8, 53, 54, 55, 56, 57, 58, 59, 60, 61, 62, 63, 64, 65, 66, 85, 86, 87, 88, 89, 90, 91, 80, 81, 82, 83, 84] (by decide +kernel) (by decide +kernel)
set_option maxRecDepth 20000 in
theorem gX5_drift_X3_find : GoodIn wsX5_drift (wsV RX5 141 RX3 yX3_find wsX3_find) := goodIn_app (goodIn_of _ (by decide +kernel)) ggX5_drift_X3_find
set_option maxRecDepth 20000 in
theorem ggX5_drift_X3_along : GoodIn wsX5_drift wsX3_along := goodIn_r _ [70, 18, 19, 85, 86, 87, 88, 89, 90, 91] (by decide +kernel) (by decide +kernel)
set_option maxRecDepth 20000 in
theorem gX5_drift_X3_along : GoodIn wsX5_drift (wsV RX5 145 RX3 yX3_along wsX3_along) := goodIn_app (goodIn_of _ (by decide +kernel)) ggX5_drift_X3_along
theorem dX5_drift_0 : decode cX5_drift 0 = .ok (.aload_n 0, 1) := by decide +kernel
theorem dX5_drift_1 : decode cX5_drift 1 = .ok (.getfield 12, 3) := by decide +kernel
theorem dX5_drift_4 : decode cX5_drift 4 = .ok (.iload_n 1, 1) := by decide +kernel
theorem dX5_drift_5 : decode cX5_drift 5 = .ok (.invokevirtual 93, 3) := by decide +kernel
theorem dX5_drift_8 : decode cX5_drift 8 = .ok (.ifCond .eq 12, 3) := by decide +kernel
theorem dX5_drift_11 : decode cX5_drift 11 = .ok (.iload_n 2, 1) := by decide +kernel
theorem dX5_drift_12 : decode cX5_drift 12 = .ok (.iconst 0, 1) := by decide +kernel
theorem dX5_drift_13 : decode cX5_drift 13 = .ok (.iconst 1, 1) := by decide +kernel
theorem dX5_drift_14 : decode cX5_drift 14 = .ok (.invokestatic 71, 3) := by decide +kernel
theorem dX5_drift_17 : decode cX5_drift 17 = .ok (.ifCond .ne 7, 3) := by decide +kernel
theorem dX5_drift_20 : decode cX5_drift 20 = .ok (.sipush (-1000), 3) := by decide +kernel
theorem dX5_drift_23 : decode cX5_drift 23 = .ok (.ireturn, 1) := by decide +kernel
theorem dX5_drift_24 : decode cX5_drift 24 = .ok (.iconst 0, 1) := by decide +kernel
theorem dX5_drift_25 : decode cX5_drift 25 = .ok (.istore_n 3, 1) := by decide +kernel
theorem dX5_drift_26 : decode cX5_drift 26 = .ok (.iconst 1, 1) := by decide +kernel
theorem dX5_drift_27 : decode cX5_drift 27 = .ok (.istore 4, 2) := by decide +kernel
theorem dX5_drift_29 : decode cX5_drift 29 = .ok (.iload 4, 2) := by decide +kernel
theorem dX5_drift_31 : decode cX5_drift 31 = .ok (.iload_n 1, 1) := by decide +kernel
theorem dX5_drift_32 : decode cX5_drift 32 = .ok (.if_icmp .gt 29, 3) := by decide +kernel
theorem dX5_drift_35 : decode cX5_drift 35 = .ok (.aload_n 0, 1) := by decide +kernel
theorem dX5_drift_36 : decode cX5_drift 36 = .ok (.getfield 41, 3) := by decide +kernel
theorem dX5_drift_39 : decode cX5_drift 39 = .ok (.iload 4, 2) := by decide +kernel
theorem dX5_drift_41 : decode cX5_drift 41 = .ok (.invokevirtual 141, 3) := by decide +kernel
theorem dX5_drift_44 : decode cX5_drift 44 = .ok (.iload_n 3, 1) := by decide +kernel
theorem dX5_drift_45 : decode cX5_drift 45 = .ok (.aload_n 0, 1) := by decide +kernel
theorem dX5_drift_46 : decode cX5_drift 46 = .ok (.getfield 41, 3) := by decide +kernel
theorem dX5_drift_49 : decode cX5_drift 49 = .ok (.iload_n 2, 1) := by decide +kernel
theorem dX5_drift_50 : decode cX5_drift 50 = .ok (.invokevirtual 145, 3) := by decide +kernel
theorem dX5_drift_53 : decode cX5_drift 53 = .ok (.iadd, 1) := by decide +kernel
theorem dX5_drift_54 : decode cX5_drift 54 = .ok (.istore_n 3, 1) := by decide +kernel
theorem dX5_drift_55 : decode cX5_drift 55 = .ok (.iinc 4 1, 3) := by decide +kernel
theorem dX5_drift_58 : decode cX5_drift 58 = .ok (.goto (-29), 3) := by decide +kernel
theorem dX5_drift_61 : decode cX5_drift 61 = .ok (.iload_n 3, 1) := by decide +kernel
theorem dX5_drift_62 : decode cX5_drift 62 = .ok (.ireturn, 1) := by decide +kernel
set_option maxRecDepth 20000 in
theorem ggX5_path_X1_hasFrame : GoodIn wsX5_path wsX1_hasFrame := goodIn_r _ [7, 8, 143, 144, 145, 146, 147] (by decide +kernel) (by decide +kernel)
set_option maxRecDepth 20000 in
theorem gX5_path_X1_hasFrame : GoodIn wsX5_path (wsV RX5 93 RX1 yX1_hasFrame wsX1_hasFrame) := goodIn_app (goodIn_of _ (by decide +kernel)) ggX5_path_X1_hasFrame
set_option maxRecDepth 20000 in
theorem ggX5_path_X5_isWithin : GoodIn wsX5_path wsX5_isWithin := goodIn_r _ [12] (by decide +kernel) (by decide +kernel)
set_option maxRecDepth 20000 in
theorem gX5_path_X5_isWithin : GoodIn wsX5_path (va_wsS RX5 71 yX5_isWithin wsX5_isWithin) := goodIn_app (goodIn_of _ (by decide +kernel)) ggX5_path_X5_isWithin
set_option maxRecDepth 20000 in
theorem ggX5_path_X5_findPath : GoodIn wsX5_path wsX5_findPath := goodIn_r _ [16, 1, 17, 18, 2, 19, 20, 21, 22, 23, 24, 25, 26, 27, 28, 29, 30, 31, 32, 33, 34, 35, 36, 37, 38, 39, 40, 41, 42, 43, 44, 45, 46, 47, 48, 49, 50, 6, 51, 52, 53, 54, 55, 56, 57, 58, 59, 4, 5, 7, 8, 60, 61, 62, 63, 64, 65, 66, 67, 68, 69, 70, 71, 72, 73, 74, 75, 76, 77, 78, 79, 80, 81, 82, 83, 84, 85, 86, 87, 88, 89, 90, 91, 92, 93, 94, 95, 96, 97, 98, 99, 100, 101, 102, 103, 104, 105, 106, 107, 108, 109, 110, 111, 112, 113, 114, 115, 116, 117, 118, 119, 120, 121, 122, 123, 124, 125, 126, 127, 128, 129, 134, 135, 136, 137, 138, 139, 140, 141, 142, 143, 144, 145, 146, 147, 148, 149, 150, 151, 152, 153, 154, 155, 156, 157, 158, 159, 160] (by decide +kernel) (by decide +kernel)
set_option maxRecDepth 20000 in
theorem gX5_path_X5_findPath : GoodIn wsX5_path (wsV RX5 149 RX5 yX5_findPath wsX5_findPath) := goodIn_app (goodIn_of _ (by decide +kernel)) ggX5_path_X5_findPath
set_option maxRecDepth 20000 in
theorem ggX5_path_X4_spotAt : GoodIn wsX5_path wsX4_spotAt := goodIn_r _ [133, 88, 91, 155, 156, 157, 158, 159, 160] (by decide +kernel) (by decide +kernel)
set_option maxRecDepth 20000 in
theorem gX5_path_X4_spotAt : GoodIn wsX5_path (wsV RX5 152 RX4 yX4_spotAt wsX4_spotAt) := goodIn_app (goodIn_of _ (by decide +kernel)) ggX5_path_X4_spotAt
theorem dX5_path_0 : decode cX5_path 0 = .ok (.aload_n 0, 1) := by decide +kernel
theorem dX5_path_1 : decode cX5_path 1 = .ok (.getfield 12, 3) := by decide +kernel
theorem dX5_path_4 : decode cX5_path 4 = .ok (.iload_n 1, 1) := by decide +kernel
theorem dX5_path_5 : decode cX5_path 5 = .ok (.invokevirtual 93, 3) := by decide +kernel
theorem dX5_path_8 : decode cX5_path 8 = .ok (.ifCond .eq 12, 3) := by decide +kernel
theorem dX5_path_11 : decode cX5_path 11 = .ok (.iload_n 2, 1) := by decide +kernel
theorem dX5_path_12 : decode cX5_path 12 = .ok (.iconst 0, 1) := by decide +kernel
theorem dX5_path_13 : decode cX5_path 13 = .ok (.iconst 1, 1) := by decide +kernel
theorem dX5_path_14 : decode cX5_path 14 = .ok (.invokestatic 71, 3) := by decide +kernel
theorem dX5_path_17 : decode cX5_path 17 = .ok (.ifCond .ne 7, 3) := by decide +kernel
theorem dX5_path_20 : decode cX5_path 20 = .ok (.sipush (-1000), 3) := by decide +kernel
theorem dX5_path_23 : decode cX5_path 23 = .ok (.ireturn, 1) := by decide +kernel
theorem dX5_path_24 : decode cX5_path 24 = .ok (.aload_n 0, 1) := by decide +kernel
theorem dX5_path_25 : decode cX5_path 25 = .ok (.iload_n 2, 1) := by decide +kernel
theorem dX5_path_26 : decode cX5_path 26 = .ok (.invokevirtual 149, 3) := by decide +kernel
theorem dX5_path_29 : decode cX5_path 29 = .ok (.aload_n 0, 1) := by decide +kernel
theorem dX5_path_30 : decode cX5_path 30 = .ok (.getfield 48, 3) := by decide +kernel
theorem dX5_path_33 : decode cX5_path 33 = .ok (.iload_n 1, 1) := by decide +kernel
theorem dX5_path_34 : decode cX5_path 34 = .ok (.invokevirtual 152, 3) := by decide +kernel
theorem dX5_path_37 : decode cX5_path 37 = .ok (.ireturn, 1) := by decide +kernel
set_option maxRecDepth 20000 in
theorem ggX5_bends_X5_isWithin : GoodIn wsX5_bends wsX5_isWithin := goodIn_r _ [5] (by decide +kernel) (by decide +kernel)
set_option maxRecDepth 20000 in
theorem gX5_bends_X5_isWithin : GoodIn wsX5_bends (va_wsS RX5 71 yX5_isWithin wsX5_isWithin) := goodIn_app (goodIn_of _ (by decide +kernel)) ggX5_bends_X5_isWithin
set_option maxRecDepth 20000 in
theorem ggX5_bends_X5_findPath : GoodIn wsX5_bends wsX5_findPath := goodIn_r _ [9, 10, 11, 12, 1, 13, 14, 15, 16, 17, 18, 19, 20, 21, 22, 23, 24, 25, 26, 27, 28, 29, 30, 31, 32, 33, 34, 35, 36, 37, 38, 39, 40, 41, 42, 43, 44, 45, 46, 47, 48, 49, 50, 51, 52, 53, 54, 55, 56, 57, 58, 59, 60, 61, 62, 63, 64, 65, 66, 67, 68, 69, 70, 71, 72, 73, 74, 75, 76, 77, 78, 79, 80, 81, 82, 83, 84, 85, 86, 87, 88, 89, 90, 91, 92, 93, 94, 95, 96, 97, 98, 99, 100, 101, 102, 103, 104, 105, 106, 107, 108, 109, 110, 111, 112, 113, 114, 115, 116, 117, 118, 119, 120, 121, 122, 123, 124, 125, 126, 127, 128, 137, 138, 139, 140, 141, 142, 143, 144, 145, 146, 147, 148, 149, 150, 151, 152, 153, 154, 155, 156, 157, 158, 159, 160, 161, 162, 163] (by decide +kernel) (by decide +kernel)
set_option maxRecDepth 20000 in
theorem gX5_bends_X5_findPath : GoodIn wsX5_bends (wsV RX5 149 RX5 yX5_findPath wsX5_findPath) := goodIn_app (goodIn_of _ (by decide +kernel)) ggX5_bends_X5_findPath
set_option maxRecDepth 20000 in
theorem ggX5_bends_X4_sumOfBends : GoodIn wsX5_bends wsX4_sumOfBends := goodIn_r _ [132, 87, 90, 112, 40, 33, 41, 158, 159, 160, 161, 162, 163] (by decide +kernel) (by decide +kernel)
set_option maxRecDepth 20000 in
theorem gX5_bends_X4_sumOfBends : GoodIn wsX5_bends (wsV RX5 155 RX4 yX4_sumOfBends wsX4_sumOfBends) := goodIn_app (goodIn_of _ (by decide +kernel)) ggX5_bends_X4_sumOfBends
set_option maxRecDepth 20000 in
theorem ggX5_bends_X4_sumOfStrays : GoodIn wsX5_bends wsX4_sumOfStrays := goodIn_r _ [136, 87, 90, 82, 112, 40, 33, 41, 158, 159, 160, 161, 162, 163] (by decide +kernel) (by decide +kernel)
set_option maxRecDepth 20000 in
theorem gX5_bends_X4_sumOfStrays : GoodIn wsX5_bends (wsV RX5 158 RX4 yX4_sumOfStrays wsX4_sumOfStrays) := goodIn_app (goodIn_of _ (by decide +kernel)) ggX5_bends_X4_sumOfStrays
theorem dX5_bends_0 : decode cX5_bends 0 = .ok (.iload_n 1, 1) := by decide +kernel
theorem dX5_bends_1 : decode cX5_bends 1 = .ok (.iconst 0, 1) := by decide +kernel
theorem dX5_bends_2 : decode cX5_bends 2 = .ok (.iconst 1, 1) := by decide +kernel
theorem dX5_bends_3 : decode cX5_bends 3 = .ok (.invokestatic 71, 3) := by decide +kernel
theorem dX5_bends_6 : decode cX5_bends 6 = .ok (.ifCond .eq 12, 3) := by decide +kernel
theorem dX5_bends_9 : decode cX5_bends 9 = .ok (.iload_n 2, 1) := by decide +kernel
theorem dX5_bends_10 : decode cX5_bends 10 = .ok (.iconst 0, 1) := by decide +kernel
theorem dX5_bends_11 : decode cX5_bends 11 = .ok (.iconst 1, 1) := by decide +kernel
theorem dX5_bends_12 : decode cX5_bends 12 = .ok (.invokestatic 71, 3) := by decide +kernel
theorem dX5_bends_15 : decode cX5_bends 15 = .ok (.ifCond .ne 5, 3) := by decide +kernel
theorem dX5_bends_18 : decode cX5_bends 18 = .ok (.iconst (-1), 1) := by decide +kernel
theorem dX5_bends_19 : decode cX5_bends 19 = .ok (.ireturn, 1) := by decide +kernel
theorem dX5_bends_20 : decode cX5_bends 20 = .ok (.aload_n 0, 1) := by decide +kernel
theorem dX5_bends_21 : decode cX5_bends 21 = .ok (.iload_n 1, 1) := by decide +kernel
theorem dX5_bends_22 : decode cX5_bends 22 = .ok (.invokevirtual 149, 3) := by decide +kernel
theorem dX5_bends_25 : decode cX5_bends 25 = .ok (.iload_n 2, 1) := by decide +kernel
theorem dX5_bends_26 : decode cX5_bends 26 = .ok (.ifCond .ne 13, 3) := by decide +kernel
theorem dX5_bends_29 : decode cX5_bends 29 = .ok (.aload_n 0, 1) := by decide +kernel
theorem dX5_bends_30 : decode cX5_bends 30 = .ok (.getfield 48, 3) := by decide +kernel
theorem dX5_bends_33 : decode cX5_bends 33 = .ok (.invokevirtual 155, 3) := by decide +kernel
theorem dX5_bends_36 : decode cX5_bends 36 = .ok (.goto 10, 3) := by decide +kernel
theorem dX5_bends_39 : decode cX5_bends 39 = .ok (.aload_n 0, 1) := by decide +kernel
theorem dX5_bends_40 : decode cX5_bends 40 = .ok (.getfield 48, 3) := by decide +kernel
theorem dX5_bends_43 : decode cX5_bends 43 = .ok (.invokevirtual 158, 3) := by decide +kernel
theorem dX5_bends_46 : decode cX5_bends 46 = .ok (.ireturn, 1) := by decide +kernel
set_option maxRecDepth 20000 in
theorem ggX5_dust_X1_hasFrame : GoodIn wsX5_dust wsX1_hasFrame := goodIn_r _ [8, 9, 42, 43, 44, 45, 46] (by decide +kernel) (by decide +kernel)
set_option maxRecDepth 20000 in
theorem gX5_dust_X1_hasFrame : GoodIn wsX5_dust (wsV RX5 93 RX1 yX1_hasFrame wsX1_hasFrame) := goodIn_app (goodIn_of _ (by decide +kernel)) ggX5_dust_X1_hasFrame
set_option maxRecDepth 20000 in
theorem ggX5_dust_X1_greyAt : GoodIn wsX5_dust wsX1_greyAt := goodIn_r _ [13, 14, 15, 5, 6, 7, 8, 9, 16, 17, 18, 19, 20, 42, 43, 44, 45, 46] (by decide +kernel) (by decide +kernel)
set_option maxRecDepth 20000 in
theorem gX5_dust_X1_greyAt : GoodIn wsX5_dust (wsV RX5 97 RX1 yX1_greyAt wsX1_greyAt) := goodIn_app (goodIn_of _ (by decide +kernel)) ggX5_dust_X1_greyAt
set_option maxRecDepth 20000 in
theorem ggX5_dust_X2_isDust : GoodIn wsX5_dust wsX2_isDust := goodIn_r _ [25, 26, 27, 28, 29, 30, 31, 32, 11, 12, 7, 13, 14, 15, 5, 6, 8, 9, 16, 17, 18, 19, 20, 47, 48, 49, 50, 51, 52, 42, 43, 44, 45, 46] (by decide +kernel) (by decide +kernel)
set_option maxRecDepth 20000 in
theorem gX5_dust_X2_isDust : GoodIn wsX5_dust (wsV RX5 161 RX2 yX2_isDust wsX2_isDust) := goodIn_app (goodIn_of _ (by decide +kernel)) ggX5_dust_X2_isDust
theorem dX5_dust_0 : decode cX5_dust 0 = .ok (.aload_n 0, 1) := by decide +kernel
theorem dX5_dust_1 : decode cX5_dust 1 = .ok (.getfield 12, 3) := by decide +kernel
theorem dX5_dust_4 : decode cX5_dust 4 = .ok (.iload_n 1, 1) := by decide +kernel
theorem dX5_dust_5 : decode cX5_dust 5 = .ok (.invokevirtual 93, 3) := by decide +kernel
theorem dX5_dust_8 : decode cX5_dust 8 = .ok (.ifCond .ne 5, 3) := by decide +kernel
theorem dX5_dust_11 : decode cX5_dust 11 = .ok (.iconst (-1), 1) := by decide +kernel
theorem dX5_dust_12 : decode cX5_dust 12 = .ok (.ireturn, 1) := by decide +kernel
theorem dX5_dust_13 : decode cX5_dust 13 = .ok (.iconst 0, 1) := by decide +kernel
theorem dX5_dust_14 : decode cX5_dust 14 = .ok (.istore_n 2, 1) := by decide +kernel
theorem dX5_dust_15 : decode cX5_dust 15 = .ok (.iconst 0, 1) := by decide +kernel
theorem dX5_dust_16 : decode cX5_dust 16 = .ok (.istore_n 3, 1) := by decide +kernel
theorem dX5_dust_17 : decode cX5_dust 17 = .ok (.iload_n 3, 1) := by decide +kernel
theorem dX5_dust_18 : decode cX5_dust 18 = .ok (.aload_n 0, 1) := by decide +kernel
theorem dX5_dust_19 : decode cX5_dust 19 = .ok (.getfield 12, 3) := by decide +kernel
theorem dX5_dust_22 : decode cX5_dust 22 = .ok (.getfield 83, 3) := by decide +kernel
theorem dX5_dust_25 : decode cX5_dust 25 = .ok (.if_icmp .ge 33, 3) := by decide +kernel
theorem dX5_dust_28 : decode cX5_dust 28 = .ok (.aload_n 0, 1) := by decide +kernel
theorem dX5_dust_29 : decode cX5_dust 29 = .ok (.getfield 57, 3) := by decide +kernel
theorem dX5_dust_32 : decode cX5_dust 32 = .ok (.aload_n 0, 1) := by decide +kernel
theorem dX5_dust_33 : decode cX5_dust 33 = .ok (.getfield 12, 3) := by decide +kernel
theorem dX5_dust_36 : decode cX5_dust 36 = .ok (.iload_n 1, 1) := by decide +kernel
theorem dX5_dust_37 : decode cX5_dust 37 = .ok (.iload_n 3, 1) := by decide +kernel
theorem dX5_dust_38 : decode cX5_dust 38 = .ok (.invokevirtual 97, 3) := by decide +kernel
theorem dX5_dust_41 : decode cX5_dust 41 = .ok (.iload_n 1, 1) := by decide +kernel
theorem dX5_dust_42 : decode cX5_dust 42 = .ok (.iload_n 3, 1) := by decide +kernel
theorem dX5_dust_43 : decode cX5_dust 43 = .ok (.invokevirtual 161, 3) := by decide +kernel
theorem dX5_dust_46 : decode cX5_dust 46 = .ok (.ifCond .eq 6, 3) := by decide +kernel
theorem dX5_dust_49 : decode cX5_dust 49 = .ok (.iinc 2 1, 3) := by decide +kernel
theorem dX5_dust_52 : decode cX5_dust 52 = .ok (.iinc 3 1, 3) := by decide +kernel
theorem dX5_dust_55 : decode cX5_dust 55 = .ok (.goto (-38), 3) := by decide +kernel
theorem dX5_dust_58 : decode cX5_dust 58 = .ok (.iload_n 2, 1) := by decide +kernel
theorem dX5_dust_59 : decode cX5_dust 59 = .ok (.ireturn, 1) := by decide +kernel
set_option maxRecDepth 20000 in
theorem ggX5_layer_X5_isWithin : GoodIn wsX5_layer wsX5_isWithin := goodIn_r _ [7] (by decide +kernel) (by decide +kernel)
set_option maxRecDepth 20000 in
theorem gX5_layer_X5_isWithin : GoodIn wsX5_layer (va_wsS RX5 71 yX5_isWithin wsX5_isWithin) := goodIn_app (goodIn_of _ (by decide +kernel)) ggX5_layer_X5_isWithin
set_option maxRecDepth 20000 in
theorem ggX5_layer_X1_hasFrame : GoodIn wsX5_layer wsX1_hasFrame := goodIn_r _ [12, 13, 40, 41, 42, 43, 44] (by decide +kernel) (by decide +kernel)
set_option maxRecDepth 20000 in
theorem gX5_layer_X1_hasFrame : GoodIn wsX5_layer (wsV RX5 93 RX1 yX1_hasFrame wsX1_hasFrame) := goodIn_app (goodIn_of _ (by decide +kernel)) ggX5_layer_X1_hasFrame
set_option maxRecDepth 20000 in
theorem ggX5_layer_X0_add : GoodIn wsX5_layer wsX0_add := goodIn_r _ [18, 19, 20, 21, 22, 23, 24, 34, 35, 36, 37, 38, 39] (by decide +kernel) (by decide +kernel)
set_option maxRecDepth 20000 in
theorem gX5_layer_X0_add : GoodIn wsX5_layer (wsV RX5 164 RX0 yX0_add wsX0_add) := goodIn_app (goodIn_of _ (by decide +kernel)) ggX5_layer_X0_add
theorem dX5_layer_0 : decode cX5_layer 0 = .ok (.iload_n 1, 1) := by decide +kernel
theorem dX5_layer_1 : decode cX5_layer 1 = .ok (.iconst 0, 1) := by decide +kernel
theorem dX5_layer_2 : decode cX5_layer 2 = .ok (.iconst 3, 1) := by decide +kernel
theorem dX5_layer_3 : decode cX5_layer 3 = .ok (.invokestatic 71, 3) := by decide +kernel
theorem dX5_layer_6 : decode cX5_layer 6 = .ok (.ifCond .eq 14, 3) := by decide +kernel
theorem dX5_layer_9 : decode cX5_layer 9 = .ok (.aload_n 0, 1) := by decide +kernel
theorem dX5_layer_10 : decode cX5_layer 10 = .ok (.getfield 12, 3) := by decide +kernel
theorem dX5_layer_13 : decode cX5_layer 13 = .ok (.iload_n 2, 1) := by decide +kernel
theorem dX5_layer_14 : decode cX5_layer 14 = .ok (.invokevirtual 93, 3) := by decide +kernel
theorem dX5_layer_17 : decode cX5_layer 17 = .ok (.ifCond .ne 5, 3) := by decide +kernel
theorem dX5_layer_20 : decode cX5_layer 20 = .ok (.iconst (-1), 1) := by decide +kernel
theorem dX5_layer_21 : decode cX5_layer 21 = .ok (.ireturn, 1) := by decide +kernel
theorem dX5_layer_22 : decode cX5_layer 22 = .ok (.iload_n 1, 1) := by decide +kernel
theorem dX5_layer_23 : decode cX5_layer 23 = .ok (.iconst 1, 1) := by decide +kernel
theorem dX5_layer_24 : decode cX5_layer 24 = .ok (.if_icmp .ne 21, 3) := by decide +kernel
theorem dX5_layer_27 : decode cX5_layer 27 = .ok (.aload_n 0, 1) := by decide +kernel
theorem dX5_layer_28 : decode cX5_layer 28 = .ok (.getfield 12, 3) := by decide +kernel
theorem dX5_layer_31 : decode cX5_layer 31 = .ok (.iload_n 3, 1) := by decide +kernel
theorem dX5_layer_32 : decode cX5_layer 32 = .ok (.invokevirtual 93, 3) := by decide +kernel
theorem dX5_layer_35 : decode cX5_layer 35 = .ok (.ifCond .eq 8, 3) := by decide +kernel
theorem dX5_layer_38 : decode cX5_layer 38 = .ok (.iload_n 3, 1) := by decide +kernel
theorem dX5_layer_39 : decode cX5_layer 39 = .ok (.iload_n 2, 1) := by decide +kernel
theorem dX5_layer_40 : decode cX5_layer 40 = .ok (.if_icmp .ne 5, 3) := by decide +kernel
theorem dX5_layer_43 : decode cX5_layer 43 = .ok (.iconst (-1), 1) := by decide +kernel
theorem dX5_layer_44 : decode cX5_layer 44 = .ok (.ireturn, 1) := by decide +kernel
theorem dX5_layer_45 : decode cX5_layer 45 = .ok (.iload_n 1, 1) := by decide +kernel
theorem dX5_layer_46 : decode cX5_layer 46 = .ok (.iconst 3, 1) := by decide +kernel
theorem dX5_layer_47 : decode cX5_layer 47 = .ok (.if_icmp .ne 26, 3) := by decide +kernel
theorem dX5_layer_50 : decode cX5_layer 50 = .ok (.iload_n 3, 1) := by decide +kernel
theorem dX5_layer_51 : decode cX5_layer 51 = .ok (.bipush (-3), 2) := by decide +kernel
theorem dX5_layer_53 : decode cX5_layer 53 = .ok (.iconst 3, 1) := by decide +kernel
theorem dX5_layer_54 : decode cX5_layer 54 = .ok (.invokestatic 71, 3) := by decide +kernel
theorem dX5_layer_57 : decode cX5_layer 57 = .ok (.ifCond .eq 14, 3) := by decide +kernel
theorem dX5_layer_60 : decode cX5_layer 60 = .ok (.iload 4, 2) := by decide +kernel
theorem dX5_layer_62 : decode cX5_layer 62 = .ok (.bipush (-3), 2) := by decide +kernel
theorem dX5_layer_64 : decode cX5_layer 64 = .ok (.iconst 3, 1) := by decide +kernel
theorem dX5_layer_65 : decode cX5_layer 65 = .ok (.invokestatic 71, 3) := by decide +kernel
theorem dX5_layer_68 : decode cX5_layer 68 = .ok (.ifCond .ne 5, 3) := by decide +kernel
theorem dX5_layer_71 : decode cX5_layer 71 = .ok (.iconst (-1), 1) := by decide +kernel
theorem dX5_layer_72 : decode cX5_layer 72 = .ok (.ireturn, 1) := by decide +kernel
theorem dX5_layer_73 : decode cX5_layer 73 = .ok (.aload_n 0, 1) := by decide +kernel
theorem dX5_layer_74 : decode cX5_layer 74 = .ok (.getfield 19, 3) := by decide +kernel
theorem dX5_layer_77 : decode cX5_layer 77 = .ok (.getfield 79, 3) := by decide +kernel
theorem dX5_layer_80 : decode cX5_layer 80 = .ok (.bipush 12, 2) := by decide +kernel
theorem dX5_layer_82 : decode cX5_layer 82 = .ok (.if_icmp .lt 6, 3) := by decide +kernel
theorem dX5_layer_85 : decode cX5_layer 85 = .ok (.bipush (-2), 2) := by decide +kernel
theorem dX5_layer_87 : decode cX5_layer 87 = .ok (.ireturn, 1) := by decide +kernel
theorem dX5_layer_88 : decode cX5_layer 88 = .ok (.aload_n 0, 1) := by decide +kernel
theorem dX5_layer_89 : decode cX5_layer 89 = .ok (.getfield 19, 3) := by decide +kernel
theorem dX5_layer_92 : decode cX5_layer 92 = .ok (.iload_n 1, 1) := by decide +kernel
theorem dX5_layer_93 : decode cX5_layer 93 = .ok (.iload_n 2, 1) := by decide +kernel
theorem dX5_layer_94 : decode cX5_layer 94 = .ok (.iload_n 1, 1) := by decide +kernel
theorem dX5_layer_95 : decode cX5_layer 95 = .ok (.iconst 1, 1) := by decide +kernel
theorem dX5_layer_96 : decode cX5_layer 96 = .ok (.if_icmp .eq 8, 3) := by decide +kernel
theorem dX5_layer_99 : decode cX5_layer 99 = .ok (.iload_n 1, 1) := by decide +kernel
theorem dX5_layer_100 : decode cX5_layer 100 = .ok (.iconst 3, 1) := by decide +kernel
theorem dX5_layer_101 : decode cX5_layer 101 = .ok (.if_icmp .ne 7, 3) := by decide +kernel
theorem dX5_layer_104 : decode cX5_layer 104 = .ok (.iload_n 3, 1) := by decide +kernel
theorem dX5_layer_105 : decode cX5_layer 105 = .ok (.goto 4, 3) := by decide +kernel
theorem dX5_layer_108 : decode cX5_layer 108 = .ok (.iconst 0, 1) := by decide +kernel
theorem dX5_layer_109 : decode cX5_layer 109 = .ok (.iload_n 1, 1) := by decide +kernel
theorem dX5_layer_110 : decode cX5_layer 110 = .ok (.iconst 3, 1) := by decide +kernel
theorem dX5_layer_111 : decode cX5_layer 111 = .ok (.if_icmp .ne 8, 3) := by decide +kernel
theorem dX5_layer_114 : decode cX5_layer 114 = .ok (.iload 4, 2) := by decide +kernel
theorem dX5_layer_116 : decode cX5_layer 116 = .ok (.goto 4, 3) := by decide +kernel
theorem dX5_layer_119 : decode cX5_layer 119 = .ok (.iconst 0, 1) := by decide +kernel
theorem dX5_layer_120 : decode cX5_layer 120 = .ok (.invokevirtual 164, 3) := by decide +kernel
theorem dX5_layer_123 : decode cX5_layer 123 = .ok (.ireturn, 1) := by decide +kernel
set_option maxRecDepth 20000 in
theorem ggX5_on_X0_has : GoodIn wsX5_on wsX0_has := goodIn_r _ [7, 8, 18, 19, 20, 21, 22, 23] (by decide +kernel) (by decide +kernel)
set_option maxRecDepth 20000 in
theorem gX5_on_X0_has : GoodIn wsX5_on (wsV RX5 168 RX0 yX0_has wsX0_has) := goodIn_app (goodIn_of _ (by decide +kernel)) ggX5_on_X0_has
theorem dX5_on_0 : decode cX5_on 0 = .ok (.aload_n 0, 1) := by decide +kernel
theorem dX5_on_1 : decode cX5_on 1 = .ok (.getfield 19, 3) := by decide +kernel
theorem dX5_on_4 : decode cX5_on 4 = .ok (.iload_n 1, 1) := by decide +kernel
theorem dX5_on_5 : decode cX5_on 5 = .ok (.invokevirtual 168, 3) := by decide +kernel
theorem dX5_on_8 : decode cX5_on 8 = .ok (.ifCond .ne 5, 3) := by decide +kernel
theorem dX5_on_11 : decode cX5_on 11 = .ok (.iconst (-1), 1) := by decide +kernel
theorem dX5_on_12 : decode cX5_on 12 = .ok (.ireturn, 1) := by decide +kernel
theorem dX5_on_13 : decode cX5_on 13 = .ok (.aload_n 0, 1) := by decide +kernel
theorem dX5_on_14 : decode cX5_on 14 = .ok (.getfield 19, 3) := by decide +kernel
theorem dX5_on_17 : decode cX5_on 17 = .ok (.getfield 171, 3) := by decide +kernel
theorem dX5_on_20 : decode cX5_on 20 = .ok (.iload_n 1, 1) := by decide +kernel
theorem dX5_on_21 : decode cX5_on 21 = .ok (.baload, 1) := by decide +kernel
theorem dX5_on_22 : decode cX5_on 22 = .ok (.iload_n 2, 1) := by decide +kernel
theorem dX5_on_23 : decode cX5_on 23 = .ok (.if_icmp .eq 7, 3) := by decide +kernel
theorem dX5_on_26 : decode cX5_on 26 = .ok (.iconst 1, 1) := by decide +kernel
theorem dX5_on_27 : decode cX5_on 27 = .ok (.goto 4, 3) := by decide +kernel
theorem dX5_on_30 : decode cX5_on 30 = .ok (.iconst 0, 1) := by decide +kernel
theorem dX5_on_31 : decode cX5_on 31 = .ok (.istore_n 3, 1) := by decide +kernel
theorem dX5_on_32 : decode cX5_on 32 = .ok (.aload_n 0, 1) := by decide +kernel
theorem dX5_on_33 : decode cX5_on 33 = .ok (.getfield 19, 3) := by decide +kernel
theorem dX5_on_36 : decode cX5_on 36 = .ok (.getfield 171, 3) := by decide +kernel
theorem dX5_on_39 : decode cX5_on 39 = .ok (.iload_n 1, 1) := by decide +kernel
theorem dX5_on_40 : decode cX5_on 40 = .ok (.iload_n 2, 1) := by decide +kernel
theorem dX5_on_41 : decode cX5_on 41 = .ok (.bastore, 1) := by decide +kernel
theorem dX5_on_42 : decode cX5_on 42 = .ok (.iload_n 3, 1) := by decide +kernel
theorem dX5_on_43 : decode cX5_on 43 = .ok (.ifCond .eq 7, 3) := by decide +kernel
theorem dX5_on_46 : decode cX5_on 46 = .ok (.iconst 1, 1) := by decide +kernel
theorem dX5_on_47 : decode cX5_on 47 = .ok (.goto 4, 3) := by decide +kernel
theorem dX5_on_50 : decode cX5_on 50 = .ok (.iconst 0, 1) := by decide +kernel
theorem dX5_on_51 : decode cX5_on 51 = .ok (.ireturn, 1) := by decide +kernel
theorem dX5_peel_0 : decode cX5_peel 0 = .ok (.aload_n 0, 1) := by decide +kernel
theorem dX5_peel_1 : decode cX5_peel 1 = .ok (.getfield 19, 3) := by decide +kernel
theorem dX5_peel_4 : decode cX5_peel 4 = .ok (.getfield 79, 3) := by decide +kernel
theorem dX5_peel_7 : decode cX5_peel 7 = .ok (.ifCond .gt 6, 3) := by decide +kernel
theorem dX5_peel_10 : decode cX5_peel 10 = .ok (.bipush (-3), 2) := by decide +kernel
theorem dX5_peel_12 : decode cX5_peel 12 = .ok (.ireturn, 1) := by decide +kernel
theorem dX5_peel_13 : decode cX5_peel 13 = .ok (.aload_n 0, 1) := by decide +kernel
theorem dX5_peel_14 : decode cX5_peel 14 = .ok (.getfield 19, 3) := by decide +kernel
theorem dX5_peel_17 : decode cX5_peel 17 = .ok (.dup, 1) := by decide +kernel
theorem dX5_peel_18 : decode cX5_peel 18 = .ok (.getfield 79, 3) := by decide +kernel
theorem dX5_peel_21 : decode cX5_peel 21 = .ok (.iconst 1, 1) := by decide +kernel
theorem dX5_peel_22 : decode cX5_peel 22 = .ok (.isub, 1) := by decide +kernel
theorem dX5_peel_23 : decode cX5_peel 23 = .ok (.putfield 79, 3) := by decide +kernel
theorem dX5_peel_26 : decode cX5_peel 26 = .ok (.aload_n 0, 1) := by decide +kernel
theorem dX5_peel_27 : decode cX5_peel 27 = .ok (.getfield 19, 3) := by decide +kernel
theorem dX5_peel_30 : decode cX5_peel 30 = .ok (.getfield 79, 3) := by decide +kernel
theorem dX5_peel_33 : decode cX5_peel 33 = .ok (.ireturn, 1) := by decide +kernel
set_option maxRecDepth 20000 in
theorem ggX5_made_X1_placeOf : GoodIn wsX5_made wsX1_placeOf := goodIn_r _ [9, 10, 11, 113, 114, 115, 116, 117] (by decide +kernel) (by decide +kernel)
set_option maxRecDepth 20000 in
theorem gX5_made_X1_placeOf : GoodIn wsX5_made (wsV RX5 113 RX1 yX1_placeOf wsX1_placeOf) := goodIn_app (goodIn_of _ (by decide +kernel)) ggX5_made_X1_placeOf
set_option maxRecDepth 20000 in
theorem ggX5_made_X1_hasFrame : GoodIn wsX5_made wsX1_hasFrame := goodIn_r _ [15, 16, 113, 114, 115, 116, 117] (by decide +kernel) (by decide +kernel)
set_option maxRecDepth 20000 in
theorem gX5_made_X1_hasFrame : GoodIn wsX5_made (wsV RX5 93 RX1 yX1_hasFrame wsX1_hasFrame) := goodIn_app (goodIn_of _ (by decide +kernel)) ggX5_made_X1_hasFrame
set_option maxRecDepth 20000 in
theorem ggX5_made_X2_make : GoodIn wsX5_made wsX2_make := goodIn_r _ [21, 22, 23, 24, 25, 26, 27, 28, 29, 30, 31, 8, 32, 33, 34, 13, 14, 15, 16, 35, 36, 37, 38, 39, 40, 41, 42, 20, 43, 44, 45, 46, 47, 48, 49, 50, 51, 52, 53, 54, 55, 56, 57, 58, 59, 60, 61, 62, 63, 64, 65, 66, 67, 68, 69, 70, 71, 72, 73, 74, 75, 76, 77, 78, 79, 80, 81, 82, 83, 84, 85, 86, 87, 88, 89, 90, 91, 92, 6, 7, 9, 10, 11, 93, 118, 119, 120, 121, 122, 123, 113, 114, 115, 116, 117, 107, 108, 109, 110, 111, 112] (by decide +kernel) (by decide +kernel)
set_option maxRecDepth 20000 in
theorem gX5_made_X2_make : GoodIn wsX5_made (wsV RX5 175 RX2 yX2_make wsX2_make) := goodIn_app (goodIn_of _ (by decide +kernel)) ggX5_made_X2_make
set_option maxRecDepth 20000 in
theorem ggX5_made_X2_greyAt : GoodIn wsX5_made wsX2_greyAt := goodIn_r _ [97, 22, 24, 93, 36, 37, 8, 38, 39, 118, 119, 120, 121, 122, 123, 113, 114, 115, 116, 117] (by decide +kernel) (by decide +kernel)
set_option maxRecDepth 20000 in
theorem gX5_made_X2_greyAt : GoodIn wsX5_made (wsV RX5 178 RX2 yX2_greyAt wsX2_greyAt) := goodIn_app (goodIn_of _ (by decide +kernel)) ggX5_made_X2_greyAt
theorem dX5_made_0 : decode cX5_made 0 = .ok (.aload_n 0, 1) := by decide +kernel
theorem dX5_made_1 : decode cX5_made 1 = .ok (.getfield 12, 3) := by decide +kernel
theorem dX5_made_4 : decode cX5_made 4 = .ok (.iload_n 2, 1) := by decide +kernel
theorem dX5_made_5 : decode cX5_made 5 = .ok (.iload_n 3, 1) := by decide +kernel
theorem dX5_made_6 : decode cX5_made 6 = .ok (.invokevirtual 113, 3) := by decide +kernel
theorem dX5_made_9 : decode cX5_made 9 = .ok (.istore 4, 2) := by decide +kernel
theorem dX5_made_11 : decode cX5_made 11 = .ok (.aload_n 0, 1) := by decide +kernel
theorem dX5_made_12 : decode cX5_made 12 = .ok (.getfield 12, 3) := by decide +kernel
theorem dX5_made_15 : decode cX5_made 15 = .ok (.iload_n 1, 1) := by decide +kernel
theorem dX5_made_16 : decode cX5_made 16 = .ok (.invokevirtual 93, 3) := by decide +kernel
theorem dX5_made_19 : decode cX5_made 19 = .ok (.ifCond .eq 8, 3) := by decide +kernel
theorem dX5_made_22 : decode cX5_made 22 = .ok (.iload 4, 2) := by decide +kernel
theorem dX5_made_24 : decode cX5_made 24 = .ok (.ifCond .ge 7, 3) := by decide +kernel
theorem dX5_made_27 : decode cX5_made 27 = .ok (.sipush (-1000), 3) := by decide +kernel
theorem dX5_made_30 : decode cX5_made 30 = .ok (.ireturn, 1) := by decide +kernel
theorem dX5_made_31 : decode cX5_made 31 = .ok (.aload_n 0, 1) := by decide +kernel
theorem dX5_made_32 : decode cX5_made 32 = .ok (.getfield 57, 3) := by decide +kernel
theorem dX5_made_35 : decode cX5_made 35 = .ok (.iload_n 1, 1) := by decide +kernel
theorem dX5_made_36 : decode cX5_made 36 = .ok (.aload_n 0, 1) := by decide +kernel
theorem dX5_made_37 : decode cX5_made 37 = .ok (.getfield 19, 3) := by decide +kernel
theorem dX5_made_40 : decode cX5_made 40 = .ok (.getfield 79, 3) := by decide +kernel
theorem dX5_made_43 : decode cX5_made 43 = .ok (.invokevirtual 175, 3) := by decide +kernel
theorem dX5_made_46 : decode cX5_made 46 = .ok (.aload_n 0, 1) := by decide +kernel
theorem dX5_made_47 : decode cX5_made 47 = .ok (.getfield 57, 3) := by decide +kernel
theorem dX5_made_50 : decode cX5_made 50 = .ok (.iload 4, 2) := by decide +kernel
theorem dX5_made_52 : decode cX5_made 52 = .ok (.invokevirtual 178, 3) := by decide +kernel
theorem dX5_made_55 : decode cX5_made 55 = .ok (.ireturn, 1) := by decide +kernel
set_option maxRecDepth 20000 in
theorem ggX5_changed_X0_has : GoodIn wsX5_changed wsX0_has := goodIn_r _ [9, 10, 111, 112, 113, 114, 115, 116] (by decide +kernel) (by decide +kernel)
set_option maxRecDepth 20000 in
theorem gX5_changed_X0_has : GoodIn wsX5_changed (wsV RX5 168 RX0 yX0_has wsX0_has) := goodIn_app (goodIn_of _ (by decide +kernel)) ggX5_changed_X0_has
set_option maxRecDepth 20000 in
theorem ggX5_changed_X2_make : GoodIn wsX5_changed wsX2_make := goodIn_r _ [15, 16, 17, 18, 19, 20, 21, 22, 23, 24, 25, 26, 27, 28, 29, 30, 31, 32, 33, 34, 35, 36, 37, 38, 39, 40, 41, 14, 42, 43, 44, 45, 46, 47, 48, 49, 50, 51, 52, 53, 54, 55, 56, 57, 58, 59, 60, 61, 62, 63, 64, 65, 66, 67, 68, 69, 70, 71, 72, 73, 74, 75, 76, 77, 78, 79, 80, 81, 82, 83, 84, 85, 86, 87, 88, 89, 90, 91, 92, 93, 94, 95, 96, 97, 117, 118, 119, 120, 121, 122, 123, 124, 125, 126, 127, 111, 112, 113, 114, 115, 116] (by decide +kernel) (by decide +kernel)
set_option maxRecDepth 20000 in
theorem gX5_changed_X2_make : GoodIn wsX5_changed (wsV RX5 175 RX2 yX2_make wsX2_make) := goodIn_app (goodIn_of _ (by decide +kernel)) ggX5_changed_X2_make
set_option maxRecDepth 20000 in
theorem ggX5_changed_X2_countChanged : GoodIn wsX5_changed wsX2_countChanged := goodIn_r _ [101, 16, 17, 18, 43, 117, 118, 119, 120, 121, 122, 123, 124, 125, 126, 127] (by decide +kernel) (by decide +kernel)
set_option maxRecDepth 20000 in
theorem gX5_changed_X2_countChanged : GoodIn wsX5_changed (wsV RX5 183 RX2 yX2_countChanged wsX2_countChanged) := goodIn_app (goodIn_of _ (by decide +kernel)) ggX5_changed_X2_countChanged
theorem dX5_changed_0 : decode cX5_changed 0 = .ok (.aload_n 0, 1) := by decide +kernel
theorem dX5_changed_1 : decode cX5_changed 1 = .ok (.getfield 19, 3) := by decide +kernel
theorem dX5_changed_4 : decode cX5_changed 4 = .ok (.iload_n 1, 1) := by decide +kernel
theorem dX5_changed_5 : decode cX5_changed 5 = .ok (.invokevirtual 168, 3) := by decide +kernel
theorem dX5_changed_8 : decode cX5_changed 8 = .ok (.ifCond .ne 5, 3) := by decide +kernel
theorem dX5_changed_11 : decode cX5_changed 11 = .ok (.iconst (-1), 1) := by decide +kernel
theorem dX5_changed_12 : decode cX5_changed 12 = .ok (.ireturn, 1) := by decide +kernel
theorem dX5_changed_13 : decode cX5_changed 13 = .ok (.aload_n 0, 1) := by decide +kernel
theorem dX5_changed_14 : decode cX5_changed 14 = .ok (.getfield 19, 3) := by decide +kernel
theorem dX5_changed_17 : decode cX5_changed 17 = .ok (.getfield 171, 3) := by decide +kernel
theorem dX5_changed_20 : decode cX5_changed 20 = .ok (.iload_n 1, 1) := by decide +kernel
theorem dX5_changed_21 : decode cX5_changed 21 = .ok (.baload, 1) := by decide +kernel
theorem dX5_changed_22 : decode cX5_changed 22 = .ok (.ifCond .ne 5, 3) := by decide +kernel
theorem dX5_changed_25 : decode cX5_changed 25 = .ok (.iconst 0, 1) := by decide +kernel
theorem dX5_changed_26 : decode cX5_changed 26 = .ok (.ireturn, 1) := by decide +kernel
theorem dX5_changed_27 : decode cX5_changed 27 = .ok (.aload_n 0, 1) := by decide +kernel
theorem dX5_changed_28 : decode cX5_changed 28 = .ok (.getfield 57, 3) := by decide +kernel
theorem dX5_changed_31 : decode cX5_changed 31 = .ok (.aload_n 0, 1) := by decide +kernel
theorem dX5_changed_32 : decode cX5_changed 32 = .ok (.getfield 19, 3) := by decide +kernel
theorem dX5_changed_35 : decode cX5_changed 35 = .ok (.getfield 180, 3) := by decide +kernel
theorem dX5_changed_38 : decode cX5_changed 38 = .ok (.iload_n 1, 1) := by decide +kernel
theorem dX5_changed_39 : decode cX5_changed 39 = .ok (.iaload, 1) := by decide +kernel
theorem dX5_changed_40 : decode cX5_changed 40 = .ok (.iload_n 1, 1) := by decide +kernel
theorem dX5_changed_41 : decode cX5_changed 41 = .ok (.iconst 1, 1) := by decide +kernel
theorem dX5_changed_42 : decode cX5_changed 42 = .ok (.iadd, 1) := by decide +kernel
theorem dX5_changed_43 : decode cX5_changed 43 = .ok (.invokevirtual 175, 3) := by decide +kernel
theorem dX5_changed_46 : decode cX5_changed 46 = .ok (.aload_n 0, 1) := by decide +kernel
theorem dX5_changed_47 : decode cX5_changed 47 = .ok (.getfield 57, 3) := by decide +kernel
theorem dX5_changed_50 : decode cX5_changed 50 = .ok (.invokevirtual 183, 3) := by decide +kernel
theorem dX5_changed_53 : decode cX5_changed 53 = .ok (.ireturn, 1) := by decide +kernel
set_option maxRecDepth 20000 in
theorem ggX5_of_X0_has : GoodIn wsX5_of wsX0_has := goodIn_r _ [11, 12, 22, 23, 24, 25, 26, 27] (by decide +kernel) (by decide +kernel)
set_option maxRecDepth 20000 in
theorem gX5_of_X0_has : GoodIn wsX5_of (wsV RX5 168 RX0 yX0_has wsX0_has) := goodIn_app (goodIn_of _ (by decide +kernel)) ggX5_of_X0_has
theorem dX5_of_0 : decode cX5_of 0 = .ok (.aload_n 0, 1) := by decide +kernel
theorem dX5_of_1 : decode cX5_of 1 = .ok (.getfield 19, 3) := by decide +kernel
theorem dX5_of_4 : decode cX5_of 4 = .ok (.iload_n 1, 1) := by decide +kernel
theorem dX5_of_5 : decode cX5_of 5 = .ok (.invokevirtual 168, 3) := by decide +kernel
theorem dX5_of_8 : decode cX5_of 8 = .ok (.ifCond .ne 7, 3) := by decide +kernel
theorem dX5_of_11 : decode cX5_of 11 = .ok (.sipush (-1000), 3) := by decide +kernel
theorem dX5_of_14 : decode cX5_of 14 = .ok (.ireturn, 1) := by decide +kernel
theorem dX5_of_15 : decode cX5_of 15 = .ok (.iload_n 2, 1) := by decide +kernel
theorem dX5_of_16 : decode cX5_of 16 = .ok (.tableswitch 94 0 4 #[36, 46, 56, 66, 76], 36) := by decide +kernel
theorem dX5_of_52 : decode cX5_of 52 = .ok (.aload_n 0, 1) := by decide +kernel
theorem dX5_of_53 : decode cX5_of 53 = .ok (.getfield 19, 3) := by decide +kernel
theorem dX5_of_56 : decode cX5_of 56 = .ok (.getfield 186, 3) := by decide +kernel
theorem dX5_of_59 : decode cX5_of 59 = .ok (.iload_n 1, 1) := by decide +kernel
theorem dX5_of_60 : decode cX5_of 60 = .ok (.iaload, 1) := by decide +kernel
theorem dX5_of_61 : decode cX5_of 61 = .ok (.ireturn, 1) := by decide +kernel
theorem dX5_of_62 : decode cX5_of 62 = .ok (.aload_n 0, 1) := by decide +kernel
theorem dX5_of_63 : decode cX5_of 63 = .ok (.getfield 19, 3) := by decide +kernel
theorem dX5_of_66 : decode cX5_of 66 = .ok (.getfield 180, 3) := by decide +kernel
theorem dX5_of_69 : decode cX5_of 69 = .ok (.iload_n 1, 1) := by decide +kernel
theorem dX5_of_70 : decode cX5_of 70 = .ok (.iaload, 1) := by decide +kernel
theorem dX5_of_71 : decode cX5_of 71 = .ok (.ireturn, 1) := by decide +kernel
theorem dX5_of_72 : decode cX5_of 72 = .ok (.aload_n 0, 1) := by decide +kernel
theorem dX5_of_73 : decode cX5_of 73 = .ok (.getfield 19, 3) := by decide +kernel
theorem dX5_of_76 : decode cX5_of 76 = .ok (.getfield 189, 3) := by decide +kernel
theorem dX5_of_79 : decode cX5_of 79 = .ok (.iload_n 1, 1) := by decide +kernel
theorem dX5_of_80 : decode cX5_of 80 = .ok (.iaload, 1) := by decide +kernel
theorem dX5_of_81 : decode cX5_of 81 = .ok (.ireturn, 1) := by decide +kernel
theorem dX5_of_82 : decode cX5_of 82 = .ok (.aload_n 0, 1) := by decide +kernel
theorem dX5_of_83 : decode cX5_of 83 = .ok (.getfield 19, 3) := by decide +kernel
theorem dX5_of_86 : decode cX5_of 86 = .ok (.getfield 192, 3) := by decide +kernel
theorem dX5_of_89 : decode cX5_of 89 = .ok (.iload_n 1, 1) := by decide +kernel
theorem dX5_of_90 : decode cX5_of 90 = .ok (.iaload, 1) := by decide +kernel
theorem dX5_of_91 : decode cX5_of 91 = .ok (.ireturn, 1) := by decide +kernel
theorem dX5_of_92 : decode cX5_of 92 = .ok (.aload_n 0, 1) := by decide +kernel
theorem dX5_of_93 : decode cX5_of 93 = .ok (.getfield 19, 3) := by decide +kernel
theorem dX5_of_96 : decode cX5_of 96 = .ok (.getfield 171, 3) := by decide +kernel
theorem dX5_of_99 : decode cX5_of 99 = .ok (.iload_n 1, 1) := by decide +kernel
theorem dX5_of_100 : decode cX5_of 100 = .ok (.baload, 1) := by decide +kernel
theorem dX5_of_101 : decode cX5_of 101 = .ok (.ifCond .eq 7, 3) := by decide +kernel
theorem dX5_of_104 : decode cX5_of 104 = .ok (.iconst 1, 1) := by decide +kernel
theorem dX5_of_105 : decode cX5_of 105 = .ok (.goto 4, 3) := by decide +kernel
theorem dX5_of_108 : decode cX5_of 108 = .ok (.iconst 0, 1) := by decide +kernel
theorem dX5_of_109 : decode cX5_of 109 = .ok (.ireturn, 1) := by decide +kernel
theorem dX5_of_110 : decode cX5_of 110 = .ok (.sipush (-1000), 3) := by decide +kernel
theorem dX5_of_113 : decode cX5_of 113 = .ok (.ireturn, 1) := by decide +kernel
set_option maxRecDepth 20000 in
theorem ggX5_told_X1_hasFrame : GoodIn wsX5_told wsX1_hasFrame := goodIn_r _ [10, 11, 136, 137, 138, 139, 140] (by decide +kernel) (by decide +kernel)
set_option maxRecDepth 20000 in
theorem gX5_told_X1_hasFrame : GoodIn wsX5_told (wsV RX5 93 RX1 yX1_hasFrame wsX1_hasFrame) := goodIn_app (goodIn_of _ (by decide +kernel)) ggX5_told_X1_hasFrame
set_option maxRecDepth 20000 in
theorem ggX5_told_X5_isWithin : GoodIn wsX5_told wsX5_isWithin := goodIn_r _ [15] (by decide +kernel) (by decide +kernel)
set_option maxRecDepth 20000 in
theorem gX5_told_X5_isWithin : GoodIn wsX5_told (va_wsS RX5 71 yX5_isWithin wsX5_isWithin) := goodIn_app (goodIn_of _ (by decide +kernel)) ggX5_told_X5_isWithin
set_option maxRecDepth 20000 in
theorem ggX5_told_X2_make : GoodIn wsX5_told wsX2_make := goodIn_r _ [20, 21, 22, 23, 24, 25, 26, 27, 28, 29, 30, 9, 31, 32, 33, 7, 8, 10, 11, 34, 35, 36, 37, 38, 39, 40, 41, 19, 42, 43, 44, 45, 46, 47, 48, 49, 50, 51, 52, 53, 54, 55, 56, 57, 58, 59, 60, 61, 62, 63, 64, 65, 66, 67, 68, 69, 70, 71, 72, 73, 74, 75, 76, 77, 78, 79, 80, 81, 82, 83, 84, 85, 86, 87, 88, 89, 90, 91, 92, 93, 94, 95, 96, 97, 141, 142, 143, 144, 145, 146, 136, 137, 138, 139, 140, 130, 131, 132, 133, 134, 135] (by decide +kernel) (by decide +kernel)
set_option maxRecDepth 20000 in
theorem gX5_told_X2_make : GoodIn wsX5_told (wsV RX5 175 RX2 yX2_make wsX2_make) := goodIn_app (goodIn_of _ (by decide +kernel)) ggX5_told_X2_make
set_option maxRecDepth 20000 in
theorem ggX5_told_X2_countLost : GoodIn wsX5_told wsX2_countLost := goodIn_r _ [76, 21, 22, 23, 141, 142, 143, 144, 145, 146, 136, 137, 138, 139, 140] (by decide +kernel) (by decide +kernel)
set_option maxRecDepth 20000 in
theorem gX5_told_X2_countLost : GoodIn wsX5_told (wsV RX5 195 RX2 yX2_countLost wsX2_countLost) := goodIn_app (goodIn_of _ (by decide +kernel)) ggX5_told_X2_countLost
set_option maxRecDepth 20000 in
theorem ggX5_told_X2_sumOfGreys : GoodIn wsX5_told wsX2_sumOfGreys := goodIn_r _ [102, 21, 22, 23, 141, 142, 143, 144, 145, 146, 136, 137, 138, 139, 140] (by decide +kernel) (by decide +kernel)
set_option maxRecDepth 20000 in
theorem gX5_told_X2_sumOfGreys : GoodIn wsX5_told (wsV RX5 198 RX2 yX2_sumOfGreys wsX2_sumOfGreys) := goodIn_app (goodIn_of _ (by decide +kernel)) ggX5_told_X2_sumOfGreys
set_option maxRecDepth 20000 in
theorem ggX5_told_X2_leastGrey : GoodIn wsX5_told wsX2_leastGrey := goodIn_r _ [106, 21, 22, 23, 107, 108, 61, 109, 141, 142, 143, 144, 145, 146, 136, 137, 138, 139, 140] (by decide +kernel) (by decide +kernel)
set_option maxRecDepth 20000 in
theorem gX5_told_X2_leastGrey : GoodIn wsX5_told (wsV RX5 201 RX2 yX2_leastGrey wsX2_leastGrey) := goodIn_app (goodIn_of _ (by decide +kernel)) ggX5_told_X2_leastGrey
set_option maxRecDepth 20000 in
theorem ggX5_told_X2_greatestGrey : GoodIn wsX5_told wsX2_greatestGrey := goodIn_r _ [113, 21, 22, 23, 114, 115, 61, 116, 141, 142, 143, 144, 145, 146, 136, 137, 138, 139, 140] (by decide +kernel) (by decide +kernel)
set_option maxRecDepth 20000 in
theorem gX5_told_X2_greatestGrey : GoodIn wsX5_told (wsV RX5 204 RX2 yX2_greatestGrey wsX2_greatestGrey) := goodIn_app (goodIn_of _ (by decide +kernel)) ggX5_told_X2_greatestGrey
set_option maxRecDepth 20000 in
theorem ggX5_told_X2_countUnlikeRaw : GoodIn wsX5_told wsX2_countUnlikeRaw := goodIn_r _ [120, 21, 22, 23, 28, 29, 30, 9, 31, 32, 33, 7, 8, 10, 11, 34, 35, 36, 37, 38, 141, 142, 143, 144, 145, 146, 136, 137, 138, 139, 140] (by decide +kernel) (by decide +kernel)
set_option maxRecDepth 20000 in
theorem gX5_told_X2_countUnlikeRaw : GoodIn wsX5_told (wsV RX5 207 RX2 yX2_countUnlikeRaw wsX2_countUnlikeRaw) := goodIn_app (goodIn_of _ (by decide +kernel)) ggX5_told_X2_countUnlikeRaw
theorem dX5_told_0 : decode cX5_told 0 = .ok (.aload_n 0, 1) := by decide +kernel
theorem dX5_told_1 : decode cX5_told 1 = .ok (.getfield 12, 3) := by decide +kernel
theorem dX5_told_4 : decode cX5_told 4 = .ok (.iload_n 1, 1) := by decide +kernel
theorem dX5_told_5 : decode cX5_told 5 = .ok (.invokevirtual 93, 3) := by decide +kernel
theorem dX5_told_8 : decode cX5_told 8 = .ok (.ifCond .eq 12, 3) := by decide +kernel
theorem dX5_told_11 : decode cX5_told 11 = .ok (.iload_n 2, 1) := by decide +kernel
theorem dX5_told_12 : decode cX5_told 12 = .ok (.iconst 0, 1) := by decide +kernel
theorem dX5_told_13 : decode cX5_told 13 = .ok (.iconst 4, 1) := by decide +kernel
theorem dX5_told_14 : decode cX5_told 14 = .ok (.invokestatic 71, 3) := by decide +kernel
theorem dX5_told_17 : decode cX5_told 17 = .ok (.ifCond .ne 5, 3) := by decide +kernel
theorem dX5_told_20 : decode cX5_told 20 = .ok (.iconst (-1), 1) := by decide +kernel
theorem dX5_told_21 : decode cX5_told 21 = .ok (.ireturn, 1) := by decide +kernel
theorem dX5_told_22 : decode cX5_told 22 = .ok (.aload_n 0, 1) := by decide +kernel
theorem dX5_told_23 : decode cX5_told 23 = .ok (.getfield 57, 3) := by decide +kernel
theorem dX5_told_26 : decode cX5_told 26 = .ok (.iload_n 1, 1) := by decide +kernel
theorem dX5_told_27 : decode cX5_told 27 = .ok (.aload_n 0, 1) := by decide +kernel
theorem dX5_told_28 : decode cX5_told 28 = .ok (.getfield 19, 3) := by decide +kernel
theorem dX5_told_31 : decode cX5_told 31 = .ok (.getfield 79, 3) := by decide +kernel
theorem dX5_told_34 : decode cX5_told 34 = .ok (.invokevirtual 175, 3) := by decide +kernel
theorem dX5_told_37 : decode cX5_told 37 = .ok (.iload_n 2, 1) := by decide +kernel
theorem dX5_told_38 : decode cX5_told 38 = .ok (.tableswitch 106 0 3 #[30, 38, 46, 76], 30) := by decide +kernel
theorem dX5_told_68 : decode cX5_told 68 = .ok (.aload_n 0, 1) := by decide +kernel
theorem dX5_told_69 : decode cX5_told 69 = .ok (.getfield 57, 3) := by decide +kernel
theorem dX5_told_72 : decode cX5_told 72 = .ok (.invokevirtual 195, 3) := by decide +kernel
theorem dX5_told_75 : decode cX5_told 75 = .ok (.ireturn, 1) := by decide +kernel
theorem dX5_told_76 : decode cX5_told 76 = .ok (.aload_n 0, 1) := by decide +kernel
theorem dX5_told_77 : decode cX5_told 77 = .ok (.getfield 57, 3) := by decide +kernel
theorem dX5_told_80 : decode cX5_told 80 = .ok (.invokevirtual 198, 3) := by decide +kernel
theorem dX5_told_83 : decode cX5_told 83 = .ok (.ireturn, 1) := by decide +kernel
theorem dX5_told_84 : decode cX5_told 84 = .ok (.aload_n 0, 1) := by decide +kernel
theorem dX5_told_85 : decode cX5_told 85 = .ok (.getfield 57, 3) := by decide +kernel
theorem dX5_told_88 : decode cX5_told 88 = .ok (.invokevirtual 195, 3) := by decide +kernel
theorem dX5_told_91 : decode cX5_told 91 = .ok (.aload_n 0, 1) := by decide +kernel
theorem dX5_told_92 : decode cX5_told 92 = .ok (.getfield 12, 3) := by decide +kernel
theorem dX5_told_95 : decode cX5_told 95 = .ok (.getfield 83, 3) := by decide +kernel
theorem dX5_told_98 : decode cX5_told 98 = .ok (.if_icmp .ne 8, 3) := by decide +kernel
theorem dX5_told_101 : decode cX5_told 101 = .ok (.bipush (-3), 2) := by decide +kernel
theorem dX5_told_103 : decode cX5_told 103 = .ok (.goto 10, 3) := by decide +kernel
theorem dX5_told_106 : decode cX5_told 106 = .ok (.aload_n 0, 1) := by decide +kernel
theorem dX5_told_107 : decode cX5_told 107 = .ok (.getfield 57, 3) := by decide +kernel
theorem dX5_told_110 : decode cX5_told 110 = .ok (.invokevirtual 201, 3) := by decide +kernel
theorem dX5_told_113 : decode cX5_told 113 = .ok (.ireturn, 1) := by decide +kernel
theorem dX5_told_114 : decode cX5_told 114 = .ok (.aload_n 0, 1) := by decide +kernel
theorem dX5_told_115 : decode cX5_told 115 = .ok (.getfield 57, 3) := by decide +kernel
theorem dX5_told_118 : decode cX5_told 118 = .ok (.invokevirtual 195, 3) := by decide +kernel
theorem dX5_told_121 : decode cX5_told 121 = .ok (.aload_n 0, 1) := by decide +kernel
theorem dX5_told_122 : decode cX5_told 122 = .ok (.getfield 12, 3) := by decide +kernel
theorem dX5_told_125 : decode cX5_told 125 = .ok (.getfield 83, 3) := by decide +kernel
theorem dX5_told_128 : decode cX5_told 128 = .ok (.if_icmp .ne 8, 3) := by decide +kernel
theorem dX5_told_131 : decode cX5_told 131 = .ok (.bipush (-3), 2) := by decide +kernel
theorem dX5_told_133 : decode cX5_told 133 = .ok (.goto 10, 3) := by decide +kernel
theorem dX5_told_136 : decode cX5_told 136 = .ok (.aload_n 0, 1) := by decide +kernel
theorem dX5_told_137 : decode cX5_told 137 = .ok (.getfield 57, 3) := by decide +kernel
theorem dX5_told_140 : decode cX5_told 140 = .ok (.invokevirtual 204, 3) := by decide +kernel
theorem dX5_told_143 : decode cX5_told 143 = .ok (.ireturn, 1) := by decide +kernel
theorem dX5_told_144 : decode cX5_told 144 = .ok (.aload_n 0, 1) := by decide +kernel
theorem dX5_told_145 : decode cX5_told 145 = .ok (.getfield 57, 3) := by decide +kernel
theorem dX5_told_148 : decode cX5_told 148 = .ok (.iload_n 1, 1) := by decide +kernel
theorem dX5_told_149 : decode cX5_told 149 = .ok (.invokevirtual 207, 3) := by decide +kernel
theorem dX5_told_152 : decode cX5_told 152 = .ok (.ireturn, 1) := by decide +kernel
set_option maxRecDepth 20000 in
theorem ggX5_many_X0_countOn : GoodIn wsX5_many wsX0_countOn := goodIn_r _ [12, 13, 14, 49, 50, 51, 52, 53, 54] (by decide +kernel) (by decide +kernel)
set_option maxRecDepth 20000 in
theorem gX5_many_X0_countOn : GoodIn wsX5_many (wsV RX5 213 RX0 yX0_countOn wsX0_countOn) := goodIn_app (goodIn_of _ (by decide +kernel)) ggX5_many_X0_countOn
set_option maxRecDepth 20000 in
theorem ggX5_many_X1_countLost : GoodIn wsX5_many wsX1_countLost := goodIn_r _ [19, 20, 21, 22, 23, 24, 18, 25, 26, 27, 28, 29, 30, 31, 32, 33, 34, 44, 45, 46, 47, 48] (by decide +kernel) (by decide +kernel)
set_option maxRecDepth 20000 in
theorem gX5_many_X1_countLost : GoodIn wsX5_many (wsV RX5 216 RX1 yX1_countLost wsX1_countLost) := goodIn_app (goodIn_of _ (by decide +kernel)) ggX5_many_X1_countLost
theorem dX5_many_0 : decode cX5_many 0 = .ok (.iload_n 1, 1) := by decide +kernel
theorem dX5_many_1 : decode cX5_many 1 = .ok (.tableswitch 120 0 8 #[51, 59, 67, 75, 83, 91, 99, 106, 113], 51) := by decide +kernel
theorem dX5_many_52 : decode cX5_many 52 = .ok (.aload_n 0, 1) := by decide +kernel
theorem dX5_many_53 : decode cX5_many 53 = .ok (.getfield 12, 3) := by decide +kernel
theorem dX5_many_56 : decode cX5_many 56 = .ok (.getfield 210, 3) := by decide +kernel
theorem dX5_many_59 : decode cX5_many 59 = .ok (.ireturn, 1) := by decide +kernel
theorem dX5_many_60 : decode cX5_many 60 = .ok (.aload_n 0, 1) := by decide +kernel
theorem dX5_many_61 : decode cX5_many 61 = .ok (.getfield 12, 3) := by decide +kernel
theorem dX5_many_64 : decode cX5_many 64 = .ok (.getfield 116, 3) := by decide +kernel
theorem dX5_many_67 : decode cX5_many 67 = .ok (.ireturn, 1) := by decide +kernel
theorem dX5_many_68 : decode cX5_many 68 = .ok (.aload_n 0, 1) := by decide +kernel
theorem dX5_many_69 : decode cX5_many 69 = .ok (.getfield 12, 3) := by decide +kernel
theorem dX5_many_72 : decode cX5_many 72 = .ok (.getfield 86, 3) := by decide +kernel
theorem dX5_many_75 : decode cX5_many 75 = .ok (.ireturn, 1) := by decide +kernel
theorem dX5_many_76 : decode cX5_many 76 = .ok (.aload_n 0, 1) := by decide +kernel
theorem dX5_many_77 : decode cX5_many 77 = .ok (.getfield 19, 3) := by decide +kernel
theorem dX5_many_80 : decode cX5_many 80 = .ok (.getfield 79, 3) := by decide +kernel
theorem dX5_many_83 : decode cX5_many 83 = .ok (.ireturn, 1) := by decide +kernel
theorem dX5_many_84 : decode cX5_many 84 = .ok (.aload_n 0, 1) := by decide +kernel
theorem dX5_many_85 : decode cX5_many 85 = .ok (.getfield 19, 3) := by decide +kernel
theorem dX5_many_88 : decode cX5_many 88 = .ok (.invokevirtual 213, 3) := by decide +kernel
theorem dX5_many_91 : decode cX5_many 91 = .ok (.ireturn, 1) := by decide +kernel
theorem dX5_many_92 : decode cX5_many 92 = .ok (.aload_n 0, 1) := by decide +kernel
theorem dX5_many_93 : decode cX5_many 93 = .ok (.getfield 12, 3) := by decide +kernel
theorem dX5_many_96 : decode cX5_many 96 = .ok (.invokevirtual 216, 3) := by decide +kernel
theorem dX5_many_99 : decode cX5_many 99 = .ok (.ireturn, 1) := by decide +kernel
theorem dX5_many_100 : decode cX5_many 100 = .ok (.aload_n 0, 1) := by decide +kernel
theorem dX5_many_101 : decode cX5_many 101 = .ok (.getfield 23, 3) := by decide +kernel
theorem dX5_many_104 : decode cX5_many 104 = .ok (.iconst 0, 1) := by decide +kernel
theorem dX5_many_105 : decode cX5_many 105 = .ok (.iaload, 1) := by decide +kernel
theorem dX5_many_106 : decode cX5_many 106 = .ok (.ireturn, 1) := by decide +kernel
theorem dX5_many_107 : decode cX5_many 107 = .ok (.aload_n 0, 1) := by decide +kernel
theorem dX5_many_108 : decode cX5_many 108 = .ok (.getfield 23, 3) := by decide +kernel
theorem dX5_many_111 : decode cX5_many 111 = .ok (.iconst 1, 1) := by decide +kernel
theorem dX5_many_112 : decode cX5_many 112 = .ok (.iaload, 1) := by decide +kernel
theorem dX5_many_113 : decode cX5_many 113 = .ok (.ireturn, 1) := by decide +kernel
theorem dX5_many_114 : decode cX5_many 114 = .ok (.aload_n 0, 1) := by decide +kernel
theorem dX5_many_115 : decode cX5_many 115 = .ok (.getfield 23, 3) := by decide +kernel
theorem dX5_many_118 : decode cX5_many 118 = .ok (.iconst 2, 1) := by decide +kernel
theorem dX5_many_119 : decode cX5_many 119 = .ok (.iaload, 1) := by decide +kernel
theorem dX5_many_120 : decode cX5_many 120 = .ok (.ireturn, 1) := by decide +kernel
theorem dX5_many_121 : decode cX5_many 121 = .ok (.iconst (-1), 1) := by decide +kernel
theorem dX5_many_122 : decode cX5_many 122 = .ok (.ireturn, 1) := by decide +kernel
set_option maxRecDepth 20000 in
theorem ggX5_keep_X1_copyFrom : GoodIn wsX5_keep wsX1_copyFrom := goodIn_r _ [10, 11, 12, 13, 14, 15, 16, 17, 18, 19, 40, 41, 42, 43, 44] (by decide +kernel) (by decide +kernel)
set_option maxRecDepth 20000 in
theorem gX5_keep_X1_copyFrom : GoodIn wsX5_keep (wsV RX5 217 RX1 yX1_copyFrom wsX1_copyFrom) := goodIn_app (goodIn_of _ (by decide +kernel)) ggX5_keep_X1_copyFrom
set_option maxRecDepth 20000 in
theorem ggX5_keep_X0_copyFrom : GoodIn wsX5_keep wsX0_copyFrom := goodIn_r _ [24, 25, 26, 27, 28, 29, 30, 45, 46, 47, 48, 49, 50] (by decide +kernel) (by decide +kernel)
set_option maxRecDepth 20000 in
theorem gX5_keep_X0_copyFrom : GoodIn wsX5_keep (wsV RX5 220 RX0 yX0_copyFrom wsX0_copyFrom) := goodIn_app (goodIn_of _ (by decide +kernel)) ggX5_keep_X0_copyFrom
theorem dX5_keep_0 : decode cX5_keep 0 = .ok (.aload_n 0, 1) := by decide +kernel
theorem dX5_keep_1 : decode cX5_keep 1 = .ok (.getfield 61, 3) := by decide +kernel
theorem dX5_keep_4 : decode cX5_keep 4 = .ok (.aload_n 0, 1) := by decide +kernel
theorem dX5_keep_5 : decode cX5_keep 5 = .ok (.getfield 12, 3) := by decide +kernel
theorem dX5_keep_8 : decode cX5_keep 8 = .ok (.invokevirtual 217, 3) := by decide +kernel
theorem dX5_keep_11 : decode cX5_keep 11 = .ok (.aload_n 0, 1) := by decide +kernel
theorem dX5_keep_12 : decode cX5_keep 12 = .ok (.getfield 64, 3) := by decide +kernel
theorem dX5_keep_15 : decode cX5_keep 15 = .ok (.aload_n 0, 1) := by decide +kernel
theorem dX5_keep_16 : decode cX5_keep 16 = .ok (.getfield 19, 3) := by decide +kernel
theorem dX5_keep_19 : decode cX5_keep 19 = .ok (.invokevirtual 220, 3) := by decide +kernel
theorem dX5_keep_22 : decode cX5_keep 22 = .ok (.aload_n 0, 1) := by decide +kernel
theorem dX5_keep_23 : decode cX5_keep 23 = .ok (.iconst 1, 1) := by decide +kernel
theorem dX5_keep_24 : decode cX5_keep 24 = .ok (.putfield 67, 3) := by decide +kernel
theorem dX5_keep_27 : decode cX5_keep 27 = .ok (.iconst 1, 1) := by decide +kernel
theorem dX5_keep_28 : decode cX5_keep 28 = .ok (.ireturn, 1) := by decide +kernel
set_option maxRecDepth 20000 in
theorem ggX5_back_X1_copyFrom : GoodIn wsX5_back wsX1_copyFrom := goodIn_r _ [10, 11, 12, 13, 14, 15, 16, 17, 18, 19, 40, 41, 42, 43, 44] (by decide +kernel) (by decide +kernel)
set_option maxRecDepth 20000 in
theorem gX5_back_X1_copyFrom : GoodIn wsX5_back (wsV RX5 217 RX1 yX1_copyFrom wsX1_copyFrom) := goodIn_app (goodIn_of _ (by decide +kernel)) ggX5_back_X1_copyFrom
set_option maxRecDepth 20000 in
theorem ggX5_back_X0_copyFrom : GoodIn wsX5_back wsX0_copyFrom := goodIn_r _ [24, 25, 26, 27, 28, 29, 30, 45, 46, 47, 48, 49, 50] (by decide +kernel) (by decide +kernel)
set_option maxRecDepth 20000 in
theorem gX5_back_X0_copyFrom : GoodIn wsX5_back (wsV RX5 220 RX0 yX0_copyFrom wsX0_copyFrom) := goodIn_app (goodIn_of _ (by decide +kernel)) ggX5_back_X0_copyFrom
theorem dX5_back_0 : decode cX5_back 0 = .ok (.aload_n 0, 1) := by decide +kernel
theorem dX5_back_1 : decode cX5_back 1 = .ok (.getfield 67, 3) := by decide +kernel
theorem dX5_back_4 : decode cX5_back 4 = .ok (.ifCond .ne 6, 3) := by decide +kernel
theorem dX5_back_7 : decode cX5_back 7 = .ok (.bipush (-3), 2) := by decide +kernel
theorem dX5_back_9 : decode cX5_back 9 = .ok (.ireturn, 1) := by decide +kernel
theorem dX5_back_10 : decode cX5_back 10 = .ok (.aload_n 0, 1) := by decide +kernel
theorem dX5_back_11 : decode cX5_back 11 = .ok (.getfield 12, 3) := by decide +kernel
theorem dX5_back_14 : decode cX5_back 14 = .ok (.aload_n 0, 1) := by decide +kernel
theorem dX5_back_15 : decode cX5_back 15 = .ok (.getfield 61, 3) := by decide +kernel
theorem dX5_back_18 : decode cX5_back 18 = .ok (.invokevirtual 217, 3) := by decide +kernel
theorem dX5_back_21 : decode cX5_back 21 = .ok (.aload_n 0, 1) := by decide +kernel
theorem dX5_back_22 : decode cX5_back 22 = .ok (.getfield 19, 3) := by decide +kernel
theorem dX5_back_25 : decode cX5_back 25 = .ok (.aload_n 0, 1) := by decide +kernel
theorem dX5_back_26 : decode cX5_back 26 = .ok (.getfield 64, 3) := by decide +kernel
theorem dX5_back_29 : decode cX5_back 29 = .ok (.invokevirtual 220, 3) := by decide +kernel
theorem dX5_back_32 : decode cX5_back 32 = .ok (.iconst 1, 1) := by decide +kernel
theorem dX5_back_33 : decode cX5_back 33 = .ok (.ireturn, 1) := by decide +kernel
set_option maxRecDepth 20000 in
theorem ggX5_findPath_X3_find : GoodIn wsX5_findPath wsX3_find := goodIn_r _ [10, 11, 12, 13, 14, 15, 16, 17, 18, 19, 9, 20, 21, 22, 23, 24, 25, 26, 27, 28, 29, 30, 31, 32, 33, 34, 35, 36, 37, 38, 39, 40, 41, 42, 43, 44, 45, 46, 47, 48, 49, 50, 51, 52, 53, 54, 55, 56, 57, 58, 59, 60, 61, 62, 63, 64, 135, 136, 137, 138, 139, 140, 141, 130, 131, 132, 133, 134] (by decide +kernel) (by decide +kernel)
set_option maxRecDepth 20000 in
theorem gX5_findPath_X3_find : GoodIn wsX5_findPath (wsV RX5 141 RX3 yX3_find wsX3_find) := goodIn_app (goodIn_of _ (by decide +kernel)) ggX5_findPath_X3_find
set_option maxRecDepth 20000 in
theorem ggX5_findPath_X3_along : GoodIn wsX5_findPath wsX3_along := goodIn_r _ [68, 11, 12, 135, 136, 137, 138, 139, 140, 141] (by decide +kernel) (by decide +kernel)
set_option maxRecDepth 20000 in
theorem gX5_findPath_X3_along : GoodIn wsX5_findPath (wsV RX5 145 RX3 yX3_along wsX3_along) := goodIn_app (goodIn_of _ (by decide +kernel)) ggX5_findPath_X3_along
set_option maxRecDepth 20000 in
theorem ggX5_findPath_X4_setDrift : GoodIn wsX5_findPath wsX4_setDrift := goodIn_r _ [73, 74, 142, 143, 144, 145, 146, 147] (by decide +kernel) (by decide +kernel)
set_option maxRecDepth 20000 in
theorem gX5_findPath_X4_setDrift : GoodIn wsX5_findPath (wsV RX5 223 RX4 yX4_setDrift wsX4_setDrift) := goodIn_app (goodIn_of _ (by decide +kernel)) ggX5_findPath_X4_setDrift
set_option maxRecDepth 20000 in
theorem ggX5_findPath_X4_solve : GoodIn wsX5_findPath wsX4_solve := goodIn_r _ [78, 79, 80, 81, 74, 82, 83, 84, 85, 86, 87, 88, 89, 72, 90, 91, 92, 93, 94, 95, 96, 97, 98, 99, 24, 25, 26, 100, 101, 102, 103, 104, 32, 33, 105, 106, 107, 108, 109, 110, 111, 112, 113, 114, 115, 116, 117, 118, 119, 120, 142, 143, 144, 145, 146, 147] (by decide +kernel) (by decide +kernel)
set_option maxRecDepth 20000 in
theorem gX5_findPath_X4_solve : GoodIn wsX5_findPath (wsV RX5 226 RX4 yX4_solve wsX4_solve) := goodIn_app (goodIn_of _ (by decide +kernel)) ggX5_findPath_X4_solve
theorem dX5_findPath_0 : decode cX5_findPath 0 = .ok (.iconst 0, 1) := by decide +kernel
theorem dX5_findPath_1 : decode cX5_findPath 1 = .ok (.istore_n 2, 1) := by decide +kernel
theorem dX5_findPath_2 : decode cX5_findPath 2 = .ok (.iconst 0, 1) := by decide +kernel
theorem dX5_findPath_3 : decode cX5_findPath 3 = .ok (.istore_n 3, 1) := by decide +kernel
theorem dX5_findPath_4 : decode cX5_findPath 4 = .ok (.iload_n 3, 1) := by decide +kernel
theorem dX5_findPath_5 : decode cX5_findPath 5 = .ok (.aload_n 0, 1) := by decide +kernel
theorem dX5_findPath_6 : decode cX5_findPath 6 = .ok (.getfield 12, 3) := by decide +kernel
theorem dX5_findPath_9 : decode cX5_findPath 9 = .ok (.getfield 86, 3) := by decide +kernel
theorem dX5_findPath_12 : decode cX5_findPath 12 = .ok (.if_icmp .ge 41, 3) := by decide +kernel
theorem dX5_findPath_15 : decode cX5_findPath 15 = .ok (.iload_n 3, 1) := by decide +kernel
theorem dX5_findPath_16 : decode cX5_findPath 16 = .ok (.ifCond .le 22, 3) := by decide +kernel
theorem dX5_findPath_19 : decode cX5_findPath 19 = .ok (.aload_n 0, 1) := by decide +kernel
theorem dX5_findPath_20 : decode cX5_findPath 20 = .ok (.getfield 41, 3) := by decide +kernel
theorem dX5_findPath_23 : decode cX5_findPath 23 = .ok (.iload_n 3, 1) := by decide +kernel
theorem dX5_findPath_24 : decode cX5_findPath 24 = .ok (.invokevirtual 141, 3) := by decide +kernel
theorem dX5_findPath_27 : decode cX5_findPath 27 = .ok (.iload_n 2, 1) := by decide +kernel
theorem dX5_findPath_28 : decode cX5_findPath 28 = .ok (.aload_n 0, 1) := by decide +kernel
theorem dX5_findPath_29 : decode cX5_findPath 29 = .ok (.getfield 41, 3) := by decide +kernel
theorem dX5_findPath_32 : decode cX5_findPath 32 = .ok (.iload_n 1, 1) := by decide +kernel
theorem dX5_findPath_33 : decode cX5_findPath 33 = .ok (.invokevirtual 145, 3) := by decide +kernel
theorem dX5_findPath_36 : decode cX5_findPath 36 = .ok (.iadd, 1) := by decide +kernel
theorem dX5_findPath_37 : decode cX5_findPath 37 = .ok (.istore_n 2, 1) := by decide +kernel
theorem dX5_findPath_38 : decode cX5_findPath 38 = .ok (.aload_n 0, 1) := by decide +kernel
theorem dX5_findPath_39 : decode cX5_findPath 39 = .ok (.getfield 48, 3) := by decide +kernel
theorem dX5_findPath_42 : decode cX5_findPath 42 = .ok (.iload_n 3, 1) := by decide +kernel
theorem dX5_findPath_43 : decode cX5_findPath 43 = .ok (.iload_n 2, 1) := by decide +kernel
theorem dX5_findPath_44 : decode cX5_findPath 44 = .ok (.invokevirtual 223, 3) := by decide +kernel
theorem dX5_findPath_47 : decode cX5_findPath 47 = .ok (.iinc 3 1, 3) := by decide +kernel
theorem dX5_findPath_50 : decode cX5_findPath 50 = .ok (.goto (-46), 3) := by decide +kernel
theorem dX5_findPath_53 : decode cX5_findPath 53 = .ok (.aload_n 0, 1) := by decide +kernel
theorem dX5_findPath_54 : decode cX5_findPath 54 = .ok (.getfield 48, 3) := by decide +kernel
theorem dX5_findPath_57 : decode cX5_findPath 57 = .ok (.aload_n 0, 1) := by decide +kernel
theorem dX5_findPath_58 : decode cX5_findPath 58 = .ok (.getfield 12, 3) := by decide +kernel
theorem dX5_findPath_61 : decode cX5_findPath 61 = .ok (.getfield 86, 3) := by decide +kernel
theorem dX5_findPath_64 : decode cX5_findPath 64 = .ok (.aload_n 0, 1) := by decide +kernel
theorem dX5_findPath_65 : decode cX5_findPath 65 = .ok (.getfield 23, 3) := by decide +kernel
theorem dX5_findPath_68 : decode cX5_findPath 68 = .ok (.iconst 0, 1) := by decide +kernel
theorem dX5_findPath_69 : decode cX5_findPath 69 = .ok (.iaload, 1) := by decide +kernel
theorem dX5_findPath_70 : decode cX5_findPath 70 = .ok (.invokevirtual 226, 3) := by decide +kernel
theorem dX5_findPath_73 : decode cX5_findPath 73 = .ok (.return_, 1) := by decide +kernel
theorem dX5_isWithin_0 : decode cX5_isWithin 0 = .ok (.iload_n 0, 1) := by decide +kernel
theorem dX5_isWithin_1 : decode cX5_isWithin 1 = .ok (.iload_n 1, 1) := by decide +kernel
theorem dX5_isWithin_2 : decode cX5_isWithin 2 = .ok (.if_icmp .lt 12, 3) := by decide +kernel
theorem dX5_isWithin_5 : decode cX5_isWithin 5 = .ok (.iload_n 0, 1) := by decide +kernel
theorem dX5_isWithin_6 : decode cX5_isWithin 6 = .ok (.iload_n 2, 1) := by decide +kernel
theorem dX5_isWithin_7 : decode cX5_isWithin 7 = .ok (.if_icmp .gt 7, 3) := by decide +kernel
theorem dX5_isWithin_10 : decode cX5_isWithin 10 = .ok (.iconst 1, 1) := by decide +kernel
theorem dX5_isWithin_11 : decode cX5_isWithin 11 = .ok (.goto 4, 3) := by decide +kernel
theorem dX5_isWithin_14 : decode cX5_isWithin 14 = .ok (.iconst 0, 1) := by decide +kernel
theorem dX5_isWithin_15 : decode cX5_isWithin 15 = .ok (.ireturn, 1) := by decide +kernel
theorem dX5_commonDivisor_0 : decode cX5_commonDivisor 0 = .ok (.iload_n 0, 1) := by decide +kernel
theorem dX5_commonDivisor_1 : decode cX5_commonDivisor 1 = .ok (.istore_n 2, 1) := by decide +kernel
theorem dX5_commonDivisor_2 : decode cX5_commonDivisor 2 = .ok (.iload_n 1, 1) := by decide +kernel
theorem dX5_commonDivisor_3 : decode cX5_commonDivisor 3 = .ok (.istore_n 3, 1) := by decide +kernel
theorem dX5_commonDivisor_4 : decode cX5_commonDivisor 4 = .ok (.iconst 0, 1) := by decide +kernel
theorem dX5_commonDivisor_5 : decode cX5_commonDivisor 5 = .ok (.istore 4, 2) := by decide +kernel
theorem dX5_commonDivisor_7 : decode cX5_commonDivisor 7 = .ok (.iload 4, 2) := by decide +kernel
theorem dX5_commonDivisor_9 : decode cX5_commonDivisor 9 = .ok (.bipush 100, 2) := by decide +kernel
theorem dX5_commonDivisor_11 : decode cX5_commonDivisor 11 = .ok (.if_icmp .ge 23, 3) := by decide +kernel
theorem dX5_commonDivisor_14 : decode cX5_commonDivisor 14 = .ok (.iload_n 3, 1) := by decide +kernel
theorem dX5_commonDivisor_15 : decode cX5_commonDivisor 15 = .ok (.ifCond .eq 19, 3) := by decide +kernel
theorem dX5_commonDivisor_18 : decode cX5_commonDivisor 18 = .ok (.iload_n 2, 1) := by decide +kernel
theorem dX5_commonDivisor_19 : decode cX5_commonDivisor 19 = .ok (.iload_n 3, 1) := by decide +kernel
theorem dX5_commonDivisor_20 : decode cX5_commonDivisor 20 = .ok (.irem, 1) := by decide +kernel
theorem dX5_commonDivisor_21 : decode cX5_commonDivisor 21 = .ok (.istore 5, 2) := by decide +kernel
theorem dX5_commonDivisor_23 : decode cX5_commonDivisor 23 = .ok (.iload_n 3, 1) := by decide +kernel
theorem dX5_commonDivisor_24 : decode cX5_commonDivisor 24 = .ok (.istore_n 2, 1) := by decide +kernel
theorem dX5_commonDivisor_25 : decode cX5_commonDivisor 25 = .ok (.iload 5, 2) := by decide +kernel
theorem dX5_commonDivisor_27 : decode cX5_commonDivisor 27 = .ok (.istore_n 3, 1) := by decide +kernel
theorem dX5_commonDivisor_28 : decode cX5_commonDivisor 28 = .ok (.iinc 4 1, 3) := by decide +kernel
theorem dX5_commonDivisor_31 : decode cX5_commonDivisor 31 = .ok (.goto (-24), 3) := by decide +kernel
theorem dX5_commonDivisor_34 : decode cX5_commonDivisor 34 = .ok (.iload_n 2, 1) := by decide +kernel
theorem dX5_commonDivisor_35 : decode cX5_commonDivisor 35 = .ok (.ireturn, 1) := by decide +kernel
end
section
theorem dX6_init_0 : decode cX6_init 0 = .ok (.aload_n 0, 1) := by decide +kernel
theorem dX6_init_1 : decode cX6_init 1 = .ok (.invokespecial 1, 3) := by decide +kernel
theorem dX6_init_4 : decode cX6_init 4 = .ok (.aload_n 0, 1) := by decide +kernel
theorem dX6_init_5 : decode cX6_init 5 = .ok (.iconst 2, 1) := by decide +kernel
theorem dX6_init_6 : decode cX6_init 6 = .ok (.putfield 7, 3) := by decide +kernel
theorem dX6_init_9 : decode cX6_init 9 = .ok (.aload_n 0, 1) := by decide +kernel
theorem dX6_init_10 : decode cX6_init 10 = .ok (.iconst 2, 1) := by decide +kernel
theorem dX6_init_11 : decode cX6_init 11 = .ok (.putfield 13, 3) := by decide +kernel
theorem dX6_init_14 : decode cX6_init 14 = .ok (.aload_n 0, 1) := by decide +kernel
theorem dX6_init_15 : decode cX6_init 15 = .ok (.sipush 360, 3) := by decide +kernel
theorem dX6_init_18 : decode cX6_init 18 = .ok (.newarray .int, 2) := by decide +kernel
theorem dX6_init_20 : decode cX6_init 20 = .ok (.putfield 16, 3) := by decide +kernel
theorem dX6_init_23 : decode cX6_init 23 = .ok (.aload_n 0, 1) := by decide +kernel
theorem dX6_init_24 : decode cX6_init 24 = .ok (.bipush 12, 2) := by decide +kernel
theorem dX6_init_26 : decode cX6_init 26 = .ok (.newarray .int, 2) := by decide +kernel
theorem dX6_init_28 : decode cX6_init 28 = .ok (.putfield 20, 3) := by decide +kernel
theorem dX6_init_31 : decode cX6_init 31 = .ok (.aload_n 0, 1) := by decide +kernel
theorem dX6_init_32 : decode cX6_init 32 = .ok (.bipush 12, 2) := by decide +kernel
theorem dX6_init_34 : decode cX6_init 34 = .ok (.newarray .int, 2) := by decide +kernel
theorem dX6_init_36 : decode cX6_init 36 = .ok (.putfield 23, 3) := by decide +kernel
theorem dX6_init_39 : decode cX6_init 39 = .ok (.aload_n 0, 1) := by decide +kernel
theorem dX6_init_40 : decode cX6_init 40 = .ok (.bipush 12, 2) := by decide +kernel
theorem dX6_init_42 : decode cX6_init 42 = .ok (.newarray .int, 2) := by decide +kernel
theorem dX6_init_44 : decode cX6_init 44 = .ok (.putfield 26, 3) := by decide +kernel
theorem dX6_init_47 : decode cX6_init 47 = .ok (.aload_n 0, 1) := by decide +kernel
theorem dX6_init_48 : decode cX6_init 48 = .ok (.bipush 12, 2) := by decide +kernel
theorem dX6_init_50 : decode cX6_init 50 = .ok (.newarray .int, 2) := by decide +kernel
theorem dX6_init_52 : decode cX6_init 52 = .ok (.putfield 29, 3) := by decide +kernel
theorem dX6_init_55 : decode cX6_init 55 = .ok (.aload_n 0, 1) := by decide +kernel
theorem dX6_init_56 : decode cX6_init 56 = .ok (.bipush 12, 2) := by decide +kernel
theorem dX6_init_58 : decode cX6_init 58 = .ok (.newarray .boolean, 2) := by decide +kernel
theorem dX6_init_60 : decode cX6_init 60 = .ok (.putfield 32, 3) := by decide +kernel
theorem dX6_init_63 : decode cX6_init 63 = .ok (.aload_n 0, 1) := by decide +kernel
theorem dX6_init_64 : decode cX6_init 64 = .ok (.iconst 3, 1) := by decide +kernel
theorem dX6_init_65 : decode cX6_init 65 = .ok (.newarray .int, 2) := by decide +kernel
theorem dX6_init_67 : decode cX6_init 67 = .ok (.dup, 1) := by decide +kernel
theorem dX6_init_68 : decode cX6_init 68 = .ok (.iconst 0, 1) := by decide +kernel
theorem dX6_init_69 : decode cX6_init 69 = .ok (.iconst 1, 1) := by decide +kernel
theorem dX6_init_70 : decode cX6_init 70 = .ok (.iastore, 1) := by decide +kernel
theorem dX6_init_71 : decode cX6_init 71 = .ok (.dup, 1) := by decide +kernel
theorem dX6_init_72 : decode cX6_init 72 = .ok (.iconst 1, 1) := by decide +kernel
theorem dX6_init_73 : decode cX6_init 73 = .ok (.iconst 2, 1) := by decide +kernel
theorem dX6_init_74 : decode cX6_init 74 = .ok (.iastore, 1) := by decide +kernel
theorem dX6_init_75 : decode cX6_init 75 = .ok (.dup, 1) := by decide +kernel
theorem dX6_init_76 : decode cX6_init 76 = .ok (.iconst 2, 1) := by decide +kernel
theorem dX6_init_77 : decode cX6_init 77 = .ok (.iconst 5, 1) := by decide +kernel
theorem dX6_init_78 : decode cX6_init 78 = .ok (.iastore, 1) := by decide +kernel
theorem dX6_init_79 : decode cX6_init 79 = .ok (.putfield 36, 3) := by decide +kernel
theorem dX6_init_82 : decode cX6_init 82 = .ok (.aload_n 0, 1) := by decide +kernel
theorem dX6_init_83 : decode cX6_init 83 = .ok (.sipush 360, 3) := by decide +kernel
theorem dX6_init_86 : decode cX6_init 86 = .ok (.newarray .int, 2) := by decide +kernel
theorem dX6_init_88 : decode cX6_init 88 = .ok (.putfield 39, 3) := by decide +kernel
theorem dX6_init_91 : decode cX6_init 91 = .ok (.aload_n 0, 1) := by decide +kernel
theorem dX6_init_92 : decode cX6_init 92 = .ok (.bipush 12, 2) := by decide +kernel
theorem dX6_init_94 : decode cX6_init 94 = .ok (.newarray .int, 2) := by decide +kernel
theorem dX6_init_96 : decode cX6_init 96 = .ok (.putfield 42, 3) := by decide +kernel
theorem dX6_init_99 : decode cX6_init 99 = .ok (.aload_n 0, 1) := by decide +kernel
theorem dX6_init_100 : decode cX6_init 100 = .ok (.bipush 12, 2) := by decide +kernel
theorem dX6_init_102 : decode cX6_init 102 = .ok (.newarray .int, 2) := by decide +kernel
theorem dX6_init_104 : decode cX6_init 104 = .ok (.putfield 45, 3) := by decide +kernel
theorem dX6_init_107 : decode cX6_init 107 = .ok (.aload_n 0, 1) := by decide +kernel
theorem dX6_init_108 : decode cX6_init 108 = .ok (.bipush 12, 2) := by decide +kernel
theorem dX6_init_110 : decode cX6_init 110 = .ok (.newarray .int, 2) := by decide +kernel
theorem dX6_init_112 : decode cX6_init 112 = .ok (.putfield 48, 3) := by decide +kernel
theorem dX6_init_115 : decode cX6_init 115 = .ok (.aload_n 0, 1) := by decide +kernel
theorem dX6_init_116 : decode cX6_init 116 = .ok (.bipush 12, 2) := by decide +kernel
theorem dX6_init_118 : decode cX6_init 118 = .ok (.newarray .int, 2) := by decide +kernel
theorem dX6_init_120 : decode cX6_init 120 = .ok (.putfield 51, 3) := by decide +kernel
theorem dX6_init_123 : decode cX6_init 123 = .ok (.aload_n 0, 1) := by decide +kernel
theorem dX6_init_124 : decode cX6_init 124 = .ok (.bipush 12, 2) := by decide +kernel
theorem dX6_init_126 : decode cX6_init 126 = .ok (.newarray .boolean, 2) := by decide +kernel
theorem dX6_init_128 : decode cX6_init 128 = .ok (.putfield 54, 3) := by decide +kernel
theorem dX6_init_131 : decode cX6_init 131 = .ok (.aload_n 0, 1) := by decide +kernel
theorem dX6_init_132 : decode cX6_init 132 = .ok (.bipush 10, 2) := by decide +kernel
theorem dX6_init_134 : decode cX6_init 134 = .ok (.newarray .int, 2) := by decide +kernel
theorem dX6_init_136 : decode cX6_init 136 = .ok (.putfield 57, 3) := by decide +kernel
theorem dX6_init_139 : decode cX6_init 139 = .ok (.aload_n 0, 1) := by decide +kernel
theorem dX6_init_140 : decode cX6_init 140 = .ok (.bipush 10, 2) := by decide +kernel
theorem dX6_init_142 : decode cX6_init 142 = .ok (.newarray .int, 2) := by decide +kernel
theorem dX6_init_144 : decode cX6_init 144 = .ok (.putfield 60, 3) := by decide +kernel
theorem dX6_init_147 : decode cX6_init 147 = .ok (.aload_n 0, 1) := by decide +kernel
theorem dX6_init_148 : decode cX6_init 148 = .ok (.sipush 490, 3) := by decide +kernel
theorem dX6_init_151 : decode cX6_init 151 = .ok (.newarray .int, 2) := by decide +kernel
theorem dX6_init_153 : decode cX6_init 153 = .ok (.putfield 63, 3) := by decide +kernel
theorem dX6_init_156 : decode cX6_init 156 = .ok (.aload_n 0, 1) := by decide +kernel
theorem dX6_init_157 : decode cX6_init 157 = .ok (.bipush 36, 2) := by decide +kernel
theorem dX6_init_159 : decode cX6_init 159 = .ok (.newarray .int, 2) := by decide +kernel
theorem dX6_init_161 : decode cX6_init 161 = .ok (.putfield 66, 3) := by decide +kernel
theorem dX6_init_164 : decode cX6_init 164 = .ok (.aload_n 0, 1) := by decide +kernel
theorem dX6_init_165 : decode cX6_init 165 = .ok (.bipush 36, 2) := by decide +kernel
theorem dX6_init_167 : decode cX6_init 167 = .ok (.newarray .int, 2) := by decide +kernel
theorem dX6_init_169 : decode cX6_init 169 = .ok (.putfield 69, 3) := by decide +kernel
theorem dX6_init_172 : decode cX6_init 172 = .ok (.return_, 1) := by decide +kernel
theorem dX6_in_0 : decode cX6_in 0 = .ok (.iload_n 0, 1) := by decide +kernel
theorem dX6_in_1 : decode cX6_in 1 = .ok (.iload_n 1, 1) := by decide +kernel
theorem dX6_in_2 : decode cX6_in 2 = .ok (.if_icmp .lt 12, 3) := by decide +kernel
theorem dX6_in_5 : decode cX6_in 5 = .ok (.iload_n 0, 1) := by decide +kernel
theorem dX6_in_6 : decode cX6_in 6 = .ok (.iload_n 2, 1) := by decide +kernel
theorem dX6_in_7 : decode cX6_in 7 = .ok (.if_icmp .gt 7, 3) := by decide +kernel
theorem dX6_in_10 : decode cX6_in 10 = .ok (.iconst 1, 1) := by decide +kernel
theorem dX6_in_11 : decode cX6_in 11 = .ok (.goto 4, 3) := by decide +kernel
theorem dX6_in_14 : decode cX6_in 14 = .ok (.iconst 0, 1) := by decide +kernel
theorem dX6_in_15 : decode cX6_in 15 = .ok (.ireturn, 1) := by decide +kernel
set_option maxRecDepth 20000 in
theorem ggX6_isFrame_X6_in : GoodIn wsX6_isFrame wsX6_in := goodIn_r _ [5] (by decide +kernel) (by decide +kernel)
set_option maxRecDepth 20000 in
theorem gX6_isFrame_X6_in : GoodIn wsX6_isFrame (va_wsS RX6 75 yX6_in wsX6_in) := goodIn_app (goodIn_of _ (by decide +kernel)) ggX6_isFrame_X6_in
theorem dX6_isFrame_0 : decode cX6_isFrame 0 = .ok (.iload_n 1, 1) := by decide +kernel
theorem dX6_isFrame_1 : decode cX6_isFrame 1 = .ok (.iconst 0, 1) := by decide +kernel
theorem dX6_isFrame_2 : decode cX6_isFrame 2 = .ok (.aload_n 0, 1) := by decide +kernel
theorem dX6_isFrame_3 : decode cX6_isFrame 3 = .ok (.getfield 72, 3) := by decide +kernel
theorem dX6_isFrame_6 : decode cX6_isFrame 6 = .ok (.iconst 1, 1) := by decide +kernel
theorem dX6_isFrame_7 : decode cX6_isFrame 7 = .ok (.isub, 1) := by decide +kernel
theorem dX6_isFrame_8 : decode cX6_isFrame 8 = .ok (.invokestatic 75, 3) := by decide +kernel
theorem dX6_isFrame_11 : decode cX6_isFrame 11 = .ok (.ireturn, 1) := by decide +kernel
set_option maxRecDepth 20000 in
theorem ggX6_isSquare_X6_in : GoodIn wsX6_isSquare wsX6_in := goodIn_r _ [6] (by decide +kernel) (by decide +kernel)
set_option maxRecDepth 20000 in
theorem gX6_isSquare_X6_in : GoodIn wsX6_isSquare (va_wsS RX6 75 yX6_in wsX6_in) := goodIn_app (goodIn_of _ (by decide +kernel)) ggX6_isSquare_X6_in
theorem dX6_isSquare_0 : decode cX6_isSquare 0 = .ok (.iload_n 1, 1) := by decide +kernel
theorem dX6_isSquare_1 : decode cX6_isSquare 1 = .ok (.iconst 0, 1) := by decide +kernel
theorem dX6_isSquare_2 : decode cX6_isSquare 2 = .ok (.aload_n 0, 1) := by decide +kernel
theorem dX6_isSquare_3 : decode cX6_isSquare 3 = .ok (.getfield 7, 3) := by decide +kernel
theorem dX6_isSquare_6 : decode cX6_isSquare 6 = .ok (.iconst 1, 1) := by decide +kernel
theorem dX6_isSquare_7 : decode cX6_isSquare 7 = .ok (.isub, 1) := by decide +kernel
theorem dX6_isSquare_8 : decode cX6_isSquare 8 = .ok (.invokestatic 75, 3) := by decide +kernel
theorem dX6_isSquare_11 : decode cX6_isSquare 11 = .ok (.ifCond .eq 21, 3) := by decide +kernel
theorem dX6_isSquare_14 : decode cX6_isSquare 14 = .ok (.iload_n 2, 1) := by decide +kernel
theorem dX6_isSquare_15 : decode cX6_isSquare 15 = .ok (.iconst 0, 1) := by decide +kernel
theorem dX6_isSquare_16 : decode cX6_isSquare 16 = .ok (.aload_n 0, 1) := by decide +kernel
theorem dX6_isSquare_17 : decode cX6_isSquare 17 = .ok (.getfield 13, 3) := by decide +kernel
theorem dX6_isSquare_20 : decode cX6_isSquare 20 = .ok (.iconst 1, 1) := by decide +kernel
theorem dX6_isSquare_21 : decode cX6_isSquare 21 = .ok (.isub, 1) := by decide +kernel
theorem dX6_isSquare_22 : decode cX6_isSquare 22 = .ok (.invokestatic 75, 3) := by decide +kernel
theorem dX6_isSquare_25 : decode cX6_isSquare 25 = .ok (.ifCond .eq 7, 3) := by decide +kernel
theorem dX6_isSquare_28 : decode cX6_isSquare 28 = .ok (.iconst 1, 1) := by decide +kernel
theorem dX6_isSquare_29 : decode cX6_isSquare 29 = .ok (.goto 4, 3) := by decide +kernel
theorem dX6_isSquare_32 : decode cX6_isSquare 32 = .ok (.iconst 0, 1) := by decide +kernel
theorem dX6_isSquare_33 : decode cX6_isSquare 33 = .ok (.ireturn, 1) := by decide +kernel
theorem dX6_at_0 : decode cX6_at 0 = .ok (.bipush 36, 2) := by decide +kernel
theorem dX6_at_2 : decode cX6_at 2 = .ok (.iload_n 1, 1) := by decide +kernel
theorem dX6_at_3 : decode cX6_at 3 = .ok (.imul, 1) := by decide +kernel
theorem dX6_at_4 : decode cX6_at 4 = .ok (.aload_n 0, 1) := by decide +kernel
theorem dX6_at_5 : decode cX6_at 5 = .ok (.getfield 13, 3) := by decide +kernel
theorem dX6_at_8 : decode cX6_at 8 = .ok (.iload_n 2, 1) := by decide +kernel
theorem dX6_at_9 : decode cX6_at 9 = .ok (.imul, 1) := by decide +kernel
theorem dX6_at_10 : decode cX6_at 10 = .ok (.iadd, 1) := by decide +kernel
theorem dX6_at_11 : decode cX6_at 11 = .ok (.iload_n 3, 1) := by decide +kernel
theorem dX6_at_12 : decode cX6_at 12 = .ok (.iadd, 1) := by decide +kernel
theorem dX6_at_13 : decode cX6_at 13 = .ok (.ireturn, 1) := by decide +kernel
set_option maxRecDepth 20000 in
theorem ggX6_reel_X6_in : GoodIn wsX6_reel wsX6_in := goodIn_r _ [8] (by decide +kernel) (by decide +kernel)
set_option maxRecDepth 20000 in
theorem gX6_reel_X6_in : GoodIn wsX6_reel (va_wsS RX6 75 yX6_in wsX6_in) := goodIn_app (goodIn_of _ (by decide +kernel)) ggX6_reel_X6_in
theorem dX6_reel_0 : decode cX6_reel 0 = .ok (.iload_n 1, 1) := by decide +kernel
theorem dX6_reel_1 : decode cX6_reel 1 = .ok (.iconst 2, 1) := by decide +kernel
theorem dX6_reel_2 : decode cX6_reel 2 = .ok (.bipush 6, 2) := by decide +kernel
theorem dX6_reel_4 : decode cX6_reel 4 = .ok (.invokestatic 75, 3) := by decide +kernel
theorem dX6_reel_7 : decode cX6_reel 7 = .ok (.ifCond .eq 13, 3) := by decide +kernel
theorem dX6_reel_10 : decode cX6_reel 10 = .ok (.iload_n 2, 1) := by decide +kernel
theorem dX6_reel_11 : decode cX6_reel 11 = .ok (.iconst 2, 1) := by decide +kernel
theorem dX6_reel_12 : decode cX6_reel 12 = .ok (.bipush 6, 2) := by decide +kernel
theorem dX6_reel_14 : decode cX6_reel 14 = .ok (.invokestatic 75, 3) := by decide +kernel
theorem dX6_reel_17 : decode cX6_reel 17 = .ok (.ifCond .ne 5, 3) := by decide +kernel
theorem dX6_reel_20 : decode cX6_reel 20 = .ok (.iconst (-1), 1) := by decide +kernel
theorem dX6_reel_21 : decode cX6_reel 21 = .ok (.ireturn, 1) := by decide +kernel
theorem dX6_reel_22 : decode cX6_reel 22 = .ok (.aload_n 0, 1) := by decide +kernel
theorem dX6_reel_23 : decode cX6_reel 23 = .ok (.iload_n 1, 1) := by decide +kernel
theorem dX6_reel_24 : decode cX6_reel 24 = .ok (.putfield 7, 3) := by decide +kernel
theorem dX6_reel_27 : decode cX6_reel 27 = .ok (.aload_n 0, 1) := by decide +kernel
theorem dX6_reel_28 : decode cX6_reel 28 = .ok (.iload_n 2, 1) := by decide +kernel
theorem dX6_reel_29 : decode cX6_reel 29 = .ok (.putfield 13, 3) := by decide +kernel
theorem dX6_reel_32 : decode cX6_reel 32 = .ok (.aload_n 0, 1) := by decide +kernel
theorem dX6_reel_33 : decode cX6_reel 33 = .ok (.iconst 0, 1) := by decide +kernel
theorem dX6_reel_34 : decode cX6_reel 34 = .ok (.putfield 72, 3) := by decide +kernel
theorem dX6_reel_37 : decode cX6_reel 37 = .ok (.aload_n 0, 1) := by decide +kernel
theorem dX6_reel_38 : decode cX6_reel 38 = .ok (.iconst 0, 1) := by decide +kernel
theorem dX6_reel_39 : decode cX6_reel 39 = .ok (.putfield 79, 3) := by decide +kernel
theorem dX6_reel_42 : decode cX6_reel 42 = .ok (.iload_n 1, 1) := by decide +kernel
theorem dX6_reel_43 : decode cX6_reel 43 = .ok (.iload_n 2, 1) := by decide +kernel
theorem dX6_reel_44 : decode cX6_reel 44 = .ok (.imul, 1) := by decide +kernel
theorem dX6_reel_45 : decode cX6_reel 45 = .ok (.ireturn, 1) := by decide +kernel
theorem dX6_frame_0 : decode cX6_frame 0 = .ok (.aload_n 0, 1) := by decide +kernel
theorem dX6_frame_1 : decode cX6_frame 1 = .ok (.getfield 72, 3) := by decide +kernel
theorem dX6_frame_4 : decode cX6_frame 4 = .ok (.bipush 10, 2) := by decide +kernel
theorem dX6_frame_6 : decode cX6_frame 6 = .ok (.if_icmp .ne 6, 3) := by decide +kernel
theorem dX6_frame_9 : decode cX6_frame 9 = .ok (.bipush (-2), 2) := by decide +kernel
theorem dX6_frame_11 : decode cX6_frame 11 = .ok (.ireturn, 1) := by decide +kernel
theorem dX6_frame_12 : decode cX6_frame 12 = .ok (.iconst 0, 1) := by decide +kernel
theorem dX6_frame_13 : decode cX6_frame 13 = .ok (.istore_n 1, 1) := by decide +kernel
theorem dX6_frame_14 : decode cX6_frame 14 = .ok (.iload_n 1, 1) := by decide +kernel
theorem dX6_frame_15 : decode cX6_frame 15 = .ok (.bipush 36, 2) := by decide +kernel
theorem dX6_frame_17 : decode cX6_frame 17 = .ok (.if_icmp .ge 24, 3) := by decide +kernel
theorem dX6_frame_20 : decode cX6_frame 20 = .ok (.aload_n 0, 1) := by decide +kernel
theorem dX6_frame_21 : decode cX6_frame 21 = .ok (.getfield 16, 3) := by decide +kernel
theorem dX6_frame_24 : decode cX6_frame 24 = .ok (.bipush 36, 2) := by decide +kernel
theorem dX6_frame_26 : decode cX6_frame 26 = .ok (.aload_n 0, 1) := by decide +kernel
theorem dX6_frame_27 : decode cX6_frame 27 = .ok (.getfield 72, 3) := by decide +kernel
theorem dX6_frame_30 : decode cX6_frame 30 = .ok (.imul, 1) := by decide +kernel
theorem dX6_frame_31 : decode cX6_frame 31 = .ok (.iload_n 1, 1) := by decide +kernel
theorem dX6_frame_32 : decode cX6_frame 32 = .ok (.iadd, 1) := by decide +kernel
theorem dX6_frame_33 : decode cX6_frame 33 = .ok (.iconst (-1), 1) := by decide +kernel
theorem dX6_frame_34 : decode cX6_frame 34 = .ok (.iastore, 1) := by decide +kernel
theorem dX6_frame_35 : decode cX6_frame 35 = .ok (.iinc 1 1, 3) := by decide +kernel
theorem dX6_frame_38 : decode cX6_frame 38 = .ok (.goto (-24), 3) := by decide +kernel
theorem dX6_frame_41 : decode cX6_frame 41 = .ok (.aload_n 0, 1) := by decide +kernel
theorem dX6_frame_42 : decode cX6_frame 42 = .ok (.dup, 1) := by decide +kernel
theorem dX6_frame_43 : decode cX6_frame 43 = .ok (.getfield 72, 3) := by decide +kernel
theorem dX6_frame_46 : decode cX6_frame 46 = .ok (.iconst 1, 1) := by decide +kernel
theorem dX6_frame_47 : decode cX6_frame 47 = .ok (.iadd, 1) := by decide +kernel
theorem dX6_frame_48 : decode cX6_frame 48 = .ok (.putfield 72, 3) := by decide +kernel
theorem dX6_frame_51 : decode cX6_frame 51 = .ok (.aload_n 0, 1) := by decide +kernel
theorem dX6_frame_52 : decode cX6_frame 52 = .ok (.getfield 72, 3) := by decide +kernel
theorem dX6_frame_55 : decode cX6_frame 55 = .ok (.iconst 1, 1) := by decide +kernel
theorem dX6_frame_56 : decode cX6_frame 56 = .ok (.isub, 1) := by decide +kernel
theorem dX6_frame_57 : decode cX6_frame 57 = .ok (.ireturn, 1) := by decide +kernel
set_option maxRecDepth 20000 in
theorem ggX6_again_X6_isFrame : GoodIn wsX6_again wsX6_isFrame := goodIn_r _ [7, 1, 8, 9, 6, 10, 11, 12, 13, 14, 15, 16, 17, 18, 19, 20, 21, 22, 23, 24, 25, 26, 27, 28, 29, 30, 31, 32, 33, 34, 35, 36, 37, 38, 39, 40, 41, 42, 43] (by decide +kernel) (by decide +kernel)
set_option maxRecDepth 20000 in
theorem gX6_again_X6_isFrame : GoodIn wsX6_again (wsV RX6 82 RX6 yX6_isFrame wsX6_isFrame) := goodIn_app (goodIn_of _ (by decide +kernel)) ggX6_again_X6_isFrame
set_option maxRecDepth 20000 in
theorem ggX6_again_X6_in : GoodIn wsX6_again wsX6_in := goodIn_r _ [10] (by decide +kernel) (by decide +kernel)
set_option maxRecDepth 20000 in
theorem gX6_again_X6_in : GoodIn wsX6_again (va_wsS RX6 75 yX6_in wsX6_in) := goodIn_app (goodIn_of _ (by decide +kernel)) ggX6_again_X6_in
theorem dX6_again_0 : decode cX6_again 0 = .ok (.aload_n 0, 1) := by decide +kernel
theorem dX6_again_1 : decode cX6_again 1 = .ok (.iload_n 1, 1) := by decide +kernel
theorem dX6_again_2 : decode cX6_again 2 = .ok (.invokevirtual 82, 3) := by decide +kernel
theorem dX6_again_5 : decode cX6_again 5 = .ok (.ifCond .eq 14, 3) := by decide +kernel
theorem dX6_again_8 : decode cX6_again 8 = .ok (.iload_n 2, 1) := by decide +kernel
theorem dX6_again_9 : decode cX6_again 9 = .ok (.bipush (-63), 2) := by decide +kernel
theorem dX6_again_11 : decode cX6_again 11 = .ok (.bipush 63, 2) := by decide +kernel
theorem dX6_again_13 : decode cX6_again 13 = .ok (.invokestatic 75, 3) := by decide +kernel
theorem dX6_again_16 : decode cX6_again 16 = .ok (.ifCond .ne 5, 3) := by decide +kernel
theorem dX6_again_19 : decode cX6_again 19 = .ok (.iconst (-1), 1) := by decide +kernel
theorem dX6_again_20 : decode cX6_again 20 = .ok (.ireturn, 1) := by decide +kernel
theorem dX6_again_21 : decode cX6_again 21 = .ok (.aload_n 0, 1) := by decide +kernel
theorem dX6_again_22 : decode cX6_again 22 = .ok (.getfield 72, 3) := by decide +kernel
theorem dX6_again_25 : decode cX6_again 25 = .ok (.bipush 10, 2) := by decide +kernel
theorem dX6_again_27 : decode cX6_again 27 = .ok (.if_icmp .ne 6, 3) := by decide +kernel
theorem dX6_again_30 : decode cX6_again 30 = .ok (.bipush (-2), 2) := by decide +kernel
theorem dX6_again_32 : decode cX6_again 32 = .ok (.ireturn, 1) := by decide +kernel
theorem dX6_again_33 : decode cX6_again 33 = .ok (.iconst 0, 1) := by decide +kernel
theorem dX6_again_34 : decode cX6_again 34 = .ok (.istore_n 3, 1) := by decide +kernel
theorem dX6_again_35 : decode cX6_again 35 = .ok (.iload_n 3, 1) := by decide +kernel
theorem dX6_again_36 : decode cX6_again 36 = .ok (.bipush 36, 2) := by decide +kernel
theorem dX6_again_38 : decode cX6_again 38 = .ok (.if_icmp .ge 79, 3) := by decide +kernel
theorem dX6_again_41 : decode cX6_again 41 = .ok (.aload_n 0, 1) := by decide +kernel
theorem dX6_again_42 : decode cX6_again 42 = .ok (.getfield 16, 3) := by decide +kernel
theorem dX6_again_45 : decode cX6_again 45 = .ok (.bipush 36, 2) := by decide +kernel
theorem dX6_again_47 : decode cX6_again 47 = .ok (.iload_n 1, 1) := by decide +kernel
theorem dX6_again_48 : decode cX6_again 48 = .ok (.imul, 1) := by decide +kernel
theorem dX6_again_49 : decode cX6_again 49 = .ok (.iload_n 3, 1) := by decide +kernel
theorem dX6_again_50 : decode cX6_again 50 = .ok (.iadd, 1) := by decide +kernel
theorem dX6_again_51 : decode cX6_again 51 = .ok (.iaload, 1) := by decide +kernel
theorem dX6_again_52 : decode cX6_again 52 = .ok (.istore 4, 2) := by decide +kernel
theorem dX6_again_54 : decode cX6_again 54 = .ok (.iload 4, 2) := by decide +kernel
theorem dX6_again_56 : decode cX6_again 56 = .ok (.iload_n 2, 1) := by decide +kernel
theorem dX6_again_57 : decode cX6_again 57 = .ok (.iadd, 1) := by decide +kernel
theorem dX6_again_58 : decode cX6_again 58 = .ok (.ifCond .ge 7, 3) := by decide +kernel
theorem dX6_again_61 : decode cX6_again 61 = .ok (.iconst 0, 1) := by decide +kernel
theorem dX6_again_62 : decode cX6_again 62 = .ok (.goto 21, 3) := by decide +kernel
theorem dX6_again_65 : decode cX6_again 65 = .ok (.iload 4, 2) := by decide +kernel
theorem dX6_again_67 : decode cX6_again 67 = .ok (.iload_n 2, 1) := by decide +kernel
theorem dX6_again_68 : decode cX6_again 68 = .ok (.iadd, 1) := by decide +kernel
theorem dX6_again_69 : decode cX6_again 69 = .ok (.bipush 63, 2) := by decide +kernel
theorem dX6_again_71 : decode cX6_again 71 = .ok (.if_icmp .le 8, 3) := by decide +kernel
theorem dX6_again_74 : decode cX6_again 74 = .ok (.bipush 63, 2) := by decide +kernel
theorem dX6_again_76 : decode cX6_again 76 = .ok (.goto 7, 3) := by decide +kernel
theorem dX6_again_79 : decode cX6_again 79 = .ok (.iload 4, 2) := by decide +kernel
theorem dX6_again_81 : decode cX6_again 81 = .ok (.iload_n 2, 1) := by decide +kernel
theorem dX6_again_82 : decode cX6_again 82 = .ok (.iadd, 1) := by decide +kernel
theorem dX6_again_83 : decode cX6_again 83 = .ok (.istore 5, 2) := by decide +kernel
theorem dX6_again_85 : decode cX6_again 85 = .ok (.aload_n 0, 1) := by decide +kernel
theorem dX6_again_86 : decode cX6_again 86 = .ok (.getfield 16, 3) := by decide +kernel
theorem dX6_again_89 : decode cX6_again 89 = .ok (.bipush 36, 2) := by decide +kernel
theorem dX6_again_91 : decode cX6_again 91 = .ok (.aload_n 0, 1) := by decide +kernel
theorem dX6_again_92 : decode cX6_again 92 = .ok (.getfield 72, 3) := by decide +kernel
theorem dX6_again_95 : decode cX6_again 95 = .ok (.imul, 1) := by decide +kernel
theorem dX6_again_96 : decode cX6_again 96 = .ok (.iload_n 3, 1) := by decide +kernel
theorem dX6_again_97 : decode cX6_again 97 = .ok (.iadd, 1) := by decide +kernel
theorem dX6_again_98 : decode cX6_again 98 = .ok (.iload 4, 2) := by decide +kernel
theorem dX6_again_100 : decode cX6_again 100 = .ok (.iconst (-1), 1) := by decide +kernel
theorem dX6_again_101 : decode cX6_again 101 = .ok (.if_icmp .ne 7, 3) := by decide +kernel
theorem dX6_again_104 : decode cX6_again 104 = .ok (.iconst (-1), 1) := by decide +kernel
theorem dX6_again_105 : decode cX6_again 105 = .ok (.goto 5, 3) := by decide +kernel
theorem dX6_again_108 : decode cX6_again 108 = .ok (.iload 5, 2) := by decide +kernel
theorem dX6_again_110 : decode cX6_again 110 = .ok (.iastore, 1) := by decide +kernel
theorem dX6_again_111 : decode cX6_again 111 = .ok (.iinc 3 1, 3) := by decide +kernel
theorem dX6_again_114 : decode cX6_again 114 = .ok (.goto (-79), 3) := by decide +kernel
theorem dX6_again_117 : decode cX6_again 117 = .ok (.aload_n 0, 1) := by decide +kernel
theorem dX6_again_118 : decode cX6_again 118 = .ok (.dup, 1) := by decide +kernel
theorem dX6_again_119 : decode cX6_again 119 = .ok (.getfield 72, 3) := by decide +kernel
theorem dX6_again_122 : decode cX6_again 122 = .ok (.iconst 1, 1) := by decide +kernel
theorem dX6_again_123 : decode cX6_again 123 = .ok (.iadd, 1) := by decide +kernel
theorem dX6_again_124 : decode cX6_again 124 = .ok (.putfield 72, 3) := by decide +kernel
theorem dX6_again_127 : decode cX6_again 127 = .ok (.aload_n 0, 1) := by decide +kernel
theorem dX6_again_128 : decode cX6_again 128 = .ok (.getfield 72, 3) := by decide +kernel
theorem dX6_again_131 : decode cX6_again 131 = .ok (.iconst 1, 1) := by decide +kernel
theorem dX6_again_132 : decode cX6_again 132 = .ok (.isub, 1) := by decide +kernel
theorem dX6_again_133 : decode cX6_again 133 = .ok (.ireturn, 1) := by decide +kernel
set_option maxRecDepth 20000 in
theorem ggX6_put_X6_isFrame : GoodIn wsX6_put wsX6_isFrame := goodIn_r _ [6, 7, 8, 9, 5, 10, 21, 22, 23, 24, 25, 26, 27, 28, 29, 30, 31, 32, 33, 34, 35, 36, 37, 38, 39, 40, 41, 42, 43, 44, 45, 46, 47, 48, 49, 50, 51, 52, 53] (by decide +kernel) (by decide +kernel)
set_option maxRecDepth 20000 in
theorem gX6_put_X6_isFrame : GoodIn wsX6_put (wsV RX6 82 RX6 yX6_isFrame wsX6_isFrame) := goodIn_app (goodIn_of _ (by decide +kernel)) ggX6_put_X6_isFrame
set_option maxRecDepth 20000 in
theorem ggX6_put_X6_isSquare : GoodIn wsX6_put wsX6_isSquare := goodIn_r _ [14, 15, 16, 8, 9, 5, 10, 21, 22, 23, 24, 25, 26, 27, 28, 29, 30, 31, 32, 33, 34, 35, 36, 37, 38, 39, 40, 41, 42, 43, 44, 45, 46, 47, 48, 49, 50, 51, 52, 53] (by decide +kernel) (by decide +kernel)
set_option maxRecDepth 20000 in
theorem gX6_put_X6_isSquare : GoodIn wsX6_put (wsV RX6 86 RX6 yX6_isSquare wsX6_isSquare) := goodIn_app (goodIn_of _ (by decide +kernel)) ggX6_put_X6_isSquare
set_option maxRecDepth 20000 in
theorem ggX6_put_X6_in : GoodIn wsX6_put wsX6_in := goodIn_r _ [10] (by decide +kernel) (by decide +kernel)
set_option maxRecDepth 20000 in
theorem gX6_put_X6_in : GoodIn wsX6_put (va_wsS RX6 75 yX6_in wsX6_in) := goodIn_app (goodIn_of _ (by decide +kernel)) ggX6_put_X6_in
set_option maxRecDepth 20000 in
theorem ggX6_put_X6_at : GoodIn wsX6_put wsX6_at := goodIn_r _ [20, 16, 21, 22, 23, 24, 25, 26, 27, 28, 29, 30, 31, 32, 33, 34, 35, 36, 37, 38, 39, 40, 41, 42, 43, 44, 45, 46, 47, 48, 49, 50, 51, 52, 53] (by decide +kernel) (by decide +kernel)
set_option maxRecDepth 20000 in
theorem gX6_put_X6_at : GoodIn wsX6_put (wsV RX6 90 RX6 yX6_at wsX6_at) := goodIn_app (goodIn_of _ (by decide +kernel)) ggX6_put_X6_at
theorem dX6_put_0 : decode cX6_put 0 = .ok (.aload_n 0, 1) := by decide +kernel
theorem dX6_put_1 : decode cX6_put 1 = .ok (.iload_n 1, 1) := by decide +kernel
theorem dX6_put_2 : decode cX6_put 2 = .ok (.invokevirtual 82, 3) := by decide +kernel
theorem dX6_put_5 : decode cX6_put 5 = .ok (.ifCond .eq 23, 3) := by decide +kernel
theorem dX6_put_8 : decode cX6_put 8 = .ok (.aload_n 0, 1) := by decide +kernel
theorem dX6_put_9 : decode cX6_put 9 = .ok (.iload_n 2, 1) := by decide +kernel
theorem dX6_put_10 : decode cX6_put 10 = .ok (.iload_n 3, 1) := by decide +kernel
theorem dX6_put_11 : decode cX6_put 11 = .ok (.invokevirtual 86, 3) := by decide +kernel
theorem dX6_put_14 : decode cX6_put 14 = .ok (.ifCond .eq 14, 3) := by decide +kernel
theorem dX6_put_17 : decode cX6_put 17 = .ok (.iload 4, 2) := by decide +kernel
theorem dX6_put_19 : decode cX6_put 19 = .ok (.iconst (-1), 1) := by decide +kernel
theorem dX6_put_20 : decode cX6_put 20 = .ok (.bipush 63, 2) := by decide +kernel
theorem dX6_put_22 : decode cX6_put 22 = .ok (.invokestatic 75, 3) := by decide +kernel
theorem dX6_put_25 : decode cX6_put 25 = .ok (.ifCond .ne 7, 3) := by decide +kernel
theorem dX6_put_28 : decode cX6_put 28 = .ok (.sipush (-1000), 3) := by decide +kernel
theorem dX6_put_31 : decode cX6_put 31 = .ok (.ireturn, 1) := by decide +kernel
theorem dX6_put_32 : decode cX6_put 32 = .ok (.aload_n 0, 1) := by decide +kernel
theorem dX6_put_33 : decode cX6_put 33 = .ok (.getfield 16, 3) := by decide +kernel
theorem dX6_put_36 : decode cX6_put 36 = .ok (.aload_n 0, 1) := by decide +kernel
theorem dX6_put_37 : decode cX6_put 37 = .ok (.iload_n 1, 1) := by decide +kernel
theorem dX6_put_38 : decode cX6_put 38 = .ok (.iload_n 2, 1) := by decide +kernel
theorem dX6_put_39 : decode cX6_put 39 = .ok (.iload_n 3, 1) := by decide +kernel
theorem dX6_put_40 : decode cX6_put 40 = .ok (.invokevirtual 90, 3) := by decide +kernel
theorem dX6_put_43 : decode cX6_put 43 = .ok (.iaload, 1) := by decide +kernel
theorem dX6_put_44 : decode cX6_put 44 = .ok (.istore 5, 2) := by decide +kernel
theorem dX6_put_46 : decode cX6_put 46 = .ok (.aload_n 0, 1) := by decide +kernel
theorem dX6_put_47 : decode cX6_put 47 = .ok (.getfield 16, 3) := by decide +kernel
theorem dX6_put_50 : decode cX6_put 50 = .ok (.aload_n 0, 1) := by decide +kernel
theorem dX6_put_51 : decode cX6_put 51 = .ok (.iload_n 1, 1) := by decide +kernel
theorem dX6_put_52 : decode cX6_put 52 = .ok (.iload_n 2, 1) := by decide +kernel
theorem dX6_put_53 : decode cX6_put 53 = .ok (.iload_n 3, 1) := by decide +kernel
theorem dX6_put_54 : decode cX6_put 54 = .ok (.invokevirtual 90, 3) := by decide +kernel
theorem dX6_put_57 : decode cX6_put 57 = .ok (.iload 4, 2) := by decide +kernel
theorem dX6_put_59 : decode cX6_put 59 = .ok (.iastore, 1) := by decide +kernel
theorem dX6_put_60 : decode cX6_put 60 = .ok (.iload 5, 2) := by decide +kernel
theorem dX6_put_62 : decode cX6_put 62 = .ok (.ireturn, 1) := by decide +kernel
set_option maxRecDepth 20000 in
theorem ggX6_row_X6_isFrame : GoodIn wsX6_row wsX6_isFrame := goodIn_r _ [9, 10, 11, 12, 8, 13, 18, 19, 20, 21, 22, 23, 24, 25, 26, 27, 28, 29, 30, 31, 32, 33, 34, 35, 36, 37, 38, 39, 40, 41, 42, 43, 44, 45, 46, 47, 48, 49, 50] (by decide +kernel) (by decide +kernel)
set_option maxRecDepth 20000 in
theorem gX6_row_X6_isFrame : GoodIn wsX6_row (wsV RX6 82 RX6 yX6_isFrame wsX6_isFrame) := goodIn_app (goodIn_of _ (by decide +kernel)) ggX6_row_X6_isFrame
set_option maxRecDepth 20000 in
theorem ggX6_row_X6_in : GoodIn wsX6_row wsX6_in := goodIn_r _ [13] (by decide +kernel) (by decide +kernel)
set_option maxRecDepth 20000 in
theorem gX6_row_X6_in : GoodIn wsX6_row (va_wsS RX6 75 yX6_in wsX6_in) := goodIn_app (goodIn_of _ (by decide +kernel)) ggX6_row_X6_in
set_option maxRecDepth 20000 in
theorem ggX6_row_X6_at : GoodIn wsX6_row wsX6_at := goodIn_r _ [17, 2, 18, 19, 20, 21, 22, 23, 24, 25, 26, 27, 28, 29, 30, 31, 32, 33, 34, 35, 36, 37, 38, 39, 40, 41, 42, 43, 44, 45, 46, 47, 48, 49, 50] (by decide +kernel) (by decide +kernel)
set_option maxRecDepth 20000 in
theorem gX6_row_X6_at : GoodIn wsX6_row (wsV RX6 90 RX6 yX6_at wsX6_at) := goodIn_app (goodIn_of _ (by decide +kernel)) ggX6_row_X6_at
theorem dX6_row_0 : decode cX6_row 0 = .ok (.aload_n 0, 1) := by decide +kernel
theorem dX6_row_1 : decode cX6_row 1 = .ok (.iload_n 1, 1) := by decide +kernel
theorem dX6_row_2 : decode cX6_row 2 = .ok (.invokevirtual 82, 3) := by decide +kernel
theorem dX6_row_5 : decode cX6_row 5 = .ok (.ifCond .eq 17, 3) := by decide +kernel
theorem dX6_row_8 : decode cX6_row 8 = .ok (.iload_n 2, 1) := by decide +kernel
theorem dX6_row_9 : decode cX6_row 9 = .ok (.iconst 0, 1) := by decide +kernel
theorem dX6_row_10 : decode cX6_row 10 = .ok (.aload_n 0, 1) := by decide +kernel
theorem dX6_row_11 : decode cX6_row 11 = .ok (.getfield 7, 3) := by decide +kernel
theorem dX6_row_14 : decode cX6_row 14 = .ok (.iconst 1, 1) := by decide +kernel
theorem dX6_row_15 : decode cX6_row 15 = .ok (.isub, 1) := by decide +kernel
theorem dX6_row_16 : decode cX6_row 16 = .ok (.invokestatic 75, 3) := by decide +kernel
theorem dX6_row_19 : decode cX6_row 19 = .ok (.ifCond .ne 5, 3) := by decide +kernel
theorem dX6_row_22 : decode cX6_row 22 = .ok (.iconst (-1), 1) := by decide +kernel
theorem dX6_row_23 : decode cX6_row 23 = .ok (.ireturn, 1) := by decide +kernel
theorem dX6_row_24 : decode cX6_row 24 = .ok (.iconst 0, 1) := by decide +kernel
theorem dX6_row_25 : decode cX6_row 25 = .ok (.istore 5, 2) := by decide +kernel
theorem dX6_row_27 : decode cX6_row 27 = .ok (.iconst 0, 1) := by decide +kernel
theorem dX6_row_28 : decode cX6_row 28 = .ok (.istore 6, 2) := by decide +kernel
theorem dX6_row_30 : decode cX6_row 30 = .ok (.iload 6, 2) := by decide +kernel
theorem dX6_row_32 : decode cX6_row 32 = .ok (.aload_n 0, 1) := by decide +kernel
theorem dX6_row_33 : decode cX6_row 33 = .ok (.getfield 13, 3) := by decide +kernel
theorem dX6_row_36 : decode cX6_row 36 = .ok (.if_icmp .ge 66, 3) := by decide +kernel
theorem dX6_row_39 : decode cX6_row 39 = .ok (.lload_n 3, 1) := by decide +kernel
theorem dX6_row_40 : decode cX6_row 40 = .ok (.bipush 7, 2) := by decide +kernel
theorem dX6_row_42 : decode cX6_row 42 = .ok (.iload 6, 2) := by decide +kernel
theorem dX6_row_44 : decode cX6_row 44 = .ok (.imul, 1) := by decide +kernel
theorem dX6_row_45 : decode cX6_row 45 = .ok (.lshr, 1) := by decide +kernel
theorem dX6_row_46 : decode cX6_row 46 = .ok (.ldc2_w 94, 3) := by decide +kernel
theorem dX6_row_49 : decode cX6_row 49 = .ok (.land, 1) := by decide +kernel
theorem dX6_row_50 : decode cX6_row 50 = .ok (.l2i, 1) := by decide +kernel
theorem dX6_row_51 : decode cX6_row 51 = .ok (.istore 7, 2) := by decide +kernel
theorem dX6_row_53 : decode cX6_row 53 = .ok (.aload_n 0, 1) := by decide +kernel
theorem dX6_row_54 : decode cX6_row 54 = .ok (.getfield 16, 3) := by decide +kernel
theorem dX6_row_57 : decode cX6_row 57 = .ok (.aload_n 0, 1) := by decide +kernel
theorem dX6_row_58 : decode cX6_row 58 = .ok (.iload_n 1, 1) := by decide +kernel
theorem dX6_row_59 : decode cX6_row 59 = .ok (.iload_n 2, 1) := by decide +kernel
theorem dX6_row_60 : decode cX6_row 60 = .ok (.iload 6, 2) := by decide +kernel
theorem dX6_row_62 : decode cX6_row 62 = .ok (.invokevirtual 90, 3) := by decide +kernel
theorem dX6_row_65 : decode cX6_row 65 = .ok (.iload 7, 2) := by decide +kernel
theorem dX6_row_67 : decode cX6_row 67 = .ok (.bipush 64, 2) := by decide +kernel
theorem dX6_row_69 : decode cX6_row 69 = .ok (.if_icmp .ge 8, 3) := by decide +kernel
theorem dX6_row_72 : decode cX6_row 72 = .ok (.iload 7, 2) := by decide +kernel
theorem dX6_row_74 : decode cX6_row 74 = .ok (.goto 4, 3) := by decide +kernel
theorem dX6_row_77 : decode cX6_row 77 = .ok (.iconst (-1), 1) := by decide +kernel
theorem dX6_row_78 : decode cX6_row 78 = .ok (.iastore, 1) := by decide +kernel
theorem dX6_row_79 : decode cX6_row 79 = .ok (.iload 5, 2) := by decide +kernel
theorem dX6_row_81 : decode cX6_row 81 = .ok (.iload 7, 2) := by decide +kernel
theorem dX6_row_83 : decode cX6_row 83 = .ok (.bipush 64, 2) := by decide +kernel
theorem dX6_row_85 : decode cX6_row 85 = .ok (.if_icmp .ge 7, 3) := by decide +kernel
theorem dX6_row_88 : decode cX6_row 88 = .ok (.iconst 1, 1) := by decide +kernel
theorem dX6_row_89 : decode cX6_row 89 = .ok (.goto 4, 3) := by decide +kernel
theorem dX6_row_92 : decode cX6_row 92 = .ok (.iconst 0, 1) := by decide +kernel
theorem dX6_row_93 : decode cX6_row 93 = .ok (.iadd, 1) := by decide +kernel
theorem dX6_row_94 : decode cX6_row 94 = .ok (.istore 5, 2) := by decide +kernel
theorem dX6_row_96 : decode cX6_row 96 = .ok (.iinc 6 1, 3) := by decide +kernel
theorem dX6_row_99 : decode cX6_row 99 = .ok (.goto (-69), 3) := by decide +kernel
theorem dX6_row_102 : decode cX6_row 102 = .ok (.iload 5, 2) := by decide +kernel
theorem dX6_row_104 : decode cX6_row 104 = .ok (.ireturn, 1) := by decide +kernel
set_option maxRecDepth 20000 in
theorem ggX6_raw_X6_isFrame : GoodIn wsX6_raw wsX6_isFrame := goodIn_r _ [6, 7, 8, 9, 5, 10, 21, 22, 23, 24, 25, 26, 27, 28, 29, 30, 31, 32, 33, 34, 35, 36, 37, 38, 39, 40, 41, 42, 43, 44, 45, 46, 47, 48, 49, 50, 51, 52, 53] (by decide +kernel) (by decide +kernel)
set_option maxRecDepth 20000 in
theorem gX6_raw_X6_isFrame : GoodIn wsX6_raw (wsV RX6 82 RX6 yX6_isFrame wsX6_isFrame) := goodIn_app (goodIn_of _ (by decide +kernel)) ggX6_raw_X6_isFrame
set_option maxRecDepth 20000 in
theorem ggX6_raw_X6_isSquare : GoodIn wsX6_raw wsX6_isSquare := goodIn_r _ [14, 15, 16, 8, 9, 5, 10, 21, 22, 23, 24, 25, 26, 27, 28, 29, 30, 31, 32, 33, 34, 35, 36, 37, 38, 39, 40, 41, 42, 43, 44, 45, 46, 47, 48, 49, 50, 51, 52, 53] (by decide +kernel) (by decide +kernel)
set_option maxRecDepth 20000 in
theorem gX6_raw_X6_isSquare : GoodIn wsX6_raw (wsV RX6 86 RX6 yX6_isSquare wsX6_isSquare) := goodIn_app (goodIn_of _ (by decide +kernel)) ggX6_raw_X6_isSquare
set_option maxRecDepth 20000 in
theorem ggX6_raw_X6_at : GoodIn wsX6_raw wsX6_at := goodIn_r _ [20, 16, 21, 22, 23, 24, 25, 26, 27, 28, 29, 30, 31, 32, 33, 34, 35, 36, 37, 38, 39, 40, 41, 42, 43, 44, 45, 46, 47, 48, 49, 50, 51, 52, 53] (by decide +kernel) (by decide +kernel)
set_option maxRecDepth 20000 in
theorem gX6_raw_X6_at : GoodIn wsX6_raw (wsV RX6 90 RX6 yX6_at wsX6_at) := goodIn_app (goodIn_of _ (by decide +kernel)) ggX6_raw_X6_at
theorem dX6_raw_0 : decode cX6_raw 0 = .ok (.aload_n 0, 1) := by decide +kernel
theorem dX6_raw_1 : decode cX6_raw 1 = .ok (.iload_n 1, 1) := by decide +kernel
theorem dX6_raw_2 : decode cX6_raw 2 = .ok (.invokevirtual 82, 3) := by decide +kernel
theorem dX6_raw_5 : decode cX6_raw 5 = .ok (.ifCond .eq 27, 3) := by decide +kernel
theorem dX6_raw_8 : decode cX6_raw 8 = .ok (.aload_n 0, 1) := by decide +kernel
theorem dX6_raw_9 : decode cX6_raw 9 = .ok (.iload_n 2, 1) := by decide +kernel
theorem dX6_raw_10 : decode cX6_raw 10 = .ok (.iload_n 3, 1) := by decide +kernel
theorem dX6_raw_11 : decode cX6_raw 11 = .ok (.invokevirtual 86, 3) := by decide +kernel
theorem dX6_raw_14 : decode cX6_raw 14 = .ok (.ifCond .eq 18, 3) := by decide +kernel
theorem dX6_raw_17 : decode cX6_raw 17 = .ok (.aload_n 0, 1) := by decide +kernel
theorem dX6_raw_18 : decode cX6_raw 18 = .ok (.getfield 16, 3) := by decide +kernel
theorem dX6_raw_21 : decode cX6_raw 21 = .ok (.aload_n 0, 1) := by decide +kernel
theorem dX6_raw_22 : decode cX6_raw 22 = .ok (.iload_n 1, 1) := by decide +kernel
theorem dX6_raw_23 : decode cX6_raw 23 = .ok (.iload_n 2, 1) := by decide +kernel
theorem dX6_raw_24 : decode cX6_raw 24 = .ok (.iload_n 3, 1) := by decide +kernel
theorem dX6_raw_25 : decode cX6_raw 25 = .ok (.invokevirtual 90, 3) := by decide +kernel
theorem dX6_raw_28 : decode cX6_raw 28 = .ok (.iaload, 1) := by decide +kernel
theorem dX6_raw_29 : decode cX6_raw 29 = .ok (.goto 6, 3) := by decide +kernel
theorem dX6_raw_32 : decode cX6_raw 32 = .ok (.sipush (-1000), 3) := by decide +kernel
theorem dX6_raw_35 : decode cX6_raw 35 = .ok (.ireturn, 1) := by decide +kernel
set_option maxRecDepth 20000 in
theorem ggX6_rule_X6_in : GoodIn wsX6_rule wsX6_in := goodIn_r _ [5] (by decide +kernel) (by decide +kernel)
set_option maxRecDepth 20000 in
theorem gX6_rule_X6_in : GoodIn wsX6_rule (va_wsS RX6 75 yX6_in wsX6_in) := goodIn_app (goodIn_of _ (by decide +kernel)) ggX6_rule_X6_in
theorem dX6_rule_0 : decode cX6_rule 0 = .ok (.iload_n 1, 1) := by decide +kernel
theorem dX6_rule_1 : decode cX6_rule 1 = .ok (.iconst 0, 1) := by decide +kernel
theorem dX6_rule_2 : decode cX6_rule 2 = .ok (.iconst 2, 1) := by decide +kernel
theorem dX6_rule_3 : decode cX6_rule 3 = .ok (.invokestatic 75, 3) := by decide +kernel
theorem dX6_rule_6 : decode cX6_rule 6 = .ok (.ifCond .eq 40, 3) := by decide +kernel
theorem dX6_rule_9 : decode cX6_rule 9 = .ok (.iload_n 2, 1) := by decide +kernel
theorem dX6_rule_10 : decode cX6_rule 10 = .ok (.iload_n 1, 1) := by decide +kernel
theorem dX6_rule_11 : decode cX6_rule 11 = .ok (.iconst 2, 1) := by decide +kernel
theorem dX6_rule_12 : decode cX6_rule 12 = .ok (.if_icmp .ne 7, 3) := by decide +kernel
theorem dX6_rule_15 : decode cX6_rule 15 = .ok (.iconst 1, 1) := by decide +kernel
theorem dX6_rule_16 : decode cX6_rule 16 = .ok (.goto 4, 3) := by decide +kernel
theorem dX6_rule_19 : decode cX6_rule 19 = .ok (.iconst 0, 1) := by decide +kernel
theorem dX6_rule_20 : decode cX6_rule 20 = .ok (.iload_n 1, 1) := by decide +kernel
theorem dX6_rule_21 : decode cX6_rule 21 = .ok (.ifCond .ne 7, 3) := by decide +kernel
theorem dX6_rule_24 : decode cX6_rule 24 = .ok (.iconst 3, 1) := by decide +kernel
theorem dX6_rule_25 : decode cX6_rule 25 = .ok (.goto 15, 3) := by decide +kernel
theorem dX6_rule_28 : decode cX6_rule 28 = .ok (.iload_n 1, 1) := by decide +kernel
theorem dX6_rule_29 : decode cX6_rule 29 = .ok (.iconst 1, 1) := by decide +kernel
theorem dX6_rule_30 : decode cX6_rule 30 = .ok (.if_icmp .ne 8, 3) := by decide +kernel
theorem dX6_rule_33 : decode cX6_rule 33 = .ok (.bipush 10, 2) := by decide +kernel
theorem dX6_rule_35 : decode cX6_rule 35 = .ok (.goto 5, 3) := by decide +kernel
theorem dX6_rule_38 : decode cX6_rule 38 = .ok (.bipush 63, 2) := by decide +kernel
theorem dX6_rule_40 : decode cX6_rule 40 = .ok (.invokestatic 75, 3) := by decide +kernel
theorem dX6_rule_43 : decode cX6_rule 43 = .ok (.ifCond .ne 5, 3) := by decide +kernel
theorem dX6_rule_46 : decode cX6_rule 46 = .ok (.iconst (-1), 1) := by decide +kernel
theorem dX6_rule_47 : decode cX6_rule 47 = .ok (.ireturn, 1) := by decide +kernel
theorem dX6_rule_48 : decode cX6_rule 48 = .ok (.aload_n 0, 1) := by decide +kernel
theorem dX6_rule_49 : decode cX6_rule 49 = .ok (.getfield 36, 3) := by decide +kernel
theorem dX6_rule_52 : decode cX6_rule 52 = .ok (.iload_n 1, 1) := by decide +kernel
theorem dX6_rule_53 : decode cX6_rule 53 = .ok (.iaload, 1) := by decide +kernel
theorem dX6_rule_54 : decode cX6_rule 54 = .ok (.istore_n 3, 1) := by decide +kernel
theorem dX6_rule_55 : decode cX6_rule 55 = .ok (.aload_n 0, 1) := by decide +kernel
theorem dX6_rule_56 : decode cX6_rule 56 = .ok (.getfield 36, 3) := by decide +kernel
theorem dX6_rule_59 : decode cX6_rule 59 = .ok (.iload_n 1, 1) := by decide +kernel
theorem dX6_rule_60 : decode cX6_rule 60 = .ok (.iload_n 2, 1) := by decide +kernel
theorem dX6_rule_61 : decode cX6_rule 61 = .ok (.iastore, 1) := by decide +kernel
theorem dX6_rule_62 : decode cX6_rule 62 = .ok (.iload_n 3, 1) := by decide +kernel
theorem dX6_rule_63 : decode cX6_rule 63 = .ok (.ireturn, 1) := by decide +kernel
set_option maxRecDepth 20000 in
theorem ggX6_findMiss_X6_isSquare : GoodIn wsX6_findMiss wsX6_isSquare := goodIn_r _ [10, 3, 4, 11, 12, 9, 13, 18, 19, 20, 21, 22, 23, 24, 25, 26, 27, 28, 29, 30, 31, 32, 33, 34, 35, 36, 37, 38, 39, 40, 41, 42, 43, 44, 45, 46, 47, 48, 49, 50] (by decide +kernel) (by decide +kernel)
set_option maxRecDepth 20000 in
theorem gX6_findMiss_X6_isSquare : GoodIn wsX6_findMiss (wsV RX6 86 RX6 yX6_isSquare wsX6_isSquare) := goodIn_app (goodIn_of _ (by decide +kernel)) ggX6_findMiss_X6_isSquare
set_option maxRecDepth 20000 in
theorem ggX6_findMiss_X6_at : GoodIn wsX6_findMiss wsX6_at := goodIn_r _ [17, 4, 18, 19, 20, 21, 22, 23, 24, 25, 26, 27, 28, 29, 30, 31, 32, 33, 34, 35, 36, 37, 38, 39, 40, 41, 42, 43, 44, 45, 46, 47, 48, 49, 50] (by decide +kernel) (by decide +kernel)
set_option maxRecDepth 20000 in
theorem gX6_findMiss_X6_at : GoodIn wsX6_findMiss (wsV RX6 90 RX6 yX6_at wsX6_at) := goodIn_app (goodIn_of _ (by decide +kernel)) ggX6_findMiss_X6_at
theorem dX6_findMiss_0 : decode cX6_findMiss 0 = .ok (.aload_n 0, 1) := by decide +kernel
theorem dX6_findMiss_1 : decode cX6_findMiss 1 = .ok (.iconst 0, 1) := by decide +kernel
theorem dX6_findMiss_2 : decode cX6_findMiss 2 = .ok (.putfield 96, 3) := by decide +kernel
theorem dX6_findMiss_5 : decode cX6_findMiss 5 = .ok (.aload_n 0, 1) := by decide +kernel
theorem dX6_findMiss_6 : decode cX6_findMiss 6 = .ok (.iconst 0, 1) := by decide +kernel
theorem dX6_findMiss_7 : decode cX6_findMiss 7 = .ok (.putfield 99, 3) := by decide +kernel
theorem dX6_findMiss_10 : decode cX6_findMiss 10 = .ok (.iconst 0, 1) := by decide +kernel
theorem dX6_findMiss_11 : decode cX6_findMiss 11 = .ok (.istore 4, 2) := by decide +kernel
theorem dX6_findMiss_13 : decode cX6_findMiss 13 = .ok (.iload 4, 2) := by decide +kernel
theorem dX6_findMiss_15 : decode cX6_findMiss 15 = .ok (.aload_n 0, 1) := by decide +kernel
theorem dX6_findMiss_16 : decode cX6_findMiss 16 = .ok (.getfield 7, 3) := by decide +kernel
theorem dX6_findMiss_19 : decode cX6_findMiss 19 = .ok (.if_icmp .ge 137, 3) := by decide +kernel
theorem dX6_findMiss_22 : decode cX6_findMiss 22 = .ok (.iconst 0, 1) := by decide +kernel
theorem dX6_findMiss_23 : decode cX6_findMiss 23 = .ok (.istore 5, 2) := by decide +kernel
theorem dX6_findMiss_25 : decode cX6_findMiss 25 = .ok (.iload 5, 2) := by decide +kernel
theorem dX6_findMiss_27 : decode cX6_findMiss 27 = .ok (.aload_n 0, 1) := by decide +kernel
theorem dX6_findMiss_28 : decode cX6_findMiss 28 = .ok (.getfield 13, 3) := by decide +kernel
theorem dX6_findMiss_31 : decode cX6_findMiss 31 = .ok (.if_icmp .ge 119, 3) := by decide +kernel
theorem dX6_findMiss_34 : decode cX6_findMiss 34 = .ok (.aload_n 0, 1) := by decide +kernel
theorem dX6_findMiss_35 : decode cX6_findMiss 35 = .ok (.iload 4, 2) := by decide +kernel
theorem dX6_findMiss_37 : decode cX6_findMiss 37 = .ok (.iload_n 3, 1) := by decide +kernel
theorem dX6_findMiss_38 : decode cX6_findMiss 38 = .ok (.iadd, 1) := by decide +kernel
theorem dX6_findMiss_39 : decode cX6_findMiss 39 = .ok (.iload 5, 2) := by decide +kernel
theorem dX6_findMiss_41 : decode cX6_findMiss 41 = .ok (.iload_n 2, 1) := by decide +kernel
theorem dX6_findMiss_42 : decode cX6_findMiss 42 = .ok (.iadd, 1) := by decide +kernel
theorem dX6_findMiss_43 : decode cX6_findMiss 43 = .ok (.invokevirtual 86, 3) := by decide +kernel
theorem dX6_findMiss_46 : decode cX6_findMiss 46 = .ok (.ifCond .ne 6, 3) := by decide +kernel
theorem dX6_findMiss_49 : decode cX6_findMiss 49 = .ok (.goto 95, 3) := by decide +kernel
theorem dX6_findMiss_52 : decode cX6_findMiss 52 = .ok (.aload_n 0, 1) := by decide +kernel
theorem dX6_findMiss_53 : decode cX6_findMiss 53 = .ok (.getfield 16, 3) := by decide +kernel
theorem dX6_findMiss_56 : decode cX6_findMiss 56 = .ok (.aload_n 0, 1) := by decide +kernel
theorem dX6_findMiss_57 : decode cX6_findMiss 57 = .ok (.iload_n 1, 1) := by decide +kernel
theorem dX6_findMiss_58 : decode cX6_findMiss 58 = .ok (.iconst 1, 1) := by decide +kernel
theorem dX6_findMiss_59 : decode cX6_findMiss 59 = .ok (.isub, 1) := by decide +kernel
theorem dX6_findMiss_60 : decode cX6_findMiss 60 = .ok (.iload 4, 2) := by decide +kernel
theorem dX6_findMiss_62 : decode cX6_findMiss 62 = .ok (.iload 5, 2) := by decide +kernel
theorem dX6_findMiss_64 : decode cX6_findMiss 64 = .ok (.invokevirtual 90, 3) := by decide +kernel
theorem dX6_findMiss_67 : decode cX6_findMiss 67 = .ok (.iaload, 1) := by decide +kernel
theorem dX6_findMiss_68 : decode cX6_findMiss 68 = .ok (.istore 6, 2) := by decide +kernel
theorem dX6_findMiss_70 : decode cX6_findMiss 70 = .ok (.aload_n 0, 1) := by decide +kernel
theorem dX6_findMiss_71 : decode cX6_findMiss 71 = .ok (.getfield 16, 3) := by decide +kernel
theorem dX6_findMiss_74 : decode cX6_findMiss 74 = .ok (.aload_n 0, 1) := by decide +kernel
theorem dX6_findMiss_75 : decode cX6_findMiss 75 = .ok (.iload_n 1, 1) := by decide +kernel
theorem dX6_findMiss_76 : decode cX6_findMiss 76 = .ok (.iload 4, 2) := by decide +kernel
theorem dX6_findMiss_78 : decode cX6_findMiss 78 = .ok (.iload_n 3, 1) := by decide +kernel
theorem dX6_findMiss_79 : decode cX6_findMiss 79 = .ok (.iadd, 1) := by decide +kernel
theorem dX6_findMiss_80 : decode cX6_findMiss 80 = .ok (.iload 5, 2) := by decide +kernel
theorem dX6_findMiss_82 : decode cX6_findMiss 82 = .ok (.iload_n 2, 1) := by decide +kernel
theorem dX6_findMiss_83 : decode cX6_findMiss 83 = .ok (.iadd, 1) := by decide +kernel
theorem dX6_findMiss_84 : decode cX6_findMiss 84 = .ok (.invokevirtual 90, 3) := by decide +kernel
theorem dX6_findMiss_87 : decode cX6_findMiss 87 = .ok (.iaload, 1) := by decide +kernel
theorem dX6_findMiss_88 : decode cX6_findMiss 88 = .ok (.istore 7, 2) := by decide +kernel
theorem dX6_findMiss_90 : decode cX6_findMiss 90 = .ok (.iload 6, 2) := by decide +kernel
theorem dX6_findMiss_92 : decode cX6_findMiss 92 = .ok (.iconst (-1), 1) := by decide +kernel
theorem dX6_findMiss_93 : decode cX6_findMiss 93 = .ok (.if_icmp .eq 51, 3) := by decide +kernel
theorem dX6_findMiss_96 : decode cX6_findMiss 96 = .ok (.iload 7, 2) := by decide +kernel
theorem dX6_findMiss_98 : decode cX6_findMiss 98 = .ok (.iconst (-1), 1) := by decide +kernel
theorem dX6_findMiss_99 : decode cX6_findMiss 99 = .ok (.if_icmp .ne 6, 3) := by decide +kernel
theorem dX6_findMiss_102 : decode cX6_findMiss 102 = .ok (.goto 42, 3) := by decide +kernel
theorem dX6_findMiss_105 : decode cX6_findMiss 105 = .ok (.aload_n 0, 1) := by decide +kernel
theorem dX6_findMiss_106 : decode cX6_findMiss 106 = .ok (.dup, 1) := by decide +kernel
theorem dX6_findMiss_107 : decode cX6_findMiss 107 = .ok (.getfield 96, 3) := by decide +kernel
theorem dX6_findMiss_110 : decode cX6_findMiss 110 = .ok (.iload 6, 2) := by decide +kernel
theorem dX6_findMiss_112 : decode cX6_findMiss 112 = .ok (.iload 7, 2) := by decide +kernel
theorem dX6_findMiss_114 : decode cX6_findMiss 114 = .ok (.if_icmp .ge 11, 3) := by decide +kernel
theorem dX6_findMiss_117 : decode cX6_findMiss 117 = .ok (.iload 7, 2) := by decide +kernel
theorem dX6_findMiss_119 : decode cX6_findMiss 119 = .ok (.iload 6, 2) := by decide +kernel
theorem dX6_findMiss_121 : decode cX6_findMiss 121 = .ok (.isub, 1) := by decide +kernel
theorem dX6_findMiss_122 : decode cX6_findMiss 122 = .ok (.goto 8, 3) := by decide +kernel
theorem dX6_findMiss_125 : decode cX6_findMiss 125 = .ok (.iload 6, 2) := by decide +kernel
theorem dX6_findMiss_127 : decode cX6_findMiss 127 = .ok (.iload 7, 2) := by decide +kernel
theorem dX6_findMiss_129 : decode cX6_findMiss 129 = .ok (.isub, 1) := by decide +kernel
theorem dX6_findMiss_130 : decode cX6_findMiss 130 = .ok (.iadd, 1) := by decide +kernel
theorem dX6_findMiss_131 : decode cX6_findMiss 131 = .ok (.putfield 96, 3) := by decide +kernel
theorem dX6_findMiss_134 : decode cX6_findMiss 134 = .ok (.aload_n 0, 1) := by decide +kernel
theorem dX6_findMiss_135 : decode cX6_findMiss 135 = .ok (.dup, 1) := by decide +kernel
theorem dX6_findMiss_136 : decode cX6_findMiss 136 = .ok (.getfield 99, 3) := by decide +kernel
theorem dX6_findMiss_139 : decode cX6_findMiss 139 = .ok (.iconst 1, 1) := by decide +kernel
theorem dX6_findMiss_140 : decode cX6_findMiss 140 = .ok (.iadd, 1) := by decide +kernel
theorem dX6_findMiss_141 : decode cX6_findMiss 141 = .ok (.putfield 99, 3) := by decide +kernel
theorem dX6_findMiss_144 : decode cX6_findMiss 144 = .ok (.iinc 5 1, 3) := by decide +kernel
theorem dX6_findMiss_147 : decode cX6_findMiss 147 = .ok (.goto (-122), 3) := by decide +kernel
theorem dX6_findMiss_150 : decode cX6_findMiss 150 = .ok (.iinc 4 1, 3) := by decide +kernel
theorem dX6_findMiss_153 : decode cX6_findMiss 153 = .ok (.goto (-140), 3) := by decide +kernel
theorem dX6_findMiss_156 : decode cX6_findMiss 156 = .ok (.iconst 4, 1) := by decide +kernel
theorem dX6_findMiss_157 : decode cX6_findMiss 157 = .ok (.aload_n 0, 1) := by decide +kernel
theorem dX6_findMiss_158 : decode cX6_findMiss 158 = .ok (.getfield 99, 3) := by decide +kernel
theorem dX6_findMiss_161 : decode cX6_findMiss 161 = .ok (.imul, 1) := by decide +kernel
theorem dX6_findMiss_162 : decode cX6_findMiss 162 = .ok (.aload_n 0, 1) := by decide +kernel
theorem dX6_findMiss_163 : decode cX6_findMiss 163 = .ok (.getfield 7, 3) := by decide +kernel
theorem dX6_findMiss_166 : decode cX6_findMiss 166 = .ok (.aload_n 0, 1) := by decide +kernel
theorem dX6_findMiss_167 : decode cX6_findMiss 167 = .ok (.getfield 13, 3) := by decide +kernel
theorem dX6_findMiss_170 : decode cX6_findMiss 170 = .ok (.imul, 1) := by decide +kernel
theorem dX6_findMiss_171 : decode cX6_findMiss 171 = .ok (.if_icmp .lt 7, 3) := by decide +kernel
theorem dX6_findMiss_174 : decode cX6_findMiss 174 = .ok (.iconst 1, 1) := by decide +kernel
theorem dX6_findMiss_175 : decode cX6_findMiss 175 = .ok (.goto 4, 3) := by decide +kernel
theorem dX6_findMiss_178 : decode cX6_findMiss 178 = .ok (.iconst 0, 1) := by decide +kernel
theorem dX6_findMiss_179 : decode cX6_findMiss 179 = .ok (.ireturn, 1) := by decide +kernel
theorem dX6_common_0 : decode cX6_common 0 = .ok (.iload_n 0, 1) := by decide +kernel
theorem dX6_common_1 : decode cX6_common 1 = .ok (.istore_n 2, 1) := by decide +kernel
theorem dX6_common_2 : decode cX6_common 2 = .ok (.iload_n 1, 1) := by decide +kernel
theorem dX6_common_3 : decode cX6_common 3 = .ok (.istore_n 3, 1) := by decide +kernel
theorem dX6_common_4 : decode cX6_common 4 = .ok (.iload_n 3, 1) := by decide +kernel
theorem dX6_common_5 : decode cX6_common 5 = .ok (.ifCond .eq 16, 3) := by decide +kernel
theorem dX6_common_8 : decode cX6_common 8 = .ok (.iload_n 2, 1) := by decide +kernel
theorem dX6_common_9 : decode cX6_common 9 = .ok (.iload_n 3, 1) := by decide +kernel
theorem dX6_common_10 : decode cX6_common 10 = .ok (.irem, 1) := by decide +kernel
theorem dX6_common_11 : decode cX6_common 11 = .ok (.istore 4, 2) := by decide +kernel
theorem dX6_common_13 : decode cX6_common 13 = .ok (.iload_n 3, 1) := by decide +kernel
theorem dX6_common_14 : decode cX6_common 14 = .ok (.istore_n 2, 1) := by decide +kernel
theorem dX6_common_15 : decode cX6_common 15 = .ok (.iload 4, 2) := by decide +kernel
theorem dX6_common_17 : decode cX6_common 17 = .ok (.istore_n 3, 1) := by decide +kernel
theorem dX6_common_18 : decode cX6_common 18 = .ok (.goto (-14), 3) := by decide +kernel
theorem dX6_common_21 : decode cX6_common 21 = .ok (.iload_n 2, 1) := by decide +kernel
theorem dX6_common_22 : decode cX6_common 22 = .ok (.ireturn, 1) := by decide +kernel
set_option maxRecDepth 20000 in
theorem ggX6_miss_X6_isFrame : GoodIn wsX6_miss wsX6_isFrame := goodIn_r _ [7, 8, 9, 10, 6, 11, 30, 31, 32, 33, 34, 35, 36, 37, 38, 39, 40, 41, 42, 43, 44, 45, 46, 47, 48, 49, 50, 51, 52, 53, 54, 55, 56, 57, 58, 59, 60, 61, 62] (by decide +kernel) (by decide +kernel)
set_option maxRecDepth 20000 in
theorem gX6_miss_X6_isFrame : GoodIn wsX6_miss (wsV RX6 82 RX6 yX6_isFrame wsX6_isFrame) := goodIn_app (goodIn_of _ (by decide +kernel)) ggX6_miss_X6_isFrame
set_option maxRecDepth 20000 in
theorem ggX6_miss_X6_in : GoodIn wsX6_miss wsX6_in := goodIn_r _ [11] (by decide +kernel) (by decide +kernel)
set_option maxRecDepth 20000 in
theorem gX6_miss_X6_in : GoodIn wsX6_miss (va_wsS RX6 75 yX6_in wsX6_in) := goodIn_app (goodIn_of _ (by decide +kernel)) ggX6_miss_X6_in
set_option maxRecDepth 20000 in
theorem ggX6_miss_X6_findMiss : GoodIn wsX6_miss wsX6_findMiss := goodIn_r _ [15, 1, 2, 16, 17, 18, 19, 20, 21, 6, 22, 9, 10, 11, 23, 24, 25, 26, 30, 31, 32, 33, 34, 35, 36, 37, 38, 39, 40, 41, 42, 43, 44, 45, 46, 47, 48, 49, 50, 51, 52, 53, 54, 55, 56, 57, 58, 59, 60, 61, 62] (by decide +kernel) (by decide +kernel)
set_option maxRecDepth 20000 in
theorem gX6_miss_X6_findMiss : GoodIn wsX6_miss (wsV RX6 102 RX6 yX6_findMiss wsX6_findMiss) := goodIn_app (goodIn_of _ (by decide +kernel)) ggX6_miss_X6_findMiss
set_option maxRecDepth 20000 in
theorem ggX6_miss_X6_common : GoodIn wsX6_miss wsX6_common := goodIn_r _ [29] (by decide +kernel) (by decide +kernel)
set_option maxRecDepth 20000 in
theorem gX6_miss_X6_common : GoodIn wsX6_miss (va_wsS RX6 105 yX6_common wsX6_common) := goodIn_app (goodIn_of _ (by decide +kernel)) ggX6_miss_X6_common
theorem dX6_miss_0 : decode cX6_miss 0 = .ok (.aload_n 0, 1) := by decide +kernel
theorem dX6_miss_1 : decode cX6_miss 1 = .ok (.iload_n 1, 1) := by decide +kernel
theorem dX6_miss_2 : decode cX6_miss 2 = .ok (.invokevirtual 82, 3) := by decide +kernel
theorem dX6_miss_5 : decode cX6_miss 5 = .ok (.ifCond .eq 37, 3) := by decide +kernel
theorem dX6_miss_8 : decode cX6_miss 8 = .ok (.iload_n 1, 1) := by decide +kernel
theorem dX6_miss_9 : decode cX6_miss 9 = .ok (.ifCond .eq 33, 3) := by decide +kernel
theorem dX6_miss_12 : decode cX6_miss 12 = .ok (.iload_n 2, 1) := by decide +kernel
theorem dX6_miss_13 : decode cX6_miss 13 = .ok (.bipush (-2), 2) := by decide +kernel
theorem dX6_miss_15 : decode cX6_miss 15 = .ok (.iconst 2, 1) := by decide +kernel
theorem dX6_miss_16 : decode cX6_miss 16 = .ok (.invokestatic 75, 3) := by decide +kernel
theorem dX6_miss_19 : decode cX6_miss 19 = .ok (.ifCond .eq 23, 3) := by decide +kernel
theorem dX6_miss_22 : decode cX6_miss 22 = .ok (.iload_n 3, 1) := by decide +kernel
theorem dX6_miss_23 : decode cX6_miss 23 = .ok (.bipush (-2), 2) := by decide +kernel
theorem dX6_miss_25 : decode cX6_miss 25 = .ok (.iconst 2, 1) := by decide +kernel
theorem dX6_miss_26 : decode cX6_miss 26 = .ok (.invokestatic 75, 3) := by decide +kernel
theorem dX6_miss_29 : decode cX6_miss 29 = .ok (.ifCond .eq 13, 3) := by decide +kernel
theorem dX6_miss_32 : decode cX6_miss 32 = .ok (.iload 4, 2) := by decide +kernel
theorem dX6_miss_34 : decode cX6_miss 34 = .ok (.iconst 0, 1) := by decide +kernel
theorem dX6_miss_35 : decode cX6_miss 35 = .ok (.iconst 1, 1) := by decide +kernel
theorem dX6_miss_36 : decode cX6_miss 36 = .ok (.invokestatic 75, 3) := by decide +kernel
theorem dX6_miss_39 : decode cX6_miss 39 = .ok (.ifCond .ne 5, 3) := by decide +kernel
theorem dX6_miss_42 : decode cX6_miss 42 = .ok (.iconst (-1), 1) := by decide +kernel
theorem dX6_miss_43 : decode cX6_miss 43 = .ok (.ireturn, 1) := by decide +kernel
theorem dX6_miss_44 : decode cX6_miss 44 = .ok (.aload_n 0, 1) := by decide +kernel
theorem dX6_miss_45 : decode cX6_miss 45 = .ok (.iload_n 1, 1) := by decide +kernel
theorem dX6_miss_46 : decode cX6_miss 46 = .ok (.iload_n 2, 1) := by decide +kernel
theorem dX6_miss_47 : decode cX6_miss 47 = .ok (.iload_n 3, 1) := by decide +kernel
theorem dX6_miss_48 : decode cX6_miss 48 = .ok (.invokevirtual 102, 3) := by decide +kernel
theorem dX6_miss_51 : decode cX6_miss 51 = .ok (.ifCond .ne 6, 3) := by decide +kernel
theorem dX6_miss_54 : decode cX6_miss 54 = .ok (.bipush (-3), 2) := by decide +kernel
theorem dX6_miss_56 : decode cX6_miss 56 = .ok (.ireturn, 1) := by decide +kernel
theorem dX6_miss_57 : decode cX6_miss 57 = .ok (.aload_n 0, 1) := by decide +kernel
theorem dX6_miss_58 : decode cX6_miss 58 = .ok (.getfield 96, 3) := by decide +kernel
theorem dX6_miss_61 : decode cX6_miss 61 = .ok (.aload_n 0, 1) := by decide +kernel
theorem dX6_miss_62 : decode cX6_miss 62 = .ok (.getfield 99, 3) := by decide +kernel
theorem dX6_miss_65 : decode cX6_miss 65 = .ok (.invokestatic 105, 3) := by decide +kernel
theorem dX6_miss_68 : decode cX6_miss 68 = .ok (.istore 5, 2) := by decide +kernel
theorem dX6_miss_70 : decode cX6_miss 70 = .ok (.iload 4, 2) := by decide +kernel
theorem dX6_miss_72 : decode cX6_miss 72 = .ok (.ifCond .ne 13, 3) := by decide +kernel
theorem dX6_miss_75 : decode cX6_miss 75 = .ok (.aload_n 0, 1) := by decide +kernel
theorem dX6_miss_76 : decode cX6_miss 76 = .ok (.getfield 96, 3) := by decide +kernel
theorem dX6_miss_79 : decode cX6_miss 79 = .ok (.iload 5, 2) := by decide +kernel
theorem dX6_miss_81 : decode cX6_miss 81 = .ok (.idiv, 1) := by decide +kernel
theorem dX6_miss_82 : decode cX6_miss 82 = .ok (.goto 10, 3) := by decide +kernel
theorem dX6_miss_85 : decode cX6_miss 85 = .ok (.aload_n 0, 1) := by decide +kernel
theorem dX6_miss_86 : decode cX6_miss 86 = .ok (.getfield 99, 3) := by decide +kernel
theorem dX6_miss_89 : decode cX6_miss 89 = .ok (.iload 5, 2) := by decide +kernel
theorem dX6_miss_91 : decode cX6_miss 91 = .ok (.idiv, 1) := by decide +kernel
theorem dX6_miss_92 : decode cX6_miss 92 = .ok (.ireturn, 1) := by decide +kernel
theorem dX6_size_0 : decode cX6_size 0 = .ok (.iload_n 0, 1) := by decide +kernel
theorem dX6_size_1 : decode cX6_size 1 = .ok (.ifCond .ge 8, 3) := by decide +kernel
theorem dX6_size_4 : decode cX6_size 4 = .ok (.iload_n 0, 1) := by decide +kernel
theorem dX6_size_5 : decode cX6_size 5 = .ok (.ineg, 1) := by decide +kernel
theorem dX6_size_6 : decode cX6_size 6 = .ok (.goto 4, 3) := by decide +kernel
theorem dX6_size_9 : decode cX6_size 9 = .ok (.iload_n 0, 1) := by decide +kernel
theorem dX6_size_10 : decode cX6_size 10 = .ok (.ireturn, 1) := by decide +kernel
set_option maxRecDepth 20000 in
theorem ggX6_findShift_X6_findMiss : GoodIn wsX6_findShift wsX6_findMiss := goodIn_r _ [9, 3, 4, 10, 11, 12, 13, 14, 15, 8, 16, 17, 18, 19, 20, 21, 22, 23, 27, 28, 29, 30, 31, 32, 33, 34, 35, 36, 37, 38, 39, 40, 41, 42, 43, 44, 45, 46, 47, 48, 49, 50, 51, 52, 53, 54, 55, 56, 57, 58, 59] (by decide +kernel) (by decide +kernel)
set_option maxRecDepth 20000 in
theorem gX6_findShift_X6_findMiss : GoodIn wsX6_findShift (wsV RX6 102 RX6 yX6_findMiss wsX6_findMiss) := goodIn_app (goodIn_of _ (by decide +kernel)) ggX6_findShift_X6_findMiss
set_option maxRecDepth 20000 in
theorem ggX6_findShift_X6_size : GoodIn wsX6_findShift wsX6_size := goodIn_r _ [26] (by decide +kernel) (by decide +kernel)
set_option maxRecDepth 20000 in
theorem gX6_findShift_X6_size : GoodIn wsX6_findShift (va_wsS RX6 115 yX6_size wsX6_size) := goodIn_app (goodIn_of _ (by decide +kernel)) ggX6_findShift_X6_size
theorem dX6_findShift_0 : decode cX6_findShift 0 = .ok (.aload_n 0, 1) := by decide +kernel
theorem dX6_findShift_1 : decode cX6_findShift 1 = .ok (.iconst 0, 1) := by decide +kernel
theorem dX6_findShift_2 : decode cX6_findShift 2 = .ok (.putfield 109, 3) := by decide +kernel
theorem dX6_findShift_5 : decode cX6_findShift 5 = .ok (.aload_n 0, 1) := by decide +kernel
theorem dX6_findShift_6 : decode cX6_findShift 6 = .ok (.iconst 0, 1) := by decide +kernel
theorem dX6_findShift_7 : decode cX6_findShift 7 = .ok (.putfield 112, 3) := by decide +kernel
theorem dX6_findShift_10 : decode cX6_findShift 10 = .ok (.iconst 0, 1) := by decide +kernel
theorem dX6_findShift_11 : decode cX6_findShift 11 = .ok (.istore_n 2, 1) := by decide +kernel
theorem dX6_findShift_12 : decode cX6_findShift 12 = .ok (.iconst 0, 1) := by decide +kernel
theorem dX6_findShift_13 : decode cX6_findShift 13 = .ok (.istore_n 3, 1) := by decide +kernel
theorem dX6_findShift_14 : decode cX6_findShift 14 = .ok (.iconst 1, 1) := by decide +kernel
theorem dX6_findShift_15 : decode cX6_findShift 15 = .ok (.istore 4, 2) := by decide +kernel
theorem dX6_findShift_17 : decode cX6_findShift 17 = .ok (.bipush (-2), 2) := by decide +kernel
theorem dX6_findShift_19 : decode cX6_findShift 19 = .ok (.istore 5, 2) := by decide +kernel
theorem dX6_findShift_21 : decode cX6_findShift 21 = .ok (.iload 5, 2) := by decide +kernel
theorem dX6_findShift_23 : decode cX6_findShift 23 = .ok (.iconst 2, 1) := by decide +kernel
theorem dX6_findShift_24 : decode cX6_findShift 24 = .ok (.if_icmp .gt 129, 3) := by decide +kernel
theorem dX6_findShift_27 : decode cX6_findShift 27 = .ok (.bipush (-2), 2) := by decide +kernel
theorem dX6_findShift_29 : decode cX6_findShift 29 = .ok (.istore 6, 2) := by decide +kernel
theorem dX6_findShift_31 : decode cX6_findShift 31 = .ok (.iload 6, 2) := by decide +kernel
theorem dX6_findShift_33 : decode cX6_findShift 33 = .ok (.iconst 2, 1) := by decide +kernel
theorem dX6_findShift_34 : decode cX6_findShift 34 = .ok (.if_icmp .gt 113, 3) := by decide +kernel
theorem dX6_findShift_37 : decode cX6_findShift 37 = .ok (.aload_n 0, 1) := by decide +kernel
theorem dX6_findShift_38 : decode cX6_findShift 38 = .ok (.iload_n 1, 1) := by decide +kernel
theorem dX6_findShift_39 : decode cX6_findShift 39 = .ok (.iload 6, 2) := by decide +kernel
theorem dX6_findShift_41 : decode cX6_findShift 41 = .ok (.iload 5, 2) := by decide +kernel
theorem dX6_findShift_43 : decode cX6_findShift 43 = .ok (.invokevirtual 102, 3) := by decide +kernel
theorem dX6_findShift_46 : decode cX6_findShift 46 = .ok (.ifCond .ne 6, 3) := by decide +kernel
theorem dX6_findShift_49 : decode cX6_findShift 49 = .ok (.goto 92, 3) := by decide +kernel
theorem dX6_findShift_52 : decode cX6_findShift 52 = .ok (.aload_n 0, 1) := by decide +kernel
theorem dX6_findShift_53 : decode cX6_findShift 53 = .ok (.getfield 96, 3) := by decide +kernel
theorem dX6_findShift_56 : decode cX6_findShift 56 = .ok (.iload 4, 2) := by decide +kernel
theorem dX6_findShift_58 : decode cX6_findShift 58 = .ok (.imul, 1) := by decide +kernel
theorem dX6_findShift_59 : decode cX6_findShift 59 = .ok (.iload_n 3, 1) := by decide +kernel
theorem dX6_findShift_60 : decode cX6_findShift 60 = .ok (.aload_n 0, 1) := by decide +kernel
theorem dX6_findShift_61 : decode cX6_findShift 61 = .ok (.getfield 99, 3) := by decide +kernel
theorem dX6_findShift_64 : decode cX6_findShift 64 = .ok (.imul, 1) := by decide +kernel
theorem dX6_findShift_65 : decode cX6_findShift 65 = .ok (.isub, 1) := by decide +kernel
theorem dX6_findShift_66 : decode cX6_findShift 66 = .ok (.istore 7, 2) := by decide +kernel
theorem dX6_findShift_68 : decode cX6_findShift 68 = .ok (.iload 6, 2) := by decide +kernel
theorem dX6_findShift_70 : decode cX6_findShift 70 = .ok (.invokestatic 115, 3) := by decide +kernel
theorem dX6_findShift_73 : decode cX6_findShift 73 = .ok (.iload 5, 2) := by decide +kernel
theorem dX6_findShift_75 : decode cX6_findShift 75 = .ok (.invokestatic 115, 3) := by decide +kernel
theorem dX6_findShift_78 : decode cX6_findShift 78 = .ok (.iadd, 1) := by decide +kernel
theorem dX6_findShift_79 : decode cX6_findShift 79 = .ok (.aload_n 0, 1) := by decide +kernel
theorem dX6_findShift_80 : decode cX6_findShift 80 = .ok (.getfield 109, 3) := by decide +kernel
theorem dX6_findShift_83 : decode cX6_findShift 83 = .ok (.invokestatic 115, 3) := by decide +kernel
theorem dX6_findShift_86 : decode cX6_findShift 86 = .ok (.isub, 1) := by decide +kernel
theorem dX6_findShift_87 : decode cX6_findShift 87 = .ok (.aload_n 0, 1) := by decide +kernel
theorem dX6_findShift_88 : decode cX6_findShift 88 = .ok (.getfield 112, 3) := by decide +kernel
theorem dX6_findShift_91 : decode cX6_findShift 91 = .ok (.invokestatic 115, 3) := by decide +kernel
theorem dX6_findShift_94 : decode cX6_findShift 94 = .ok (.isub, 1) := by decide +kernel
theorem dX6_findShift_95 : decode cX6_findShift 95 = .ok (.istore 8, 2) := by decide +kernel
theorem dX6_findShift_97 : decode cX6_findShift 97 = .ok (.iload_n 2, 1) := by decide +kernel
theorem dX6_findShift_98 : decode cX6_findShift 98 = .ok (.ifCond .eq 18, 3) := by decide +kernel
theorem dX6_findShift_101 : decode cX6_findShift 101 = .ok (.iload 7, 2) := by decide +kernel
theorem dX6_findShift_103 : decode cX6_findShift 103 = .ok (.ifCond .lt 13, 3) := by decide +kernel
theorem dX6_findShift_106 : decode cX6_findShift 106 = .ok (.iload 7, 2) := by decide +kernel
theorem dX6_findShift_108 : decode cX6_findShift 108 = .ok (.ifCond .ne 33, 3) := by decide +kernel
theorem dX6_findShift_111 : decode cX6_findShift 111 = .ok (.iload 8, 2) := by decide +kernel
theorem dX6_findShift_113 : decode cX6_findShift 113 = .ok (.ifCond .ge 28, 3) := by decide +kernel
theorem dX6_findShift_116 : decode cX6_findShift 116 = .ok (.iconst 1, 1) := by decide +kernel
theorem dX6_findShift_117 : decode cX6_findShift 117 = .ok (.istore_n 2, 1) := by decide +kernel
theorem dX6_findShift_118 : decode cX6_findShift 118 = .ok (.aload_n 0, 1) := by decide +kernel
theorem dX6_findShift_119 : decode cX6_findShift 119 = .ok (.getfield 96, 3) := by decide +kernel
theorem dX6_findShift_122 : decode cX6_findShift 122 = .ok (.istore_n 3, 1) := by decide +kernel
theorem dX6_findShift_123 : decode cX6_findShift 123 = .ok (.aload_n 0, 1) := by decide +kernel
theorem dX6_findShift_124 : decode cX6_findShift 124 = .ok (.getfield 99, 3) := by decide +kernel
theorem dX6_findShift_127 : decode cX6_findShift 127 = .ok (.istore 4, 2) := by decide +kernel
theorem dX6_findShift_129 : decode cX6_findShift 129 = .ok (.aload_n 0, 1) := by decide +kernel
theorem dX6_findShift_130 : decode cX6_findShift 130 = .ok (.iload 6, 2) := by decide +kernel
theorem dX6_findShift_132 : decode cX6_findShift 132 = .ok (.putfield 109, 3) := by decide +kernel
theorem dX6_findShift_135 : decode cX6_findShift 135 = .ok (.aload_n 0, 1) := by decide +kernel
theorem dX6_findShift_136 : decode cX6_findShift 136 = .ok (.iload 5, 2) := by decide +kernel
theorem dX6_findShift_138 : decode cX6_findShift 138 = .ok (.putfield 112, 3) := by decide +kernel
theorem dX6_findShift_141 : decode cX6_findShift 141 = .ok (.iinc 6 1, 3) := by decide +kernel
theorem dX6_findShift_144 : decode cX6_findShift 144 = .ok (.goto (-113), 3) := by decide +kernel
theorem dX6_findShift_147 : decode cX6_findShift 147 = .ok (.iinc 5 1, 3) := by decide +kernel
theorem dX6_findShift_150 : decode cX6_findShift 150 = .ok (.goto (-129), 3) := by decide +kernel
theorem dX6_findShift_153 : decode cX6_findShift 153 = .ok (.return_, 1) := by decide +kernel
set_option maxRecDepth 20000 in
theorem ggX6_shift_X6_isFrame : GoodIn wsX6_shift wsX6_isFrame := goodIn_r _ [7, 8, 9, 10, 6, 11, 36, 37, 38, 39, 40, 41, 42, 43, 44, 45, 46, 47, 48, 49, 50, 51, 52, 53, 54, 55, 56, 57, 58, 59, 60, 61, 62, 63, 64, 65, 66, 67, 68] (by decide +kernel) (by decide +kernel)
set_option maxRecDepth 20000 in
theorem gX6_shift_X6_isFrame : GoodIn wsX6_shift (wsV RX6 82 RX6 yX6_isFrame wsX6_isFrame) := goodIn_app (goodIn_of _ (by decide +kernel)) ggX6_shift_X6_isFrame
set_option maxRecDepth 20000 in
theorem ggX6_shift_X6_in : GoodIn wsX6_shift wsX6_in := goodIn_r _ [11] (by decide +kernel) (by decide +kernel)
set_option maxRecDepth 20000 in
theorem gX6_shift_X6_in : GoodIn wsX6_shift (va_wsS RX6 75 yX6_in wsX6_in) := goodIn_app (goodIn_of _ (by decide +kernel)) ggX6_shift_X6_in
set_option maxRecDepth 20000 in
theorem ggX6_shift_X6_findShift : GoodIn wsX6_shift wsX6_findShift := goodIn_r _ [15, 1, 2, 16, 17, 18, 19, 20, 6, 21, 22, 23, 24, 25, 26, 27, 28, 9, 10, 11, 29, 30, 31, 32, 33, 34, 35, 36, 37, 38, 39, 40, 41, 42, 43, 44, 45, 46, 47, 48, 49, 50, 51, 52, 53, 54, 55, 56, 57, 58, 59, 60, 61, 62, 63, 64, 65, 66, 67, 68] (by decide +kernel) (by decide +kernel)
set_option maxRecDepth 20000 in
theorem gX6_shift_X6_findShift : GoodIn wsX6_shift (wsV RX6 119 RX6 yX6_findShift wsX6_findShift) := goodIn_app (goodIn_of _ (by decide +kernel)) ggX6_shift_X6_findShift
theorem dX6_shift_0 : decode cX6_shift 0 = .ok (.aload_n 0, 1) := by decide +kernel
theorem dX6_shift_1 : decode cX6_shift 1 = .ok (.iload_n 1, 1) := by decide +kernel
theorem dX6_shift_2 : decode cX6_shift 2 = .ok (.invokevirtual 82, 3) := by decide +kernel
theorem dX6_shift_5 : decode cX6_shift 5 = .ok (.ifCond .eq 16, 3) := by decide +kernel
theorem dX6_shift_8 : decode cX6_shift 8 = .ok (.iload_n 1, 1) := by decide +kernel
theorem dX6_shift_9 : decode cX6_shift 9 = .ok (.ifCond .eq 12, 3) := by decide +kernel
theorem dX6_shift_12 : decode cX6_shift 12 = .ok (.iload_n 2, 1) := by decide +kernel
theorem dX6_shift_13 : decode cX6_shift 13 = .ok (.iconst 0, 1) := by decide +kernel
theorem dX6_shift_14 : decode cX6_shift 14 = .ok (.iconst 1, 1) := by decide +kernel
theorem dX6_shift_15 : decode cX6_shift 15 = .ok (.invokestatic 75, 3) := by decide +kernel
theorem dX6_shift_18 : decode cX6_shift 18 = .ok (.ifCond .ne 7, 3) := by decide +kernel
theorem dX6_shift_21 : decode cX6_shift 21 = .ok (.sipush (-1000), 3) := by decide +kernel
theorem dX6_shift_24 : decode cX6_shift 24 = .ok (.ireturn, 1) := by decide +kernel
theorem dX6_shift_25 : decode cX6_shift 25 = .ok (.aload_n 0, 1) := by decide +kernel
theorem dX6_shift_26 : decode cX6_shift 26 = .ok (.iload_n 1, 1) := by decide +kernel
theorem dX6_shift_27 : decode cX6_shift 27 = .ok (.invokevirtual 119, 3) := by decide +kernel
theorem dX6_shift_30 : decode cX6_shift 30 = .ok (.iload_n 2, 1) := by decide +kernel
theorem dX6_shift_31 : decode cX6_shift 31 = .ok (.ifCond .ne 10, 3) := by decide +kernel
theorem dX6_shift_34 : decode cX6_shift 34 = .ok (.aload_n 0, 1) := by decide +kernel
theorem dX6_shift_35 : decode cX6_shift 35 = .ok (.getfield 109, 3) := by decide +kernel
theorem dX6_shift_38 : decode cX6_shift 38 = .ok (.goto 7, 3) := by decide +kernel
theorem dX6_shift_41 : decode cX6_shift 41 = .ok (.aload_n 0, 1) := by decide +kernel
theorem dX6_shift_42 : decode cX6_shift 42 = .ok (.getfield 112, 3) := by decide +kernel
theorem dX6_shift_45 : decode cX6_shift 45 = .ok (.ireturn, 1) := by decide +kernel
set_option maxRecDepth 20000 in
theorem ggX6_driftOf_X6_findShift : GoodIn wsX6_driftOf wsX6_findShift := goodIn_r _ [7, 1, 2, 8, 9, 10, 11, 12, 6, 13, 14, 15, 16, 17, 18, 19, 20, 21, 22, 23, 24, 25, 26, 27, 28, 29, 30, 31, 32, 33, 34, 35, 36, 37, 38, 39, 40, 41, 42, 43, 44, 45, 46, 47, 48, 49, 50, 51, 52, 53, 54, 55, 56, 57, 58, 59, 60, 61, 62, 63] (by decide +kernel) (by decide +kernel)
set_option maxRecDepth 20000 in
theorem gX6_driftOf_X6_findShift : GoodIn wsX6_driftOf (wsV RX6 119 RX6 yX6_findShift wsX6_findShift) := goodIn_app (goodIn_of _ (by decide +kernel)) ggX6_driftOf_X6_findShift
theorem dX6_driftOf_0 : decode cX6_driftOf 0 = .ok (.iconst 0, 1) := by decide +kernel
theorem dX6_driftOf_1 : decode cX6_driftOf 1 = .ok (.istore_n 3, 1) := by decide +kernel
theorem dX6_driftOf_2 : decode cX6_driftOf 2 = .ok (.iconst 1, 1) := by decide +kernel
theorem dX6_driftOf_3 : decode cX6_driftOf 3 = .ok (.istore 4, 2) := by decide +kernel
theorem dX6_driftOf_5 : decode cX6_driftOf 5 = .ok (.iload 4, 2) := by decide +kernel
theorem dX6_driftOf_7 : decode cX6_driftOf 7 = .ok (.iload_n 1, 1) := by decide +kernel
theorem dX6_driftOf_8 : decode cX6_driftOf 8 = .ok (.if_icmp .gt 33, 3) := by decide +kernel
theorem dX6_driftOf_11 : decode cX6_driftOf 11 = .ok (.aload_n 0, 1) := by decide +kernel
theorem dX6_driftOf_12 : decode cX6_driftOf 12 = .ok (.iload 4, 2) := by decide +kernel
theorem dX6_driftOf_14 : decode cX6_driftOf 14 = .ok (.invokevirtual 119, 3) := by decide +kernel
theorem dX6_driftOf_17 : decode cX6_driftOf 17 = .ok (.iload_n 3, 1) := by decide +kernel
theorem dX6_driftOf_18 : decode cX6_driftOf 18 = .ok (.iload_n 2, 1) := by decide +kernel
theorem dX6_driftOf_19 : decode cX6_driftOf 19 = .ok (.ifCond .ne 10, 3) := by decide +kernel
theorem dX6_driftOf_22 : decode cX6_driftOf 22 = .ok (.aload_n 0, 1) := by decide +kernel
theorem dX6_driftOf_23 : decode cX6_driftOf 23 = .ok (.getfield 109, 3) := by decide +kernel
theorem dX6_driftOf_26 : decode cX6_driftOf 26 = .ok (.goto 7, 3) := by decide +kernel
theorem dX6_driftOf_29 : decode cX6_driftOf 29 = .ok (.aload_n 0, 1) := by decide +kernel
theorem dX6_driftOf_30 : decode cX6_driftOf 30 = .ok (.getfield 112, 3) := by decide +kernel
theorem dX6_driftOf_33 : decode cX6_driftOf 33 = .ok (.iadd, 1) := by decide +kernel
theorem dX6_driftOf_34 : decode cX6_driftOf 34 = .ok (.istore_n 3, 1) := by decide +kernel
theorem dX6_driftOf_35 : decode cX6_driftOf 35 = .ok (.iinc 4 1, 3) := by decide +kernel
theorem dX6_driftOf_38 : decode cX6_driftOf 38 = .ok (.goto (-33), 3) := by decide +kernel
theorem dX6_driftOf_41 : decode cX6_driftOf 41 = .ok (.iload_n 3, 1) := by decide +kernel
theorem dX6_driftOf_42 : decode cX6_driftOf 42 = .ok (.ireturn, 1) := by decide +kernel
set_option maxRecDepth 20000 in
theorem ggX6_drift_X6_isFrame : GoodIn wsX6_drift wsX6_isFrame := goodIn_r _ [5, 6, 7, 8, 4, 9, 40, 41, 42, 43, 44, 45, 46, 47, 48, 49, 50, 51, 52, 53, 54, 55, 56, 57, 58, 59, 60, 61, 62, 63, 64, 65, 66, 67, 68, 69, 70, 71, 72] (by decide +kernel) (by decide +kernel)
set_option maxRecDepth 20000 in
theorem gX6_drift_X6_isFrame : GoodIn wsX6_drift (wsV RX6 82 RX6 yX6_isFrame wsX6_isFrame) := goodIn_app (goodIn_of _ (by decide +kernel)) ggX6_drift_X6_isFrame
set_option maxRecDepth 20000 in
theorem ggX6_drift_X6_in : GoodIn wsX6_drift wsX6_in := goodIn_r _ [9] (by decide +kernel) (by decide +kernel)
set_option maxRecDepth 20000 in
theorem gX6_drift_X6_in : GoodIn wsX6_drift (va_wsS RX6 75 yX6_in wsX6_in) := goodIn_app (goodIn_of _ (by decide +kernel)) ggX6_drift_X6_in
set_option maxRecDepth 20000 in
theorem ggX6_drift_X6_driftOf : GoodIn wsX6_drift wsX6_driftOf := goodIn_r _ [13, 14, 15, 16, 17, 18, 4, 19, 20, 21, 22, 23, 24, 25, 26, 27, 28, 29, 30, 31, 32, 7, 8, 9, 33, 34, 35, 36, 37, 38, 39, 40, 41, 42, 43, 44, 45, 46, 47, 48, 49, 50, 51, 52, 53, 54, 55, 56, 57, 58, 59, 60, 61, 62, 63, 64, 65, 66, 67, 68, 69, 70, 71, 72] (by decide +kernel) (by decide +kernel)
set_option maxRecDepth 20000 in
theorem gX6_drift_X6_driftOf : GoodIn wsX6_drift (wsV RX6 123 RX6 yX6_driftOf wsX6_driftOf) := goodIn_app (goodIn_of _ (by decide +kernel)) ggX6_drift_X6_driftOf
theorem dX6_drift_0 : decode cX6_drift 0 = .ok (.aload_n 0, 1) := by decide +kernel
theorem dX6_drift_1 : decode cX6_drift 1 = .ok (.iload_n 1, 1) := by decide +kernel
theorem dX6_drift_2 : decode cX6_drift 2 = .ok (.invokevirtual 82, 3) := by decide +kernel
theorem dX6_drift_5 : decode cX6_drift 5 = .ok (.ifCond .eq 21, 3) := by decide +kernel
theorem dX6_drift_8 : decode cX6_drift 8 = .ok (.iload_n 2, 1) := by decide +kernel
theorem dX6_drift_9 : decode cX6_drift 9 = .ok (.iconst 0, 1) := by decide +kernel
theorem dX6_drift_10 : decode cX6_drift 10 = .ok (.iconst 1, 1) := by decide +kernel
theorem dX6_drift_11 : decode cX6_drift 11 = .ok (.invokestatic 75, 3) := by decide +kernel
theorem dX6_drift_14 : decode cX6_drift 14 = .ok (.ifCond .eq 12, 3) := by decide +kernel
theorem dX6_drift_17 : decode cX6_drift 17 = .ok (.aload_n 0, 1) := by decide +kernel
theorem dX6_drift_18 : decode cX6_drift 18 = .ok (.iload_n 1, 1) := by decide +kernel
theorem dX6_drift_19 : decode cX6_drift 19 = .ok (.iload_n 2, 1) := by decide +kernel
theorem dX6_drift_20 : decode cX6_drift 20 = .ok (.invokevirtual 123, 3) := by decide +kernel
theorem dX6_drift_23 : decode cX6_drift 23 = .ok (.goto 6, 3) := by decide +kernel
theorem dX6_drift_26 : decode cX6_drift 26 = .ok (.sipush (-1000), 3) := by decide +kernel
theorem dX6_drift_29 : decode cX6_drift 29 = .ok (.ireturn, 1) := by decide +kernel
theorem dX6_placeAt_0 : decode cX6_placeAt 0 = .ok (.aload_n 0, 1) := by decide +kernel
theorem dX6_placeAt_1 : decode cX6_placeAt 1 = .ok (.getfield 57, 3) := by decide +kernel
theorem dX6_placeAt_4 : decode cX6_placeAt 4 = .ok (.iload_n 1, 1) := by decide +kernel
theorem dX6_placeAt_5 : decode cX6_placeAt 5 = .ok (.iaload, 1) := by decide +kernel
theorem dX6_placeAt_6 : decode cX6_placeAt 6 = .ok (.iload_n 2, 1) := by decide +kernel
theorem dX6_placeAt_7 : decode cX6_placeAt 7 = .ok (.iadd, 1) := by decide +kernel
theorem dX6_placeAt_8 : decode cX6_placeAt 8 = .ok (.aload_n 0, 1) := by decide +kernel
theorem dX6_placeAt_9 : decode cX6_placeAt 9 = .ok (.getfield 36, 3) := by decide +kernel
theorem dX6_placeAt_12 : decode cX6_placeAt 12 = .ok (.iconst 0, 1) := by decide +kernel
theorem dX6_placeAt_13 : decode cX6_placeAt 13 = .ok (.iaload, 1) := by decide +kernel
theorem dX6_placeAt_14 : decode cX6_placeAt 14 = .ok (.isub, 1) := by decide +kernel
theorem dX6_placeAt_15 : decode cX6_placeAt 15 = .ok (.ireturn, 1) := by decide +kernel
set_option maxRecDepth 20000 in
theorem ggX6_strayAt_X6_size : GoodIn wsX6_strayAt wsX6_size := goodIn_r _ [5] (by decide +kernel) (by decide +kernel)
set_option maxRecDepth 20000 in
theorem gX6_strayAt_X6_size : GoodIn wsX6_strayAt (va_wsS RX6 115 yX6_size wsX6_size) := goodIn_app (goodIn_of _ (by decide +kernel)) ggX6_strayAt_X6_size
theorem dX6_strayAt_0 : decode cX6_strayAt 0 = .ok (.iload_n 1, 1) := by decide +kernel
theorem dX6_strayAt_1 : decode cX6_strayAt 1 = .ok (.aload_n 0, 1) := by decide +kernel
theorem dX6_strayAt_2 : decode cX6_strayAt 2 = .ok (.getfield 36, 3) := by decide +kernel
theorem dX6_strayAt_5 : decode cX6_strayAt 5 = .ok (.iconst 0, 1) := by decide +kernel
theorem dX6_strayAt_6 : decode cX6_strayAt 6 = .ok (.iaload, 1) := by decide +kernel
theorem dX6_strayAt_7 : decode cX6_strayAt 7 = .ok (.isub, 1) := by decide +kernel
theorem dX6_strayAt_8 : decode cX6_strayAt 8 = .ok (.invokestatic 115, 3) := by decide +kernel
theorem dX6_strayAt_11 : decode cX6_strayAt 11 = .ok (.ireturn, 1) := by decide +kernel
set_option maxRecDepth 20000 in
theorem ggX6_by_X6_placeAt : GoodIn wsX6_by wsX6_placeAt := goodIn_r _ [6, 7, 8, 16, 17, 18, 19, 20, 21, 22, 23, 24, 25, 26, 27, 28, 29, 30, 31, 32, 33, 34, 35, 36, 37, 38, 39, 40, 41, 42, 43, 44, 45, 46, 47, 48] (by decide +kernel) (by decide +kernel)
set_option maxRecDepth 20000 in
theorem gX6_by_X6_placeAt : GoodIn wsX6_by (wsV RX6 126 RX6 yX6_placeAt wsX6_placeAt) := goodIn_app (goodIn_of _ (by decide +kernel)) ggX6_by_X6_placeAt
set_option maxRecDepth 20000 in
theorem ggX6_by_X6_size : GoodIn wsX6_by wsX6_size := goodIn_r _ [11] (by decide +kernel) (by decide +kernel)
set_option maxRecDepth 20000 in
theorem gX6_by_X6_size : GoodIn wsX6_by (va_wsS RX6 115 yX6_size wsX6_size) := goodIn_app (goodIn_of _ (by decide +kernel)) ggX6_by_X6_size
set_option maxRecDepth 20000 in
theorem ggX6_by_X6_strayAt : GoodIn wsX6_by wsX6_strayAt := goodIn_r _ [15, 8, 9, 10, 5, 11, 16, 17, 18, 19, 20, 21, 22, 23, 24, 25, 26, 27, 28, 29, 30, 31, 32, 33, 34, 35, 36, 37, 38, 39, 40, 41, 42, 43, 44, 45, 46, 47, 48] (by decide +kernel) (by decide +kernel)
set_option maxRecDepth 20000 in
theorem gX6_by_X6_strayAt : GoodIn wsX6_by (wsV RX6 129 RX6 yX6_strayAt wsX6_strayAt) := goodIn_app (goodIn_of _ (by decide +kernel)) ggX6_by_X6_strayAt
theorem dX6_by_0 : decode cX6_by 0 = .ok (.aload_n 0, 1) := by decide +kernel
theorem dX6_by_1 : decode cX6_by 1 = .ok (.iload_n 1, 1) := by decide +kernel
theorem dX6_by_2 : decode cX6_by 2 = .ok (.iconst 1, 1) := by decide +kernel
theorem dX6_by_3 : decode cX6_by 3 = .ok (.iadd, 1) := by decide +kernel
theorem dX6_by_4 : decode cX6_by 4 = .ok (.iload 4, 2) := by decide +kernel
theorem dX6_by_6 : decode cX6_by 6 = .ok (.invokevirtual 126, 3) := by decide +kernel
theorem dX6_by_9 : decode cX6_by 9 = .ok (.iconst 2, 1) := by decide +kernel
theorem dX6_by_10 : decode cX6_by 10 = .ok (.aload_n 0, 1) := by decide +kernel
theorem dX6_by_11 : decode cX6_by 11 = .ok (.iload_n 1, 1) := by decide +kernel
theorem dX6_by_12 : decode cX6_by 12 = .ok (.iload_n 3, 1) := by decide +kernel
theorem dX6_by_13 : decode cX6_by 13 = .ok (.invokevirtual 126, 3) := by decide +kernel
theorem dX6_by_16 : decode cX6_by 16 = .ok (.imul, 1) := by decide +kernel
theorem dX6_by_17 : decode cX6_by 17 = .ok (.isub, 1) := by decide +kernel
theorem dX6_by_18 : decode cX6_by 18 = .ok (.aload_n 0, 1) := by decide +kernel
theorem dX6_by_19 : decode cX6_by 19 = .ok (.iload_n 1, 1) := by decide +kernel
theorem dX6_by_20 : decode cX6_by 20 = .ok (.iconst 1, 1) := by decide +kernel
theorem dX6_by_21 : decode cX6_by 21 = .ok (.isub, 1) := by decide +kernel
theorem dX6_by_22 : decode cX6_by 22 = .ok (.iload_n 2, 1) := by decide +kernel
theorem dX6_by_23 : decode cX6_by 23 = .ok (.invokevirtual 126, 3) := by decide +kernel
theorem dX6_by_26 : decode cX6_by 26 = .ok (.iadd, 1) := by decide +kernel
theorem dX6_by_27 : decode cX6_by 27 = .ok (.invokestatic 115, 3) := by decide +kernel
theorem dX6_by_30 : decode cX6_by 30 = .ok (.istore 5, 2) := by decide +kernel
theorem dX6_by_32 : decode cX6_by 32 = .ok (.bipush 100, 2) := by decide +kernel
theorem dX6_by_34 : decode cX6_by 34 = .ok (.iload 5, 2) := by decide +kernel
theorem dX6_by_36 : decode cX6_by 36 = .ok (.imul, 1) := by decide +kernel
theorem dX6_by_37 : decode cX6_by 37 = .ok (.aload_n 0, 1) := by decide +kernel
theorem dX6_by_38 : decode cX6_by 38 = .ok (.iload 4, 2) := by decide +kernel
theorem dX6_by_40 : decode cX6_by 40 = .ok (.invokevirtual 129, 3) := by decide +kernel
theorem dX6_by_43 : decode cX6_by 43 = .ok (.iadd, 1) := by decide +kernel
theorem dX6_by_44 : decode cX6_by 44 = .ok (.aload_n 0, 1) := by decide +kernel
theorem dX6_by_45 : decode cX6_by 45 = .ok (.getfield 63, 3) := by decide +kernel
theorem dX6_by_48 : decode cX6_by 48 = .ok (.bipush 49, 2) := by decide +kernel
theorem dX6_by_50 : decode cX6_by 50 = .ok (.iload_n 1, 1) := by decide +kernel
theorem dX6_by_51 : decode cX6_by 51 = .ok (.iconst 1, 1) := by decide +kernel
theorem dX6_by_52 : decode cX6_by 52 = .ok (.iadd, 1) := by decide +kernel
theorem dX6_by_53 : decode cX6_by 53 = .ok (.imul, 1) := by decide +kernel
theorem dX6_by_54 : decode cX6_by 54 = .ok (.bipush 7, 2) := by decide +kernel
theorem dX6_by_56 : decode cX6_by 56 = .ok (.iload_n 3, 1) := by decide +kernel
theorem dX6_by_57 : decode cX6_by 57 = .ok (.imul, 1) := by decide +kernel
theorem dX6_by_58 : decode cX6_by 58 = .ok (.iadd, 1) := by decide +kernel
theorem dX6_by_59 : decode cX6_by 59 = .ok (.iload 4, 2) := by decide +kernel
theorem dX6_by_61 : decode cX6_by 61 = .ok (.iadd, 1) := by decide +kernel
theorem dX6_by_62 : decode cX6_by 62 = .ok (.iaload, 1) := by decide +kernel
theorem dX6_by_63 : decode cX6_by 63 = .ok (.iadd, 1) := by decide +kernel
theorem dX6_by_64 : decode cX6_by 64 = .ok (.ireturn, 1) := by decide +kernel
set_option maxRecDepth 20000 in
theorem ggX6_findRest_X6_by : GoodIn wsX6_findRest wsX6_by := goodIn_r _ [8, 3, 9, 10, 11, 7, 12, 13, 1, 14, 15, 16, 17, 18, 19, 20, 21, 22, 23, 24, 25, 26, 27, 28, 29, 30, 31, 32, 33, 34, 35, 36, 37, 38, 39, 40, 41, 42, 43, 44, 45, 46, 47, 48, 49, 50, 51, 52, 53] (by decide +kernel) (by decide +kernel)
set_option maxRecDepth 20000 in
theorem gX6_findRest_X6_by : GoodIn wsX6_findRest (wsV RX6 132 RX6 yX6_by wsX6_by) := goodIn_app (goodIn_of _ (by decide +kernel)) ggX6_findRest_X6_by
theorem dX6_findRest_0 : decode cX6_findRest 0 = .ok (.iconst 2, 1) := by decide +kernel
theorem dX6_findRest_1 : decode cX6_findRest 1 = .ok (.aload_n 0, 1) := by decide +kernel
theorem dX6_findRest_2 : decode cX6_findRest 2 = .ok (.getfield 36, 3) := by decide +kernel
theorem dX6_findRest_5 : decode cX6_findRest 5 = .ok (.iconst 0, 1) := by decide +kernel
theorem dX6_findRest_6 : decode cX6_findRest 6 = .ok (.iaload, 1) := by decide +kernel
theorem dX6_findRest_7 : decode cX6_findRest 7 = .ok (.imul, 1) := by decide +kernel
theorem dX6_findRest_8 : decode cX6_findRest 8 = .ok (.iconst 1, 1) := by decide +kernel
theorem dX6_findRest_9 : decode cX6_findRest 9 = .ok (.iadd, 1) := by decide +kernel
theorem dX6_findRest_10 : decode cX6_findRest 10 = .ok (.istore_n 1, 1) := by decide +kernel
theorem dX6_findRest_11 : decode cX6_findRest 11 = .ok (.aload_n 0, 1) := by decide +kernel
theorem dX6_findRest_12 : decode cX6_findRest 12 = .ok (.getfield 72, 3) := by decide +kernel
theorem dX6_findRest_15 : decode cX6_findRest 15 = .ok (.iconst 1, 1) := by decide +kernel
theorem dX6_findRest_16 : decode cX6_findRest 16 = .ok (.isub, 1) := by decide +kernel
theorem dX6_findRest_17 : decode cX6_findRest 17 = .ok (.istore_n 2, 1) := by decide +kernel
theorem dX6_findRest_18 : decode cX6_findRest 18 = .ok (.iload_n 2, 1) := by decide +kernel
theorem dX6_findRest_19 : decode cX6_findRest 19 = .ok (.iconst 1, 1) := by decide +kernel
theorem dX6_findRest_20 : decode cX6_findRest 20 = .ok (.if_icmp .lt 138, 3) := by decide +kernel
theorem dX6_findRest_23 : decode cX6_findRest 23 = .ok (.iconst 0, 1) := by decide +kernel
theorem dX6_findRest_24 : decode cX6_findRest 24 = .ok (.istore_n 3, 1) := by decide +kernel
theorem dX6_findRest_25 : decode cX6_findRest 25 = .ok (.iload_n 3, 1) := by decide +kernel
theorem dX6_findRest_26 : decode cX6_findRest 26 = .ok (.iload_n 1, 1) := by decide +kernel
theorem dX6_findRest_27 : decode cX6_findRest 27 = .ok (.if_icmp .ge 125, 3) := by decide +kernel
theorem dX6_findRest_30 : decode cX6_findRest 30 = .ok (.iconst 0, 1) := by decide +kernel
theorem dX6_findRest_31 : decode cX6_findRest 31 = .ok (.istore 4, 2) := by decide +kernel
theorem dX6_findRest_33 : decode cX6_findRest 33 = .ok (.iload 4, 2) := by decide +kernel
theorem dX6_findRest_35 : decode cX6_findRest 35 = .ok (.iload_n 1, 1) := by decide +kernel
theorem dX6_findRest_36 : decode cX6_findRest 36 = .ok (.if_icmp .ge 110, 3) := by decide +kernel
theorem dX6_findRest_39 : decode cX6_findRest 39 = .ok (.iload_n 2, 1) := by decide +kernel
theorem dX6_findRest_40 : decode cX6_findRest 40 = .ok (.aload_n 0, 1) := by decide +kernel
theorem dX6_findRest_41 : decode cX6_findRest 41 = .ok (.getfield 72, 3) := by decide +kernel
theorem dX6_findRest_44 : decode cX6_findRest 44 = .ok (.iconst 1, 1) := by decide +kernel
theorem dX6_findRest_45 : decode cX6_findRest 45 = .ok (.isub, 1) := by decide +kernel
theorem dX6_findRest_46 : decode cX6_findRest 46 = .ok (.if_icmp .ne 7, 3) := by decide +kernel
theorem dX6_findRest_49 : decode cX6_findRest 49 = .ok (.iconst 0, 1) := by decide +kernel
theorem dX6_findRest_50 : decode cX6_findRest 50 = .ok (.goto 12, 3) := by decide +kernel
theorem dX6_findRest_53 : decode cX6_findRest 53 = .ok (.aload_n 0, 1) := by decide +kernel
theorem dX6_findRest_54 : decode cX6_findRest 54 = .ok (.iload_n 2, 1) := by decide +kernel
theorem dX6_findRest_55 : decode cX6_findRest 55 = .ok (.iload_n 3, 1) := by decide +kernel
theorem dX6_findRest_56 : decode cX6_findRest 56 = .ok (.iload 4, 2) := by decide +kernel
theorem dX6_findRest_58 : decode cX6_findRest 58 = .ok (.iconst 0, 1) := by decide +kernel
theorem dX6_findRest_59 : decode cX6_findRest 59 = .ok (.invokevirtual 132, 3) := by decide +kernel
theorem dX6_findRest_62 : decode cX6_findRest 62 = .ok (.istore 5, 2) := by decide +kernel
theorem dX6_findRest_64 : decode cX6_findRest 64 = .ok (.iconst 1, 1) := by decide +kernel
theorem dX6_findRest_65 : decode cX6_findRest 65 = .ok (.istore 6, 2) := by decide +kernel
theorem dX6_findRest_67 : decode cX6_findRest 67 = .ok (.iload 6, 2) := by decide +kernel
theorem dX6_findRest_69 : decode cX6_findRest 69 = .ok (.iload_n 1, 1) := by decide +kernel
theorem dX6_findRest_70 : decode cX6_findRest 70 = .ok (.if_icmp .ge 51, 3) := by decide +kernel
theorem dX6_findRest_73 : decode cX6_findRest 73 = .ok (.iload_n 2, 1) := by decide +kernel
theorem dX6_findRest_74 : decode cX6_findRest 74 = .ok (.aload_n 0, 1) := by decide +kernel
theorem dX6_findRest_75 : decode cX6_findRest 75 = .ok (.getfield 72, 3) := by decide +kernel
theorem dX6_findRest_78 : decode cX6_findRest 78 = .ok (.iconst 1, 1) := by decide +kernel
theorem dX6_findRest_79 : decode cX6_findRest 79 = .ok (.isub, 1) := by decide +kernel
theorem dX6_findRest_80 : decode cX6_findRest 80 = .ok (.if_icmp .ge 41, 3) := by decide +kernel
theorem dX6_findRest_83 : decode cX6_findRest 83 = .ok (.aload_n 0, 1) := by decide +kernel
theorem dX6_findRest_84 : decode cX6_findRest 84 = .ok (.iload_n 2, 1) := by decide +kernel
theorem dX6_findRest_85 : decode cX6_findRest 85 = .ok (.iload_n 3, 1) := by decide +kernel
theorem dX6_findRest_86 : decode cX6_findRest 86 = .ok (.iload 4, 2) := by decide +kernel
theorem dX6_findRest_88 : decode cX6_findRest 88 = .ok (.iload 6, 2) := by decide +kernel
theorem dX6_findRest_90 : decode cX6_findRest 90 = .ok (.invokevirtual 132, 3) := by decide +kernel
theorem dX6_findRest_93 : decode cX6_findRest 93 = .ok (.iload 5, 2) := by decide +kernel
theorem dX6_findRest_95 : decode cX6_findRest 95 = .ok (.if_icmp .ge 16, 3) := by decide +kernel
theorem dX6_findRest_98 : decode cX6_findRest 98 = .ok (.aload_n 0, 1) := by decide +kernel
theorem dX6_findRest_99 : decode cX6_findRest 99 = .ok (.iload_n 2, 1) := by decide +kernel
theorem dX6_findRest_100 : decode cX6_findRest 100 = .ok (.iload_n 3, 1) := by decide +kernel
theorem dX6_findRest_101 : decode cX6_findRest 101 = .ok (.iload 4, 2) := by decide +kernel
theorem dX6_findRest_103 : decode cX6_findRest 103 = .ok (.iload 6, 2) := by decide +kernel
theorem dX6_findRest_105 : decode cX6_findRest 105 = .ok (.invokevirtual 132, 3) := by decide +kernel
theorem dX6_findRest_108 : decode cX6_findRest 108 = .ok (.goto 5, 3) := by decide +kernel
theorem dX6_findRest_111 : decode cX6_findRest 111 = .ok (.iload 5, 2) := by decide +kernel
theorem dX6_findRest_113 : decode cX6_findRest 113 = .ok (.istore 5, 2) := by decide +kernel
theorem dX6_findRest_115 : decode cX6_findRest 115 = .ok (.iinc 6 1, 3) := by decide +kernel
theorem dX6_findRest_118 : decode cX6_findRest 118 = .ok (.goto (-51), 3) := by decide +kernel
theorem dX6_findRest_121 : decode cX6_findRest 121 = .ok (.aload_n 0, 1) := by decide +kernel
theorem dX6_findRest_122 : decode cX6_findRest 122 = .ok (.getfield 63, 3) := by decide +kernel
theorem dX6_findRest_125 : decode cX6_findRest 125 = .ok (.bipush 49, 2) := by decide +kernel
theorem dX6_findRest_127 : decode cX6_findRest 127 = .ok (.iload_n 2, 1) := by decide +kernel
theorem dX6_findRest_128 : decode cX6_findRest 128 = .ok (.imul, 1) := by decide +kernel
theorem dX6_findRest_129 : decode cX6_findRest 129 = .ok (.bipush 7, 2) := by decide +kernel
theorem dX6_findRest_131 : decode cX6_findRest 131 = .ok (.iload_n 3, 1) := by decide +kernel
theorem dX6_findRest_132 : decode cX6_findRest 132 = .ok (.imul, 1) := by decide +kernel
theorem dX6_findRest_133 : decode cX6_findRest 133 = .ok (.iadd, 1) := by decide +kernel
theorem dX6_findRest_134 : decode cX6_findRest 134 = .ok (.iload 4, 2) := by decide +kernel
theorem dX6_findRest_136 : decode cX6_findRest 136 = .ok (.iadd, 1) := by decide +kernel
theorem dX6_findRest_137 : decode cX6_findRest 137 = .ok (.iload 5, 2) := by decide +kernel
theorem dX6_findRest_139 : decode cX6_findRest 139 = .ok (.iastore, 1) := by decide +kernel
theorem dX6_findRest_140 : decode cX6_findRest 140 = .ok (.iinc 4 1, 3) := by decide +kernel
theorem dX6_findRest_143 : decode cX6_findRest 143 = .ok (.goto (-110), 3) := by decide +kernel
theorem dX6_findRest_146 : decode cX6_findRest 146 = .ok (.iinc 3 1, 3) := by decide +kernel
theorem dX6_findRest_149 : decode cX6_findRest 149 = .ok (.goto (-124), 3) := by decide +kernel
theorem dX6_findRest_152 : decode cX6_findRest 152 = .ok (.iinc 2 (-1), 3) := by decide +kernel
theorem dX6_findRest_155 : decode cX6_findRest 155 = .ok (.goto (-137), 3) := by decide +kernel
theorem dX6_findRest_158 : decode cX6_findRest 158 = .ok (.return_, 1) := by decide +kernel
set_option maxRecDepth 20000 in
theorem ggX6_findPath_X6_driftOf : GoodIn wsX6_findPath wsX6_driftOf := goodIn_r _ [12, 13, 14, 15, 16, 17, 11, 18, 19, 20, 21, 22, 23, 24, 25, 26, 27, 28, 29, 30, 31, 32, 33, 34, 35, 36, 37, 38, 39, 40, 41, 58, 59, 60, 61, 62, 63, 64, 65, 66, 67, 68, 69, 70, 71, 72, 73, 74, 75, 76, 77, 78, 79, 80, 81, 82, 83, 84, 85, 86, 87, 88, 89, 90] (by decide +kernel) (by decide +kernel)
set_option maxRecDepth 20000 in
theorem gX6_findPath_X6_driftOf : GoodIn wsX6_findPath (wsV RX6 123 RX6 yX6_driftOf wsX6_driftOf) := goodIn_app (goodIn_of _ (by decide +kernel)) ggX6_findPath_X6_driftOf
set_option maxRecDepth 20000 in
theorem ggX6_findPath_X6_findRest : GoodIn wsX6_findPath wsX6_findRest := goodIn_r _ [45, 1, 4, 7, 46, 47, 48, 11, 49, 50, 51, 52, 53, 5, 39, 40, 41, 54, 55, 56, 57, 58, 59, 60, 61, 62, 63, 64, 65, 66, 67, 68, 69, 70, 71, 72, 73, 74, 75, 76, 77, 78, 79, 80, 81, 82, 83, 84, 85, 86, 87, 88, 89, 90] (by decide +kernel) (by decide +kernel)
set_option maxRecDepth 20000 in
theorem gX6_findPath_X6_findRest : GoodIn wsX6_findPath (wsV RX6 142 RX6 yX6_findRest wsX6_findRest) := goodIn_app (goodIn_of _ (by decide +kernel)) ggX6_findPath_X6_findRest
set_option maxRecDepth 20000 in
theorem ggX6_findPath_X6_strayAt : GoodIn wsX6_findPath wsX6_strayAt := goodIn_r _ [57, 1, 39, 40, 11, 41, 58, 59, 60, 61, 62, 63, 64, 65, 66, 67, 68, 69, 70, 71, 72, 73, 74, 75, 76, 77, 78, 79, 80, 81, 82, 83, 84, 85, 86, 87, 88, 89, 90] (by decide +kernel) (by decide +kernel)
set_option maxRecDepth 20000 in
theorem gX6_findPath_X6_strayAt : GoodIn wsX6_findPath (wsV RX6 129 RX6 yX6_strayAt wsX6_strayAt) := goodIn_app (goodIn_of _ (by decide +kernel)) ggX6_findPath_X6_strayAt
set_option maxRecDepth 20000 in
theorem ggX6_findPath_X6_placeAt : GoodIn wsX6_findPath wsX6_placeAt := goodIn_r _ [53, 5, 1, 58, 59, 60, 61, 62, 63, 64, 65, 66, 67, 68, 69, 70, 71, 72, 73, 74, 75, 76, 77, 78, 79, 80, 81, 82, 83, 84, 85, 86, 87, 88, 89, 90] (by decide +kernel) (by decide +kernel)
set_option maxRecDepth 20000 in
theorem gX6_findPath_X6_placeAt : GoodIn wsX6_findPath (wsV RX6 126 RX6 yX6_placeAt wsX6_placeAt) := goodIn_app (goodIn_of _ (by decide +kernel)) ggX6_findPath_X6_placeAt
set_option maxRecDepth 20000 in
theorem ggX6_findPath_X6_by : GoodIn wsX6_findPath wsX6_by := goodIn_r _ [49, 7, 50, 51, 52, 11, 53, 5, 1, 39, 40, 41, 54, 55, 56, 57, 58, 59, 60, 61, 62, 63, 64, 65, 66, 67, 68, 69, 70, 71, 72, 73, 74, 75, 76, 77, 78, 79, 80, 81, 82, 83, 84, 85, 86, 87, 88, 89, 90] (by decide +kernel) (by decide +kernel)
set_option maxRecDepth 20000 in
theorem gX6_findPath_X6_by : GoodIn wsX6_findPath (wsV RX6 132 RX6 yX6_by wsX6_by) := goodIn_app (goodIn_of _ (by decide +kernel)) ggX6_findPath_X6_by
theorem dX6_findPath_0 : decode cX6_findPath 0 = .ok (.iconst 2, 1) := by decide +kernel
theorem dX6_findPath_1 : decode cX6_findPath 1 = .ok (.aload_n 0, 1) := by decide +kernel
theorem dX6_findPath_2 : decode cX6_findPath 2 = .ok (.getfield 36, 3) := by decide +kernel
theorem dX6_findPath_5 : decode cX6_findPath 5 = .ok (.iconst 0, 1) := by decide +kernel
theorem dX6_findPath_6 : decode cX6_findPath 6 = .ok (.iaload, 1) := by decide +kernel
theorem dX6_findPath_7 : decode cX6_findPath 7 = .ok (.imul, 1) := by decide +kernel
theorem dX6_findPath_8 : decode cX6_findPath 8 = .ok (.iconst 1, 1) := by decide +kernel
theorem dX6_findPath_9 : decode cX6_findPath 9 = .ok (.iadd, 1) := by decide +kernel
theorem dX6_findPath_10 : decode cX6_findPath 10 = .ok (.istore_n 2, 1) := by decide +kernel
theorem dX6_findPath_11 : decode cX6_findPath 11 = .ok (.aload_n 0, 1) := by decide +kernel
theorem dX6_findPath_12 : decode cX6_findPath 12 = .ok (.iconst 0, 1) := by decide +kernel
theorem dX6_findPath_13 : decode cX6_findPath 13 = .ok (.putfield 136, 3) := by decide +kernel
theorem dX6_findPath_16 : decode cX6_findPath 16 = .ok (.aload_n 0, 1) := by decide +kernel
theorem dX6_findPath_17 : decode cX6_findPath 17 = .ok (.iconst 0, 1) := by decide +kernel
theorem dX6_findPath_18 : decode cX6_findPath 18 = .ok (.putfield 139, 3) := by decide +kernel
theorem dX6_findPath_21 : decode cX6_findPath 21 = .ok (.iconst 0, 1) := by decide +kernel
theorem dX6_findPath_22 : decode cX6_findPath 22 = .ok (.istore_n 3, 1) := by decide +kernel
theorem dX6_findPath_23 : decode cX6_findPath 23 = .ok (.iload_n 3, 1) := by decide +kernel
theorem dX6_findPath_24 : decode cX6_findPath 24 = .ok (.aload_n 0, 1) := by decide +kernel
theorem dX6_findPath_25 : decode cX6_findPath 25 = .ok (.getfield 72, 3) := by decide +kernel
theorem dX6_findPath_28 : decode cX6_findPath 28 = .ok (.if_icmp .ge 33, 3) := by decide +kernel
theorem dX6_findPath_31 : decode cX6_findPath 31 = .ok (.aload_n 0, 1) := by decide +kernel
theorem dX6_findPath_32 : decode cX6_findPath 32 = .ok (.getfield 57, 3) := by decide +kernel
theorem dX6_findPath_35 : decode cX6_findPath 35 = .ok (.iload_n 3, 1) := by decide +kernel
theorem dX6_findPath_36 : decode cX6_findPath 36 = .ok (.aload_n 0, 1) := by decide +kernel
theorem dX6_findPath_37 : decode cX6_findPath 37 = .ok (.iload_n 3, 1) := by decide +kernel
theorem dX6_findPath_38 : decode cX6_findPath 38 = .ok (.iload_n 1, 1) := by decide +kernel
theorem dX6_findPath_39 : decode cX6_findPath 39 = .ok (.invokevirtual 123, 3) := by decide +kernel
theorem dX6_findPath_42 : decode cX6_findPath 42 = .ok (.iastore, 1) := by decide +kernel
theorem dX6_findPath_43 : decode cX6_findPath 43 = .ok (.aload_n 0, 1) := by decide +kernel
theorem dX6_findPath_44 : decode cX6_findPath 44 = .ok (.getfield 60, 3) := by decide +kernel
theorem dX6_findPath_47 : decode cX6_findPath 47 = .ok (.iload_n 3, 1) := by decide +kernel
theorem dX6_findPath_48 : decode cX6_findPath 48 = .ok (.aload_n 0, 1) := by decide +kernel
theorem dX6_findPath_49 : decode cX6_findPath 49 = .ok (.getfield 57, 3) := by decide +kernel
theorem dX6_findPath_52 : decode cX6_findPath 52 = .ok (.iload_n 3, 1) := by decide +kernel
theorem dX6_findPath_53 : decode cX6_findPath 53 = .ok (.iaload, 1) := by decide +kernel
theorem dX6_findPath_54 : decode cX6_findPath 54 = .ok (.iastore, 1) := by decide +kernel
theorem dX6_findPath_55 : decode cX6_findPath 55 = .ok (.iinc 3 1, 3) := by decide +kernel
theorem dX6_findPath_58 : decode cX6_findPath 58 = .ok (.goto (-35), 3) := by decide +kernel
theorem dX6_findPath_61 : decode cX6_findPath 61 = .ok (.aload_n 0, 1) := by decide +kernel
theorem dX6_findPath_62 : decode cX6_findPath 62 = .ok (.getfield 72, 3) := by decide +kernel
theorem dX6_findPath_65 : decode cX6_findPath 65 = .ok (.iconst 2, 1) := by decide +kernel
theorem dX6_findPath_66 : decode cX6_findPath 66 = .ok (.if_icmp .ge 4, 3) := by decide +kernel
theorem dX6_findPath_69 : decode cX6_findPath 69 = .ok (.return_, 1) := by decide +kernel
theorem dX6_findPath_70 : decode cX6_findPath 70 = .ok (.aload_n 0, 1) := by decide +kernel
theorem dX6_findPath_71 : decode cX6_findPath 71 = .ok (.invokevirtual 142, 3) := by decide +kernel
theorem dX6_findPath_74 : decode cX6_findPath 74 = .ok (.iconst (-1), 1) := by decide +kernel
theorem dX6_findPath_75 : decode cX6_findPath 75 = .ok (.istore_n 3, 1) := by decide +kernel
theorem dX6_findPath_76 : decode cX6_findPath 76 = .ok (.iconst 0, 1) := by decide +kernel
theorem dX6_findPath_77 : decode cX6_findPath 77 = .ok (.istore 4, 2) := by decide +kernel
theorem dX6_findPath_79 : decode cX6_findPath 79 = .ok (.iconst 0, 1) := by decide +kernel
theorem dX6_findPath_80 : decode cX6_findPath 80 = .ok (.istore 5, 2) := by decide +kernel
theorem dX6_findPath_82 : decode cX6_findPath 82 = .ok (.iconst 0, 1) := by decide +kernel
theorem dX6_findPath_83 : decode cX6_findPath 83 = .ok (.istore 6, 2) := by decide +kernel
theorem dX6_findPath_85 : decode cX6_findPath 85 = .ok (.iload 6, 2) := by decide +kernel
theorem dX6_findPath_87 : decode cX6_findPath 87 = .ok (.iload_n 2, 1) := by decide +kernel
theorem dX6_findPath_88 : decode cX6_findPath 88 = .ok (.if_icmp .ge 77, 3) := by decide +kernel
theorem dX6_findPath_91 : decode cX6_findPath 91 = .ok (.iconst 0, 1) := by decide +kernel
theorem dX6_findPath_92 : decode cX6_findPath 92 = .ok (.istore 7, 2) := by decide +kernel
theorem dX6_findPath_94 : decode cX6_findPath 94 = .ok (.iload 7, 2) := by decide +kernel
theorem dX6_findPath_96 : decode cX6_findPath 96 = .ok (.iload_n 2, 1) := by decide +kernel
theorem dX6_findPath_97 : decode cX6_findPath 97 = .ok (.if_icmp .ge 62, 3) := by decide +kernel
theorem dX6_findPath_100 : decode cX6_findPath 100 = .ok (.aload_n 0, 1) := by decide +kernel
theorem dX6_findPath_101 : decode cX6_findPath 101 = .ok (.iload 6, 2) := by decide +kernel
theorem dX6_findPath_103 : decode cX6_findPath 103 = .ok (.invokevirtual 129, 3) := by decide +kernel
theorem dX6_findPath_106 : decode cX6_findPath 106 = .ok (.aload_n 0, 1) := by decide +kernel
theorem dX6_findPath_107 : decode cX6_findPath 107 = .ok (.iload 7, 2) := by decide +kernel
theorem dX6_findPath_109 : decode cX6_findPath 109 = .ok (.invokevirtual 129, 3) := by decide +kernel
theorem dX6_findPath_112 : decode cX6_findPath 112 = .ok (.iadd, 1) := by decide +kernel
theorem dX6_findPath_113 : decode cX6_findPath 113 = .ok (.aload_n 0, 1) := by decide +kernel
theorem dX6_findPath_114 : decode cX6_findPath 114 = .ok (.getfield 63, 3) := by decide +kernel
theorem dX6_findPath_117 : decode cX6_findPath 117 = .ok (.bipush 49, 2) := by decide +kernel
theorem dX6_findPath_119 : decode cX6_findPath 119 = .ok (.bipush 7, 2) := by decide +kernel
theorem dX6_findPath_121 : decode cX6_findPath 121 = .ok (.iload 6, 2) := by decide +kernel
theorem dX6_findPath_123 : decode cX6_findPath 123 = .ok (.imul, 1) := by decide +kernel
theorem dX6_findPath_124 : decode cX6_findPath 124 = .ok (.iadd, 1) := by decide +kernel
theorem dX6_findPath_125 : decode cX6_findPath 125 = .ok (.iload 7, 2) := by decide +kernel
theorem dX6_findPath_127 : decode cX6_findPath 127 = .ok (.iadd, 1) := by decide +kernel
theorem dX6_findPath_128 : decode cX6_findPath 128 = .ok (.iaload, 1) := by decide +kernel
theorem dX6_findPath_129 : decode cX6_findPath 129 = .ok (.iadd, 1) := by decide +kernel
theorem dX6_findPath_130 : decode cX6_findPath 130 = .ok (.istore 8, 2) := by decide +kernel
theorem dX6_findPath_132 : decode cX6_findPath 132 = .ok (.iload_n 3, 1) := by decide +kernel
theorem dX6_findPath_133 : decode cX6_findPath 133 = .ok (.ifCond .lt 9, 3) := by decide +kernel
theorem dX6_findPath_136 : decode cX6_findPath 136 = .ok (.iload 8, 2) := by decide +kernel
theorem dX6_findPath_138 : decode cX6_findPath 138 = .ok (.iload_n 3, 1) := by decide +kernel
theorem dX6_findPath_139 : decode cX6_findPath 139 = .ok (.if_icmp .ge 14, 3) := by decide +kernel
theorem dX6_findPath_142 : decode cX6_findPath 142 = .ok (.iload 8, 2) := by decide +kernel
theorem dX6_findPath_144 : decode cX6_findPath 144 = .ok (.istore_n 3, 1) := by decide +kernel
theorem dX6_findPath_145 : decode cX6_findPath 145 = .ok (.iload 6, 2) := by decide +kernel
theorem dX6_findPath_147 : decode cX6_findPath 147 = .ok (.istore 4, 2) := by decide +kernel
theorem dX6_findPath_149 : decode cX6_findPath 149 = .ok (.iload 7, 2) := by decide +kernel
theorem dX6_findPath_151 : decode cX6_findPath 151 = .ok (.istore 5, 2) := by decide +kernel
theorem dX6_findPath_153 : decode cX6_findPath 153 = .ok (.iinc 7 1, 3) := by decide +kernel
theorem dX6_findPath_156 : decode cX6_findPath 156 = .ok (.goto (-62), 3) := by decide +kernel
theorem dX6_findPath_159 : decode cX6_findPath 159 = .ok (.iinc 6 1, 3) := by decide +kernel
theorem dX6_findPath_162 : decode cX6_findPath 162 = .ok (.goto (-77), 3) := by decide +kernel
theorem dX6_findPath_165 : decode cX6_findPath 165 = .ok (.aload_n 0, 1) := by decide +kernel
theorem dX6_findPath_166 : decode cX6_findPath 166 = .ok (.iload_n 3, 1) := by decide +kernel
theorem dX6_findPath_167 : decode cX6_findPath 167 = .ok (.bipush 100, 2) := by decide +kernel
theorem dX6_findPath_169 : decode cX6_findPath 169 = .ok (.idiv, 1) := by decide +kernel
theorem dX6_findPath_170 : decode cX6_findPath 170 = .ok (.putfield 136, 3) := by decide +kernel
theorem dX6_findPath_173 : decode cX6_findPath 173 = .ok (.aload_n 0, 1) := by decide +kernel
theorem dX6_findPath_174 : decode cX6_findPath 174 = .ok (.iload_n 3, 1) := by decide +kernel
theorem dX6_findPath_175 : decode cX6_findPath 175 = .ok (.bipush 100, 2) := by decide +kernel
theorem dX6_findPath_177 : decode cX6_findPath 177 = .ok (.irem, 1) := by decide +kernel
theorem dX6_findPath_178 : decode cX6_findPath 178 = .ok (.putfield 139, 3) := by decide +kernel
theorem dX6_findPath_181 : decode cX6_findPath 181 = .ok (.aload_n 0, 1) := by decide +kernel
theorem dX6_findPath_182 : decode cX6_findPath 182 = .ok (.getfield 60, 3) := by decide +kernel
theorem dX6_findPath_185 : decode cX6_findPath 185 = .ok (.iconst 0, 1) := by decide +kernel
theorem dX6_findPath_186 : decode cX6_findPath 186 = .ok (.aload_n 0, 1) := by decide +kernel
theorem dX6_findPath_187 : decode cX6_findPath 187 = .ok (.iconst 0, 1) := by decide +kernel
theorem dX6_findPath_188 : decode cX6_findPath 188 = .ok (.iload 4, 2) := by decide +kernel
theorem dX6_findPath_190 : decode cX6_findPath 190 = .ok (.invokevirtual 126, 3) := by decide +kernel
theorem dX6_findPath_193 : decode cX6_findPath 193 = .ok (.iastore, 1) := by decide +kernel
theorem dX6_findPath_194 : decode cX6_findPath 194 = .ok (.aload_n 0, 1) := by decide +kernel
theorem dX6_findPath_195 : decode cX6_findPath 195 = .ok (.getfield 60, 3) := by decide +kernel
theorem dX6_findPath_198 : decode cX6_findPath 198 = .ok (.iconst 1, 1) := by decide +kernel
theorem dX6_findPath_199 : decode cX6_findPath 199 = .ok (.aload_n 0, 1) := by decide +kernel
theorem dX6_findPath_200 : decode cX6_findPath 200 = .ok (.iconst 1, 1) := by decide +kernel
theorem dX6_findPath_201 : decode cX6_findPath 201 = .ok (.iload 5, 2) := by decide +kernel
theorem dX6_findPath_203 : decode cX6_findPath 203 = .ok (.invokevirtual 126, 3) := by decide +kernel
theorem dX6_findPath_206 : decode cX6_findPath 206 = .ok (.iastore, 1) := by decide +kernel
theorem dX6_findPath_207 : decode cX6_findPath 207 = .ok (.iconst 1, 1) := by decide +kernel
theorem dX6_findPath_208 : decode cX6_findPath 208 = .ok (.istore 6, 2) := by decide +kernel
theorem dX6_findPath_210 : decode cX6_findPath 210 = .ok (.iload 6, 2) := by decide +kernel
theorem dX6_findPath_212 : decode cX6_findPath 212 = .ok (.aload_n 0, 1) := by decide +kernel
theorem dX6_findPath_213 : decode cX6_findPath 213 = .ok (.getfield 72, 3) := by decide +kernel
theorem dX6_findPath_216 : decode cX6_findPath 216 = .ok (.iconst 1, 1) := by decide +kernel
theorem dX6_findPath_217 : decode cX6_findPath 217 = .ok (.isub, 1) := by decide +kernel
theorem dX6_findPath_218 : decode cX6_findPath 218 = .ok (.if_icmp .ge 79, 3) := by decide +kernel
theorem dX6_findPath_221 : decode cX6_findPath 221 = .ok (.iconst 0, 1) := by decide +kernel
theorem dX6_findPath_222 : decode cX6_findPath 222 = .ok (.istore 7, 2) := by decide +kernel
theorem dX6_findPath_224 : decode cX6_findPath 224 = .ok (.aload_n 0, 1) := by decide +kernel
theorem dX6_findPath_225 : decode cX6_findPath 225 = .ok (.iload 6, 2) := by decide +kernel
theorem dX6_findPath_227 : decode cX6_findPath 227 = .ok (.iload 4, 2) := by decide +kernel
theorem dX6_findPath_229 : decode cX6_findPath 229 = .ok (.iload 5, 2) := by decide +kernel
theorem dX6_findPath_231 : decode cX6_findPath 231 = .ok (.iload 7, 2) := by decide +kernel
theorem dX6_findPath_233 : decode cX6_findPath 233 = .ok (.invokevirtual 132, 3) := by decide +kernel
theorem dX6_findPath_236 : decode cX6_findPath 236 = .ok (.aload_n 0, 1) := by decide +kernel
theorem dX6_findPath_237 : decode cX6_findPath 237 = .ok (.getfield 63, 3) := by decide +kernel
theorem dX6_findPath_240 : decode cX6_findPath 240 = .ok (.bipush 49, 2) := by decide +kernel
theorem dX6_findPath_242 : decode cX6_findPath 242 = .ok (.iload 6, 2) := by decide +kernel
theorem dX6_findPath_244 : decode cX6_findPath 244 = .ok (.imul, 1) := by decide +kernel
theorem dX6_findPath_245 : decode cX6_findPath 245 = .ok (.bipush 7, 2) := by decide +kernel
theorem dX6_findPath_247 : decode cX6_findPath 247 = .ok (.iload 4, 2) := by decide +kernel
theorem dX6_findPath_249 : decode cX6_findPath 249 = .ok (.imul, 1) := by decide +kernel
theorem dX6_findPath_250 : decode cX6_findPath 250 = .ok (.iadd, 1) := by decide +kernel
theorem dX6_findPath_251 : decode cX6_findPath 251 = .ok (.iload 5, 2) := by decide +kernel
theorem dX6_findPath_253 : decode cX6_findPath 253 = .ok (.iadd, 1) := by decide +kernel
theorem dX6_findPath_254 : decode cX6_findPath 254 = .ok (.iaload, 1) := by decide +kernel
theorem dX6_findPath_255 : decode cX6_findPath 255 = .ok (.if_icmp .eq 9, 3) := by decide +kernel
theorem dX6_findPath_258 : decode cX6_findPath 258 = .ok (.iinc 7 1, 3) := by decide +kernel
theorem dX6_findPath_261 : decode cX6_findPath 261 = .ok (.goto (-37), 3) := by decide +kernel
theorem dX6_findPath_264 : decode cX6_findPath 264 = .ok (.aload_n 0, 1) := by decide +kernel
theorem dX6_findPath_265 : decode cX6_findPath 265 = .ok (.getfield 60, 3) := by decide +kernel
theorem dX6_findPath_268 : decode cX6_findPath 268 = .ok (.iload 6, 2) := by decide +kernel
theorem dX6_findPath_270 : decode cX6_findPath 270 = .ok (.iconst 1, 1) := by decide +kernel
theorem dX6_findPath_271 : decode cX6_findPath 271 = .ok (.iadd, 1) := by decide +kernel
theorem dX6_findPath_272 : decode cX6_findPath 272 = .ok (.aload_n 0, 1) := by decide +kernel
theorem dX6_findPath_273 : decode cX6_findPath 273 = .ok (.iload 6, 2) := by decide +kernel
theorem dX6_findPath_275 : decode cX6_findPath 275 = .ok (.iconst 1, 1) := by decide +kernel
theorem dX6_findPath_276 : decode cX6_findPath 276 = .ok (.iadd, 1) := by decide +kernel
theorem dX6_findPath_277 : decode cX6_findPath 277 = .ok (.iload 7, 2) := by decide +kernel
theorem dX6_findPath_279 : decode cX6_findPath 279 = .ok (.invokevirtual 126, 3) := by decide +kernel
theorem dX6_findPath_282 : decode cX6_findPath 282 = .ok (.iastore, 1) := by decide +kernel
theorem dX6_findPath_283 : decode cX6_findPath 283 = .ok (.iload 5, 2) := by decide +kernel
theorem dX6_findPath_285 : decode cX6_findPath 285 = .ok (.istore 4, 2) := by decide +kernel
theorem dX6_findPath_287 : decode cX6_findPath 287 = .ok (.iload 7, 2) := by decide +kernel
theorem dX6_findPath_289 : decode cX6_findPath 289 = .ok (.istore 5, 2) := by decide +kernel
theorem dX6_findPath_291 : decode cX6_findPath 291 = .ok (.iinc 6 1, 3) := by decide +kernel
theorem dX6_findPath_294 : decode cX6_findPath 294 = .ok (.goto (-84), 3) := by decide +kernel
theorem dX6_findPath_297 : decode cX6_findPath 297 = .ok (.return_, 1) := by decide +kernel
set_option maxRecDepth 20000 in
theorem ggX6_path_X6_isFrame : GoodIn wsX6_path wsX6_isFrame := goodIn_r _ [6, 7, 8, 9, 5, 10, 66, 67, 68, 69, 70, 71, 72, 73, 74, 75, 76, 77, 78, 79, 80, 81, 82, 83, 84, 85, 86, 87, 88, 89, 90, 91, 92, 93, 94, 95, 96, 97, 98] (by decide +kernel) (by decide +kernel)
set_option maxRecDepth 20000 in
theorem gX6_path_X6_isFrame : GoodIn wsX6_path (wsV RX6 82 RX6 yX6_isFrame wsX6_isFrame) := goodIn_app (goodIn_of _ (by decide +kernel)) ggX6_path_X6_isFrame
set_option maxRecDepth 20000 in
theorem ggX6_path_X6_in : GoodIn wsX6_path wsX6_in := goodIn_r _ [10] (by decide +kernel) (by decide +kernel)
set_option maxRecDepth 20000 in
theorem gX6_path_X6_in : GoodIn wsX6_path (va_wsS RX6 75 yX6_in wsX6_in) := goodIn_app (goodIn_of _ (by decide +kernel)) ggX6_path_X6_in
set_option maxRecDepth 20000 in
theorem ggX6_path_X6_findPath : GoodIn wsX6_path wsX6_findPath := goodIn_r _ [14, 15, 16, 17, 7, 18, 1, 19, 20, 21, 22, 5, 23, 24, 25, 26, 27, 28, 29, 30, 31, 32, 33, 34, 35, 36, 37, 38, 39, 40, 41, 42, 8, 9, 10, 43, 44, 45, 46, 47, 48, 49, 50, 51, 52, 53, 54, 55, 56, 57, 58, 59, 60, 61, 62, 63, 64, 65, 66, 67, 68, 69, 70, 71, 72, 73, 74, 75, 76, 77, 78, 79, 80, 81, 82, 83, 84, 85, 86, 87, 88, 89, 90, 91, 92, 93, 94, 95, 96, 97, 98] (by decide +kernel) (by decide +kernel)
set_option maxRecDepth 20000 in
theorem gX6_path_X6_findPath : GoodIn wsX6_path (wsV RX6 145 RX6 yX6_findPath wsX6_findPath) := goodIn_app (goodIn_of _ (by decide +kernel)) ggX6_path_X6_findPath
end
section
theorem dX6_path_0 : decode cX6_path 0 = .ok (.aload_n 0, 1) := by decide +kernel
theorem dX6_path_1 : decode cX6_path 1 = .ok (.iload_n 1, 1) := by decide +kernel
theorem dX6_path_2 : decode cX6_path 2 = .ok (.invokevirtual 82, 3) := by decide +kernel
theorem dX6_path_5 : decode cX6_path 5 = .ok (.ifCond .eq 12, 3) := by decide +kernel
theorem dX6_path_8 : decode cX6_path 8 = .ok (.iload_n 2, 1) := by decide +kernel
theorem dX6_path_9 : decode cX6_path 9 = .ok (.iconst 0, 1) := by decide +kernel
theorem dX6_path_10 : decode cX6_path 10 = .ok (.iconst 1, 1) := by decide +kernel
theorem dX6_path_11 : decode cX6_path 11 = .ok (.invokestatic 75, 3) := by decide +kernel
theorem dX6_path_14 : decode cX6_path 14 = .ok (.ifCond .ne 7, 3) := by decide +kernel
theorem dX6_path_17 : decode cX6_path 17 = .ok (.sipush (-1000), 3) := by decide +kernel
theorem dX6_path_20 : decode cX6_path 20 = .ok (.ireturn, 1) := by decide +kernel
theorem dX6_path_21 : decode cX6_path 21 = .ok (.aload_n 0, 1) := by decide +kernel
theorem dX6_path_22 : decode cX6_path 22 = .ok (.iload_n 2, 1) := by decide +kernel
theorem dX6_path_23 : decode cX6_path 23 = .ok (.invokevirtual 145, 3) := by decide +kernel
theorem dX6_path_26 : decode cX6_path 26 = .ok (.aload_n 0, 1) := by decide +kernel
theorem dX6_path_27 : decode cX6_path 27 = .ok (.getfield 60, 3) := by decide +kernel
theorem dX6_path_30 : decode cX6_path 30 = .ok (.iload_n 1, 1) := by decide +kernel
theorem dX6_path_31 : decode cX6_path 31 = .ok (.iaload, 1) := by decide +kernel
theorem dX6_path_32 : decode cX6_path 32 = .ok (.ireturn, 1) := by decide +kernel
set_option maxRecDepth 20000 in
theorem ggX6_bends_X6_in : GoodIn wsX6_bends wsX6_in := goodIn_r _ [6] (by decide +kernel) (by decide +kernel)
set_option maxRecDepth 20000 in
theorem gX6_bends_X6_in : GoodIn wsX6_bends (va_wsS RX6 75 yX6_in wsX6_in) := goodIn_app (goodIn_of _ (by decide +kernel)) ggX6_bends_X6_in
set_option maxRecDepth 20000 in
theorem ggX6_bends_X6_findPath : GoodIn wsX6_bends wsX6_findPath := goodIn_r _ [10, 11, 1, 2, 12, 13, 14, 15, 16, 17, 18, 5, 19, 20, 21, 22, 23, 24, 25, 26, 27, 28, 29, 30, 31, 32, 33, 34, 35, 36, 37, 38, 3, 4, 6, 39, 40, 41, 42, 43, 44, 45, 46, 47, 48, 49, 50, 51, 52, 53, 54, 55, 56, 57, 58, 59, 60, 61, 62, 63, 64, 65, 66, 67, 68, 69, 70, 71, 72, 73, 74, 75, 76, 77, 78, 79, 80, 81, 82, 83, 84, 85, 86, 87, 88, 89, 90, 91, 92, 93, 94] (by decide +kernel) (by decide +kernel)
set_option maxRecDepth 20000 in
theorem gX6_bends_X6_findPath : GoodIn wsX6_bends (wsV RX6 145 RX6 yX6_findPath wsX6_findPath) := goodIn_app (goodIn_of _ (by decide +kernel)) ggX6_bends_X6_findPath
theorem dX6_bends_0 : decode cX6_bends 0 = .ok (.iload_n 1, 1) := by decide +kernel
theorem dX6_bends_1 : decode cX6_bends 1 = .ok (.iconst 0, 1) := by decide +kernel
theorem dX6_bends_2 : decode cX6_bends 2 = .ok (.iconst 1, 1) := by decide +kernel
theorem dX6_bends_3 : decode cX6_bends 3 = .ok (.invokestatic 75, 3) := by decide +kernel
theorem dX6_bends_6 : decode cX6_bends 6 = .ok (.ifCond .eq 12, 3) := by decide +kernel
theorem dX6_bends_9 : decode cX6_bends 9 = .ok (.iload_n 2, 1) := by decide +kernel
theorem dX6_bends_10 : decode cX6_bends 10 = .ok (.iconst 0, 1) := by decide +kernel
theorem dX6_bends_11 : decode cX6_bends 11 = .ok (.iconst 1, 1) := by decide +kernel
theorem dX6_bends_12 : decode cX6_bends 12 = .ok (.invokestatic 75, 3) := by decide +kernel
theorem dX6_bends_15 : decode cX6_bends 15 = .ok (.ifCond .ne 5, 3) := by decide +kernel
theorem dX6_bends_18 : decode cX6_bends 18 = .ok (.iconst (-1), 1) := by decide +kernel
theorem dX6_bends_19 : decode cX6_bends 19 = .ok (.ireturn, 1) := by decide +kernel
theorem dX6_bends_20 : decode cX6_bends 20 = .ok (.aload_n 0, 1) := by decide +kernel
theorem dX6_bends_21 : decode cX6_bends 21 = .ok (.iload_n 1, 1) := by decide +kernel
theorem dX6_bends_22 : decode cX6_bends 22 = .ok (.invokevirtual 145, 3) := by decide +kernel
theorem dX6_bends_25 : decode cX6_bends 25 = .ok (.iload_n 2, 1) := by decide +kernel
theorem dX6_bends_26 : decode cX6_bends 26 = .ok (.ifCond .ne 10, 3) := by decide +kernel
theorem dX6_bends_29 : decode cX6_bends 29 = .ok (.aload_n 0, 1) := by decide +kernel
theorem dX6_bends_30 : decode cX6_bends 30 = .ok (.getfield 136, 3) := by decide +kernel
theorem dX6_bends_33 : decode cX6_bends 33 = .ok (.goto 7, 3) := by decide +kernel
theorem dX6_bends_36 : decode cX6_bends 36 = .ok (.aload_n 0, 1) := by decide +kernel
theorem dX6_bends_37 : decode cX6_bends 37 = .ok (.getfield 139, 3) := by decide +kernel
theorem dX6_bends_40 : decode cX6_bends 40 = .ok (.ireturn, 1) := by decide +kernel
set_option maxRecDepth 20000 in
theorem ggX6_cleaned_X6_size : GoodIn wsX6_cleaned wsX6_size := goodIn_r _ [7] (by decide +kernel) (by decide +kernel)
set_option maxRecDepth 20000 in
theorem gX6_cleaned_X6_size : GoodIn wsX6_cleaned (va_wsS RX6 115 yX6_size wsX6_size) := goodIn_app (goodIn_of _ (by decide +kernel)) ggX6_cleaned_X6_size
theorem dX6_cleaned_0 : decode cX6_cleaned 0 = .ok (.iload_n 3, 1) := by decide +kernel
theorem dX6_cleaned_1 : decode cX6_cleaned 1 = .ok (.iconst (-1), 1) := by decide +kernel
theorem dX6_cleaned_2 : decode cX6_cleaned 2 = .ok (.if_icmp .eq 17, 3) := by decide +kernel
theorem dX6_cleaned_5 : decode cX6_cleaned 5 = .ok (.iload_n 1, 1) := by decide +kernel
theorem dX6_cleaned_6 : decode cX6_cleaned 6 = .ok (.ifCond .eq 13, 3) := by decide +kernel
theorem dX6_cleaned_9 : decode cX6_cleaned 9 = .ok (.iload_n 1, 1) := by decide +kernel
theorem dX6_cleaned_10 : decode cX6_cleaned 10 = .ok (.aload_n 0, 1) := by decide +kernel
theorem dX6_cleaned_11 : decode cX6_cleaned 11 = .ok (.getfield 72, 3) := by decide +kernel
theorem dX6_cleaned_14 : decode cX6_cleaned 14 = .ok (.iconst 1, 1) := by decide +kernel
theorem dX6_cleaned_15 : decode cX6_cleaned 15 = .ok (.isub, 1) := by decide +kernel
theorem dX6_cleaned_16 : decode cX6_cleaned 16 = .ok (.if_icmp .ne 5, 3) := by decide +kernel
theorem dX6_cleaned_19 : decode cX6_cleaned 19 = .ok (.iconst (-1), 1) := by decide +kernel
theorem dX6_cleaned_20 : decode cX6_cleaned 20 = .ok (.ireturn, 1) := by decide +kernel
theorem dX6_cleaned_21 : decode cX6_cleaned 21 = .ok (.aload_n 0, 1) := by decide +kernel
theorem dX6_cleaned_22 : decode cX6_cleaned 22 = .ok (.getfield 16, 3) := by decide +kernel
theorem dX6_cleaned_25 : decode cX6_cleaned 25 = .ok (.bipush 36, 2) := by decide +kernel
theorem dX6_cleaned_27 : decode cX6_cleaned 27 = .ok (.iload_n 1, 1) := by decide +kernel
theorem dX6_cleaned_28 : decode cX6_cleaned 28 = .ok (.iconst 1, 1) := by decide +kernel
theorem dX6_cleaned_29 : decode cX6_cleaned 29 = .ok (.isub, 1) := by decide +kernel
theorem dX6_cleaned_30 : decode cX6_cleaned 30 = .ok (.imul, 1) := by decide +kernel
theorem dX6_cleaned_31 : decode cX6_cleaned 31 = .ok (.iload_n 2, 1) := by decide +kernel
theorem dX6_cleaned_32 : decode cX6_cleaned 32 = .ok (.iadd, 1) := by decide +kernel
theorem dX6_cleaned_33 : decode cX6_cleaned 33 = .ok (.iaload, 1) := by decide +kernel
theorem dX6_cleaned_34 : decode cX6_cleaned 34 = .ok (.istore 4, 2) := by decide +kernel
theorem dX6_cleaned_36 : decode cX6_cleaned 36 = .ok (.aload_n 0, 1) := by decide +kernel
theorem dX6_cleaned_37 : decode cX6_cleaned 37 = .ok (.getfield 16, 3) := by decide +kernel
theorem dX6_cleaned_40 : decode cX6_cleaned 40 = .ok (.bipush 36, 2) := by decide +kernel
theorem dX6_cleaned_42 : decode cX6_cleaned 42 = .ok (.iload_n 1, 1) := by decide +kernel
theorem dX6_cleaned_43 : decode cX6_cleaned 43 = .ok (.iconst 1, 1) := by decide +kernel
theorem dX6_cleaned_44 : decode cX6_cleaned 44 = .ok (.iadd, 1) := by decide +kernel
theorem dX6_cleaned_45 : decode cX6_cleaned 45 = .ok (.imul, 1) := by decide +kernel
theorem dX6_cleaned_46 : decode cX6_cleaned 46 = .ok (.iload_n 2, 1) := by decide +kernel
theorem dX6_cleaned_47 : decode cX6_cleaned 47 = .ok (.iadd, 1) := by decide +kernel
theorem dX6_cleaned_48 : decode cX6_cleaned 48 = .ok (.iaload, 1) := by decide +kernel
theorem dX6_cleaned_49 : decode cX6_cleaned 49 = .ok (.istore 5, 2) := by decide +kernel
theorem dX6_cleaned_51 : decode cX6_cleaned 51 = .ok (.iload 4, 2) := by decide +kernel
theorem dX6_cleaned_53 : decode cX6_cleaned 53 = .ok (.iconst (-1), 1) := by decide +kernel
theorem dX6_cleaned_54 : decode cX6_cleaned 54 = .ok (.if_icmp .eq 62, 3) := by decide +kernel
theorem dX6_cleaned_57 : decode cX6_cleaned 57 = .ok (.iload 5, 2) := by decide +kernel
theorem dX6_cleaned_59 : decode cX6_cleaned 59 = .ok (.iconst (-1), 1) := by decide +kernel
theorem dX6_cleaned_60 : decode cX6_cleaned 60 = .ok (.if_icmp .eq 56, 3) := by decide +kernel
theorem dX6_cleaned_63 : decode cX6_cleaned 63 = .ok (.iload 4, 2) := by decide +kernel
theorem dX6_cleaned_65 : decode cX6_cleaned 65 = .ok (.iload 5, 2) := by decide +kernel
theorem dX6_cleaned_67 : decode cX6_cleaned 67 = .ok (.isub, 1) := by decide +kernel
theorem dX6_cleaned_68 : decode cX6_cleaned 68 = .ok (.invokestatic 115, 3) := by decide +kernel
theorem dX6_cleaned_71 : decode cX6_cleaned 71 = .ok (.aload_n 0, 1) := by decide +kernel
theorem dX6_cleaned_72 : decode cX6_cleaned 72 = .ok (.getfield 36, 3) := by decide +kernel
theorem dX6_cleaned_75 : decode cX6_cleaned 75 = .ok (.iconst 1, 1) := by decide +kernel
theorem dX6_cleaned_76 : decode cX6_cleaned 76 = .ok (.iaload, 1) := by decide +kernel
theorem dX6_cleaned_77 : decode cX6_cleaned 77 = .ok (.if_icmp .gt 39, 3) := by decide +kernel
theorem dX6_cleaned_80 : decode cX6_cleaned 80 = .ok (.iload_n 3, 1) := by decide +kernel
theorem dX6_cleaned_81 : decode cX6_cleaned 81 = .ok (.iload 4, 2) := by decide +kernel
theorem dX6_cleaned_83 : decode cX6_cleaned 83 = .ok (.isub, 1) := by decide +kernel
theorem dX6_cleaned_84 : decode cX6_cleaned 84 = .ok (.invokestatic 115, 3) := by decide +kernel
theorem dX6_cleaned_87 : decode cX6_cleaned 87 = .ok (.aload_n 0, 1) := by decide +kernel
theorem dX6_cleaned_88 : decode cX6_cleaned 88 = .ok (.getfield 36, 3) := by decide +kernel
theorem dX6_cleaned_91 : decode cX6_cleaned 91 = .ok (.iconst 2, 1) := by decide +kernel
theorem dX6_cleaned_92 : decode cX6_cleaned 92 = .ok (.iaload, 1) := by decide +kernel
theorem dX6_cleaned_93 : decode cX6_cleaned 93 = .ok (.if_icmp .le 23, 3) := by decide +kernel
theorem dX6_cleaned_96 : decode cX6_cleaned 96 = .ok (.iload_n 3, 1) := by decide +kernel
theorem dX6_cleaned_97 : decode cX6_cleaned 97 = .ok (.iload 5, 2) := by decide +kernel
theorem dX6_cleaned_99 : decode cX6_cleaned 99 = .ok (.isub, 1) := by decide +kernel
theorem dX6_cleaned_100 : decode cX6_cleaned 100 = .ok (.invokestatic 115, 3) := by decide +kernel
theorem dX6_cleaned_103 : decode cX6_cleaned 103 = .ok (.aload_n 0, 1) := by decide +kernel
theorem dX6_cleaned_104 : decode cX6_cleaned 104 = .ok (.getfield 36, 3) := by decide +kernel
theorem dX6_cleaned_107 : decode cX6_cleaned 107 = .ok (.iconst 2, 1) := by decide +kernel
theorem dX6_cleaned_108 : decode cX6_cleaned 108 = .ok (.iaload, 1) := by decide +kernel
theorem dX6_cleaned_109 : decode cX6_cleaned 109 = .ok (.if_icmp .le 7, 3) := by decide +kernel
theorem dX6_cleaned_112 : decode cX6_cleaned 112 = .ok (.iconst 1, 1) := by decide +kernel
theorem dX6_cleaned_113 : decode cX6_cleaned 113 = .ok (.goto 4, 3) := by decide +kernel
theorem dX6_cleaned_116 : decode cX6_cleaned 116 = .ok (.iconst 0, 1) := by decide +kernel
theorem dX6_cleaned_117 : decode cX6_cleaned 117 = .ok (.istore 6, 2) := by decide +kernel
theorem dX6_cleaned_119 : decode cX6_cleaned 119 = .ok (.iload 6, 2) := by decide +kernel
theorem dX6_cleaned_121 : decode cX6_cleaned 121 = .ok (.ifCond .eq 13, 3) := by decide +kernel
theorem dX6_cleaned_124 : decode cX6_cleaned 124 = .ok (.iload 4, 2) := by decide +kernel
theorem dX6_cleaned_126 : decode cX6_cleaned 126 = .ok (.iload 5, 2) := by decide +kernel
theorem dX6_cleaned_128 : decode cX6_cleaned 128 = .ok (.iadd, 1) := by decide +kernel
theorem dX6_cleaned_129 : decode cX6_cleaned 129 = .ok (.iconst 2, 1) := by decide +kernel
theorem dX6_cleaned_130 : decode cX6_cleaned 130 = .ok (.idiv, 1) := by decide +kernel
theorem dX6_cleaned_131 : decode cX6_cleaned 131 = .ok (.goto 4, 3) := by decide +kernel
theorem dX6_cleaned_134 : decode cX6_cleaned 134 = .ok (.iconst (-1), 1) := by decide +kernel
theorem dX6_cleaned_135 : decode cX6_cleaned 135 = .ok (.ireturn, 1) := by decide +kernel
set_option maxRecDepth 20000 in
theorem ggX6_dust_X6_isFrame : GoodIn wsX6_dust wsX6_isFrame := goodIn_r _ [8, 9, 10, 11, 7, 12, 21, 22, 23, 24, 25, 26, 27, 28, 29, 30, 31, 32, 33, 34, 35, 36, 37, 38, 39, 40, 41, 42, 43, 44, 45, 46, 47, 48, 49, 50, 51, 52, 53] (by decide +kernel) (by decide +kernel)
set_option maxRecDepth 20000 in
theorem gX6_dust_X6_isFrame : GoodIn wsX6_dust (wsV RX6 82 RX6 yX6_isFrame wsX6_isFrame) := goodIn_app (goodIn_of _ (by decide +kernel)) ggX6_dust_X6_isFrame
set_option maxRecDepth 20000 in
theorem ggX6_dust_X6_cleaned : GoodIn wsX6_dust wsX6_cleaned := goodIn_r _ [16, 9, 3, 17, 18, 19, 7, 20, 21, 22, 23, 24, 25, 26, 27, 28, 29, 30, 31, 32, 33, 34, 35, 36, 37, 38, 39, 40, 41, 42, 43, 44, 45, 46, 47, 48, 49, 50, 51, 52, 53] (by decide +kernel) (by decide +kernel)
set_option maxRecDepth 20000 in
theorem gX6_dust_X6_cleaned : GoodIn wsX6_dust (wsV RX6 148 RX6 yX6_cleaned wsX6_cleaned) := goodIn_app (goodIn_of _ (by decide +kernel)) ggX6_dust_X6_cleaned
theorem dX6_dust_0 : decode cX6_dust 0 = .ok (.aload_n 0, 1) := by decide +kernel
theorem dX6_dust_1 : decode cX6_dust 1 = .ok (.iload_n 1, 1) := by decide +kernel
theorem dX6_dust_2 : decode cX6_dust 2 = .ok (.invokevirtual 82, 3) := by decide +kernel
theorem dX6_dust_5 : decode cX6_dust 5 = .ok (.ifCond .ne 5, 3) := by decide +kernel
theorem dX6_dust_8 : decode cX6_dust 8 = .ok (.iconst (-1), 1) := by decide +kernel
theorem dX6_dust_9 : decode cX6_dust 9 = .ok (.ireturn, 1) := by decide +kernel
theorem dX6_dust_10 : decode cX6_dust 10 = .ok (.iconst 0, 1) := by decide +kernel
theorem dX6_dust_11 : decode cX6_dust 11 = .ok (.istore_n 2, 1) := by decide +kernel
theorem dX6_dust_12 : decode cX6_dust 12 = .ok (.iconst 0, 1) := by decide +kernel
theorem dX6_dust_13 : decode cX6_dust 13 = .ok (.istore_n 3, 1) := by decide +kernel
theorem dX6_dust_14 : decode cX6_dust 14 = .ok (.iload_n 3, 1) := by decide +kernel
theorem dX6_dust_15 : decode cX6_dust 15 = .ok (.aload_n 0, 1) := by decide +kernel
theorem dX6_dust_16 : decode cX6_dust 16 = .ok (.getfield 7, 3) := by decide +kernel
theorem dX6_dust_19 : decode cX6_dust 19 = .ok (.aload_n 0, 1) := by decide +kernel
theorem dX6_dust_20 : decode cX6_dust 20 = .ok (.getfield 13, 3) := by decide +kernel
theorem dX6_dust_23 : decode cX6_dust 23 = .ok (.imul, 1) := by decide +kernel
theorem dX6_dust_24 : decode cX6_dust 24 = .ok (.if_icmp .ge 37, 3) := by decide +kernel
theorem dX6_dust_27 : decode cX6_dust 27 = .ok (.iload_n 2, 1) := by decide +kernel
theorem dX6_dust_28 : decode cX6_dust 28 = .ok (.aload_n 0, 1) := by decide +kernel
theorem dX6_dust_29 : decode cX6_dust 29 = .ok (.iload_n 1, 1) := by decide +kernel
theorem dX6_dust_30 : decode cX6_dust 30 = .ok (.iload_n 3, 1) := by decide +kernel
theorem dX6_dust_31 : decode cX6_dust 31 = .ok (.aload_n 0, 1) := by decide +kernel
theorem dX6_dust_32 : decode cX6_dust 32 = .ok (.getfield 16, 3) := by decide +kernel
theorem dX6_dust_35 : decode cX6_dust 35 = .ok (.bipush 36, 2) := by decide +kernel
theorem dX6_dust_37 : decode cX6_dust 37 = .ok (.iload_n 1, 1) := by decide +kernel
theorem dX6_dust_38 : decode cX6_dust 38 = .ok (.imul, 1) := by decide +kernel
theorem dX6_dust_39 : decode cX6_dust 39 = .ok (.iload_n 3, 1) := by decide +kernel
theorem dX6_dust_40 : decode cX6_dust 40 = .ok (.iadd, 1) := by decide +kernel
theorem dX6_dust_41 : decode cX6_dust 41 = .ok (.iaload, 1) := by decide +kernel
theorem dX6_dust_42 : decode cX6_dust 42 = .ok (.invokevirtual 148, 3) := by decide +kernel
theorem dX6_dust_45 : decode cX6_dust 45 = .ok (.ifCond .lt 7, 3) := by decide +kernel
theorem dX6_dust_48 : decode cX6_dust 48 = .ok (.iconst 1, 1) := by decide +kernel
theorem dX6_dust_49 : decode cX6_dust 49 = .ok (.goto 4, 3) := by decide +kernel
theorem dX6_dust_52 : decode cX6_dust 52 = .ok (.iconst 0, 1) := by decide +kernel
theorem dX6_dust_53 : decode cX6_dust 53 = .ok (.iadd, 1) := by decide +kernel
theorem dX6_dust_54 : decode cX6_dust 54 = .ok (.istore_n 2, 1) := by decide +kernel
theorem dX6_dust_55 : decode cX6_dust 55 = .ok (.iinc 3 1, 3) := by decide +kernel
theorem dX6_dust_58 : decode cX6_dust 58 = .ok (.goto (-44), 3) := by decide +kernel
theorem dX6_dust_61 : decode cX6_dust 61 = .ok (.iload_n 2, 1) := by decide +kernel
theorem dX6_dust_62 : decode cX6_dust 62 = .ok (.ireturn, 1) := by decide +kernel
set_option maxRecDepth 20000 in
theorem ggX6_layer_X6_in : GoodIn wsX6_layer wsX6_in := goodIn_r _ [10] (by decide +kernel) (by decide +kernel)
set_option maxRecDepth 20000 in
theorem gX6_layer_X6_in : GoodIn wsX6_layer (va_wsS RX6 75 yX6_in wsX6_in) := goodIn_app (goodIn_of _ (by decide +kernel)) ggX6_layer_X6_in
set_option maxRecDepth 20000 in
theorem ggX6_layer_X6_isFrame : GoodIn wsX6_layer wsX6_isFrame := goodIn_r _ [14, 15, 7, 8, 9, 10, 16, 17, 18, 19, 20, 21, 22, 23, 24, 25, 26, 27, 28, 29, 30, 31, 32, 33, 34, 35, 36, 37, 38, 39, 40, 41, 42, 43, 44, 45, 46, 47, 48] (by decide +kernel) (by decide +kernel)
set_option maxRecDepth 20000 in
theorem gX6_layer_X6_isFrame : GoodIn wsX6_layer (wsV RX6 82 RX6 yX6_isFrame wsX6_isFrame) := goodIn_app (goodIn_of _ (by decide +kernel)) ggX6_layer_X6_isFrame
theorem dX6_layer_0 : decode cX6_layer 0 = .ok (.iload_n 1, 1) := by decide +kernel
theorem dX6_layer_1 : decode cX6_layer 1 = .ok (.iconst 0, 1) := by decide +kernel
theorem dX6_layer_2 : decode cX6_layer 2 = .ok (.iconst 3, 1) := by decide +kernel
theorem dX6_layer_3 : decode cX6_layer 3 = .ok (.invokestatic 75, 3) := by decide +kernel
theorem dX6_layer_6 : decode cX6_layer 6 = .ok (.ifCond .eq 11, 3) := by decide +kernel
theorem dX6_layer_9 : decode cX6_layer 9 = .ok (.aload_n 0, 1) := by decide +kernel
theorem dX6_layer_10 : decode cX6_layer 10 = .ok (.iload_n 2, 1) := by decide +kernel
theorem dX6_layer_11 : decode cX6_layer 11 = .ok (.invokevirtual 82, 3) := by decide +kernel
theorem dX6_layer_14 : decode cX6_layer 14 = .ok (.ifCond .ne 5, 3) := by decide +kernel
theorem dX6_layer_17 : decode cX6_layer 17 = .ok (.iconst (-1), 1) := by decide +kernel
theorem dX6_layer_18 : decode cX6_layer 18 = .ok (.ireturn, 1) := by decide +kernel
theorem dX6_layer_19 : decode cX6_layer 19 = .ok (.iload_n 1, 1) := by decide +kernel
theorem dX6_layer_20 : decode cX6_layer 20 = .ok (.iconst 1, 1) := by decide +kernel
theorem dX6_layer_21 : decode cX6_layer 21 = .ok (.if_icmp .ne 16, 3) := by decide +kernel
theorem dX6_layer_24 : decode cX6_layer 24 = .ok (.aload_n 0, 1) := by decide +kernel
theorem dX6_layer_25 : decode cX6_layer 25 = .ok (.iload_n 3, 1) := by decide +kernel
theorem dX6_layer_26 : decode cX6_layer 26 = .ok (.invokevirtual 82, 3) := by decide +kernel
theorem dX6_layer_29 : decode cX6_layer 29 = .ok (.ifCond .eq 34, 3) := by decide +kernel
theorem dX6_layer_32 : decode cX6_layer 32 = .ok (.iload_n 3, 1) := by decide +kernel
theorem dX6_layer_33 : decode cX6_layer 33 = .ok (.iload_n 2, 1) := by decide +kernel
theorem dX6_layer_34 : decode cX6_layer 34 = .ok (.if_icmp .eq 29, 3) := by decide +kernel
theorem dX6_layer_37 : decode cX6_layer 37 = .ok (.iload_n 1, 1) := by decide +kernel
theorem dX6_layer_38 : decode cX6_layer 38 = .ok (.iconst 3, 1) := by decide +kernel
theorem dX6_layer_39 : decode cX6_layer 39 = .ok (.if_icmp .ne 26, 3) := by decide +kernel
theorem dX6_layer_42 : decode cX6_layer 42 = .ok (.iload_n 3, 1) := by decide +kernel
theorem dX6_layer_43 : decode cX6_layer 43 = .ok (.bipush (-3), 2) := by decide +kernel
theorem dX6_layer_45 : decode cX6_layer 45 = .ok (.iconst 3, 1) := by decide +kernel
theorem dX6_layer_46 : decode cX6_layer 46 = .ok (.invokestatic 75, 3) := by decide +kernel
theorem dX6_layer_49 : decode cX6_layer 49 = .ok (.ifCond .eq 14, 3) := by decide +kernel
theorem dX6_layer_52 : decode cX6_layer 52 = .ok (.iload 4, 2) := by decide +kernel
theorem dX6_layer_54 : decode cX6_layer 54 = .ok (.bipush (-3), 2) := by decide +kernel
theorem dX6_layer_56 : decode cX6_layer 56 = .ok (.iconst 3, 1) := by decide +kernel
theorem dX6_layer_57 : decode cX6_layer 57 = .ok (.invokestatic 75, 3) := by decide +kernel
theorem dX6_layer_60 : decode cX6_layer 60 = .ok (.ifCond .ne 5, 3) := by decide +kernel
theorem dX6_layer_63 : decode cX6_layer 63 = .ok (.iconst (-1), 1) := by decide +kernel
theorem dX6_layer_64 : decode cX6_layer 64 = .ok (.ireturn, 1) := by decide +kernel
theorem dX6_layer_65 : decode cX6_layer 65 = .ok (.aload_n 0, 1) := by decide +kernel
theorem dX6_layer_66 : decode cX6_layer 66 = .ok (.getfield 79, 3) := by decide +kernel
theorem dX6_layer_69 : decode cX6_layer 69 = .ok (.bipush 12, 2) := by decide +kernel
theorem dX6_layer_71 : decode cX6_layer 71 = .ok (.if_icmp .ne 6, 3) := by decide +kernel
theorem dX6_layer_74 : decode cX6_layer 74 = .ok (.bipush (-2), 2) := by decide +kernel
theorem dX6_layer_76 : decode cX6_layer 76 = .ok (.ireturn, 1) := by decide +kernel
theorem dX6_layer_77 : decode cX6_layer 77 = .ok (.aload_n 0, 1) := by decide +kernel
theorem dX6_layer_78 : decode cX6_layer 78 = .ok (.getfield 20, 3) := by decide +kernel
theorem dX6_layer_81 : decode cX6_layer 81 = .ok (.aload_n 0, 1) := by decide +kernel
theorem dX6_layer_82 : decode cX6_layer 82 = .ok (.getfield 79, 3) := by decide +kernel
theorem dX6_layer_85 : decode cX6_layer 85 = .ok (.iload_n 1, 1) := by decide +kernel
theorem dX6_layer_86 : decode cX6_layer 86 = .ok (.iastore, 1) := by decide +kernel
theorem dX6_layer_87 : decode cX6_layer 87 = .ok (.aload_n 0, 1) := by decide +kernel
theorem dX6_layer_88 : decode cX6_layer 88 = .ok (.getfield 23, 3) := by decide +kernel
theorem dX6_layer_91 : decode cX6_layer 91 = .ok (.aload_n 0, 1) := by decide +kernel
theorem dX6_layer_92 : decode cX6_layer 92 = .ok (.getfield 79, 3) := by decide +kernel
theorem dX6_layer_95 : decode cX6_layer 95 = .ok (.iload_n 2, 1) := by decide +kernel
theorem dX6_layer_96 : decode cX6_layer 96 = .ok (.iastore, 1) := by decide +kernel
theorem dX6_layer_97 : decode cX6_layer 97 = .ok (.aload_n 0, 1) := by decide +kernel
theorem dX6_layer_98 : decode cX6_layer 98 = .ok (.getfield 26, 3) := by decide +kernel
theorem dX6_layer_101 : decode cX6_layer 101 = .ok (.aload_n 0, 1) := by decide +kernel
theorem dX6_layer_102 : decode cX6_layer 102 = .ok (.getfield 79, 3) := by decide +kernel
theorem dX6_layer_105 : decode cX6_layer 105 = .ok (.iload_n 1, 1) := by decide +kernel
theorem dX6_layer_106 : decode cX6_layer 106 = .ok (.iconst 1, 1) := by decide +kernel
theorem dX6_layer_107 : decode cX6_layer 107 = .ok (.if_icmp .eq 8, 3) := by decide +kernel
theorem dX6_layer_110 : decode cX6_layer 110 = .ok (.iload_n 1, 1) := by decide +kernel
theorem dX6_layer_111 : decode cX6_layer 111 = .ok (.iconst 3, 1) := by decide +kernel
theorem dX6_layer_112 : decode cX6_layer 112 = .ok (.if_icmp .ne 7, 3) := by decide +kernel
theorem dX6_layer_115 : decode cX6_layer 115 = .ok (.iload_n 3, 1) := by decide +kernel
theorem dX6_layer_116 : decode cX6_layer 116 = .ok (.goto 4, 3) := by decide +kernel
theorem dX6_layer_119 : decode cX6_layer 119 = .ok (.iconst 0, 1) := by decide +kernel
theorem dX6_layer_120 : decode cX6_layer 120 = .ok (.iastore, 1) := by decide +kernel
theorem dX6_layer_121 : decode cX6_layer 121 = .ok (.aload_n 0, 1) := by decide +kernel
theorem dX6_layer_122 : decode cX6_layer 122 = .ok (.getfield 29, 3) := by decide +kernel
theorem dX6_layer_125 : decode cX6_layer 125 = .ok (.aload_n 0, 1) := by decide +kernel
theorem dX6_layer_126 : decode cX6_layer 126 = .ok (.getfield 79, 3) := by decide +kernel
theorem dX6_layer_129 : decode cX6_layer 129 = .ok (.iload_n 1, 1) := by decide +kernel
theorem dX6_layer_130 : decode cX6_layer 130 = .ok (.iconst 3, 1) := by decide +kernel
theorem dX6_layer_131 : decode cX6_layer 131 = .ok (.if_icmp .ne 8, 3) := by decide +kernel
theorem dX6_layer_134 : decode cX6_layer 134 = .ok (.iload 4, 2) := by decide +kernel
theorem dX6_layer_136 : decode cX6_layer 136 = .ok (.goto 4, 3) := by decide +kernel
theorem dX6_layer_139 : decode cX6_layer 139 = .ok (.iconst 0, 1) := by decide +kernel
theorem dX6_layer_140 : decode cX6_layer 140 = .ok (.iastore, 1) := by decide +kernel
theorem dX6_layer_141 : decode cX6_layer 141 = .ok (.aload_n 0, 1) := by decide +kernel
theorem dX6_layer_142 : decode cX6_layer 142 = .ok (.getfield 32, 3) := by decide +kernel
theorem dX6_layer_145 : decode cX6_layer 145 = .ok (.aload_n 0, 1) := by decide +kernel
theorem dX6_layer_146 : decode cX6_layer 146 = .ok (.getfield 79, 3) := by decide +kernel
theorem dX6_layer_149 : decode cX6_layer 149 = .ok (.iconst 1, 1) := by decide +kernel
theorem dX6_layer_150 : decode cX6_layer 150 = .ok (.bastore, 1) := by decide +kernel
theorem dX6_layer_151 : decode cX6_layer 151 = .ok (.aload_n 0, 1) := by decide +kernel
theorem dX6_layer_152 : decode cX6_layer 152 = .ok (.dup, 1) := by decide +kernel
theorem dX6_layer_153 : decode cX6_layer 153 = .ok (.getfield 79, 3) := by decide +kernel
theorem dX6_layer_156 : decode cX6_layer 156 = .ok (.iconst 1, 1) := by decide +kernel
theorem dX6_layer_157 : decode cX6_layer 157 = .ok (.iadd, 1) := by decide +kernel
theorem dX6_layer_158 : decode cX6_layer 158 = .ok (.putfield 79, 3) := by decide +kernel
theorem dX6_layer_161 : decode cX6_layer 161 = .ok (.aload_n 0, 1) := by decide +kernel
theorem dX6_layer_162 : decode cX6_layer 162 = .ok (.getfield 79, 3) := by decide +kernel
theorem dX6_layer_165 : decode cX6_layer 165 = .ok (.iconst 1, 1) := by decide +kernel
theorem dX6_layer_166 : decode cX6_layer 166 = .ok (.isub, 1) := by decide +kernel
theorem dX6_layer_167 : decode cX6_layer 167 = .ok (.ireturn, 1) := by decide +kernel
set_option maxRecDepth 20000 in
theorem ggX6_isLayer_X6_in : GoodIn wsX6_isLayer wsX6_in := goodIn_r _ [5] (by decide +kernel) (by decide +kernel)
set_option maxRecDepth 20000 in
theorem gX6_isLayer_X6_in : GoodIn wsX6_isLayer (va_wsS RX6 75 yX6_in wsX6_in) := goodIn_app (goodIn_of _ (by decide +kernel)) ggX6_isLayer_X6_in
theorem dX6_isLayer_0 : decode cX6_isLayer 0 = .ok (.iload_n 1, 1) := by decide +kernel
theorem dX6_isLayer_1 : decode cX6_isLayer 1 = .ok (.iconst 0, 1) := by decide +kernel
theorem dX6_isLayer_2 : decode cX6_isLayer 2 = .ok (.aload_n 0, 1) := by decide +kernel
theorem dX6_isLayer_3 : decode cX6_isLayer 3 = .ok (.getfield 79, 3) := by decide +kernel
theorem dX6_isLayer_6 : decode cX6_isLayer 6 = .ok (.iconst 1, 1) := by decide +kernel
theorem dX6_isLayer_7 : decode cX6_isLayer 7 = .ok (.isub, 1) := by decide +kernel
theorem dX6_isLayer_8 : decode cX6_isLayer 8 = .ok (.invokestatic 75, 3) := by decide +kernel
theorem dX6_isLayer_11 : decode cX6_isLayer 11 = .ok (.ireturn, 1) := by decide +kernel
set_option maxRecDepth 20000 in
theorem ggX6_on_X6_isLayer : GoodIn wsX6_on wsX6_isLayer := goodIn_r _ [6, 7, 8, 9, 5, 10, 11, 12, 13, 14, 15, 16, 17, 18, 19, 20, 21, 22, 23, 24, 25, 26, 27, 28, 29, 30, 31, 32, 33, 34, 35, 36, 37, 38, 39, 40, 41, 42, 43] (by decide +kernel) (by decide +kernel)
set_option maxRecDepth 20000 in
theorem gX6_on_X6_isLayer : GoodIn wsX6_on (wsV RX6 151 RX6 yX6_isLayer wsX6_isLayer) := goodIn_app (goodIn_of _ (by decide +kernel)) ggX6_on_X6_isLayer
theorem dX6_on_0 : decode cX6_on 0 = .ok (.aload_n 0, 1) := by decide +kernel
theorem dX6_on_1 : decode cX6_on 1 = .ok (.iload_n 1, 1) := by decide +kernel
theorem dX6_on_2 : decode cX6_on 2 = .ok (.invokevirtual 151, 3) := by decide +kernel
theorem dX6_on_5 : decode cX6_on 5 = .ok (.ifCond .ne 5, 3) := by decide +kernel
theorem dX6_on_8 : decode cX6_on 8 = .ok (.iconst (-1), 1) := by decide +kernel
theorem dX6_on_9 : decode cX6_on 9 = .ok (.ireturn, 1) := by decide +kernel
theorem dX6_on_10 : decode cX6_on 10 = .ok (.aload_n 0, 1) := by decide +kernel
theorem dX6_on_11 : decode cX6_on 11 = .ok (.getfield 32, 3) := by decide +kernel
theorem dX6_on_14 : decode cX6_on 14 = .ok (.iload_n 1, 1) := by decide +kernel
theorem dX6_on_15 : decode cX6_on 15 = .ok (.baload, 1) := by decide +kernel
theorem dX6_on_16 : decode cX6_on 16 = .ok (.iload_n 2, 1) := by decide +kernel
theorem dX6_on_17 : decode cX6_on 17 = .ok (.if_icmp .ne 7, 3) := by decide +kernel
theorem dX6_on_20 : decode cX6_on 20 = .ok (.iconst 0, 1) := by decide +kernel
theorem dX6_on_21 : decode cX6_on 21 = .ok (.goto 4, 3) := by decide +kernel
theorem dX6_on_24 : decode cX6_on 24 = .ok (.iconst 1, 1) := by decide +kernel
theorem dX6_on_25 : decode cX6_on 25 = .ok (.istore_n 3, 1) := by decide +kernel
theorem dX6_on_26 : decode cX6_on 26 = .ok (.aload_n 0, 1) := by decide +kernel
theorem dX6_on_27 : decode cX6_on 27 = .ok (.getfield 32, 3) := by decide +kernel
theorem dX6_on_30 : decode cX6_on 30 = .ok (.iload_n 1, 1) := by decide +kernel
theorem dX6_on_31 : decode cX6_on 31 = .ok (.iload_n 2, 1) := by decide +kernel
theorem dX6_on_32 : decode cX6_on 32 = .ok (.bastore, 1) := by decide +kernel
theorem dX6_on_33 : decode cX6_on 33 = .ok (.iload_n 3, 1) := by decide +kernel
theorem dX6_on_34 : decode cX6_on 34 = .ok (.ireturn, 1) := by decide +kernel
theorem dX6_peel_0 : decode cX6_peel 0 = .ok (.aload_n 0, 1) := by decide +kernel
theorem dX6_peel_1 : decode cX6_peel 1 = .ok (.getfield 79, 3) := by decide +kernel
theorem dX6_peel_4 : decode cX6_peel 4 = .ok (.ifCond .ne 6, 3) := by decide +kernel
theorem dX6_peel_7 : decode cX6_peel 7 = .ok (.bipush (-3), 2) := by decide +kernel
theorem dX6_peel_9 : decode cX6_peel 9 = .ok (.ireturn, 1) := by decide +kernel
theorem dX6_peel_10 : decode cX6_peel 10 = .ok (.aload_n 0, 1) := by decide +kernel
theorem dX6_peel_11 : decode cX6_peel 11 = .ok (.dup, 1) := by decide +kernel
theorem dX6_peel_12 : decode cX6_peel 12 = .ok (.getfield 79, 3) := by decide +kernel
theorem dX6_peel_15 : decode cX6_peel 15 = .ok (.iconst 1, 1) := by decide +kernel
theorem dX6_peel_16 : decode cX6_peel 16 = .ok (.isub, 1) := by decide +kernel
theorem dX6_peel_17 : decode cX6_peel 17 = .ok (.putfield 79, 3) := by decide +kernel
theorem dX6_peel_20 : decode cX6_peel 20 = .ok (.aload_n 0, 1) := by decide +kernel
theorem dX6_peel_21 : decode cX6_peel 21 = .ok (.getfield 79, 3) := by decide +kernel
theorem dX6_peel_24 : decode cX6_peel 24 = .ok (.ireturn, 1) := by decide +kernel
theorem dX6_filledFrom_0 : decode cX6_filledFrom 0 = .ok (.iload_n 1, 1) := by decide +kernel
theorem dX6_filledFrom_1 : decode cX6_filledFrom 1 = .ok (.ifCond .lt 11, 3) := by decide +kernel
theorem dX6_filledFrom_4 : decode cX6_filledFrom 4 = .ok (.iload_n 1, 1) := by decide +kernel
theorem dX6_filledFrom_5 : decode cX6_filledFrom 5 = .ok (.aload_n 0, 1) := by decide +kernel
theorem dX6_filledFrom_6 : decode cX6_filledFrom 6 = .ok (.getfield 72, 3) := by decide +kernel
theorem dX6_filledFrom_9 : decode cX6_filledFrom 9 = .ok (.if_icmp .lt 7, 3) := by decide +kernel
theorem dX6_filledFrom_12 : decode cX6_filledFrom 12 = .ok (.iconst (-1), 1) := by decide +kernel
theorem dX6_filledFrom_13 : decode cX6_filledFrom 13 = .ok (.goto 14, 3) := by decide +kernel
theorem dX6_filledFrom_16 : decode cX6_filledFrom 16 = .ok (.aload_n 0, 1) := by decide +kernel
theorem dX6_filledFrom_17 : decode cX6_filledFrom 17 = .ok (.getfield 16, 3) := by decide +kernel
theorem dX6_filledFrom_20 : decode cX6_filledFrom 20 = .ok (.bipush 36, 2) := by decide +kernel
theorem dX6_filledFrom_22 : decode cX6_filledFrom 22 = .ok (.iload_n 1, 1) := by decide +kernel
theorem dX6_filledFrom_23 : decode cX6_filledFrom 23 = .ok (.imul, 1) := by decide +kernel
theorem dX6_filledFrom_24 : decode cX6_filledFrom 24 = .ok (.iload_n 2, 1) := by decide +kernel
theorem dX6_filledFrom_25 : decode cX6_filledFrom 25 = .ok (.iadd, 1) := by decide +kernel
theorem dX6_filledFrom_26 : decode cX6_filledFrom 26 = .ok (.iaload, 1) := by decide +kernel
theorem dX6_filledFrom_27 : decode cX6_filledFrom 27 = .ok (.ireturn, 1) := by decide +kernel
set_option maxRecDepth 20000 in
theorem ggX6_matched_X6_rising : GoodIn wsX6_matched wsX6_rising := goodIn_r _ [9, 1, 2, 4, 10, 11, 12, 13, 14, 15, 16, 17, 18, 19, 20, 21, 22, 23, 24, 25, 26, 27, 28, 29, 30, 31, 32, 33, 34, 35, 36, 37, 38, 39, 40, 41, 42] (by decide +kernel) (by decide +kernel)
set_option maxRecDepth 20000 in
theorem gX6_matched_X6_rising : GoodIn wsX6_matched (wsV RX6 154 RX6 yX6_rising wsX6_rising) := goodIn_app (goodIn_of _ (by decide +kernel)) ggX6_matched_X6_rising
theorem dX6_matched_0 : decode cX6_matched 0 = .ok (.iconst 0, 1) := by decide +kernel
theorem dX6_matched_1 : decode cX6_matched 1 = .ok (.istore_n 3, 1) := by decide +kernel
theorem dX6_matched_2 : decode cX6_matched 2 = .ok (.iconst 0, 1) := by decide +kernel
theorem dX6_matched_3 : decode cX6_matched 3 = .ok (.istore 4, 2) := by decide +kernel
theorem dX6_matched_5 : decode cX6_matched 5 = .ok (.iconst 0, 1) := by decide +kernel
theorem dX6_matched_6 : decode cX6_matched 6 = .ok (.istore 5, 2) := by decide +kernel
theorem dX6_matched_8 : decode cX6_matched 8 = .ok (.iconst 0, 1) := by decide +kernel
theorem dX6_matched_9 : decode cX6_matched 9 = .ok (.istore 6, 2) := by decide +kernel
theorem dX6_matched_11 : decode cX6_matched 11 = .ok (.iconst 0, 1) := by decide +kernel
theorem dX6_matched_12 : decode cX6_matched 12 = .ok (.istore 7, 2) := by decide +kernel
theorem dX6_matched_14 : decode cX6_matched 14 = .ok (.iload 7, 2) := by decide +kernel
theorem dX6_matched_16 : decode cX6_matched 16 = .ok (.aload_n 0, 1) := by decide +kernel
theorem dX6_matched_17 : decode cX6_matched 17 = .ok (.getfield 7, 3) := by decide +kernel
theorem dX6_matched_20 : decode cX6_matched 20 = .ok (.aload_n 0, 1) := by decide +kernel
theorem dX6_matched_21 : decode cX6_matched 21 = .ok (.getfield 13, 3) := by decide +kernel
theorem dX6_matched_24 : decode cX6_matched 24 = .ok (.imul, 1) := by decide +kernel
theorem dX6_matched_25 : decode cX6_matched 25 = .ok (.if_icmp .ge 107, 3) := by decide +kernel
theorem dX6_matched_28 : decode cX6_matched 28 = .ok (.iload_n 3, 1) := by decide +kernel
theorem dX6_matched_29 : decode cX6_matched 29 = .ok (.aload_n 0, 1) := by decide +kernel
theorem dX6_matched_30 : decode cX6_matched 30 = .ok (.getfield 69, 3) := by decide +kernel
theorem dX6_matched_33 : decode cX6_matched 33 = .ok (.iload 7, 2) := by decide +kernel
theorem dX6_matched_35 : decode cX6_matched 35 = .ok (.iaload, 1) := by decide +kernel
theorem dX6_matched_36 : decode cX6_matched 36 = .ok (.iconst (-1), 1) := by decide +kernel
theorem dX6_matched_37 : decode cX6_matched 37 = .ok (.if_icmp .eq 7, 3) := by decide +kernel
theorem dX6_matched_40 : decode cX6_matched 40 = .ok (.iconst 1, 1) := by decide +kernel
theorem dX6_matched_41 : decode cX6_matched 41 = .ok (.goto 4, 3) := by decide +kernel
theorem dX6_matched_44 : decode cX6_matched 44 = .ok (.iconst 0, 1) := by decide +kernel
theorem dX6_matched_45 : decode cX6_matched 45 = .ok (.iadd, 1) := by decide +kernel
theorem dX6_matched_46 : decode cX6_matched 46 = .ok (.istore_n 3, 1) := by decide +kernel
theorem dX6_matched_47 : decode cX6_matched 47 = .ok (.iload 4, 2) := by decide +kernel
theorem dX6_matched_49 : decode cX6_matched 49 = .ok (.aload_n 0, 1) := by decide +kernel
theorem dX6_matched_50 : decode cX6_matched 50 = .ok (.getfield 69, 3) := by decide +kernel
theorem dX6_matched_53 : decode cX6_matched 53 = .ok (.iload 7, 2) := by decide +kernel
theorem dX6_matched_55 : decode cX6_matched 55 = .ok (.iaload, 1) := by decide +kernel
theorem dX6_matched_56 : decode cX6_matched 56 = .ok (.iconst (-1), 1) := by decide +kernel
theorem dX6_matched_57 : decode cX6_matched 57 = .ok (.if_icmp .eq 18, 3) := by decide +kernel
theorem dX6_matched_60 : decode cX6_matched 60 = .ok (.aload_n 0, 1) := by decide +kernel
theorem dX6_matched_61 : decode cX6_matched 61 = .ok (.getfield 69, 3) := by decide +kernel
theorem dX6_matched_64 : decode cX6_matched 64 = .ok (.iload 7, 2) := by decide +kernel
theorem dX6_matched_66 : decode cX6_matched 66 = .ok (.iaload, 1) := by decide +kernel
theorem dX6_matched_67 : decode cX6_matched 67 = .ok (.iload_n 2, 1) := by decide +kernel
theorem dX6_matched_68 : decode cX6_matched 68 = .ok (.if_icmp .ge 7, 3) := by decide +kernel
theorem dX6_matched_71 : decode cX6_matched 71 = .ok (.iconst 1, 1) := by decide +kernel
theorem dX6_matched_72 : decode cX6_matched 72 = .ok (.goto 4, 3) := by decide +kernel
theorem dX6_matched_75 : decode cX6_matched 75 = .ok (.iconst 0, 1) := by decide +kernel
theorem dX6_matched_76 : decode cX6_matched 76 = .ok (.iadd, 1) := by decide +kernel
theorem dX6_matched_77 : decode cX6_matched 77 = .ok (.istore 4, 2) := by decide +kernel
theorem dX6_matched_79 : decode cX6_matched 79 = .ok (.iload 5, 2) := by decide +kernel
theorem dX6_matched_81 : decode cX6_matched 81 = .ok (.aload_n 0, 1) := by decide +kernel
theorem dX6_matched_82 : decode cX6_matched 82 = .ok (.getfield 69, 3) := by decide +kernel
theorem dX6_matched_85 : decode cX6_matched 85 = .ok (.iload 7, 2) := by decide +kernel
theorem dX6_matched_87 : decode cX6_matched 87 = .ok (.iaload, 1) := by decide +kernel
theorem dX6_matched_88 : decode cX6_matched 88 = .ok (.iload_n 2, 1) := by decide +kernel
theorem dX6_matched_89 : decode cX6_matched 89 = .ok (.if_icmp .ne 7, 3) := by decide +kernel
theorem dX6_matched_92 : decode cX6_matched 92 = .ok (.iconst 1, 1) := by decide +kernel
theorem dX6_matched_93 : decode cX6_matched 93 = .ok (.goto 4, 3) := by decide +kernel
theorem dX6_matched_96 : decode cX6_matched 96 = .ok (.iconst 0, 1) := by decide +kernel
theorem dX6_matched_97 : decode cX6_matched 97 = .ok (.iadd, 1) := by decide +kernel
theorem dX6_matched_98 : decode cX6_matched 98 = .ok (.istore 5, 2) := by decide +kernel
theorem dX6_matched_100 : decode cX6_matched 100 = .ok (.iload 6, 2) := by decide +kernel
theorem dX6_matched_102 : decode cX6_matched 102 = .ok (.aload_n 0, 1) := by decide +kernel
theorem dX6_matched_103 : decode cX6_matched 103 = .ok (.getfield 16, 3) := by decide +kernel
theorem dX6_matched_106 : decode cX6_matched 106 = .ok (.bipush 36, 2) := by decide +kernel
theorem dX6_matched_108 : decode cX6_matched 108 = .ok (.iload_n 1, 1) := by decide +kernel
theorem dX6_matched_109 : decode cX6_matched 109 = .ok (.imul, 1) := by decide +kernel
theorem dX6_matched_110 : decode cX6_matched 110 = .ok (.iload 7, 2) := by decide +kernel
theorem dX6_matched_112 : decode cX6_matched 112 = .ok (.iadd, 1) := by decide +kernel
theorem dX6_matched_113 : decode cX6_matched 113 = .ok (.iaload, 1) := by decide +kernel
theorem dX6_matched_114 : decode cX6_matched 114 = .ok (.iconst (-1), 1) := by decide +kernel
theorem dX6_matched_115 : decode cX6_matched 115 = .ok (.if_icmp .eq 7, 3) := by decide +kernel
theorem dX6_matched_118 : decode cX6_matched 118 = .ok (.iconst 1, 1) := by decide +kernel
theorem dX6_matched_119 : decode cX6_matched 119 = .ok (.goto 4, 3) := by decide +kernel
theorem dX6_matched_122 : decode cX6_matched 122 = .ok (.iconst 0, 1) := by decide +kernel
theorem dX6_matched_123 : decode cX6_matched 123 = .ok (.iadd, 1) := by decide +kernel
theorem dX6_matched_124 : decode cX6_matched 124 = .ok (.istore 6, 2) := by decide +kernel
theorem dX6_matched_126 : decode cX6_matched 126 = .ok (.iinc 7 1, 3) := by decide +kernel
theorem dX6_matched_129 : decode cX6_matched 129 = .ok (.goto (-115), 3) := by decide +kernel
theorem dX6_matched_132 : decode cX6_matched 132 = .ok (.iload_n 2, 1) := by decide +kernel
theorem dX6_matched_133 : decode cX6_matched 133 = .ok (.iconst (-1), 1) := by decide +kernel
theorem dX6_matched_134 : decode cX6_matched 134 = .ok (.if_icmp .eq 8, 3) := by decide +kernel
theorem dX6_matched_137 : decode cX6_matched 137 = .ok (.iload 6, 2) := by decide +kernel
theorem dX6_matched_139 : decode cX6_matched 139 = .ok (.ifCond .ne 5, 3) := by decide +kernel
theorem dX6_matched_142 : decode cX6_matched 142 = .ok (.iload_n 2, 1) := by decide +kernel
theorem dX6_matched_143 : decode cX6_matched 143 = .ok (.ireturn, 1) := by decide +kernel
theorem dX6_matched_144 : decode cX6_matched 144 = .ok (.aload_n 0, 1) := by decide +kernel
theorem dX6_matched_145 : decode cX6_matched 145 = .ok (.iload_n 1, 1) := by decide +kernel
theorem dX6_matched_146 : decode cX6_matched 146 = .ok (.iconst 2, 1) := by decide +kernel
theorem dX6_matched_147 : decode cX6_matched 147 = .ok (.iload 4, 2) := by decide +kernel
theorem dX6_matched_149 : decode cX6_matched 149 = .ok (.imul, 1) := by decide +kernel
theorem dX6_matched_150 : decode cX6_matched 150 = .ok (.iload 5, 2) := by decide +kernel
theorem dX6_matched_152 : decode cX6_matched 152 = .ok (.iadd, 1) := by decide +kernel
theorem dX6_matched_153 : decode cX6_matched 153 = .ok (.iconst 1, 1) := by decide +kernel
theorem dX6_matched_154 : decode cX6_matched 154 = .ok (.isub, 1) := by decide +kernel
theorem dX6_matched_155 : decode cX6_matched 155 = .ok (.iconst 2, 1) := by decide +kernel
theorem dX6_matched_156 : decode cX6_matched 156 = .ok (.idiv, 1) := by decide +kernel
theorem dX6_matched_157 : decode cX6_matched 157 = .ok (.iload 6, 2) := by decide +kernel
theorem dX6_matched_159 : decode cX6_matched 159 = .ok (.imul, 1) := by decide +kernel
theorem dX6_matched_160 : decode cX6_matched 160 = .ok (.iload_n 3, 1) := by decide +kernel
theorem dX6_matched_161 : decode cX6_matched 161 = .ok (.idiv, 1) := by decide +kernel
theorem dX6_matched_162 : decode cX6_matched 162 = .ok (.invokevirtual 154, 3) := by decide +kernel
theorem dX6_matched_165 : decode cX6_matched 165 = .ok (.ireturn, 1) := by decide +kernel
theorem dX6_rising_0 : decode cX6_rising 0 = .ok (.iload_n 2, 1) := by decide +kernel
theorem dX6_rising_1 : decode cX6_rising 1 = .ok (.istore_n 3, 1) := by decide +kernel
theorem dX6_rising_2 : decode cX6_rising 2 = .ok (.iconst 0, 1) := by decide +kernel
theorem dX6_rising_3 : decode cX6_rising 3 = .ok (.istore 4, 2) := by decide +kernel
theorem dX6_rising_5 : decode cX6_rising 5 = .ok (.iload 4, 2) := by decide +kernel
theorem dX6_rising_7 : decode cX6_rising 7 = .ok (.bipush 64, 2) := by decide +kernel
theorem dX6_rising_9 : decode cX6_rising 9 = .ok (.if_icmp .ge 62, 3) := by decide +kernel
theorem dX6_rising_12 : decode cX6_rising 12 = .ok (.iconst 0, 1) := by decide +kernel
theorem dX6_rising_13 : decode cX6_rising 13 = .ok (.istore 5, 2) := by decide +kernel
theorem dX6_rising_15 : decode cX6_rising 15 = .ok (.iload 5, 2) := by decide +kernel
theorem dX6_rising_17 : decode cX6_rising 17 = .ok (.aload_n 0, 1) := by decide +kernel
theorem dX6_rising_18 : decode cX6_rising 18 = .ok (.getfield 7, 3) := by decide +kernel
theorem dX6_rising_21 : decode cX6_rising 21 = .ok (.aload_n 0, 1) := by decide +kernel
theorem dX6_rising_22 : decode cX6_rising 22 = .ok (.getfield 13, 3) := by decide +kernel
theorem dX6_rising_25 : decode cX6_rising 25 = .ok (.imul, 1) := by decide +kernel
theorem dX6_rising_26 : decode cX6_rising 26 = .ok (.if_icmp .ge 39, 3) := by decide +kernel
theorem dX6_rising_29 : decode cX6_rising 29 = .ok (.aload_n 0, 1) := by decide +kernel
theorem dX6_rising_30 : decode cX6_rising 30 = .ok (.getfield 16, 3) := by decide +kernel
theorem dX6_rising_33 : decode cX6_rising 33 = .ok (.bipush 36, 2) := by decide +kernel
theorem dX6_rising_35 : decode cX6_rising 35 = .ok (.iload_n 1, 1) := by decide +kernel
theorem dX6_rising_36 : decode cX6_rising 36 = .ok (.imul, 1) := by decide +kernel
theorem dX6_rising_37 : decode cX6_rising 37 = .ok (.iload 5, 2) := by decide +kernel
theorem dX6_rising_39 : decode cX6_rising 39 = .ok (.iadd, 1) := by decide +kernel
theorem dX6_rising_40 : decode cX6_rising 40 = .ok (.iaload, 1) := by decide +kernel
theorem dX6_rising_41 : decode cX6_rising 41 = .ok (.iload 4, 2) := by decide +kernel
theorem dX6_rising_43 : decode cX6_rising 43 = .ok (.if_icmp .eq 6, 3) := by decide +kernel
theorem dX6_rising_46 : decode cX6_rising 46 = .ok (.goto 13, 3) := by decide +kernel
theorem dX6_rising_49 : decode cX6_rising 49 = .ok (.iload_n 3, 1) := by decide +kernel
theorem dX6_rising_50 : decode cX6_rising 50 = .ok (.ifCond .ne 6, 3) := by decide +kernel
theorem dX6_rising_53 : decode cX6_rising 53 = .ok (.iload 4, 2) := by decide +kernel
theorem dX6_rising_55 : decode cX6_rising 55 = .ok (.ireturn, 1) := by decide +kernel
theorem dX6_rising_56 : decode cX6_rising 56 = .ok (.iinc 3 (-1), 3) := by decide +kernel
theorem dX6_rising_59 : decode cX6_rising 59 = .ok (.iinc 5 1, 3) := by decide +kernel
theorem dX6_rising_62 : decode cX6_rising 62 = .ok (.goto (-47), 3) := by decide +kernel
theorem dX6_rising_65 : decode cX6_rising 65 = .ok (.iinc 4 1, 3) := by decide +kernel
theorem dX6_rising_68 : decode cX6_rising 68 = .ok (.goto (-63), 3) := by decide +kernel
theorem dX6_rising_71 : decode cX6_rising 71 = .ok (.iconst (-1), 1) := by decide +kernel
theorem dX6_rising_72 : decode cX6_rising 72 = .ok (.ireturn, 1) := by decide +kernel
set_option maxRecDepth 20000 in
theorem ggX6_moved_X6_isSquare : GoodIn wsX6_moved wsX6_isSquare := goodIn_r _ [9, 10, 1, 11, 12, 8, 13, 14, 15, 16, 17, 18, 19, 20, 21, 22, 23, 24, 25, 26, 27, 28, 29, 30, 31, 32, 33, 34, 35, 36, 37, 38, 39, 40, 41, 42, 43, 44, 45, 46] (by decide +kernel) (by decide +kernel)
set_option maxRecDepth 20000 in
theorem gX6_moved_X6_isSquare : GoodIn wsX6_moved (wsV RX6 86 RX6 yX6_isSquare wsX6_isSquare) := goodIn_app (goodIn_of _ (by decide +kernel)) ggX6_moved_X6_isSquare
theorem dX6_moved_0 : decode cX6_moved 0 = .ok (.iload_n 2, 1) := by decide +kernel
theorem dX6_moved_1 : decode cX6_moved 1 = .ok (.aload_n 0, 1) := by decide +kernel
theorem dX6_moved_2 : decode cX6_moved 2 = .ok (.getfield 13, 3) := by decide +kernel
theorem dX6_moved_5 : decode cX6_moved 5 = .ok (.idiv, 1) := by decide +kernel
theorem dX6_moved_6 : decode cX6_moved 6 = .ok (.aload_n 0, 1) := by decide +kernel
theorem dX6_moved_7 : decode cX6_moved 7 = .ok (.getfield 29, 3) := by decide +kernel
theorem dX6_moved_10 : decode cX6_moved 10 = .ok (.iload_n 1, 1) := by decide +kernel
theorem dX6_moved_11 : decode cX6_moved 11 = .ok (.iaload, 1) := by decide +kernel
theorem dX6_moved_12 : decode cX6_moved 12 = .ok (.isub, 1) := by decide +kernel
theorem dX6_moved_13 : decode cX6_moved 13 = .ok (.istore_n 3, 1) := by decide +kernel
theorem dX6_moved_14 : decode cX6_moved 14 = .ok (.iload_n 2, 1) := by decide +kernel
theorem dX6_moved_15 : decode cX6_moved 15 = .ok (.aload_n 0, 1) := by decide +kernel
theorem dX6_moved_16 : decode cX6_moved 16 = .ok (.getfield 13, 3) := by decide +kernel
theorem dX6_moved_19 : decode cX6_moved 19 = .ok (.irem, 1) := by decide +kernel
theorem dX6_moved_20 : decode cX6_moved 20 = .ok (.aload_n 0, 1) := by decide +kernel
theorem dX6_moved_21 : decode cX6_moved 21 = .ok (.getfield 26, 3) := by decide +kernel
theorem dX6_moved_24 : decode cX6_moved 24 = .ok (.iload_n 1, 1) := by decide +kernel
theorem dX6_moved_25 : decode cX6_moved 25 = .ok (.iaload, 1) := by decide +kernel
theorem dX6_moved_26 : decode cX6_moved 26 = .ok (.isub, 1) := by decide +kernel
theorem dX6_moved_27 : decode cX6_moved 27 = .ok (.istore 4, 2) := by decide +kernel
theorem dX6_moved_29 : decode cX6_moved 29 = .ok (.aload_n 0, 1) := by decide +kernel
theorem dX6_moved_30 : decode cX6_moved 30 = .ok (.iload_n 3, 1) := by decide +kernel
theorem dX6_moved_31 : decode cX6_moved 31 = .ok (.iload 4, 2) := by decide +kernel
theorem dX6_moved_33 : decode cX6_moved 33 = .ok (.invokevirtual 86, 3) := by decide +kernel
theorem dX6_moved_36 : decode cX6_moved 36 = .ok (.ifCond .eq 20, 3) := by decide +kernel
theorem dX6_moved_39 : decode cX6_moved 39 = .ok (.aload_n 0, 1) := by decide +kernel
theorem dX6_moved_40 : decode cX6_moved 40 = .ok (.getfield 69, 3) := by decide +kernel
theorem dX6_moved_43 : decode cX6_moved 43 = .ok (.aload_n 0, 1) := by decide +kernel
theorem dX6_moved_44 : decode cX6_moved 44 = .ok (.getfield 13, 3) := by decide +kernel
theorem dX6_moved_47 : decode cX6_moved 47 = .ok (.iload_n 3, 1) := by decide +kernel
theorem dX6_moved_48 : decode cX6_moved 48 = .ok (.imul, 1) := by decide +kernel
theorem dX6_moved_49 : decode cX6_moved 49 = .ok (.iload 4, 2) := by decide +kernel
theorem dX6_moved_51 : decode cX6_moved 51 = .ok (.iadd, 1) := by decide +kernel
theorem dX6_moved_52 : decode cX6_moved 52 = .ok (.iaload, 1) := by decide +kernel
theorem dX6_moved_53 : decode cX6_moved 53 = .ok (.goto 4, 3) := by decide +kernel
theorem dX6_moved_56 : decode cX6_moved 56 = .ok (.iconst (-1), 1) := by decide +kernel
theorem dX6_moved_57 : decode cX6_moved 57 = .ok (.ireturn, 1) := by decide +kernel
set_option maxRecDepth 20000 in
theorem ggX6_goes_X6_cleaned : GoodIn wsX6_goes wsX6_cleaned := goodIn_r _ [12, 13, 14, 15, 16, 17, 11, 18, 43, 44, 45, 46, 47, 48, 49, 50, 51, 52, 53, 54, 55, 56, 57, 58, 59, 60, 61, 62, 63, 64, 65, 66, 67, 68, 69, 70, 71, 72, 73, 74, 75] (by decide +kernel) (by decide +kernel)
set_option maxRecDepth 20000 in
theorem gX6_goes_X6_cleaned : GoodIn wsX6_goes (wsV RX6 148 RX6 yX6_cleaned wsX6_cleaned) := goodIn_app (goodIn_of _ (by decide +kernel)) ggX6_goes_X6_cleaned
set_option maxRecDepth 20000 in
theorem ggX6_goes_X6_matched : GoodIn wsX6_goes wsX6_matched := goodIn_r _ [22, 2, 3, 4, 14, 23, 24, 25, 11, 26, 43, 44, 45, 46, 47, 48, 49, 50, 51, 52, 53, 54, 55, 56, 57, 58, 59, 60, 61, 62, 63, 64, 65, 66, 67, 68, 69, 70, 71, 72, 73, 74, 75] (by decide +kernel) (by decide +kernel)
set_option maxRecDepth 20000 in
theorem gX6_goes_X6_matched : GoodIn wsX6_goes (wsV RX6 157 RX6 yX6_matched wsX6_matched) := goodIn_app (goodIn_of _ (by decide +kernel)) ggX6_goes_X6_matched
set_option maxRecDepth 20000 in
theorem ggX6_goes_X6_filledFrom : GoodIn wsX6_goes wsX6_filledFrom := goodIn_r _ [30, 13, 14, 43, 44, 45, 46, 47, 48, 49, 50, 51, 52, 53, 54, 55, 56, 57, 58, 59, 60, 61, 62, 63, 64, 65, 66, 67, 68, 69, 70, 71, 72, 73, 74, 75] (by decide +kernel) (by decide +kernel)
set_option maxRecDepth 20000 in
theorem gX6_goes_X6_filledFrom : GoodIn wsX6_goes (wsV RX6 160 RX6 yX6_filledFrom wsX6_filledFrom) := goodIn_app (goodIn_of _ (by decide +kernel)) ggX6_goes_X6_filledFrom
set_option maxRecDepth 20000 in
theorem ggX6_goes_X6_moved : GoodIn wsX6_goes wsX6_moved := goodIn_r _ [34, 3, 35, 7, 4, 36, 37, 38, 11, 39, 2, 40, 41, 42, 43, 44, 45, 46, 47, 48, 49, 50, 51, 52, 53, 54, 55, 56, 57, 58, 59, 60, 61, 62, 63, 64, 65, 66, 67, 68, 69, 70, 71, 72, 73, 74, 75] (by decide +kernel) (by decide +kernel)
set_option maxRecDepth 20000 in
theorem gX6_goes_X6_moved : GoodIn wsX6_goes (wsV RX6 163 RX6 yX6_moved wsX6_moved) := goodIn_app (goodIn_of _ (by decide +kernel)) ggX6_goes_X6_moved
theorem dX6_goes_0 : decode cX6_goes 0 = .ok (.aload_n 0, 1) := by decide +kernel
theorem dX6_goes_1 : decode cX6_goes 1 = .ok (.getfield 23, 3) := by decide +kernel
theorem dX6_goes_4 : decode cX6_goes 4 = .ok (.iload_n 1, 1) := by decide +kernel
theorem dX6_goes_5 : decode cX6_goes 5 = .ok (.iaload, 1) := by decide +kernel
theorem dX6_goes_6 : decode cX6_goes 6 = .ok (.istore_n 2, 1) := by decide +kernel
theorem dX6_goes_7 : decode cX6_goes 7 = .ok (.iconst 0, 1) := by decide +kernel
theorem dX6_goes_8 : decode cX6_goes 8 = .ok (.istore_n 3, 1) := by decide +kernel
theorem dX6_goes_9 : decode cX6_goes 9 = .ok (.iconst 0, 1) := by decide +kernel
theorem dX6_goes_10 : decode cX6_goes 10 = .ok (.istore 4, 2) := by decide +kernel
theorem dX6_goes_12 : decode cX6_goes 12 = .ok (.iload 4, 2) := by decide +kernel
theorem dX6_goes_14 : decode cX6_goes 14 = .ok (.aload_n 0, 1) := by decide +kernel
theorem dX6_goes_15 : decode cX6_goes 15 = .ok (.getfield 7, 3) := by decide +kernel
theorem dX6_goes_18 : decode cX6_goes 18 = .ok (.aload_n 0, 1) := by decide +kernel
theorem dX6_goes_19 : decode cX6_goes 19 = .ok (.getfield 13, 3) := by decide +kernel
theorem dX6_goes_22 : decode cX6_goes 22 = .ok (.imul, 1) := by decide +kernel
theorem dX6_goes_23 : decode cX6_goes 23 = .ok (.if_icmp .ge 23, 3) := by decide +kernel
theorem dX6_goes_26 : decode cX6_goes 26 = .ok (.aload_n 0, 1) := by decide +kernel
theorem dX6_goes_27 : decode cX6_goes 27 = .ok (.getfield 69, 3) := by decide +kernel
theorem dX6_goes_30 : decode cX6_goes 30 = .ok (.iload 4, 2) := by decide +kernel
theorem dX6_goes_32 : decode cX6_goes 32 = .ok (.aload_n 0, 1) := by decide +kernel
theorem dX6_goes_33 : decode cX6_goes 33 = .ok (.getfield 66, 3) := by decide +kernel
theorem dX6_goes_36 : decode cX6_goes 36 = .ok (.iload 4, 2) := by decide +kernel
theorem dX6_goes_38 : decode cX6_goes 38 = .ok (.iaload, 1) := by decide +kernel
theorem dX6_goes_39 : decode cX6_goes 39 = .ok (.iastore, 1) := by decide +kernel
theorem dX6_goes_40 : decode cX6_goes 40 = .ok (.iinc 4 1, 3) := by decide +kernel
theorem dX6_goes_43 : decode cX6_goes 43 = .ok (.goto (-31), 3) := by decide +kernel
theorem dX6_goes_46 : decode cX6_goes 46 = .ok (.iconst 0, 1) := by decide +kernel
theorem dX6_goes_47 : decode cX6_goes 47 = .ok (.istore 4, 2) := by decide +kernel
theorem dX6_goes_49 : decode cX6_goes 49 = .ok (.iload 4, 2) := by decide +kernel
theorem dX6_goes_51 : decode cX6_goes 51 = .ok (.aload_n 0, 1) := by decide +kernel
theorem dX6_goes_52 : decode cX6_goes 52 = .ok (.getfield 7, 3) := by decide +kernel
theorem dX6_goes_55 : decode cX6_goes 55 = .ok (.aload_n 0, 1) := by decide +kernel
theorem dX6_goes_56 : decode cX6_goes 56 = .ok (.getfield 13, 3) := by decide +kernel
theorem dX6_goes_59 : decode cX6_goes 59 = .ok (.imul, 1) := by decide +kernel
theorem dX6_goes_60 : decode cX6_goes 60 = .ok (.if_icmp .ge 183, 3) := by decide +kernel
theorem dX6_goes_63 : decode cX6_goes 63 = .ok (.aload_n 0, 1) := by decide +kernel
theorem dX6_goes_64 : decode cX6_goes 64 = .ok (.getfield 69, 3) := by decide +kernel
theorem dX6_goes_67 : decode cX6_goes 67 = .ok (.iload 4, 2) := by decide +kernel
theorem dX6_goes_69 : decode cX6_goes 69 = .ok (.iaload, 1) := by decide +kernel
theorem dX6_goes_70 : decode cX6_goes 70 = .ok (.istore 5, 2) := by decide +kernel
theorem dX6_goes_72 : decode cX6_goes 72 = .ok (.aload_n 0, 1) := by decide +kernel
theorem dX6_goes_73 : decode cX6_goes 73 = .ok (.getfield 20, 3) := by decide +kernel
theorem dX6_goes_76 : decode cX6_goes 76 = .ok (.iload_n 1, 1) := by decide +kernel
theorem dX6_goes_77 : decode cX6_goes 77 = .ok (.iaload, 1) := by decide +kernel
theorem dX6_goes_78 : decode cX6_goes 78 = .ok (.ifCond .ne 34, 3) := by decide +kernel
theorem dX6_goes_81 : decode cX6_goes 81 = .ok (.aload_n 0, 1) := by decide +kernel
theorem dX6_goes_82 : decode cX6_goes 82 = .ok (.iload_n 2, 1) := by decide +kernel
theorem dX6_goes_83 : decode cX6_goes 83 = .ok (.iload 4, 2) := by decide +kernel
theorem dX6_goes_85 : decode cX6_goes 85 = .ok (.iload 5, 2) := by decide +kernel
theorem dX6_goes_87 : decode cX6_goes 87 = .ok (.invokevirtual 148, 3) := by decide +kernel
theorem dX6_goes_90 : decode cX6_goes 90 = .ok (.ifCond .lt 15, 3) := by decide +kernel
theorem dX6_goes_93 : decode cX6_goes 93 = .ok (.aload_n 0, 1) := by decide +kernel
theorem dX6_goes_94 : decode cX6_goes 94 = .ok (.iload_n 2, 1) := by decide +kernel
theorem dX6_goes_95 : decode cX6_goes 95 = .ok (.iload 4, 2) := by decide +kernel
theorem dX6_goes_97 : decode cX6_goes 97 = .ok (.iload 5, 2) := by decide +kernel
theorem dX6_goes_99 : decode cX6_goes 99 = .ok (.invokevirtual 148, 3) := by decide +kernel
theorem dX6_goes_102 : decode cX6_goes 102 = .ok (.goto 5, 3) := by decide +kernel
theorem dX6_goes_105 : decode cX6_goes 105 = .ok (.iload 5, 2) := by decide +kernel
theorem dX6_goes_107 : decode cX6_goes 107 = .ok (.istore 5, 2) := by decide +kernel
theorem dX6_goes_109 : decode cX6_goes 109 = .ok (.goto 99, 3) := by decide +kernel
theorem dX6_goes_112 : decode cX6_goes 112 = .ok (.aload_n 0, 1) := by decide +kernel
theorem dX6_goes_113 : decode cX6_goes 113 = .ok (.getfield 20, 3) := by decide +kernel
theorem dX6_goes_116 : decode cX6_goes 116 = .ok (.iload_n 1, 1) := by decide +kernel
theorem dX6_goes_117 : decode cX6_goes 117 = .ok (.iaload, 1) := by decide +kernel
theorem dX6_goes_118 : decode cX6_goes 118 = .ok (.iconst 1, 1) := by decide +kernel
theorem dX6_goes_119 : decode cX6_goes 119 = .ok (.if_icmp .ne 20, 3) := by decide +kernel
theorem dX6_goes_122 : decode cX6_goes 122 = .ok (.aload_n 0, 1) := by decide +kernel
theorem dX6_goes_123 : decode cX6_goes 123 = .ok (.aload_n 0, 1) := by decide +kernel
theorem dX6_goes_124 : decode cX6_goes 124 = .ok (.getfield 26, 3) := by decide +kernel
theorem dX6_goes_127 : decode cX6_goes 127 = .ok (.iload_n 1, 1) := by decide +kernel
theorem dX6_goes_128 : decode cX6_goes 128 = .ok (.iaload, 1) := by decide +kernel
theorem dX6_goes_129 : decode cX6_goes 129 = .ok (.iload 5, 2) := by decide +kernel
theorem dX6_goes_131 : decode cX6_goes 131 = .ok (.invokevirtual 157, 3) := by decide +kernel
theorem dX6_goes_134 : decode cX6_goes 134 = .ok (.istore 5, 2) := by decide +kernel
theorem dX6_goes_136 : decode cX6_goes 136 = .ok (.goto 72, 3) := by decide +kernel
theorem dX6_goes_139 : decode cX6_goes 139 = .ok (.aload_n 0, 1) := by decide +kernel
theorem dX6_goes_140 : decode cX6_goes 140 = .ok (.getfield 20, 3) := by decide +kernel
theorem dX6_goes_143 : decode cX6_goes 143 = .ok (.iload_n 1, 1) := by decide +kernel
theorem dX6_goes_144 : decode cX6_goes 144 = .ok (.iaload, 1) := by decide +kernel
theorem dX6_goes_145 : decode cX6_goes 145 = .ok (.iconst 2, 1) := by decide +kernel
theorem dX6_goes_146 : decode cX6_goes 146 = .ok (.if_icmp .ne 53, 3) := by decide +kernel
theorem dX6_goes_149 : decode cX6_goes 149 = .ok (.iload 5, 2) := by decide +kernel
theorem dX6_goes_151 : decode cX6_goes 151 = .ok (.iconst (-1), 1) := by decide +kernel
theorem dX6_goes_152 : decode cX6_goes 152 = .ok (.if_icmp .eq 8, 3) := by decide +kernel
theorem dX6_goes_155 : decode cX6_goes 155 = .ok (.iload 5, 2) := by decide +kernel
theorem dX6_goes_157 : decode cX6_goes 157 = .ok (.goto 37, 3) := by decide +kernel
theorem dX6_goes_160 : decode cX6_goes 160 = .ok (.aload_n 0, 1) := by decide +kernel
theorem dX6_goes_161 : decode cX6_goes 161 = .ok (.iload_n 2, 1) := by decide +kernel
theorem dX6_goes_162 : decode cX6_goes 162 = .ok (.iconst 1, 1) := by decide +kernel
theorem dX6_goes_163 : decode cX6_goes 163 = .ok (.isub, 1) := by decide +kernel
theorem dX6_goes_164 : decode cX6_goes 164 = .ok (.iload 4, 2) := by decide +kernel
theorem dX6_goes_166 : decode cX6_goes 166 = .ok (.invokevirtual 160, 3) := by decide +kernel
theorem dX6_goes_169 : decode cX6_goes 169 = .ok (.iconst (-1), 1) := by decide +kernel
theorem dX6_goes_170 : decode cX6_goes 170 = .ok (.if_icmp .eq 15, 3) := by decide +kernel
theorem dX6_goes_173 : decode cX6_goes 173 = .ok (.aload_n 0, 1) := by decide +kernel
theorem dX6_goes_174 : decode cX6_goes 174 = .ok (.iload_n 2, 1) := by decide +kernel
theorem dX6_goes_175 : decode cX6_goes 175 = .ok (.iconst 1, 1) := by decide +kernel
theorem dX6_goes_176 : decode cX6_goes 176 = .ok (.isub, 1) := by decide +kernel
theorem dX6_goes_177 : decode cX6_goes 177 = .ok (.iload 4, 2) := by decide +kernel
theorem dX6_goes_179 : decode cX6_goes 179 = .ok (.invokevirtual 160, 3) := by decide +kernel
theorem dX6_goes_182 : decode cX6_goes 182 = .ok (.goto 12, 3) := by decide +kernel
theorem dX6_goes_185 : decode cX6_goes 185 = .ok (.aload_n 0, 1) := by decide +kernel
theorem dX6_goes_186 : decode cX6_goes 186 = .ok (.iload_n 2, 1) := by decide +kernel
theorem dX6_goes_187 : decode cX6_goes 187 = .ok (.iconst 1, 1) := by decide +kernel
theorem dX6_goes_188 : decode cX6_goes 188 = .ok (.iadd, 1) := by decide +kernel
theorem dX6_goes_189 : decode cX6_goes 189 = .ok (.iload 4, 2) := by decide +kernel
theorem dX6_goes_191 : decode cX6_goes 191 = .ok (.invokevirtual 160, 3) := by decide +kernel
theorem dX6_goes_194 : decode cX6_goes 194 = .ok (.istore 5, 2) := by decide +kernel
theorem dX6_goes_196 : decode cX6_goes 196 = .ok (.goto 12, 3) := by decide +kernel
theorem dX6_goes_199 : decode cX6_goes 199 = .ok (.aload_n 0, 1) := by decide +kernel
theorem dX6_goes_200 : decode cX6_goes 200 = .ok (.iload_n 1, 1) := by decide +kernel
theorem dX6_goes_201 : decode cX6_goes 201 = .ok (.iload 4, 2) := by decide +kernel
theorem dX6_goes_203 : decode cX6_goes 203 = .ok (.invokevirtual 163, 3) := by decide +kernel
theorem dX6_goes_206 : decode cX6_goes 206 = .ok (.istore 5, 2) := by decide +kernel
theorem dX6_goes_208 : decode cX6_goes 208 = .ok (.aload_n 0, 1) := by decide +kernel
theorem dX6_goes_209 : decode cX6_goes 209 = .ok (.getfield 66, 3) := by decide +kernel
theorem dX6_goes_212 : decode cX6_goes 212 = .ok (.iload 4, 2) := by decide +kernel
theorem dX6_goes_214 : decode cX6_goes 214 = .ok (.iload 5, 2) := by decide +kernel
theorem dX6_goes_216 : decode cX6_goes 216 = .ok (.iastore, 1) := by decide +kernel
theorem dX6_goes_217 : decode cX6_goes 217 = .ok (.iload_n 3, 1) := by decide +kernel
theorem dX6_goes_218 : decode cX6_goes 218 = .ok (.iload 5, 2) := by decide +kernel
theorem dX6_goes_220 : decode cX6_goes 220 = .ok (.aload_n 0, 1) := by decide +kernel
theorem dX6_goes_221 : decode cX6_goes 221 = .ok (.getfield 69, 3) := by decide +kernel
theorem dX6_goes_224 : decode cX6_goes 224 = .ok (.iload 4, 2) := by decide +kernel
theorem dX6_goes_226 : decode cX6_goes 226 = .ok (.iaload, 1) := by decide +kernel
theorem dX6_goes_227 : decode cX6_goes 227 = .ok (.if_icmp .eq 7, 3) := by decide +kernel
theorem dX6_goes_230 : decode cX6_goes 230 = .ok (.iconst 1, 1) := by decide +kernel
theorem dX6_goes_231 : decode cX6_goes 231 = .ok (.goto 4, 3) := by decide +kernel
theorem dX6_goes_234 : decode cX6_goes 234 = .ok (.iconst 0, 1) := by decide +kernel
theorem dX6_goes_235 : decode cX6_goes 235 = .ok (.iadd, 1) := by decide +kernel
theorem dX6_goes_236 : decode cX6_goes 236 = .ok (.istore_n 3, 1) := by decide +kernel
theorem dX6_goes_237 : decode cX6_goes 237 = .ok (.iinc 4 1, 3) := by decide +kernel
theorem dX6_goes_240 : decode cX6_goes 240 = .ok (.goto (-191), 3) := by decide +kernel
theorem dX6_goes_243 : decode cX6_goes 243 = .ok (.iload_n 3, 1) := by decide +kernel
theorem dX6_goes_244 : decode cX6_goes 244 = .ok (.ireturn, 1) := by decide +kernel
set_option maxRecDepth 20000 in
theorem ggX6_makes_X6_goes : GoodIn wsX6_makes wsX6_goes := goodIn_r _ [12, 6, 1, 2, 13, 3, 14, 15, 16, 17, 18, 11, 19, 20, 4, 21, 22, 23, 24, 25, 26, 27, 28, 29, 30, 31, 32, 33, 34, 35, 36, 37, 38, 39, 40, 41, 42, 43, 44, 45, 46, 47, 48, 49, 50, 51, 52, 53, 54, 55, 56, 57, 58, 59, 60, 61, 62, 63, 64, 65, 66, 67, 68, 69, 70, 71, 72, 73, 74, 75, 76, 77, 78, 79, 80, 81] (by decide +kernel) (by decide +kernel)
set_option maxRecDepth 20000 in
theorem gX6_makes_X6_goes : GoodIn wsX6_makes (wsV RX6 166 RX6 yX6_goes wsX6_goes) := goodIn_app (goodIn_of _ (by decide +kernel)) ggX6_makes_X6_goes
theorem dX6_makes_0 : decode cX6_makes 0 = .ok (.iconst 0, 1) := by decide +kernel
theorem dX6_makes_1 : decode cX6_makes 1 = .ok (.istore_n 3, 1) := by decide +kernel
theorem dX6_makes_2 : decode cX6_makes 2 = .ok (.iconst 0, 1) := by decide +kernel
theorem dX6_makes_3 : decode cX6_makes 3 = .ok (.istore 4, 2) := by decide +kernel
theorem dX6_makes_5 : decode cX6_makes 5 = .ok (.iload 4, 2) := by decide +kernel
theorem dX6_makes_7 : decode cX6_makes 7 = .ok (.aload_n 0, 1) := by decide +kernel
theorem dX6_makes_8 : decode cX6_makes 8 = .ok (.getfield 7, 3) := by decide +kernel
theorem dX6_makes_11 : decode cX6_makes 11 = .ok (.aload_n 0, 1) := by decide +kernel
theorem dX6_makes_12 : decode cX6_makes 12 = .ok (.getfield 13, 3) := by decide +kernel
theorem dX6_makes_15 : decode cX6_makes 15 = .ok (.imul, 1) := by decide +kernel
theorem dX6_makes_16 : decode cX6_makes 16 = .ok (.if_icmp .ge 28, 3) := by decide +kernel
theorem dX6_makes_19 : decode cX6_makes 19 = .ok (.aload_n 0, 1) := by decide +kernel
theorem dX6_makes_20 : decode cX6_makes 20 = .ok (.getfield 66, 3) := by decide +kernel
theorem dX6_makes_23 : decode cX6_makes 23 = .ok (.iload 4, 2) := by decide +kernel
theorem dX6_makes_25 : decode cX6_makes 25 = .ok (.aload_n 0, 1) := by decide +kernel
theorem dX6_makes_26 : decode cX6_makes 26 = .ok (.getfield 16, 3) := by decide +kernel
theorem dX6_makes_29 : decode cX6_makes 29 = .ok (.bipush 36, 2) := by decide +kernel
theorem dX6_makes_31 : decode cX6_makes 31 = .ok (.iload_n 1, 1) := by decide +kernel
theorem dX6_makes_32 : decode cX6_makes 32 = .ok (.imul, 1) := by decide +kernel
theorem dX6_makes_33 : decode cX6_makes 33 = .ok (.iload 4, 2) := by decide +kernel
theorem dX6_makes_35 : decode cX6_makes 35 = .ok (.iadd, 1) := by decide +kernel
theorem dX6_makes_36 : decode cX6_makes 36 = .ok (.iaload, 1) := by decide +kernel
theorem dX6_makes_37 : decode cX6_makes 37 = .ok (.iastore, 1) := by decide +kernel
theorem dX6_makes_38 : decode cX6_makes 38 = .ok (.iinc 4 1, 3) := by decide +kernel
theorem dX6_makes_41 : decode cX6_makes 41 = .ok (.goto (-36), 3) := by decide +kernel
theorem dX6_makes_44 : decode cX6_makes 44 = .ok (.iconst 0, 1) := by decide +kernel
theorem dX6_makes_45 : decode cX6_makes 45 = .ok (.istore 4, 2) := by decide +kernel
theorem dX6_makes_47 : decode cX6_makes 47 = .ok (.iload 4, 2) := by decide +kernel
theorem dX6_makes_49 : decode cX6_makes 49 = .ok (.aload_n 0, 1) := by decide +kernel
theorem dX6_makes_50 : decode cX6_makes 50 = .ok (.getfield 79, 3) := by decide +kernel
theorem dX6_makes_53 : decode cX6_makes 53 = .ok (.if_icmp .ge 51, 3) := by decide +kernel
theorem dX6_makes_56 : decode cX6_makes 56 = .ok (.aload_n 0, 1) := by decide +kernel
theorem dX6_makes_57 : decode cX6_makes 57 = .ok (.getfield 23, 3) := by decide +kernel
theorem dX6_makes_60 : decode cX6_makes 60 = .ok (.iload 4, 2) := by decide +kernel
theorem dX6_makes_62 : decode cX6_makes 62 = .ok (.iaload, 1) := by decide +kernel
theorem dX6_makes_63 : decode cX6_makes 63 = .ok (.iload_n 1, 1) := by decide +kernel
theorem dX6_makes_64 : decode cX6_makes 64 = .ok (.if_icmp .ne 34, 3) := by decide +kernel
theorem dX6_makes_67 : decode cX6_makes 67 = .ok (.aload_n 0, 1) := by decide +kernel
theorem dX6_makes_68 : decode cX6_makes 68 = .ok (.getfield 32, 3) := by decide +kernel
theorem dX6_makes_71 : decode cX6_makes 71 = .ok (.iload 4, 2) := by decide +kernel
theorem dX6_makes_73 : decode cX6_makes 73 = .ok (.baload, 1) := by decide +kernel
theorem dX6_makes_74 : decode cX6_makes 74 = .ok (.ifCond .eq 24, 3) := by decide +kernel
theorem dX6_makes_77 : decode cX6_makes 77 = .ok (.aload_n 0, 1) := by decide +kernel
theorem dX6_makes_78 : decode cX6_makes 78 = .ok (.iload 4, 2) := by decide +kernel
theorem dX6_makes_80 : decode cX6_makes 80 = .ok (.invokevirtual 166, 3) := by decide +kernel
theorem dX6_makes_83 : decode cX6_makes 83 = .ok (.istore 5, 2) := by decide +kernel
theorem dX6_makes_85 : decode cX6_makes 85 = .ok (.iload 4, 2) := by decide +kernel
theorem dX6_makes_87 : decode cX6_makes 87 = .ok (.iload_n 2, 1) := by decide +kernel
theorem dX6_makes_88 : decode cX6_makes 88 = .ok (.if_icmp .ne 8, 3) := by decide +kernel
theorem dX6_makes_91 : decode cX6_makes 91 = .ok (.iload 5, 2) := by decide +kernel
theorem dX6_makes_93 : decode cX6_makes 93 = .ok (.goto 4, 3) := by decide +kernel
theorem dX6_makes_96 : decode cX6_makes 96 = .ok (.iload_n 3, 1) := by decide +kernel
theorem dX6_makes_97 : decode cX6_makes 97 = .ok (.istore_n 3, 1) := by decide +kernel
theorem dX6_makes_98 : decode cX6_makes 98 = .ok (.iinc 4 1, 3) := by decide +kernel
theorem dX6_makes_101 : decode cX6_makes 101 = .ok (.goto (-54), 3) := by decide +kernel
theorem dX6_makes_104 : decode cX6_makes 104 = .ok (.iload_n 3, 1) := by decide +kernel
theorem dX6_makes_105 : decode cX6_makes 105 = .ok (.ireturn, 1) := by decide +kernel
set_option maxRecDepth 20000 in
theorem ggX6_made_X6_isFrame : GoodIn wsX6_made wsX6_isFrame := goodIn_r _ [7, 8, 9, 10, 6, 11, 57, 58, 59, 60, 61, 62, 63, 64, 65, 66, 67, 68, 69, 70, 71, 72, 73, 74, 75, 76, 77, 78, 79, 80, 81, 82, 83, 84, 85, 86, 87, 88, 89] (by decide +kernel) (by decide +kernel)
set_option maxRecDepth 20000 in
theorem gX6_made_X6_isFrame : GoodIn wsX6_made (wsV RX6 82 RX6 yX6_isFrame wsX6_isFrame) := goodIn_app (goodIn_of _ (by decide +kernel)) ggX6_made_X6_isFrame
set_option maxRecDepth 20000 in
theorem ggX6_made_X6_isSquare : GoodIn wsX6_made wsX6_isSquare := goodIn_r _ [15, 16, 2, 9, 10, 6, 11, 57, 58, 59, 60, 61, 62, 63, 64, 65, 66, 67, 68, 69, 70, 71, 72, 73, 74, 75, 76, 77, 78, 79, 80, 81, 82, 83, 84, 85, 86, 87, 88, 89] (by decide +kernel) (by decide +kernel)
set_option maxRecDepth 20000 in
theorem gX6_made_X6_isSquare : GoodIn wsX6_made (wsV RX6 86 RX6 yX6_isSquare wsX6_isSquare) := goodIn_app (goodIn_of _ (by decide +kernel)) ggX6_made_X6_isSquare
set_option maxRecDepth 20000 in
theorem ggX6_made_X6_makes : GoodIn wsX6_made wsX6_makes := goodIn_r _ [20, 16, 2, 1, 21, 22, 23, 24, 25, 26, 27, 6, 28, 29, 30, 31, 32, 33, 34, 35, 8, 36, 37, 38, 39, 40, 41, 42, 43, 44, 45, 46, 47, 48, 49, 50, 51, 52, 53, 54, 55, 56, 12, 13, 14, 15, 9, 10, 11, 57, 58, 59, 60, 61, 62, 63, 64, 65, 66, 67, 68, 69, 70, 71, 72, 73, 74, 75, 76, 77, 78, 79, 80, 81, 82, 83, 84, 85, 86, 87, 88, 89] (by decide +kernel) (by decide +kernel)
set_option maxRecDepth 20000 in
theorem gX6_made_X6_makes : GoodIn wsX6_made (wsV RX6 169 RX6 yX6_makes wsX6_makes) := goodIn_app (goodIn_of _ (by decide +kernel)) ggX6_made_X6_makes
theorem dX6_made_0 : decode cX6_made 0 = .ok (.aload_n 0, 1) := by decide +kernel
theorem dX6_made_1 : decode cX6_made 1 = .ok (.iload_n 1, 1) := by decide +kernel
theorem dX6_made_2 : decode cX6_made 2 = .ok (.invokevirtual 82, 3) := by decide +kernel
theorem dX6_made_5 : decode cX6_made 5 = .ok (.ifCond .eq 12, 3) := by decide +kernel
theorem dX6_made_8 : decode cX6_made 8 = .ok (.aload_n 0, 1) := by decide +kernel
theorem dX6_made_9 : decode cX6_made 9 = .ok (.iload_n 2, 1) := by decide +kernel
theorem dX6_made_10 : decode cX6_made 10 = .ok (.iload_n 3, 1) := by decide +kernel
theorem dX6_made_11 : decode cX6_made 11 = .ok (.invokevirtual 86, 3) := by decide +kernel
theorem dX6_made_14 : decode cX6_made 14 = .ok (.ifCond .ne 7, 3) := by decide +kernel
theorem dX6_made_17 : decode cX6_made 17 = .ok (.sipush (-1000), 3) := by decide +kernel
theorem dX6_made_20 : decode cX6_made 20 = .ok (.ireturn, 1) := by decide +kernel
theorem dX6_made_21 : decode cX6_made 21 = .ok (.aload_n 0, 1) := by decide +kernel
theorem dX6_made_22 : decode cX6_made 22 = .ok (.iload_n 1, 1) := by decide +kernel
theorem dX6_made_23 : decode cX6_made 23 = .ok (.iconst (-1), 1) := by decide +kernel
theorem dX6_made_24 : decode cX6_made 24 = .ok (.invokevirtual 169, 3) := by decide +kernel
theorem dX6_made_27 : decode cX6_made 27 = .ok (.istore 4, 2) := by decide +kernel
theorem dX6_made_29 : decode cX6_made 29 = .ok (.aload_n 0, 1) := by decide +kernel
theorem dX6_made_30 : decode cX6_made 30 = .ok (.getfield 66, 3) := by decide +kernel
theorem dX6_made_33 : decode cX6_made 33 = .ok (.aload_n 0, 1) := by decide +kernel
theorem dX6_made_34 : decode cX6_made 34 = .ok (.getfield 13, 3) := by decide +kernel
theorem dX6_made_37 : decode cX6_made 37 = .ok (.iload_n 2, 1) := by decide +kernel
theorem dX6_made_38 : decode cX6_made 38 = .ok (.imul, 1) := by decide +kernel
theorem dX6_made_39 : decode cX6_made 39 = .ok (.iload_n 3, 1) := by decide +kernel
theorem dX6_made_40 : decode cX6_made 40 = .ok (.iadd, 1) := by decide +kernel
theorem dX6_made_41 : decode cX6_made 41 = .ok (.iaload, 1) := by decide +kernel
theorem dX6_made_42 : decode cX6_made 42 = .ok (.ireturn, 1) := by decide +kernel
set_option maxRecDepth 20000 in
theorem ggX6_changed_X6_isLayer : GoodIn wsX6_changed wsX6_isLayer := goodIn_r _ [6, 7, 8, 9, 5, 10, 57, 58, 59, 60, 61, 62, 63, 64, 65, 66, 67, 68, 69, 70, 71, 72, 73, 74, 75, 76, 77, 78, 79, 80, 81, 82, 83, 84, 85, 86, 87, 88, 89] (by decide +kernel) (by decide +kernel)
set_option maxRecDepth 20000 in
theorem gX6_changed_X6_isLayer : GoodIn wsX6_changed (wsV RX6 151 RX6 yX6_isLayer wsX6_isLayer) := goodIn_app (goodIn_of _ (by decide +kernel)) ggX6_changed_X6_isLayer
set_option maxRecDepth 20000 in
theorem ggX6_changed_X6_makes : GoodIn wsX6_changed wsX6_makes := goodIn_r _ [14, 15, 16, 17, 18, 7, 1, 19, 20, 21, 22, 5, 23, 24, 25, 26, 27, 28, 29, 30, 31, 32, 33, 34, 35, 36, 37, 38, 39, 40, 41, 42, 43, 44, 45, 46, 47, 48, 49, 50, 51, 52, 53, 54, 55, 56, 8, 9, 10, 57, 58, 59, 60, 61, 62, 63, 64, 65, 66, 67, 68, 69, 70, 71, 72, 73, 74, 75, 76, 77, 78, 79, 80, 81, 82, 83, 84, 85, 86, 87, 88, 89] (by decide +kernel) (by decide +kernel)
set_option maxRecDepth 20000 in
theorem gX6_changed_X6_makes : GoodIn wsX6_changed (wsV RX6 169 RX6 yX6_makes wsX6_makes) := goodIn_app (goodIn_of _ (by decide +kernel)) ggX6_changed_X6_makes
theorem dX6_changed_0 : decode cX6_changed 0 = .ok (.aload_n 0, 1) := by decide +kernel
theorem dX6_changed_1 : decode cX6_changed 1 = .ok (.iload_n 1, 1) := by decide +kernel
theorem dX6_changed_2 : decode cX6_changed 2 = .ok (.invokevirtual 151, 3) := by decide +kernel
theorem dX6_changed_5 : decode cX6_changed 5 = .ok (.ifCond .eq 17, 3) := by decide +kernel
theorem dX6_changed_8 : decode cX6_changed 8 = .ok (.aload_n 0, 1) := by decide +kernel
theorem dX6_changed_9 : decode cX6_changed 9 = .ok (.aload_n 0, 1) := by decide +kernel
theorem dX6_changed_10 : decode cX6_changed 10 = .ok (.getfield 23, 3) := by decide +kernel
theorem dX6_changed_13 : decode cX6_changed 13 = .ok (.iload_n 1, 1) := by decide +kernel
theorem dX6_changed_14 : decode cX6_changed 14 = .ok (.iaload, 1) := by decide +kernel
theorem dX6_changed_15 : decode cX6_changed 15 = .ok (.iload_n 1, 1) := by decide +kernel
theorem dX6_changed_16 : decode cX6_changed 16 = .ok (.invokevirtual 169, 3) := by decide +kernel
theorem dX6_changed_19 : decode cX6_changed 19 = .ok (.goto 4, 3) := by decide +kernel
theorem dX6_changed_22 : decode cX6_changed 22 = .ok (.iconst (-1), 1) := by decide +kernel
theorem dX6_changed_23 : decode cX6_changed 23 = .ok (.ireturn, 1) := by decide +kernel
set_option maxRecDepth 20000 in
theorem ggX6_of_X6_isLayer : GoodIn wsX6_of wsX6_isLayer := goodIn_r _ [10, 11, 12, 13, 9, 14, 15, 16, 17, 18, 19, 20, 21, 22, 23, 24, 25, 26, 27, 28, 29, 30, 31, 32, 33, 34, 35, 36, 37, 38, 39, 40, 41, 42, 43, 44, 45, 46, 47] (by decide +kernel) (by decide +kernel)
set_option maxRecDepth 20000 in
theorem gX6_of_X6_isLayer : GoodIn wsX6_of (wsV RX6 151 RX6 yX6_isLayer wsX6_isLayer) := goodIn_app (goodIn_of _ (by decide +kernel)) ggX6_of_X6_isLayer
theorem dX6_of_0 : decode cX6_of 0 = .ok (.aload_n 0, 1) := by decide +kernel
theorem dX6_of_1 : decode cX6_of 1 = .ok (.iload_n 1, 1) := by decide +kernel
theorem dX6_of_2 : decode cX6_of 2 = .ok (.invokevirtual 151, 3) := by decide +kernel
theorem dX6_of_5 : decode cX6_of 5 = .ok (.ifCond .ne 7, 3) := by decide +kernel
theorem dX6_of_8 : decode cX6_of 8 = .ok (.sipush (-1000), 3) := by decide +kernel
theorem dX6_of_11 : decode cX6_of 11 = .ok (.ireturn, 1) := by decide +kernel
theorem dX6_of_12 : decode cX6_of 12 = .ok (.iload_n 2, 1) := by decide +kernel
theorem dX6_of_13 : decode cX6_of 13 = .ok (.tableswitch 78 0 4 #[35, 42, 49, 56, 63], 35) := by decide +kernel
theorem dX6_of_48 : decode cX6_of 48 = .ok (.aload_n 0, 1) := by decide +kernel
theorem dX6_of_49 : decode cX6_of 49 = .ok (.getfield 20, 3) := by decide +kernel
theorem dX6_of_52 : decode cX6_of 52 = .ok (.iload_n 1, 1) := by decide +kernel
theorem dX6_of_53 : decode cX6_of 53 = .ok (.iaload, 1) := by decide +kernel
theorem dX6_of_54 : decode cX6_of 54 = .ok (.ireturn, 1) := by decide +kernel
theorem dX6_of_55 : decode cX6_of 55 = .ok (.aload_n 0, 1) := by decide +kernel
theorem dX6_of_56 : decode cX6_of 56 = .ok (.getfield 23, 3) := by decide +kernel
theorem dX6_of_59 : decode cX6_of 59 = .ok (.iload_n 1, 1) := by decide +kernel
theorem dX6_of_60 : decode cX6_of 60 = .ok (.iaload, 1) := by decide +kernel
theorem dX6_of_61 : decode cX6_of 61 = .ok (.ireturn, 1) := by decide +kernel
theorem dX6_of_62 : decode cX6_of 62 = .ok (.aload_n 0, 1) := by decide +kernel
theorem dX6_of_63 : decode cX6_of 63 = .ok (.getfield 26, 3) := by decide +kernel
theorem dX6_of_66 : decode cX6_of 66 = .ok (.iload_n 1, 1) := by decide +kernel
theorem dX6_of_67 : decode cX6_of 67 = .ok (.iaload, 1) := by decide +kernel
theorem dX6_of_68 : decode cX6_of 68 = .ok (.ireturn, 1) := by decide +kernel
theorem dX6_of_69 : decode cX6_of 69 = .ok (.aload_n 0, 1) := by decide +kernel
theorem dX6_of_70 : decode cX6_of 70 = .ok (.getfield 29, 3) := by decide +kernel
theorem dX6_of_73 : decode cX6_of 73 = .ok (.iload_n 1, 1) := by decide +kernel
theorem dX6_of_74 : decode cX6_of 74 = .ok (.iaload, 1) := by decide +kernel
theorem dX6_of_75 : decode cX6_of 75 = .ok (.ireturn, 1) := by decide +kernel
theorem dX6_of_76 : decode cX6_of 76 = .ok (.aload_n 0, 1) := by decide +kernel
theorem dX6_of_77 : decode cX6_of 77 = .ok (.getfield 32, 3) := by decide +kernel
theorem dX6_of_80 : decode cX6_of 80 = .ok (.iload_n 1, 1) := by decide +kernel
theorem dX6_of_81 : decode cX6_of 81 = .ok (.baload, 1) := by decide +kernel
theorem dX6_of_82 : decode cX6_of 82 = .ok (.ifCond .eq 7, 3) := by decide +kernel
theorem dX6_of_85 : decode cX6_of 85 = .ok (.iconst 1, 1) := by decide +kernel
theorem dX6_of_86 : decode cX6_of 86 = .ok (.goto 4, 3) := by decide +kernel
theorem dX6_of_89 : decode cX6_of 89 = .ok (.iconst 0, 1) := by decide +kernel
theorem dX6_of_90 : decode cX6_of 90 = .ok (.ireturn, 1) := by decide +kernel
theorem dX6_of_91 : decode cX6_of 91 = .ok (.sipush (-1000), 3) := by decide +kernel
theorem dX6_of_94 : decode cX6_of 94 = .ok (.ireturn, 1) := by decide +kernel
set_option maxRecDepth 20000 in
theorem ggX6_told_X6_isFrame : GoodIn wsX6_told wsX6_isFrame := goodIn_r _ [9, 10, 11, 12, 8, 13, 57, 58, 59, 60, 61, 62, 63, 64, 65, 66, 67, 68, 69, 70, 71, 72, 73, 74, 75, 76, 77, 78, 79, 80, 81, 82, 83, 84, 85, 86, 87, 88, 89] (by decide +kernel) (by decide +kernel)
set_option maxRecDepth 20000 in
theorem gX6_told_X6_isFrame : GoodIn wsX6_told (wsV RX6 82 RX6 yX6_isFrame wsX6_isFrame) := goodIn_app (goodIn_of _ (by decide +kernel)) ggX6_told_X6_isFrame
set_option maxRecDepth 20000 in
theorem ggX6_told_X6_in : GoodIn wsX6_told wsX6_in := goodIn_r _ [13] (by decide +kernel) (by decide +kernel)
set_option maxRecDepth 20000 in
theorem gX6_told_X6_in : GoodIn wsX6_told (va_wsS RX6 75 yX6_in wsX6_in) := goodIn_app (goodIn_of _ (by decide +kernel)) ggX6_told_X6_in
set_option maxRecDepth 20000 in
theorem ggX6_told_X6_makes : GoodIn wsX6_told wsX6_makes := goodIn_r _ [17, 1, 2, 3, 4, 18, 19, 20, 21, 22, 23, 8, 24, 25, 26, 27, 28, 29, 30, 31, 10, 32, 33, 34, 35, 36, 37, 38, 39, 40, 41, 42, 43, 44, 45, 46, 47, 48, 49, 50, 51, 52, 53, 54, 55, 56, 11, 12, 13, 57, 58, 59, 60, 61, 62, 63, 64, 65, 66, 67, 68, 69, 70, 71, 72, 73, 74, 75, 76, 77, 78, 79, 80, 81, 82, 83, 84, 85, 86, 87, 88, 89] (by decide +kernel) (by decide +kernel)
set_option maxRecDepth 20000 in
theorem gX6_told_X6_makes : GoodIn wsX6_told (wsV RX6 169 RX6 yX6_makes wsX6_makes) := goodIn_app (goodIn_of _ (by decide +kernel)) ggX6_told_X6_makes
theorem dX6_told_0 : decode cX6_told 0 = .ok (.aload_n 0, 1) := by decide +kernel
theorem dX6_told_1 : decode cX6_told 1 = .ok (.iload_n 1, 1) := by decide +kernel
theorem dX6_told_2 : decode cX6_told 2 = .ok (.invokevirtual 82, 3) := by decide +kernel
theorem dX6_told_5 : decode cX6_told 5 = .ok (.ifCond .eq 12, 3) := by decide +kernel
theorem dX6_told_8 : decode cX6_told 8 = .ok (.iload_n 2, 1) := by decide +kernel
theorem dX6_told_9 : decode cX6_told 9 = .ok (.iconst 0, 1) := by decide +kernel
theorem dX6_told_10 : decode cX6_told 10 = .ok (.iconst 4, 1) := by decide +kernel
theorem dX6_told_11 : decode cX6_told 11 = .ok (.invokestatic 75, 3) := by decide +kernel
theorem dX6_told_14 : decode cX6_told 14 = .ok (.ifCond .ne 5, 3) := by decide +kernel
theorem dX6_told_17 : decode cX6_told 17 = .ok (.iconst (-1), 1) := by decide +kernel
theorem dX6_told_18 : decode cX6_told 18 = .ok (.ireturn, 1) := by decide +kernel
theorem dX6_told_19 : decode cX6_told 19 = .ok (.aload_n 0, 1) := by decide +kernel
theorem dX6_told_20 : decode cX6_told 20 = .ok (.iload_n 1, 1) := by decide +kernel
theorem dX6_told_21 : decode cX6_told 21 = .ok (.iconst (-1), 1) := by decide +kernel
theorem dX6_told_22 : decode cX6_told 22 = .ok (.invokevirtual 169, 3) := by decide +kernel
theorem dX6_told_25 : decode cX6_told 25 = .ok (.istore_n 3, 1) := by decide +kernel
theorem dX6_told_26 : decode cX6_told 26 = .ok (.iconst 0, 1) := by decide +kernel
theorem dX6_told_27 : decode cX6_told 27 = .ok (.istore 4, 2) := by decide +kernel
theorem dX6_told_29 : decode cX6_told 29 = .ok (.iconst 0, 1) := by decide +kernel
theorem dX6_told_30 : decode cX6_told 30 = .ok (.istore 5, 2) := by decide +kernel
theorem dX6_told_32 : decode cX6_told 32 = .ok (.bipush 64, 2) := by decide +kernel
theorem dX6_told_34 : decode cX6_told 34 = .ok (.istore 6, 2) := by decide +kernel
theorem dX6_told_36 : decode cX6_told 36 = .ok (.iconst (-1), 1) := by decide +kernel
theorem dX6_told_37 : decode cX6_told 37 = .ok (.istore 7, 2) := by decide +kernel
theorem dX6_told_39 : decode cX6_told 39 = .ok (.iconst 0, 1) := by decide +kernel
theorem dX6_told_40 : decode cX6_told 40 = .ok (.istore 8, 2) := by decide +kernel
theorem dX6_told_42 : decode cX6_told 42 = .ok (.iconst 0, 1) := by decide +kernel
theorem dX6_told_43 : decode cX6_told 43 = .ok (.istore 9, 2) := by decide +kernel
theorem dX6_told_45 : decode cX6_told 45 = .ok (.iload 9, 2) := by decide +kernel
theorem dX6_told_47 : decode cX6_told 47 = .ok (.aload_n 0, 1) := by decide +kernel
theorem dX6_told_48 : decode cX6_told 48 = .ok (.getfield 7, 3) := by decide +kernel
theorem dX6_told_51 : decode cX6_told 51 = .ok (.aload_n 0, 1) := by decide +kernel
theorem dX6_told_52 : decode cX6_told 52 = .ok (.getfield 13, 3) := by decide +kernel
theorem dX6_told_55 : decode cX6_told 55 = .ok (.imul, 1) := by decide +kernel
theorem dX6_told_56 : decode cX6_told 56 = .ok (.if_icmp .ge 96, 3) := by decide +kernel
theorem dX6_told_59 : decode cX6_told 59 = .ok (.aload_n 0, 1) := by decide +kernel
theorem dX6_told_60 : decode cX6_told 60 = .ok (.getfield 66, 3) := by decide +kernel
theorem dX6_told_63 : decode cX6_told 63 = .ok (.iload 9, 2) := by decide +kernel
theorem dX6_told_65 : decode cX6_told 65 = .ok (.iaload, 1) := by decide +kernel
theorem dX6_told_66 : decode cX6_told 66 = .ok (.istore 10, 2) := by decide +kernel
theorem dX6_told_68 : decode cX6_told 68 = .ok (.iload 8, 2) := by decide +kernel
theorem dX6_told_70 : decode cX6_told 70 = .ok (.iload 10, 2) := by decide +kernel
theorem dX6_told_72 : decode cX6_told 72 = .ok (.aload_n 0, 1) := by decide +kernel
theorem dX6_told_73 : decode cX6_told 73 = .ok (.getfield 16, 3) := by decide +kernel
theorem dX6_told_76 : decode cX6_told 76 = .ok (.bipush 36, 2) := by decide +kernel
theorem dX6_told_78 : decode cX6_told 78 = .ok (.iload_n 1, 1) := by decide +kernel
theorem dX6_told_79 : decode cX6_told 79 = .ok (.imul, 1) := by decide +kernel
theorem dX6_told_80 : decode cX6_told 80 = .ok (.iload 9, 2) := by decide +kernel
theorem dX6_told_82 : decode cX6_told 82 = .ok (.iadd, 1) := by decide +kernel
theorem dX6_told_83 : decode cX6_told 83 = .ok (.iaload, 1) := by decide +kernel
theorem dX6_told_84 : decode cX6_told 84 = .ok (.if_icmp .eq 7, 3) := by decide +kernel
theorem dX6_told_87 : decode cX6_told 87 = .ok (.iconst 1, 1) := by decide +kernel
theorem dX6_told_88 : decode cX6_told 88 = .ok (.goto 4, 3) := by decide +kernel
theorem dX6_told_91 : decode cX6_told 91 = .ok (.iconst 0, 1) := by decide +kernel
theorem dX6_told_92 : decode cX6_told 92 = .ok (.iadd, 1) := by decide +kernel
theorem dX6_told_93 : decode cX6_told 93 = .ok (.istore 8, 2) := by decide +kernel
theorem dX6_told_95 : decode cX6_told 95 = .ok (.iload 10, 2) := by decide +kernel
theorem dX6_told_97 : decode cX6_told 97 = .ok (.iconst (-1), 1) := by decide +kernel
theorem dX6_told_98 : decode cX6_told 98 = .ok (.if_icmp .ne 9, 3) := by decide +kernel
theorem dX6_told_101 : decode cX6_told 101 = .ok (.iinc 4 1, 3) := by decide +kernel
theorem dX6_told_104 : decode cX6_told 104 = .ok (.goto 42, 3) := by decide +kernel
theorem dX6_told_107 : decode cX6_told 107 = .ok (.iload 5, 2) := by decide +kernel
theorem dX6_told_109 : decode cX6_told 109 = .ok (.iload 10, 2) := by decide +kernel
theorem dX6_told_111 : decode cX6_told 111 = .ok (.iadd, 1) := by decide +kernel
theorem dX6_told_112 : decode cX6_told 112 = .ok (.istore 5, 2) := by decide +kernel
theorem dX6_told_114 : decode cX6_told 114 = .ok (.iload 10, 2) := by decide +kernel
theorem dX6_told_116 : decode cX6_told 116 = .ok (.iload 6, 2) := by decide +kernel
theorem dX6_told_118 : decode cX6_told 118 = .ok (.if_icmp .ge 8, 3) := by decide +kernel
theorem dX6_told_121 : decode cX6_told 121 = .ok (.iload 10, 2) := by decide +kernel
theorem dX6_told_123 : decode cX6_told 123 = .ok (.goto 5, 3) := by decide +kernel
theorem dX6_told_126 : decode cX6_told 126 = .ok (.iload 6, 2) := by decide +kernel
theorem dX6_told_128 : decode cX6_told 128 = .ok (.istore 6, 2) := by decide +kernel
theorem dX6_told_130 : decode cX6_told 130 = .ok (.iload 10, 2) := by decide +kernel
theorem dX6_told_132 : decode cX6_told 132 = .ok (.iload 7, 2) := by decide +kernel
theorem dX6_told_134 : decode cX6_told 134 = .ok (.if_icmp .le 8, 3) := by decide +kernel
theorem dX6_told_137 : decode cX6_told 137 = .ok (.iload 10, 2) := by decide +kernel
theorem dX6_told_139 : decode cX6_told 139 = .ok (.goto 5, 3) := by decide +kernel
theorem dX6_told_142 : decode cX6_told 142 = .ok (.iload 7, 2) := by decide +kernel
theorem dX6_told_144 : decode cX6_told 144 = .ok (.istore 7, 2) := by decide +kernel
theorem dX6_told_146 : decode cX6_told 146 = .ok (.iinc 9 1, 3) := by decide +kernel
theorem dX6_told_149 : decode cX6_told 149 = .ok (.goto (-104), 3) := by decide +kernel
theorem dX6_told_152 : decode cX6_told 152 = .ok (.iload_n 2, 1) := by decide +kernel
theorem dX6_told_153 : decode cX6_told 153 = .ok (.iconst 2, 1) := by decide +kernel
theorem dX6_told_154 : decode cX6_told 154 = .ok (.if_icmp .eq 8, 3) := by decide +kernel
theorem dX6_told_157 : decode cX6_told 157 = .ok (.iload_n 2, 1) := by decide +kernel
theorem dX6_told_158 : decode cX6_told 158 = .ok (.iconst 3, 1) := by decide +kernel
theorem dX6_told_159 : decode cX6_told 159 = .ok (.if_icmp .ne 27, 3) := by decide +kernel
theorem dX6_told_162 : decode cX6_told 162 = .ok (.iload 7, 2) := by decide +kernel
theorem dX6_told_164 : decode cX6_told 164 = .ok (.iconst (-1), 1) := by decide +kernel
theorem dX6_told_165 : decode cX6_told 165 = .ok (.if_icmp .ne 8, 3) := by decide +kernel
theorem dX6_told_168 : decode cX6_told 168 = .ok (.bipush (-3), 2) := by decide +kernel
theorem dX6_told_170 : decode cX6_told 170 = .ok (.goto 15, 3) := by decide +kernel
theorem dX6_told_173 : decode cX6_told 173 = .ok (.iload_n 2, 1) := by decide +kernel
theorem dX6_told_174 : decode cX6_told 174 = .ok (.iconst 2, 1) := by decide +kernel
theorem dX6_told_175 : decode cX6_told 175 = .ok (.if_icmp .ne 8, 3) := by decide +kernel
theorem dX6_told_178 : decode cX6_told 178 = .ok (.iload 6, 2) := by decide +kernel
theorem dX6_told_180 : decode cX6_told 180 = .ok (.goto 5, 3) := by decide +kernel
theorem dX6_told_183 : decode cX6_told 183 = .ok (.iload 7, 2) := by decide +kernel
theorem dX6_told_185 : decode cX6_told 185 = .ok (.ireturn, 1) := by decide +kernel
theorem dX6_told_186 : decode cX6_told 186 = .ok (.iload_n 2, 1) := by decide +kernel
theorem dX6_told_187 : decode cX6_told 187 = .ok (.ifCond .ne 8, 3) := by decide +kernel
theorem dX6_told_190 : decode cX6_told 190 = .ok (.iload 4, 2) := by decide +kernel
theorem dX6_told_192 : decode cX6_told 192 = .ok (.goto 15, 3) := by decide +kernel
theorem dX6_told_195 : decode cX6_told 195 = .ok (.iload_n 2, 1) := by decide +kernel
theorem dX6_told_196 : decode cX6_told 196 = .ok (.iconst 1, 1) := by decide +kernel
theorem dX6_told_197 : decode cX6_told 197 = .ok (.if_icmp .ne 8, 3) := by decide +kernel
theorem dX6_told_200 : decode cX6_told 200 = .ok (.iload 5, 2) := by decide +kernel
theorem dX6_told_202 : decode cX6_told 202 = .ok (.goto 5, 3) := by decide +kernel
theorem dX6_told_205 : decode cX6_told 205 = .ok (.iload 8, 2) := by decide +kernel
theorem dX6_told_207 : decode cX6_told 207 = .ok (.ireturn, 1) := by decide +kernel
theorem dX6_many_0 : decode cX6_many 0 = .ok (.iconst 0, 1) := by decide +kernel
theorem dX6_many_1 : decode cX6_many 1 = .ok (.istore_n 2, 1) := by decide +kernel
theorem dX6_many_2 : decode cX6_many 2 = .ok (.iload_n 1, 1) := by decide +kernel
theorem dX6_many_3 : decode cX6_many 3 = .ok (.tableswitch 179 0 8 #[49, 54, 59, 64, 69, 104, 169, 169, 169], 49) := by decide +kernel
theorem dX6_many_52 : decode cX6_many 52 = .ok (.aload_n 0, 1) := by decide +kernel
theorem dX6_many_53 : decode cX6_many 53 = .ok (.getfield 7, 3) := by decide +kernel
theorem dX6_many_56 : decode cX6_many 56 = .ok (.ireturn, 1) := by decide +kernel
theorem dX6_many_57 : decode cX6_many 57 = .ok (.aload_n 0, 1) := by decide +kernel
theorem dX6_many_58 : decode cX6_many 58 = .ok (.getfield 13, 3) := by decide +kernel
theorem dX6_many_61 : decode cX6_many 61 = .ok (.ireturn, 1) := by decide +kernel
theorem dX6_many_62 : decode cX6_many 62 = .ok (.aload_n 0, 1) := by decide +kernel
theorem dX6_many_63 : decode cX6_many 63 = .ok (.getfield 72, 3) := by decide +kernel
theorem dX6_many_66 : decode cX6_many 66 = .ok (.ireturn, 1) := by decide +kernel
theorem dX6_many_67 : decode cX6_many 67 = .ok (.aload_n 0, 1) := by decide +kernel
theorem dX6_many_68 : decode cX6_many 68 = .ok (.getfield 79, 3) := by decide +kernel
theorem dX6_many_71 : decode cX6_many 71 = .ok (.ireturn, 1) := by decide +kernel
theorem dX6_many_72 : decode cX6_many 72 = .ok (.iconst 0, 1) := by decide +kernel
theorem dX6_many_73 : decode cX6_many 73 = .ok (.istore_n 3, 1) := by decide +kernel
theorem dX6_many_74 : decode cX6_many 74 = .ok (.iload_n 3, 1) := by decide +kernel
theorem dX6_many_75 : decode cX6_many 75 = .ok (.aload_n 0, 1) := by decide +kernel
theorem dX6_many_76 : decode cX6_many 76 = .ok (.getfield 79, 3) := by decide +kernel
theorem dX6_many_79 : decode cX6_many 79 = .ok (.if_icmp .ge 26, 3) := by decide +kernel
theorem dX6_many_82 : decode cX6_many 82 = .ok (.iload_n 2, 1) := by decide +kernel
theorem dX6_many_83 : decode cX6_many 83 = .ok (.aload_n 0, 1) := by decide +kernel
theorem dX6_many_84 : decode cX6_many 84 = .ok (.getfield 32, 3) := by decide +kernel
theorem dX6_many_87 : decode cX6_many 87 = .ok (.iload_n 3, 1) := by decide +kernel
theorem dX6_many_88 : decode cX6_many 88 = .ok (.baload, 1) := by decide +kernel
theorem dX6_many_89 : decode cX6_many 89 = .ok (.ifCond .eq 7, 3) := by decide +kernel
theorem dX6_many_92 : decode cX6_many 92 = .ok (.iconst 1, 1) := by decide +kernel
theorem dX6_many_93 : decode cX6_many 93 = .ok (.goto 4, 3) := by decide +kernel
theorem dX6_many_96 : decode cX6_many 96 = .ok (.iconst 0, 1) := by decide +kernel
theorem dX6_many_97 : decode cX6_many 97 = .ok (.iadd, 1) := by decide +kernel
theorem dX6_many_98 : decode cX6_many 98 = .ok (.istore_n 2, 1) := by decide +kernel
theorem dX6_many_99 : decode cX6_many 99 = .ok (.iinc 3 1, 3) := by decide +kernel
theorem dX6_many_102 : decode cX6_many 102 = .ok (.goto (-28), 3) := by decide +kernel
theorem dX6_many_105 : decode cX6_many 105 = .ok (.iload_n 2, 1) := by decide +kernel
theorem dX6_many_106 : decode cX6_many 106 = .ok (.ireturn, 1) := by decide +kernel
theorem dX6_many_107 : decode cX6_many 107 = .ok (.iconst 0, 1) := by decide +kernel
theorem dX6_many_108 : decode cX6_many 108 = .ok (.istore_n 3, 1) := by decide +kernel
theorem dX6_many_109 : decode cX6_many 109 = .ok (.iload_n 3, 1) := by decide +kernel
theorem dX6_many_110 : decode cX6_many 110 = .ok (.aload_n 0, 1) := by decide +kernel
theorem dX6_many_111 : decode cX6_many 111 = .ok (.getfield 72, 3) := by decide +kernel
theorem dX6_many_114 : decode cX6_many 114 = .ok (.if_icmp .ge 56, 3) := by decide +kernel
theorem dX6_many_117 : decode cX6_many 117 = .ok (.iconst 0, 1) := by decide +kernel
theorem dX6_many_118 : decode cX6_many 118 = .ok (.istore 4, 2) := by decide +kernel
theorem dX6_many_120 : decode cX6_many 120 = .ok (.iload 4, 2) := by decide +kernel
theorem dX6_many_122 : decode cX6_many 122 = .ok (.aload_n 0, 1) := by decide +kernel
theorem dX6_many_123 : decode cX6_many 123 = .ok (.getfield 7, 3) := by decide +kernel
theorem dX6_many_126 : decode cX6_many 126 = .ok (.aload_n 0, 1) := by decide +kernel
theorem dX6_many_127 : decode cX6_many 127 = .ok (.getfield 13, 3) := by decide +kernel
theorem dX6_many_130 : decode cX6_many 130 = .ok (.imul, 1) := by decide +kernel
theorem dX6_many_131 : decode cX6_many 131 = .ok (.if_icmp .ge 33, 3) := by decide +kernel
theorem dX6_many_134 : decode cX6_many 134 = .ok (.iload_n 2, 1) := by decide +kernel
theorem dX6_many_135 : decode cX6_many 135 = .ok (.aload_n 0, 1) := by decide +kernel
theorem dX6_many_136 : decode cX6_many 136 = .ok (.getfield 16, 3) := by decide +kernel
theorem dX6_many_139 : decode cX6_many 139 = .ok (.bipush 36, 2) := by decide +kernel
theorem dX6_many_141 : decode cX6_many 141 = .ok (.iload_n 3, 1) := by decide +kernel
theorem dX6_many_142 : decode cX6_many 142 = .ok (.imul, 1) := by decide +kernel
theorem dX6_many_143 : decode cX6_many 143 = .ok (.iload 4, 2) := by decide +kernel
theorem dX6_many_145 : decode cX6_many 145 = .ok (.iadd, 1) := by decide +kernel
theorem dX6_many_146 : decode cX6_many 146 = .ok (.iaload, 1) := by decide +kernel
theorem dX6_many_147 : decode cX6_many 147 = .ok (.iconst (-1), 1) := by decide +kernel
theorem dX6_many_148 : decode cX6_many 148 = .ok (.if_icmp .ne 7, 3) := by decide +kernel
theorem dX6_many_151 : decode cX6_many 151 = .ok (.iconst 1, 1) := by decide +kernel
theorem dX6_many_152 : decode cX6_many 152 = .ok (.goto 4, 3) := by decide +kernel
theorem dX6_many_155 : decode cX6_many 155 = .ok (.iconst 0, 1) := by decide +kernel
theorem dX6_many_156 : decode cX6_many 156 = .ok (.iadd, 1) := by decide +kernel
theorem dX6_many_157 : decode cX6_many 157 = .ok (.istore_n 2, 1) := by decide +kernel
theorem dX6_many_158 : decode cX6_many 158 = .ok (.iinc 4 1, 3) := by decide +kernel
theorem dX6_many_161 : decode cX6_many 161 = .ok (.goto (-41), 3) := by decide +kernel
theorem dX6_many_164 : decode cX6_many 164 = .ok (.iinc 3 1, 3) := by decide +kernel
theorem dX6_many_167 : decode cX6_many 167 = .ok (.goto (-58), 3) := by decide +kernel
theorem dX6_many_170 : decode cX6_many 170 = .ok (.iload_n 2, 1) := by decide +kernel
theorem dX6_many_171 : decode cX6_many 171 = .ok (.ireturn, 1) := by decide +kernel
theorem dX6_many_172 : decode cX6_many 172 = .ok (.aload_n 0, 1) := by decide +kernel
theorem dX6_many_173 : decode cX6_many 173 = .ok (.getfield 36, 3) := by decide +kernel
theorem dX6_many_176 : decode cX6_many 176 = .ok (.iload_n 1, 1) := by decide +kernel
theorem dX6_many_177 : decode cX6_many 177 = .ok (.bipush 6, 2) := by decide +kernel
theorem dX6_many_179 : decode cX6_many 179 = .ok (.isub, 1) := by decide +kernel
theorem dX6_many_180 : decode cX6_many 180 = .ok (.iaload, 1) := by decide +kernel
theorem dX6_many_181 : decode cX6_many 181 = .ok (.ireturn, 1) := by decide +kernel
theorem dX6_many_182 : decode cX6_many 182 = .ok (.iconst (-1), 1) := by decide +kernel
theorem dX6_many_183 : decode cX6_many 183 = .ok (.ireturn, 1) := by decide +kernel
theorem dX6_keep_0 : decode cX6_keep 0 = .ok (.aload_n 0, 1) := by decide +kernel
theorem dX6_keep_1 : decode cX6_keep 1 = .ok (.iconst 1, 1) := by decide +kernel
theorem dX6_keep_2 : decode cX6_keep 2 = .ok (.putfield 172, 3) := by decide +kernel
theorem dX6_keep_5 : decode cX6_keep 5 = .ok (.aload_n 0, 1) := by decide +kernel
theorem dX6_keep_6 : decode cX6_keep 6 = .ok (.aload_n 0, 1) := by decide +kernel
theorem dX6_keep_7 : decode cX6_keep 7 = .ok (.getfield 7, 3) := by decide +kernel
theorem dX6_keep_10 : decode cX6_keep 10 = .ok (.putfield 176, 3) := by decide +kernel
theorem dX6_keep_13 : decode cX6_keep 13 = .ok (.aload_n 0, 1) := by decide +kernel
theorem dX6_keep_14 : decode cX6_keep 14 = .ok (.aload_n 0, 1) := by decide +kernel
theorem dX6_keep_15 : decode cX6_keep 15 = .ok (.getfield 13, 3) := by decide +kernel
theorem dX6_keep_18 : decode cX6_keep 18 = .ok (.putfield 179, 3) := by decide +kernel
theorem dX6_keep_21 : decode cX6_keep 21 = .ok (.aload_n 0, 1) := by decide +kernel
theorem dX6_keep_22 : decode cX6_keep 22 = .ok (.aload_n 0, 1) := by decide +kernel
theorem dX6_keep_23 : decode cX6_keep 23 = .ok (.getfield 72, 3) := by decide +kernel
theorem dX6_keep_26 : decode cX6_keep 26 = .ok (.putfield 182, 3) := by decide +kernel
theorem dX6_keep_29 : decode cX6_keep 29 = .ok (.aload_n 0, 1) := by decide +kernel
theorem dX6_keep_30 : decode cX6_keep 30 = .ok (.aload_n 0, 1) := by decide +kernel
theorem dX6_keep_31 : decode cX6_keep 31 = .ok (.getfield 79, 3) := by decide +kernel
theorem dX6_keep_34 : decode cX6_keep 34 = .ok (.putfield 185, 3) := by decide +kernel
theorem dX6_keep_37 : decode cX6_keep 37 = .ok (.iconst 0, 1) := by decide +kernel
theorem dX6_keep_38 : decode cX6_keep 38 = .ok (.istore_n 1, 1) := by decide +kernel
theorem dX6_keep_39 : decode cX6_keep 39 = .ok (.iload_n 1, 1) := by decide +kernel
theorem dX6_keep_40 : decode cX6_keep 40 = .ok (.sipush 360, 3) := by decide +kernel
theorem dX6_keep_43 : decode cX6_keep 43 = .ok (.if_icmp .ge 21, 3) := by decide +kernel
theorem dX6_keep_46 : decode cX6_keep 46 = .ok (.aload_n 0, 1) := by decide +kernel
theorem dX6_keep_47 : decode cX6_keep 47 = .ok (.getfield 39, 3) := by decide +kernel
theorem dX6_keep_50 : decode cX6_keep 50 = .ok (.iload_n 1, 1) := by decide +kernel
theorem dX6_keep_51 : decode cX6_keep 51 = .ok (.aload_n 0, 1) := by decide +kernel
theorem dX6_keep_52 : decode cX6_keep 52 = .ok (.getfield 16, 3) := by decide +kernel
theorem dX6_keep_55 : decode cX6_keep 55 = .ok (.iload_n 1, 1) := by decide +kernel
theorem dX6_keep_56 : decode cX6_keep 56 = .ok (.iaload, 1) := by decide +kernel
theorem dX6_keep_57 : decode cX6_keep 57 = .ok (.iastore, 1) := by decide +kernel
theorem dX6_keep_58 : decode cX6_keep 58 = .ok (.iinc 1 1, 3) := by decide +kernel
theorem dX6_keep_61 : decode cX6_keep 61 = .ok (.goto (-22), 3) := by decide +kernel
theorem dX6_keep_64 : decode cX6_keep 64 = .ok (.iconst 0, 1) := by decide +kernel
theorem dX6_keep_65 : decode cX6_keep 65 = .ok (.istore_n 1, 1) := by decide +kernel
theorem dX6_keep_66 : decode cX6_keep 66 = .ok (.iload_n 1, 1) := by decide +kernel
theorem dX6_keep_67 : decode cX6_keep 67 = .ok (.bipush 12, 2) := by decide +kernel
theorem dX6_keep_69 : decode cX6_keep 69 = .ok (.if_icmp .ge 69, 3) := by decide +kernel
theorem dX6_keep_72 : decode cX6_keep 72 = .ok (.aload_n 0, 1) := by decide +kernel
theorem dX6_keep_73 : decode cX6_keep 73 = .ok (.getfield 42, 3) := by decide +kernel
theorem dX6_keep_76 : decode cX6_keep 76 = .ok (.iload_n 1, 1) := by decide +kernel
theorem dX6_keep_77 : decode cX6_keep 77 = .ok (.aload_n 0, 1) := by decide +kernel
theorem dX6_keep_78 : decode cX6_keep 78 = .ok (.getfield 20, 3) := by decide +kernel
theorem dX6_keep_81 : decode cX6_keep 81 = .ok (.iload_n 1, 1) := by decide +kernel
theorem dX6_keep_82 : decode cX6_keep 82 = .ok (.iaload, 1) := by decide +kernel
theorem dX6_keep_83 : decode cX6_keep 83 = .ok (.iastore, 1) := by decide +kernel
theorem dX6_keep_84 : decode cX6_keep 84 = .ok (.aload_n 0, 1) := by decide +kernel
theorem dX6_keep_85 : decode cX6_keep 85 = .ok (.getfield 45, 3) := by decide +kernel
theorem dX6_keep_88 : decode cX6_keep 88 = .ok (.iload_n 1, 1) := by decide +kernel
theorem dX6_keep_89 : decode cX6_keep 89 = .ok (.aload_n 0, 1) := by decide +kernel
theorem dX6_keep_90 : decode cX6_keep 90 = .ok (.getfield 23, 3) := by decide +kernel
theorem dX6_keep_93 : decode cX6_keep 93 = .ok (.iload_n 1, 1) := by decide +kernel
theorem dX6_keep_94 : decode cX6_keep 94 = .ok (.iaload, 1) := by decide +kernel
theorem dX6_keep_95 : decode cX6_keep 95 = .ok (.iastore, 1) := by decide +kernel
theorem dX6_keep_96 : decode cX6_keep 96 = .ok (.aload_n 0, 1) := by decide +kernel
theorem dX6_keep_97 : decode cX6_keep 97 = .ok (.getfield 48, 3) := by decide +kernel
theorem dX6_keep_100 : decode cX6_keep 100 = .ok (.iload_n 1, 1) := by decide +kernel
theorem dX6_keep_101 : decode cX6_keep 101 = .ok (.aload_n 0, 1) := by decide +kernel
theorem dX6_keep_102 : decode cX6_keep 102 = .ok (.getfield 26, 3) := by decide +kernel
theorem dX6_keep_105 : decode cX6_keep 105 = .ok (.iload_n 1, 1) := by decide +kernel
theorem dX6_keep_106 : decode cX6_keep 106 = .ok (.iaload, 1) := by decide +kernel
theorem dX6_keep_107 : decode cX6_keep 107 = .ok (.iastore, 1) := by decide +kernel
theorem dX6_keep_108 : decode cX6_keep 108 = .ok (.aload_n 0, 1) := by decide +kernel
theorem dX6_keep_109 : decode cX6_keep 109 = .ok (.getfield 51, 3) := by decide +kernel
theorem dX6_keep_112 : decode cX6_keep 112 = .ok (.iload_n 1, 1) := by decide +kernel
theorem dX6_keep_113 : decode cX6_keep 113 = .ok (.aload_n 0, 1) := by decide +kernel
theorem dX6_keep_114 : decode cX6_keep 114 = .ok (.getfield 29, 3) := by decide +kernel
theorem dX6_keep_117 : decode cX6_keep 117 = .ok (.iload_n 1, 1) := by decide +kernel
theorem dX6_keep_118 : decode cX6_keep 118 = .ok (.iaload, 1) := by decide +kernel
theorem dX6_keep_119 : decode cX6_keep 119 = .ok (.iastore, 1) := by decide +kernel
theorem dX6_keep_120 : decode cX6_keep 120 = .ok (.aload_n 0, 1) := by decide +kernel
theorem dX6_keep_121 : decode cX6_keep 121 = .ok (.getfield 54, 3) := by decide +kernel
theorem dX6_keep_124 : decode cX6_keep 124 = .ok (.iload_n 1, 1) := by decide +kernel
theorem dX6_keep_125 : decode cX6_keep 125 = .ok (.aload_n 0, 1) := by decide +kernel
theorem dX6_keep_126 : decode cX6_keep 126 = .ok (.getfield 32, 3) := by decide +kernel
theorem dX6_keep_129 : decode cX6_keep 129 = .ok (.iload_n 1, 1) := by decide +kernel
theorem dX6_keep_130 : decode cX6_keep 130 = .ok (.baload, 1) := by decide +kernel
theorem dX6_keep_131 : decode cX6_keep 131 = .ok (.bastore, 1) := by decide +kernel
theorem dX6_keep_132 : decode cX6_keep 132 = .ok (.iinc 1 1, 3) := by decide +kernel
theorem dX6_keep_135 : decode cX6_keep 135 = .ok (.goto (-69), 3) := by decide +kernel
theorem dX6_keep_138 : decode cX6_keep 138 = .ok (.iconst 1, 1) := by decide +kernel
theorem dX6_keep_139 : decode cX6_keep 139 = .ok (.ireturn, 1) := by decide +kernel
theorem dX6_back_0 : decode cX6_back 0 = .ok (.aload_n 0, 1) := by decide +kernel
theorem dX6_back_1 : decode cX6_back 1 = .ok (.getfield 172, 3) := by decide +kernel
theorem dX6_back_4 : decode cX6_back 4 = .ok (.ifCond .ne 6, 3) := by decide +kernel
theorem dX6_back_7 : decode cX6_back 7 = .ok (.bipush (-3), 2) := by decide +kernel
theorem dX6_back_9 : decode cX6_back 9 = .ok (.ireturn, 1) := by decide +kernel
theorem dX6_back_10 : decode cX6_back 10 = .ok (.aload_n 0, 1) := by decide +kernel
theorem dX6_back_11 : decode cX6_back 11 = .ok (.aload_n 0, 1) := by decide +kernel
theorem dX6_back_12 : decode cX6_back 12 = .ok (.getfield 176, 3) := by decide +kernel
theorem dX6_back_15 : decode cX6_back 15 = .ok (.putfield 7, 3) := by decide +kernel
theorem dX6_back_18 : decode cX6_back 18 = .ok (.aload_n 0, 1) := by decide +kernel
theorem dX6_back_19 : decode cX6_back 19 = .ok (.aload_n 0, 1) := by decide +kernel
theorem dX6_back_20 : decode cX6_back 20 = .ok (.getfield 179, 3) := by decide +kernel
theorem dX6_back_23 : decode cX6_back 23 = .ok (.putfield 13, 3) := by decide +kernel
theorem dX6_back_26 : decode cX6_back 26 = .ok (.aload_n 0, 1) := by decide +kernel
theorem dX6_back_27 : decode cX6_back 27 = .ok (.aload_n 0, 1) := by decide +kernel
theorem dX6_back_28 : decode cX6_back 28 = .ok (.getfield 182, 3) := by decide +kernel
theorem dX6_back_31 : decode cX6_back 31 = .ok (.putfield 72, 3) := by decide +kernel
theorem dX6_back_34 : decode cX6_back 34 = .ok (.aload_n 0, 1) := by decide +kernel
theorem dX6_back_35 : decode cX6_back 35 = .ok (.aload_n 0, 1) := by decide +kernel
theorem dX6_back_36 : decode cX6_back 36 = .ok (.getfield 185, 3) := by decide +kernel
theorem dX6_back_39 : decode cX6_back 39 = .ok (.putfield 79, 3) := by decide +kernel
theorem dX6_back_42 : decode cX6_back 42 = .ok (.iconst 0, 1) := by decide +kernel
theorem dX6_back_43 : decode cX6_back 43 = .ok (.istore_n 1, 1) := by decide +kernel
theorem dX6_back_44 : decode cX6_back 44 = .ok (.iload_n 1, 1) := by decide +kernel
theorem dX6_back_45 : decode cX6_back 45 = .ok (.sipush 360, 3) := by decide +kernel
theorem dX6_back_48 : decode cX6_back 48 = .ok (.if_icmp .ge 21, 3) := by decide +kernel
theorem dX6_back_51 : decode cX6_back 51 = .ok (.aload_n 0, 1) := by decide +kernel
theorem dX6_back_52 : decode cX6_back 52 = .ok (.getfield 16, 3) := by decide +kernel
theorem dX6_back_55 : decode cX6_back 55 = .ok (.iload_n 1, 1) := by decide +kernel
theorem dX6_back_56 : decode cX6_back 56 = .ok (.aload_n 0, 1) := by decide +kernel
theorem dX6_back_57 : decode cX6_back 57 = .ok (.getfield 39, 3) := by decide +kernel
theorem dX6_back_60 : decode cX6_back 60 = .ok (.iload_n 1, 1) := by decide +kernel
theorem dX6_back_61 : decode cX6_back 61 = .ok (.iaload, 1) := by decide +kernel
theorem dX6_back_62 : decode cX6_back 62 = .ok (.iastore, 1) := by decide +kernel
theorem dX6_back_63 : decode cX6_back 63 = .ok (.iinc 1 1, 3) := by decide +kernel
theorem dX6_back_66 : decode cX6_back 66 = .ok (.goto (-22), 3) := by decide +kernel
theorem dX6_back_69 : decode cX6_back 69 = .ok (.iconst 0, 1) := by decide +kernel
theorem dX6_back_70 : decode cX6_back 70 = .ok (.istore_n 1, 1) := by decide +kernel
theorem dX6_back_71 : decode cX6_back 71 = .ok (.iload_n 1, 1) := by decide +kernel
theorem dX6_back_72 : decode cX6_back 72 = .ok (.bipush 12, 2) := by decide +kernel
theorem dX6_back_74 : decode cX6_back 74 = .ok (.if_icmp .ge 69, 3) := by decide +kernel
theorem dX6_back_77 : decode cX6_back 77 = .ok (.aload_n 0, 1) := by decide +kernel
theorem dX6_back_78 : decode cX6_back 78 = .ok (.getfield 20, 3) := by decide +kernel
theorem dX6_back_81 : decode cX6_back 81 = .ok (.iload_n 1, 1) := by decide +kernel
theorem dX6_back_82 : decode cX6_back 82 = .ok (.aload_n 0, 1) := by decide +kernel
theorem dX6_back_83 : decode cX6_back 83 = .ok (.getfield 42, 3) := by decide +kernel
theorem dX6_back_86 : decode cX6_back 86 = .ok (.iload_n 1, 1) := by decide +kernel
theorem dX6_back_87 : decode cX6_back 87 = .ok (.iaload, 1) := by decide +kernel
theorem dX6_back_88 : decode cX6_back 88 = .ok (.iastore, 1) := by decide +kernel
theorem dX6_back_89 : decode cX6_back 89 = .ok (.aload_n 0, 1) := by decide +kernel
theorem dX6_back_90 : decode cX6_back 90 = .ok (.getfield 23, 3) := by decide +kernel
theorem dX6_back_93 : decode cX6_back 93 = .ok (.iload_n 1, 1) := by decide +kernel
theorem dX6_back_94 : decode cX6_back 94 = .ok (.aload_n 0, 1) := by decide +kernel
theorem dX6_back_95 : decode cX6_back 95 = .ok (.getfield 45, 3) := by decide +kernel
theorem dX6_back_98 : decode cX6_back 98 = .ok (.iload_n 1, 1) := by decide +kernel
theorem dX6_back_99 : decode cX6_back 99 = .ok (.iaload, 1) := by decide +kernel
theorem dX6_back_100 : decode cX6_back 100 = .ok (.iastore, 1) := by decide +kernel
theorem dX6_back_101 : decode cX6_back 101 = .ok (.aload_n 0, 1) := by decide +kernel
theorem dX6_back_102 : decode cX6_back 102 = .ok (.getfield 26, 3) := by decide +kernel
theorem dX6_back_105 : decode cX6_back 105 = .ok (.iload_n 1, 1) := by decide +kernel
theorem dX6_back_106 : decode cX6_back 106 = .ok (.aload_n 0, 1) := by decide +kernel
theorem dX6_back_107 : decode cX6_back 107 = .ok (.getfield 48, 3) := by decide +kernel
theorem dX6_back_110 : decode cX6_back 110 = .ok (.iload_n 1, 1) := by decide +kernel
theorem dX6_back_111 : decode cX6_back 111 = .ok (.iaload, 1) := by decide +kernel
theorem dX6_back_112 : decode cX6_back 112 = .ok (.iastore, 1) := by decide +kernel
theorem dX6_back_113 : decode cX6_back 113 = .ok (.aload_n 0, 1) := by decide +kernel
theorem dX6_back_114 : decode cX6_back 114 = .ok (.getfield 29, 3) := by decide +kernel
theorem dX6_back_117 : decode cX6_back 117 = .ok (.iload_n 1, 1) := by decide +kernel
theorem dX6_back_118 : decode cX6_back 118 = .ok (.aload_n 0, 1) := by decide +kernel
theorem dX6_back_119 : decode cX6_back 119 = .ok (.getfield 51, 3) := by decide +kernel
theorem dX6_back_122 : decode cX6_back 122 = .ok (.iload_n 1, 1) := by decide +kernel
theorem dX6_back_123 : decode cX6_back 123 = .ok (.iaload, 1) := by decide +kernel
theorem dX6_back_124 : decode cX6_back 124 = .ok (.iastore, 1) := by decide +kernel
theorem dX6_back_125 : decode cX6_back 125 = .ok (.aload_n 0, 1) := by decide +kernel
theorem dX6_back_126 : decode cX6_back 126 = .ok (.getfield 32, 3) := by decide +kernel
theorem dX6_back_129 : decode cX6_back 129 = .ok (.iload_n 1, 1) := by decide +kernel
theorem dX6_back_130 : decode cX6_back 130 = .ok (.aload_n 0, 1) := by decide +kernel
theorem dX6_back_131 : decode cX6_back 131 = .ok (.getfield 54, 3) := by decide +kernel
theorem dX6_back_134 : decode cX6_back 134 = .ok (.iload_n 1, 1) := by decide +kernel
theorem dX6_back_135 : decode cX6_back 135 = .ok (.baload, 1) := by decide +kernel
theorem dX6_back_136 : decode cX6_back 136 = .ok (.bastore, 1) := by decide +kernel
theorem dX6_back_137 : decode cX6_back 137 = .ok (.iinc 1 1, 3) := by decide +kernel
theorem dX6_back_140 : decode cX6_back 140 = .ok (.goto (-69), 3) := by decide +kernel
theorem dX6_back_143 : decode cX6_back 143 = .ok (.iconst 1, 1) := by decide +kernel
theorem dX6_back_144 : decode cX6_back 144 = .ok (.ireturn, 1) := by decide +kernel
theorem dJ9_abs_0f7a4_0 : decode cJ9_abs_0f7a4 0 = .ok (.iload_n 0, 1) := by decide +kernel
theorem dJ9_abs_0f7a4_1 : decode cJ9_abs_0f7a4 1 = .ok (.ifCond .ge 8, 3) := by decide +kernel
theorem dJ9_abs_0f7a4_4 : decode cJ9_abs_0f7a4 4 = .ok (.iload_n 0, 1) := by decide +kernel
theorem dJ9_abs_0f7a4_5 : decode cJ9_abs_0f7a4 5 = .ok (.ineg, 1) := by decide +kernel
theorem dJ9_abs_0f7a4_6 : decode cJ9_abs_0f7a4 6 = .ok (.goto 4, 3) := by decide +kernel
theorem dJ9_abs_0f7a4_9 : decode cJ9_abs_0f7a4 9 = .ok (.iload_n 0, 1) := by decide +kernel
theorem dJ9_abs_0f7a4_10 : decode cJ9_abs_0f7a4 10 = .ok (.ireturn, 1) := by decide +kernel
theorem dJ9_max_7cf53_0 : decode cJ9_max_7cf53 0 = .ok (.iload_n 0, 1) := by decide +kernel
theorem dJ9_max_7cf53_1 : decode cJ9_max_7cf53 1 = .ok (.iload_n 1, 1) := by decide +kernel
theorem dJ9_max_7cf53_2 : decode cJ9_max_7cf53 2 = .ok (.if_icmp .lt 7, 3) := by decide +kernel
theorem dJ9_max_7cf53_5 : decode cJ9_max_7cf53 5 = .ok (.iload_n 0, 1) := by decide +kernel
theorem dJ9_max_7cf53_6 : decode cJ9_max_7cf53 6 = .ok (.goto 4, 3) := by decide +kernel
theorem dJ9_max_7cf53_9 : decode cJ9_max_7cf53 9 = .ok (.iload_n 1, 1) := by decide +kernel
theorem dJ9_max_7cf53_10 : decode cJ9_max_7cf53 10 = .ok (.ireturn, 1) := by decide +kernel
theorem dJ9_min_7cf53_0 : decode cJ9_min_7cf53 0 = .ok (.iload_n 0, 1) := by decide +kernel
theorem dJ9_min_7cf53_1 : decode cJ9_min_7cf53 1 = .ok (.iload_n 1, 1) := by decide +kernel
theorem dJ9_min_7cf53_2 : decode cJ9_min_7cf53 2 = .ok (.if_icmp .gt 7, 3) := by decide +kernel
theorem dJ9_min_7cf53_5 : decode cJ9_min_7cf53 5 = .ok (.iload_n 0, 1) := by decide +kernel
theorem dJ9_min_7cf53_6 : decode cJ9_min_7cf53 6 = .ok (.goto 4, 3) := by decide +kernel
theorem dJ9_min_7cf53_9 : decode cJ9_min_7cf53 9 = .ok (.iload_n 1, 1) := by decide +kernel
theorem dJ9_min_7cf53_10 : decode cJ9_min_7cf53 10 = .ok (.ireturn, 1) := by decide +kernel
end
section
/-! ===== the state of one side: its whole numbers and its rows; a contract over a side's world ===== -/
abbrev US : Type := (Nat → Int32) × (Nat → Nat → Int32)
def si (u : US) (k : Nat) (v : Int32) : US := (fun j => if j = k then v else u.1 j, u.2)
def sA (u : US) (k : Nat) (f : Nat → Int32) : US := (u.1, fun j => if j = k then f else u.2 j)
abbrev sa (u : US) (k i : Nat) (v : Int32) : US := sA u k (upd (u.2 k) i v)
def jmax (x y : Int32) : Int32 := if x < y then y else x
def jmin (x y : Int32) : Int32 := if y < x then y else x
def jabs (x : Int32) : Int32 := if 0 ≤ x then x else 0 - x
def isB (r : Int32) : Prop := narrow .boolean (.int r) = .int r
def rmL (k : Nat) : Room := { frames := k, cells := 0, slots := 0, locals := 30 * k }
abbrev tyB (cI cZ : ClassId) : List (ClassId × FieldType) := [(cI, .int), (cZ, .boolean)]
def gP (D : va_G) (cI cZ : ClassId) (wd : US → va_W) (u : US) (U : State) : Prop := va_P D vwCl (wd u) U.heap ∧ va_K D vwCl (tyB cI cZ) U
/-- a method that answers an int: from the world of u it comes to a world of which post holds -/
def gMi (l : Launch) (y : MethodName) (ws : List Cond) (k : Nat) (D : va_G) (cI cZ : ClassId) (wd : US → va_W) (A : Nat → Prop) (av : List Value) (u : US) (post : Int32 → US → Prop) : Prop :=
  Met l y ws (rmL k) (va_Pc av (gP D cI cZ wd u)) (va_Qi post (gP D cI cZ wd) A) 0 0 A
def gMv (l : Launch) (y : MethodName) (ws : List Cond) (k : Nat) (D : va_G) (cI cZ : ClassId) (wd : US → va_W) (A : Nat → Prop) (av : List Value) (u : US) (post : US → Prop) : Prop :=
  Met l y ws (rmL k) (va_Pc av (gP D cI cZ wd u)) (va_Qv post (gP D cI cZ wd) A) 0 0 A
abbrev gWi (p : Program) (l : Launch) (e : Env) (ws : List Cond) (k : Nat) (s : State) (m : MethodId) (av : List Value) (below : List Frame) (meth : Method) (c : Code) (D : va_G) (cI cZ : ClassId) (wd : US → va_W) (A : Nat → Prop) (post : Int32 → US → Prop) (H : Heap) (locs : List Loc) (g : JFrame) : Prop :=
  W p l e (headSpec ws (rmL k)).room s m av.toArray below meth c H locs 0 0 (MQ below (va_Qi post (gP D cI cZ wd) A) av.toArray s 0 0 A) g
abbrev gWv (p : Program) (l : Launch) (e : Env) (ws : List Cond) (k : Nat) (s : State) (m : MethodId) (av : List Value) (below : List Frame) (meth : Method) (c : Code) (D : va_G) (cI cZ : ClassId) (wd : US → va_W) (A : Nat → Prop) (post : US → Prop) (H : Heap) (locs : List Loc) (g : JFrame) : Prop :=
  W p l e (headSpec ws (rmL k)).room s m av.toArray below meth c H locs 0 0 (MQ below (va_Qv post (gP D cI cZ wd) A) av.toArray s 0 0 A) g
theorem gP_blind {D : va_G} {cI cZ : ClassId} {wd : US → va_W} {u : US} {av : List Value} : FrameBlind (va_Pc av (gP D cI cZ wd u)) := fun a U g mk q => by
  obtain ⟨q0, qP, qK⟩ := q
  exact ⟨q0, qP, va_K.moved (u := U) (U := U.calling g mk a) (Vm.Alike.refl U.vm) qK⟩
section GB
variable {p : Program} {l : Launch} {e : Env} {R : Room} {s : State} {m : MethodId} {args : Array Value} {below : List Frame} {meth : Method} {c : Code} {H : Heap} {locs : List Loc} {cells slots : Nat} {Q : State → Prop}
variable {y : MethodName} {bytes cc : ByteArray} {maxL nL n index k pc b : Nat} {ret : Option FieldType} {ws Ts : List Cond} {own C : String} {As rest st0 : List Value} {ls : Array Slot}
variable {D : va_G} {cI cZ : ClassId} {wd : US → va_W} {A A0 : Nat → Prop} {u : US} {H0 : Heap}
theorem gcallVi' {post : Int32 → US → Prop} (S : CallFix p m c cc nL s args Ts own) (hM : gMi l y ws k D cI cZ wd A (.ref b :: As) u post) (cw : CallW R s args own C index y bytes maxL ret ws (rmL k) 0 0 n) (hrecv : ∃ cell : Cell, H[b]? = some cell ∧ cell.vm.isStatics = false ∧ s.vm.findClass C = some cell.cls)
    (hK : va_K D vwCl (tyB cI cZ) s) (hP : va_P D vwCl (wd u) H) (hS : va_S A0 H0 H locs) (hA : ∀ q, A q → A0 q) (hn : As.length = n) (hl : ls.size = nL) (hst : st0 = As.reverse ++ .ref b :: rest) (hW : (rest.map fun v => v.category).sum ≤ 8) (hdg : decode cc pc = .ok (.invokevirtual index, 3)) (hc : cells ≤ R.cells ∧ slots ≤ R.slots)
    (kk : ∀ (r : Int32) (u' : US) (H1 : Heap) (locs1 : List Loc), post r u' → va_P D vwCl (wd u') H1 → va_S A0 H0 H1 locs1 → (∀ q : Nat, q < H.size → ¬ A q → H1[q]? = H[q]?) → W p l e R s m args below meth c H1 locs1 cells slots Q (F0 m (pc + 3) ls (.int r :: rest))) :
    W p l e R s m args below meth c H locs cells slots Q (F0 m pc ls st0) := by
  refine va_calli (va_runV (As := As) (rest := rest) S hM cw ⟨gP_blind, hrecv, fun U hU hW => ⟨rfl, by rw [hU]; exact hP, va_K.moved hW.alike hK⟩⟩ rfl hn hl hst (lv_room hW) hdg hc) hS (fun q _ h => hA q h) hA (fun r u' t H1 locs1 ht hvm hw hB hz1 hk1 hS => ?_)
  exact kk r u' H1 locs1 hw (by rw [← ht]; exact hB.1) hS hk1
theorem gcallVv' {post : US → Prop} (S : CallFix p m c cc nL s args Ts own) (hM : gMv l y ws k D cI cZ wd A (.ref b :: As) u post) (cw : CallW R s args own C index y bytes maxL ret ws (rmL k) 0 0 n) (hrecv : ∃ cell : Cell, H[b]? = some cell ∧ cell.vm.isStatics = false ∧ s.vm.findClass C = some cell.cls)
    (hK : va_K D vwCl (tyB cI cZ) s) (hP : va_P D vwCl (wd u) H) (hS : va_S A0 H0 H locs) (hA : ∀ q, A q → A0 q) (hn : As.length = n) (hl : ls.size = nL) (hst : st0 = As.reverse ++ .ref b :: rest) (hW : (rest.map fun v => v.category).sum ≤ 8) (hdg : decode cc pc = .ok (.invokevirtual index, 3)) (hc : cells ≤ R.cells ∧ slots ≤ R.slots)
    (kk : ∀ (u' : US) (H1 : Heap) (locs1 : List Loc), post u' → va_P D vwCl (wd u') H1 → va_S A0 H0 H1 locs1 → (∀ q : Nat, q < H.size → ¬ A q → H1[q]? = H[q]?) → W p l e R s m args below meth c H1 locs1 cells slots Q (F0 m (pc + 3) ls rest)) :
    W p l e R s m args below meth c H locs cells slots Q (F0 m pc ls st0) := by
  refine va_callv (va_runV (As := As) (rest := rest) S hM cw ⟨gP_blind, hrecv, fun U hU hW => ⟨rfl, by rw [hU]; exact hP, va_K.moved hW.alike hK⟩⟩ rfl hn hl hst (lv_room hW) hdg hc) hS (fun q _ h => hA q h) hA (fun u' t H1 locs1 ht hvm hw hB hz1 hk1 hS => ?_)
  exact kk u' H1 locs1 hw (by rw [← ht]; exact hB.1) hS hk1
theorem gcallVi {post : Int32 → US → Prop} (S : CallFix p m c cc nL s args Ts own) (hM : gMi l y ws k D cI cZ wd A (.ref b :: As) u post) (cw : CallW R s args own C index y bytes maxL ret ws (rmL k) 0 0 n) (hrecv : ∃ cell : Cell, H[b]? = some cell ∧ cell.vm.isStatics = false ∧ s.vm.findClass C = some cell.cls)
    (hK : va_K D vwCl (tyB cI cZ) s) (hP : va_P D vwCl (wd u) H) (hS : va_S A H0 H locs) (hn : As.length = n) (hl : ls.size = nL) (hst : st0 = As.reverse ++ .ref b :: rest) (hW : (rest.map fun v => v.category).sum ≤ 8) (hdg : decode cc pc = .ok (.invokevirtual index, 3)) (hc : cells ≤ R.cells ∧ slots ≤ R.slots)
    (kk : ∀ (r : Int32) (u' : US) (H1 : Heap) (locs1 : List Loc), post r u' → va_P D vwCl (wd u') H1 → va_S A H0 H1 locs1 → W p l e R s m args below meth c H1 locs1 cells slots Q (F0 m (pc + 3) ls (.int r :: rest))) :
    W p l e R s m args below meth c H locs cells slots Q (F0 m pc ls st0) :=
  gcallVi' S hM cw hrecv hK hP hS (fun _ h => h) hn hl hst hW hdg hc (fun r u' H1 locs1 h1 h2 h3 _ => kk r u' H1 locs1 h1 h2 h3)
theorem gcallVv {post : US → Prop} (S : CallFix p m c cc nL s args Ts own) (hM : gMv l y ws k D cI cZ wd A (.ref b :: As) u post) (cw : CallW R s args own C index y bytes maxL ret ws (rmL k) 0 0 n) (hrecv : ∃ cell : Cell, H[b]? = some cell ∧ cell.vm.isStatics = false ∧ s.vm.findClass C = some cell.cls)
    (hK : va_K D vwCl (tyB cI cZ) s) (hP : va_P D vwCl (wd u) H) (hS : va_S A H0 H locs) (hn : As.length = n) (hl : ls.size = nL) (hst : st0 = As.reverse ++ .ref b :: rest) (hW : (rest.map fun v => v.category).sum ≤ 8) (hdg : decode cc pc = .ok (.invokevirtual index, 3)) (hc : cells ≤ R.cells ∧ slots ≤ R.slots)
    (kk : ∀ (u' : US) (H1 : Heap) (locs1 : List Loc), post u' → va_P D vwCl (wd u') H1 → va_S A H0 H1 locs1 → W p l e R s m args below meth c H1 locs1 cells slots Q (F0 m (pc + 3) ls rest)) :
    W p l e R s m args below meth c H locs cells slots Q (F0 m pc ls st0) :=
  gcallVv' S hM cw hrecv hK hP hS (fun _ h => h) hn hl hst hW hdg hc (fun u' H1 locs1 h1 h2 h3 _ => kk u' H1 locs1 h1 h2 h3)
theorem gcallSi {post : Int32 → US → Prop} (S : CallFix p m c cc nL s args Ts own) (hM : gMi l y ws k D cI cZ wd A As u post) (cw : CallB R s args own index y bytes maxL ret ws (rmL k) 0 0 n ∧ (Cond.static y).before args s = true)
    (hK : va_K D vwCl (tyB cI cZ) s) (hP : va_P D vwCl (wd u) H) (hS : va_S A H0 H locs) (hn : As.length = n) (hl : ls.size = nL) (hst : st0 = As.reverse ++ rest) (hW : (rest.map fun v => v.category).sum ≤ 8) (hdg : decode cc pc = .ok (.invokestatic index, 3)) (hc : cells ≤ R.cells ∧ slots ≤ R.slots)
    (kk : ∀ (r : Int32) (u' : US) (H1 : Heap) (locs1 : List Loc), post r u' → va_P D vwCl (wd u') H1 → va_S A H0 H1 locs1 → W p l e R s m args below meth c H1 locs1 cells slots Q (F0 m (pc + 3) ls (.int r :: rest))) :
    W p l e R s m args below meth c H locs cells slots Q (F0 m pc ls st0) := by
  refine va_calli (va_runS (As := As) (rest := rest) S hM cw ⟨gP_blind, fun U hU hW => ⟨rfl, by rw [hU]; exact hP, va_K.moved hW.alike hK⟩⟩ rfl hn hl hst (lv_room hW) hdg hc) hS (fun q _ h => h) (fun _ h => h) (fun r u' t H1 locs1 ht hvm hw hB hz1 hk1 hS => ?_)
  exact kk r u' H1 locs1 hw (by rw [← ht]; exact hB.1) hS
theorem giret {post : Int32 → US → Prop} {av : List Value} {v : Int32} (hx : p.tables.exec = Jvm.exec) (hb : c.code = cc) (hr : meth.sig.returnType = some .int) (hlocks : meth.locks = false) (hK : va_K D vwCl (tyB cI cZ) s) (hP : va_P D vwCl (wd u) H) (hS : va_S A s.heap H locs) (h : post v u) (hdg : decode cc pc = .ok (.ireturn, 1)) :
    gWi p l e ws k s m av below meth c D cI cZ wd A post H locs (F0 m pc ls [.int v]) :=
  W.iret (v := v) hx hb hr (fun t ht hW => ⟨⟨v, u, rfl, h, by rw [ht]; exact hP, va_K.moved hW.alike hK⟩, hS.F ht⟩) hS.2.2 hdg hlocks
theorem gzret {post : Int32 → US → Prop} {av : List Value} {v : Int32} (hx : p.tables.exec = Jvm.exec) (hb : c.code = cc) (hr : meth.sig.returnType = some .boolean) (hlocks : meth.locks = false) (hK : va_K D vwCl (tyB cI cZ) s) (hP : va_P D vwCl (wd u) H) (hS : va_S A s.heap H locs) (hv : isB v) (h : post v u) (hdg : decode cc pc = .ok (.ireturn, 1)) :
    gWi p l e ws k s m av below meth c D cI cZ wd A post H locs (F0 m pc ls [.int v]) :=
  W.zret (v := v) hx hb hr hv (fun t ht hW => ⟨⟨v, u, rfl, h, by rw [ht]; exact hP, va_K.moved hW.alike hK⟩, hS.F ht⟩) hS.2.2 hdg hlocks
theorem gvret {post : US → Prop} {av : List Value} (hx : p.tables.exec = Jvm.exec) (hb : c.code = cc) (hr : meth.sig.returnType = none) (hlocks : meth.locks = false) (hK : va_K D vwCl (tyB cI cZ) s) (hP : va_P D vwCl (wd u) H) (hS : va_S A s.heap H locs) (h : post u) (hdg : decode cc pc = .ok (.return_, 1)) :
    gWv p l e ws k s m av below meth c D cI cZ wd A post H locs (F0 m pc ls []) :=
  W.vret hx hb hr (fun t ht hW => ⟨⟨u, rfl, h, by rw [ht]; exact hP, va_K.moved hW.alike hK⟩, hS.F ht⟩) hS.2.2 hdg hlocks
theorem gmax {x z : Int32} (hx : p.tables.exec = Jvm.exec) (hb : c.code = cc) (hml : c.maxLocals = ls.size) (hown : s.vm.findClass own = some m.cls) (hts : ∀ w ∈ Ts, w.before args s = true) (hi : [Cond.methodLink own index Lib.Math.max.name, Cond.static Lib.Math.max.name, Cond.initialized "java/lang/Math", Cond.code Lib.Math.max.name Lib.Math.max.code 2 (some .int)].all (fun w => decide (w ∈ Ts)) = true) (hf : 1 ≤ R.frames) (hlo : (rest.map fun v => v.category).sum + 13 ≤ R.locals) (hc : cells ≤ R.cells) (hs : slots ≤ R.slots) (hdg : decode cc pc = .ok (.invokestatic index, 3))
    (kk : W p l e R s m args below meth c H locs cells slots Q (F0 m (pc + 3) ls (.int (jmax x z) :: rest))) : W p l e R s m args below meth c H locs cells slots Q (F0 m pc ls (.int z :: .int x :: rest)) := by
  simp only [List.all_cons, List.all_nil, Bool.and_true, Bool.and_eq_true, decide_eq_true_eq] at hi
  exact va_mmax hx hb hml hown (hts _ hi.1) (hts _ hi.2.1) (hts _ hi.2.2.1) (hts _ hi.2.2.2) hf hlo hc hs hdg kk
theorem gmin {x z : Int32} (hx : p.tables.exec = Jvm.exec) (hb : c.code = cc) (hml : c.maxLocals = ls.size) (hown : s.vm.findClass own = some m.cls) (hts : ∀ w ∈ Ts, w.before args s = true) (hi : [Cond.methodLink own index Lib.Math.min.name, Cond.static Lib.Math.min.name, Cond.initialized "java/lang/Math", Cond.code Lib.Math.min.name Lib.Math.min.code 2 (some .int)].all (fun w => decide (w ∈ Ts)) = true) (hf : 1 ≤ R.frames) (hlo : (rest.map fun v => v.category).sum + 13 ≤ R.locals) (hc : cells ≤ R.cells) (hs : slots ≤ R.slots) (hdg : decode cc pc = .ok (.invokestatic index, 3))
    (kk : W p l e R s m args below meth c H locs cells slots Q (F0 m (pc + 3) ls (.int (jmin x z) :: rest))) : W p l e R s m args below meth c H locs cells slots Q (F0 m pc ls (.int z :: .int x :: rest)) := by
  simp only [List.all_cons, List.all_nil, Bool.and_true, Bool.and_eq_true, decide_eq_true_eq] at hi
  exact va_mmin hx hb hml hown (hts _ hi.1) (hts _ hi.2.1) (hts _ hi.2.2.1) (hts _ hi.2.2.2) hf hlo hc hs hdg kk
theorem gabs {x : Int32} (hx : p.tables.exec = Jvm.exec) (hb : c.code = cc) (hml : c.maxLocals = ls.size) (hown : s.vm.findClass own = some m.cls) (hts : ∀ w ∈ Ts, w.before args s = true) (hi : [Cond.methodLink own index Lib.Math.abs.name, Cond.static Lib.Math.abs.name, Cond.initialized "java/lang/Math", Cond.code Lib.Math.abs.name Lib.Math.abs.code 1 (some .int)].all (fun w => decide (w ∈ Ts)) = true) (hf : 1 ≤ R.frames) (hlo : (rest.map fun v => v.category).sum + 13 ≤ R.locals) (hc : cells ≤ R.cells) (hs : slots ≤ R.slots) (hdg : decode cc pc = .ok (.invokestatic index, 3))
    (kk : W p l e R s m args below meth c H locs cells slots Q (F0 m (pc + 3) ls (.int (jabs x) :: rest))) : W p l e R s m args below meth c H locs cells slots Q (F0 m pc ls (.int x :: rest)) := by
  simp only [List.all_cons, List.all_nil, Bool.and_true, Bool.and_eq_true, decide_eq_true_eq] at hi
  exact va_mabs hx hb hml hown (hts _ hi.1) (hts _ hi.2.1) (hts _ hi.2.2.1) (hts _ hi.2.2.2) hf hlo hc hs hdg kk
/-- a row copied over another one: what is asked of its numbers -/
def gcpOk (n0 n1 : Nat) (sp dp n : Int32) : Prop := ¬ sp < 0 ∧ ¬ dp < 0 ∧ ¬ n < 0 ∧ sp.toNatClampNeg + n.toNatClampNeg ≤ n0 ∧ dp.toNatClampNeg + n.toNatClampNeg ≤ n1
def gcp (f g : Nat → Int32) (sp dp n : Int32) : Nat → Int32 := va_cpy f g sp.toNatClampNeg dp.toNatClampNeg n.toNatClampNeg
theorem gcopy {W0 : va_W} (hx : p.tables.exec = Jvm.exec) (hb : c.code = cc) (hml : c.maxLocals = ls.size) (hown : s.vm.findClass own = some m.cls) (hts : ∀ w ∈ Ts, w.before args s = true) (hi : [Cond.methodLink own index arraycopyName, Cond.native arraycopyName, Cond.static arraycopyName, Cond.initialized "java/lang/System"].all (fun w => decide (w ∈ Ts)) = true)
    (hK : va_K D vwCl (tyB cI cZ) s) (hP : va_P D vwCl W0 H) (hD : va_D A W0) (hS : va_S A H0 H locs) (q0 q1 : Nat) {a0 a1 n0 n1 : Nat} {f g : Nat → Int32} (ha0 : W0[q0]? = some (a0, .inl (cI, n0, .inl f))) (ha1 : W0[q1]? = some (a1, .inl (cI, n1, .inl g)))
    {sp dp n : Int32} (hk : gcpOk n0 n1 sp dp n) (hframes : 1 ≤ R.frames) (hlocals : (rest.map fun v => v.category).sum + (nativeFrameWords "java/lang/System" "arraycopy" 5 + 11) ≤ R.locals) (hdg : decode cc pc = .ok (.invokestatic index, 3))
    (kk : ∀ (H1 : Heap) (locs1 : List Loc), va_P D vwCl (W0.set q1 (a1, .inl (cI, n1, .inl (gcp f g sp dp n)))) H1 → va_S A H0 H1 locs1 → W p l e R s m args below meth c H1 locs1 cells slots Q (F0 m (pc + 3) ls rest)) :
    W p l e R s m args below meth c H locs cells slots Q (F0 m pc ls (.int n :: .int dp :: .ref a1 :: .int sp :: .ref a0 :: rest)) := by
  simp only [List.all_cons, List.all_nil, Bool.and_true, Bool.and_eq_true, decide_eq_true_eq] at hi
  obtain ⟨k1, k2, k3, k4, k5⟩ := hk
  exact va_copyi hx hb hml hown (hts _ hi.1) (hts _ hi.2.1) (hts _ hi.2.2.1) (hts _ hi.2.2.2) hK hP hD hS q0 q1 0 0 ha0 ha1 rfl rfl rfl k1 k2 k3 k4 k5 (fun _ _ => rfl) hframes hlocals hdg (fun H1 locs1 h1 _ h3 => kk H1 locs1 h1 h3)
end GB
end
section
def fw (adr : Nat → Nat) (cI cZ : ClassId) (u : US) : va_W := [(adr 0, .inr (5, [.ref (adr 1), .ref (adr 3), .ref (adr 9), .ref (adr 10), .ref (adr 11), .ref (adr 15), .ref (adr 19), .ref (adr 21), .int (u.1 0)])), (adr 1, .inr (1, [.int (u.1 1), .int (u.1 2), .int (u.1 3), .int (u.1 4), .ref (adr 2)])), (adr 2, .inl (cI, 360, .inl (u.2 2))), (adr 3, .inr (0, [.int (u.1 5), .ref (adr 4), .ref (adr 5), .ref (adr 6), .ref (adr 7), .ref (adr 8)])), (adr 4, .inl (cI, 12, .inl (u.2 4))), (adr 5, .inl (cI, 12, .inl (u.2 5))), (adr 6, .inl (cI, 12, .inl (u.2 6))), (adr 7, .inl (cI, 12, .inl (u.2 7))), (adr 8, .inl (cZ, 12, .inl (u.2 8))), (adr 9, .inl (cI, 3, .inl (u.2 9))), (adr 10, .inr (3, [.ref (adr 1), .int (u.1 6), .int (u.1 7), .int (u.1 8), .int (u.1 9), .int (u.1 10), .int (u.1 11)])), (adr 11, .inr (4, [.ref (adr 12), .ref (adr 13), .ref (adr 14), .int (u.1 12), .int (u.1 13), .int (u.1 14)])), (adr 12, .inl (cI, 10, .inl (u.2 12))), (adr 13, .inl (cI, 10, .inl (u.2 13))), (adr 14, .inl (cI, 490, .inl (u.2 14))), (adr 15, .inr (2, [.ref (adr 1), .ref (adr 3), .ref (adr 9), .ref (adr 16), .ref (adr 17), .ref (adr 18)])), (adr 16, .inl (cI, 36, .inl (u.2 16))), (adr 17, .inl (cI, 36, .inl (u.2 17))), (adr 18, .inl (cI, 36, .inl (u.2 18))), (adr 19, .inr (1, [.int (u.1 15), .int (u.1 16), .int (u.1 17), .int (u.1 18), .ref (adr 20)])), (adr 20, .inl (cI, 360, .inl (u.2 20))), (adr 21, .inr (0, [.int (u.1 19), .ref (adr 22), .ref (adr 23), .ref (adr 24), .ref (adr 25), .ref (adr 26)])), (adr 22, .inl (cI, 12, .inl (u.2 22))), (adr 23, .inl (cI, 12, .inl (u.2 23))), (adr 24, .inl (cI, 12, .inl (u.2 24))), (adr 25, .inl (cI, 12, .inl (u.2 25))), (adr 26, .inl (cZ, 12, .inl (u.2 26)))]
section Gfw
variable {p : Program} {l : Launch} {e : Env} {R : Room} {s : State} {m : MethodId} {args : Array Value} {below : List Frame} {meth : Method} {c : Code} {H : Heap} {locs : List Loc} {cells slots : Nat} {Q : State → Prop}
variable {cc : ByteArray} {pc index : Nat} {ls : Array Slot} {rest : List Value} {D : va_G} {A : Nat → Prop} {Ts : List Cond} {own : String} {adr : Nat → Nat} {cI cZ : ClassId} {u : US} {H0 : Heap}
theorem fwg_0_0 (hx : p.tables.exec = Jvm.exec) (hb : c.code = cc) (hts : ∀ w ∈ Ts, w.before args s = true) (hin : ∀ w ∈ wsX50, w ∈ Ts) (hown : s.vm.findClass own = some m.cls) (hK : va_K D vwCl (tyB cI cZ) s) (hP : va_P D vwCl (fw adr cI cZ u) H) (hlink : (Cond.fieldLink own index "FilmBench" "film" "LFilmBench$Reel;").before args s = true) (hdg : decode cc pc = .ok (.getfield index, 3)) (kk : W p l e R s m args below meth c H locs cells slots Q (F0 m (pc + 3) ls (.ref (adr 1) :: rest))) : W p l e R s m args below meth c H locs cells slots Q (F0 m pc ls (.ref (adr 0) :: rest)) := va_get (ci := 5) (C := RX5) (T := TX5) (N := 9) hx hb hts hin hown hK hP 0 rfl rfl 0 (by decide) hlink (fun _ h => h) rfl hdg kk
theorem fwg_0_1 (hx : p.tables.exec = Jvm.exec) (hb : c.code = cc) (hts : ∀ w ∈ Ts, w.before args s = true) (hin : ∀ w ∈ wsX50, w ∈ Ts) (hown : s.vm.findClass own = some m.cls) (hK : va_K D vwCl (tyB cI cZ) s) (hP : va_P D vwCl (fw adr cI cZ u) H) (hlink : (Cond.fieldLink own index "FilmBench" "layers" "LFilmBench$Layers;").before args s = true) (hdg : decode cc pc = .ok (.getfield index, 3)) (kk : W p l e R s m args below meth c H locs cells slots Q (F0 m (pc + 3) ls (.ref (adr 3) :: rest))) : W p l e R s m args below meth c H locs cells slots Q (F0 m pc ls (.ref (adr 0) :: rest)) := va_get (ci := 5) (C := RX5) (T := TX5) (N := 9) hx hb hts hin hown hK hP 0 rfl rfl 1 (by decide) hlink (fun _ h => h) rfl hdg kk
theorem fwg_0_2 (hx : p.tables.exec = Jvm.exec) (hb : c.code = cc) (hts : ∀ w ∈ Ts, w.before args s = true) (hin : ∀ w ∈ wsX50, w ∈ Ts) (hown : s.vm.findClass own = some m.cls) (hK : va_K D vwCl (tyB cI cZ) s) (hP : va_P D vwCl (fw adr cI cZ u) H) (hlink : (Cond.fieldLink own index "FilmBench" "rules" "[I").before args s = true) (hdg : decode cc pc = .ok (.getfield index, 3)) (kk : W p l e R s m args below meth c H locs cells slots Q (F0 m (pc + 3) ls (.ref (adr 9) :: rest))) : W p l e R s m args below meth c H locs cells slots Q (F0 m pc ls (.ref (adr 0) :: rest)) := va_get (ci := 5) (C := RX5) (T := TX5) (N := 9) hx hb hts hin hown hK hP 0 rfl rfl 2 (by decide) hlink (fun _ h => h) rfl hdg kk
theorem fwg_0_3 (hx : p.tables.exec = Jvm.exec) (hb : c.code = cc) (hts : ∀ w ∈ Ts, w.before args s = true) (hin : ∀ w ∈ wsX50, w ∈ Ts) (hown : s.vm.findClass own = some m.cls) (hK : va_K D vwCl (tyB cI cZ) s) (hP : va_P D vwCl (fw adr cI cZ u) H) (hlink : (Cond.fieldLink own index "FilmBench" "shifts" "LFilmBench$Shifts;").before args s = true) (hdg : decode cc pc = .ok (.getfield index, 3)) (kk : W p l e R s m args below meth c H locs cells slots Q (F0 m (pc + 3) ls (.ref (adr 10) :: rest))) : W p l e R s m args below meth c H locs cells slots Q (F0 m pc ls (.ref (adr 0) :: rest)) := va_get (ci := 5) (C := RX5) (T := TX5) (N := 9) hx hb hts hin hown hK hP 0 rfl rfl 3 (by decide) hlink (fun _ h => h) rfl hdg kk
theorem fwg_0_4 (hx : p.tables.exec = Jvm.exec) (hb : c.code = cc) (hts : ∀ w ∈ Ts, w.before args s = true) (hin : ∀ w ∈ wsX50, w ∈ Ts) (hown : s.vm.findClass own = some m.cls) (hK : va_K D vwCl (tyB cI cZ) s) (hP : va_P D vwCl (fw adr cI cZ u) H) (hlink : (Cond.fieldLink own index "FilmBench" "steady" "LFilmBench$Steady;").before args s = true) (hdg : decode cc pc = .ok (.getfield index, 3)) (kk : W p l e R s m args below meth c H locs cells slots Q (F0 m (pc + 3) ls (.ref (adr 11) :: rest))) : W p l e R s m args below meth c H locs cells slots Q (F0 m pc ls (.ref (adr 0) :: rest)) := va_get (ci := 5) (C := RX5) (T := TX5) (N := 9) hx hb hts hin hown hK hP 0 rfl rfl 4 (by decide) hlink (fun _ h => h) rfl hdg kk
theorem fwg_0_5 (hx : p.tables.exec = Jvm.exec) (hb : c.code = cc) (hts : ∀ w ∈ Ts, w.before args s = true) (hin : ∀ w ∈ wsX50, w ∈ Ts) (hown : s.vm.findClass own = some m.cls) (hK : va_K D vwCl (tyB cI cZ) s) (hP : va_P D vwCl (fw adr cI cZ u) H) (hlink : (Cond.fieldLink own index "FilmBench" "sheet" "LFilmBench$Sheet;").before args s = true) (hdg : decode cc pc = .ok (.getfield index, 3)) (kk : W p l e R s m args below meth c H locs cells slots Q (F0 m (pc + 3) ls (.ref (adr 15) :: rest))) : W p l e R s m args below meth c H locs cells slots Q (F0 m pc ls (.ref (adr 0) :: rest)) := va_get (ci := 5) (C := RX5) (T := TX5) (N := 9) hx hb hts hin hown hK hP 0 rfl rfl 5 (by decide) hlink (fun _ h => h) rfl hdg kk
theorem fwg_0_6 (hx : p.tables.exec = Jvm.exec) (hb : c.code = cc) (hts : ∀ w ∈ Ts, w.before args s = true) (hin : ∀ w ∈ wsX50, w ∈ Ts) (hown : s.vm.findClass own = some m.cls) (hK : va_K D vwCl (tyB cI cZ) s) (hP : va_P D vwCl (fw adr cI cZ u) H) (hlink : (Cond.fieldLink own index "FilmBench" "keptFilm" "LFilmBench$Reel;").before args s = true) (hdg : decode cc pc = .ok (.getfield index, 3)) (kk : W p l e R s m args below meth c H locs cells slots Q (F0 m (pc + 3) ls (.ref (adr 19) :: rest))) : W p l e R s m args below meth c H locs cells slots Q (F0 m pc ls (.ref (adr 0) :: rest)) := va_get (ci := 5) (C := RX5) (T := TX5) (N := 9) hx hb hts hin hown hK hP 0 rfl rfl 6 (by decide) hlink (fun _ h => h) rfl hdg kk
theorem fwg_0_7 (hx : p.tables.exec = Jvm.exec) (hb : c.code = cc) (hts : ∀ w ∈ Ts, w.before args s = true) (hin : ∀ w ∈ wsX50, w ∈ Ts) (hown : s.vm.findClass own = some m.cls) (hK : va_K D vwCl (tyB cI cZ) s) (hP : va_P D vwCl (fw adr cI cZ u) H) (hlink : (Cond.fieldLink own index "FilmBench" "keptLayers" "LFilmBench$Layers;").before args s = true) (hdg : decode cc pc = .ok (.getfield index, 3)) (kk : W p l e R s m args below meth c H locs cells slots Q (F0 m (pc + 3) ls (.ref (adr 21) :: rest))) : W p l e R s m args below meth c H locs cells slots Q (F0 m pc ls (.ref (adr 0) :: rest)) := va_get (ci := 5) (C := RX5) (T := TX5) (N := 9) hx hb hts hin hown hK hP 0 rfl rfl 7 (by decide) hlink (fun _ h => h) rfl hdg kk
theorem fwg_0_8 {v : Int32} (hx : p.tables.exec = Jvm.exec) (hb : c.code = cc) (hts : ∀ w ∈ Ts, w.before args s = true) (hin : ∀ w ∈ wsX50, w ∈ Ts) (hown : s.vm.findClass own = some m.cls) (hK : va_K D vwCl (tyB cI cZ) s) (hP : va_P D vwCl (fw adr cI cZ u) H) (hlink : (Cond.fieldLink own index "FilmBench" "isKept" "Z").before args s = true) (hdg : decode cc pc = .ok (.getfield index, 3)) (hv : u.1 0 = v) (kk : W p l e R s m args below meth c H locs cells slots Q (F0 m (pc + 3) ls (.int v :: rest))) : W p l e R s m args below meth c H locs cells slots Q (F0 m pc ls (.ref (adr 0) :: rest)) := by subst hv; exact va_get (ci := 5) (C := RX5) (T := TX5) (N := 9) hx hb hts hin hown hK hP 0 rfl rfl 8 (by decide) hlink (fun _ h => h) rfl hdg kk
theorem fwp_0_8 {v : Int32} (hx : p.tables.exec = Jvm.exec) (hb : c.code = cc) (hts : ∀ w ∈ Ts, w.before args s = true) (hin : ∀ w ∈ wsX50, w ∈ Ts) (hown : s.vm.findClass own = some m.cls) (hK : va_K D vwCl (tyB cI cZ) s) (hP : va_P D vwCl (fw adr cI cZ u) H) (hD : va_D A (fw adr cI cZ u)) (hS : va_S A H0 H locs) (hlink : (Cond.fieldLink own index "FilmBench" "isKept" "Z").before args s = true) (hz : narrow .boolean (.int v) = .int v ∧ fits .boolean (.int v) = true) (hdg : decode cc pc = .ok (.putfield index, 3)) (kk : ∀ (H1 : Heap) (locs1 : List Loc), va_P D vwCl (fw adr cI cZ (si u 0 v)) H1 → va_S A H0 H1 locs1 → W p l e R s m args below meth c H1 locs1 cells slots Q (F0 m (pc + 3) ls rest)) : W p l e R s m args below meth c H locs cells slots Q (F0 m pc ls (.int v :: .ref (adr 0) :: rest)) := va_put (ci := 5) (v := .int v) (ty := .boolean) (C := RX5) (T := TX5) (N := 9) hx hb hts hin tyX5 tyX5_ok nmX5 hown hK hP hD hS 0 rfl rfl 8 (by decide) hlink (fun _ h => h) rfl (by decide +kernel) hz.1 hz.2 (Nat.le_of_ble_eq_true rfl) hdg (fun H1 locs1 hP _ hS => kk H1 locs1 hP hS)
theorem fwg_1_0 {v : Int32} (hx : p.tables.exec = Jvm.exec) (hb : c.code = cc) (hts : ∀ w ∈ Ts, w.before args s = true) (hin : ∀ w ∈ wsX10, w ∈ Ts) (hown : s.vm.findClass own = some m.cls) (hK : va_K D vwCl (tyB cI cZ) s) (hP : va_P D vwCl (fw adr cI cZ u) H) (hlink : (Cond.fieldLink own index "FilmBench$Reel" "high" "I").before args s = true) (hdg : decode cc pc = .ok (.getfield index, 3)) (hv : u.1 1 = v) (kk : W p l e R s m args below meth c H locs cells slots Q (F0 m (pc + 3) ls (.int v :: rest))) : W p l e R s m args below meth c H locs cells slots Q (F0 m pc ls (.ref (adr 1) :: rest)) := by subst hv; exact va_get (ci := 1) (C := RX1) (T := TX1) (N := 5) hx hb hts hin hown hK hP 1 rfl rfl 0 (by decide) hlink (fun _ h => h) rfl hdg kk
theorem fwp_1_0 {v : Int32} (hx : p.tables.exec = Jvm.exec) (hb : c.code = cc) (hts : ∀ w ∈ Ts, w.before args s = true) (hin : ∀ w ∈ wsX10, w ∈ Ts) (hown : s.vm.findClass own = some m.cls) (hK : va_K D vwCl (tyB cI cZ) s) (hP : va_P D vwCl (fw adr cI cZ u) H) (hD : va_D A (fw adr cI cZ u)) (hS : va_S A H0 H locs) (hlink : (Cond.fieldLink own index "FilmBench$Reel" "high" "I").before args s = true) (hdg : decode cc pc = .ok (.putfield index, 3)) (kk : ∀ (H1 : Heap) (locs1 : List Loc), va_P D vwCl (fw adr cI cZ (si u 1 v)) H1 → va_S A H0 H1 locs1 → W p l e R s m args below meth c H1 locs1 cells slots Q (F0 m (pc + 3) ls rest)) : W p l e R s m args below meth c H locs cells slots Q (F0 m pc ls (.int v :: .ref (adr 1) :: rest)) := va_put (ci := 1) (v := .int v) (ty := .int) (C := RX1) (T := TX1) (N := 5) hx hb hts hin tyX1 tyX1_ok nmX1 hown hK hP hD hS 1 rfl rfl 0 (by decide) hlink (fun _ h => h) rfl (by decide +kernel) rfl rfl (Nat.le_of_ble_eq_true rfl) hdg (fun H1 locs1 hP _ hS => kk H1 locs1 hP hS)
theorem fwg_1_1 {v : Int32} (hx : p.tables.exec = Jvm.exec) (hb : c.code = cc) (hts : ∀ w ∈ Ts, w.before args s = true) (hin : ∀ w ∈ wsX10, w ∈ Ts) (hown : s.vm.findClass own = some m.cls) (hK : va_K D vwCl (tyB cI cZ) s) (hP : va_P D vwCl (fw adr cI cZ u) H) (hlink : (Cond.fieldLink own index "FilmBench$Reel" "wide" "I").before args s = true) (hdg : decode cc pc = .ok (.getfield index, 3)) (hv : u.1 2 = v) (kk : W p l e R s m args below meth c H locs cells slots Q (F0 m (pc + 3) ls (.int v :: rest))) : W p l e R s m args below meth c H locs cells slots Q (F0 m pc ls (.ref (adr 1) :: rest)) := by subst hv; exact va_get (ci := 1) (C := RX1) (T := TX1) (N := 5) hx hb hts hin hown hK hP 1 rfl rfl 1 (by decide) hlink (fun _ h => h) rfl hdg kk
theorem fwp_1_1 {v : Int32} (hx : p.tables.exec = Jvm.exec) (hb : c.code = cc) (hts : ∀ w ∈ Ts, w.before args s = true) (hin : ∀ w ∈ wsX10, w ∈ Ts) (hown : s.vm.findClass own = some m.cls) (hK : va_K D vwCl (tyB cI cZ) s) (hP : va_P D vwCl (fw adr cI cZ u) H) (hD : va_D A (fw adr cI cZ u)) (hS : va_S A H0 H locs) (hlink : (Cond.fieldLink own index "FilmBench$Reel" "wide" "I").before args s = true) (hdg : decode cc pc = .ok (.putfield index, 3)) (kk : ∀ (H1 : Heap) (locs1 : List Loc), va_P D vwCl (fw adr cI cZ (si u 2 v)) H1 → va_S A H0 H1 locs1 → W p l e R s m args below meth c H1 locs1 cells slots Q (F0 m (pc + 3) ls rest)) : W p l e R s m args below meth c H locs cells slots Q (F0 m pc ls (.int v :: .ref (adr 1) :: rest)) := va_put (ci := 1) (v := .int v) (ty := .int) (C := RX1) (T := TX1) (N := 5) hx hb hts hin tyX1 tyX1_ok nmX1 hown hK hP hD hS 1 rfl rfl 1 (by decide) hlink (fun _ h => h) rfl (by decide +kernel) rfl rfl (Nat.le_of_ble_eq_true rfl) hdg (fun H1 locs1 hP _ hS => kk H1 locs1 hP hS)
theorem fwg_1_2 {v : Int32} (hx : p.tables.exec = Jvm.exec) (hb : c.code = cc) (hts : ∀ w ∈ Ts, w.before args s = true) (hin : ∀ w ∈ wsX10, w ∈ Ts) (hown : s.vm.findClass own = some m.cls) (hK : va_K D vwCl (tyB cI cZ) s) (hP : va_P D vwCl (fw adr cI cZ u) H) (hlink : (Cond.fieldLink own index "FilmBench$Reel" "squares" "I").before args s = true) (hdg : decode cc pc = .ok (.getfield index, 3)) (hv : u.1 3 = v) (kk : W p l e R s m args below meth c H locs cells slots Q (F0 m (pc + 3) ls (.int v :: rest))) : W p l e R s m args below meth c H locs cells slots Q (F0 m pc ls (.ref (adr 1) :: rest)) := by subst hv; exact va_get (ci := 1) (C := RX1) (T := TX1) (N := 5) hx hb hts hin hown hK hP 1 rfl rfl 2 (by decide) hlink (fun _ h => h) rfl hdg kk
theorem fwp_1_2 {v : Int32} (hx : p.tables.exec = Jvm.exec) (hb : c.code = cc) (hts : ∀ w ∈ Ts, w.before args s = true) (hin : ∀ w ∈ wsX10, w ∈ Ts) (hown : s.vm.findClass own = some m.cls) (hK : va_K D vwCl (tyB cI cZ) s) (hP : va_P D vwCl (fw adr cI cZ u) H) (hD : va_D A (fw adr cI cZ u)) (hS : va_S A H0 H locs) (hlink : (Cond.fieldLink own index "FilmBench$Reel" "squares" "I").before args s = true) (hdg : decode cc pc = .ok (.putfield index, 3)) (kk : ∀ (H1 : Heap) (locs1 : List Loc), va_P D vwCl (fw adr cI cZ (si u 3 v)) H1 → va_S A H0 H1 locs1 → W p l e R s m args below meth c H1 locs1 cells slots Q (F0 m (pc + 3) ls rest)) : W p l e R s m args below meth c H locs cells slots Q (F0 m pc ls (.int v :: .ref (adr 1) :: rest)) := va_put (ci := 1) (v := .int v) (ty := .int) (C := RX1) (T := TX1) (N := 5) hx hb hts hin tyX1 tyX1_ok nmX1 hown hK hP hD hS 1 rfl rfl 2 (by decide) hlink (fun _ h => h) rfl (by decide +kernel) rfl rfl (Nat.le_of_ble_eq_true rfl) hdg (fun H1 locs1 hP _ hS => kk H1 locs1 hP hS)
theorem fwg_1_3 {v : Int32} (hx : p.tables.exec = Jvm.exec) (hb : c.code = cc) (hts : ∀ w ∈ Ts, w.before args s = true) (hin : ∀ w ∈ wsX10, w ∈ Ts) (hown : s.vm.findClass own = some m.cls) (hK : va_K D vwCl (tyB cI cZ) s) (hP : va_P D vwCl (fw adr cI cZ u) H) (hlink : (Cond.fieldLink own index "FilmBench$Reel" "frames" "I").before args s = true) (hdg : decode cc pc = .ok (.getfield index, 3)) (hv : u.1 4 = v) (kk : W p l e R s m args below meth c H locs cells slots Q (F0 m (pc + 3) ls (.int v :: rest))) : W p l e R s m args below meth c H locs cells slots Q (F0 m pc ls (.ref (adr 1) :: rest)) := by subst hv; exact va_get (ci := 1) (C := RX1) (T := TX1) (N := 5) hx hb hts hin hown hK hP 1 rfl rfl 3 (by decide) hlink (fun _ h => h) rfl hdg kk
theorem fwp_1_3 {v : Int32} (hx : p.tables.exec = Jvm.exec) (hb : c.code = cc) (hts : ∀ w ∈ Ts, w.before args s = true) (hin : ∀ w ∈ wsX10, w ∈ Ts) (hown : s.vm.findClass own = some m.cls) (hK : va_K D vwCl (tyB cI cZ) s) (hP : va_P D vwCl (fw adr cI cZ u) H) (hD : va_D A (fw adr cI cZ u)) (hS : va_S A H0 H locs) (hlink : (Cond.fieldLink own index "FilmBench$Reel" "frames" "I").before args s = true) (hdg : decode cc pc = .ok (.putfield index, 3)) (kk : ∀ (H1 : Heap) (locs1 : List Loc), va_P D vwCl (fw adr cI cZ (si u 4 v)) H1 → va_S A H0 H1 locs1 → W p l e R s m args below meth c H1 locs1 cells slots Q (F0 m (pc + 3) ls rest)) : W p l e R s m args below meth c H locs cells slots Q (F0 m pc ls (.int v :: .ref (adr 1) :: rest)) := va_put (ci := 1) (v := .int v) (ty := .int) (C := RX1) (T := TX1) (N := 5) hx hb hts hin tyX1 tyX1_ok nmX1 hown hK hP hD hS 1 rfl rfl 3 (by decide) hlink (fun _ h => h) rfl (by decide +kernel) rfl rfl (Nat.le_of_ble_eq_true rfl) hdg (fun H1 locs1 hP _ hS => kk H1 locs1 hP hS)
theorem fwg_1_4 (hx : p.tables.exec = Jvm.exec) (hb : c.code = cc) (hts : ∀ w ∈ Ts, w.before args s = true) (hin : ∀ w ∈ wsX10, w ∈ Ts) (hown : s.vm.findClass own = some m.cls) (hK : va_K D vwCl (tyB cI cZ) s) (hP : va_P D vwCl (fw adr cI cZ u) H) (hlink : (Cond.fieldLink own index "FilmBench$Reel" "greys" "[I").before args s = true) (hdg : decode cc pc = .ok (.getfield index, 3)) (kk : W p l e R s m args below meth c H locs cells slots Q (F0 m (pc + 3) ls (.ref (adr 2) :: rest))) : W p l e R s m args below meth c H locs cells slots Q (F0 m pc ls (.ref (adr 1) :: rest)) := va_get (ci := 1) (C := RX1) (T := TX1) (N := 5) hx hb hts hin hown hK hP 1 rfl rfl 4 (by decide) hlink (fun _ h => h) rfl hdg kk
theorem fwl_2 {i v : Int32} (hx : p.tables.exec = Jvm.exec) (hb : c.code = cc) (hK : va_K D vwCl (tyB cI cZ) s) (hP : va_P D vwCl (fw adr cI cZ u) H) (hin : vp_in i 360) (hdg : decode cc pc = .ok (.iaload, 1)) (hv : u.2 2 i.toNatClampNeg = v) (kk : W p l e R s m args below meth c H locs cells slots Q (F0 m (pc + 1) ls (.int v :: rest))) : W p l e R s m args below meth c H locs cells slots Q (F0 m pc ls (.int i :: .ref (adr 2) :: rest)) := by subst hv; exact va_iald hx hb hK hP 2 0 rfl rfl hin hdg kk
theorem fws_2 {i x : Int32} (hx : p.tables.exec = Jvm.exec) (hb : c.code = cc) (hK : va_K D vwCl (tyB cI cZ) s) (hP : va_P D vwCl (fw adr cI cZ u) H) (hD : va_D A (fw adr cI cZ u)) (hS : va_S A H0 H locs) (hin : vp_in i 360) (hdg : decode cc pc = .ok (.iastore, 1)) (kk : ∀ (H1 : Heap) (locs1 : List Loc), va_P D vwCl (fw adr cI cZ (sA u 2 (upd (u.2 2) i.toNatClampNeg x))) H1 → va_S A H0 H1 locs1 → W p l e R s m args below meth c H1 locs1 cells slots Q (F0 m (pc + 1) ls rest)) : W p l e R s m args below meth c H locs cells slots Q (F0 m pc ls (.int x :: .int i :: .ref (adr 2) :: rest)) := va_iast hx hb hK hP hD hS 2 0 rfl rfl hin hdg (fun H1 locs1 hP _ hS => kk H1 locs1 hP hS)
theorem fwg_3_0 {v : Int32} (hx : p.tables.exec = Jvm.exec) (hb : c.code = cc) (hts : ∀ w ∈ Ts, w.before args s = true) (hin : ∀ w ∈ wsX00, w ∈ Ts) (hown : s.vm.findClass own = some m.cls) (hK : va_K D vwCl (tyB cI cZ) s) (hP : va_P D vwCl (fw adr cI cZ u) H) (hlink : (Cond.fieldLink own index "FilmBench$Layers" "count" "I").before args s = true) (hdg : decode cc pc = .ok (.getfield index, 3)) (hv : u.1 5 = v) (kk : W p l e R s m args below meth c H locs cells slots Q (F0 m (pc + 3) ls (.int v :: rest))) : W p l e R s m args below meth c H locs cells slots Q (F0 m pc ls (.ref (adr 3) :: rest)) := by subst hv; exact va_get (ci := 0) (C := RX0) (T := TX0) (N := 6) hx hb hts hin hown hK hP 3 rfl rfl 0 (by decide) hlink (fun _ h => h) rfl hdg kk
theorem fwp_3_0 {v : Int32} (hx : p.tables.exec = Jvm.exec) (hb : c.code = cc) (hts : ∀ w ∈ Ts, w.before args s = true) (hin : ∀ w ∈ wsX00, w ∈ Ts) (hown : s.vm.findClass own = some m.cls) (hK : va_K D vwCl (tyB cI cZ) s) (hP : va_P D vwCl (fw adr cI cZ u) H) (hD : va_D A (fw adr cI cZ u)) (hS : va_S A H0 H locs) (hlink : (Cond.fieldLink own index "FilmBench$Layers" "count" "I").before args s = true) (hdg : decode cc pc = .ok (.putfield index, 3)) (kk : ∀ (H1 : Heap) (locs1 : List Loc), va_P D vwCl (fw adr cI cZ (si u 5 v)) H1 → va_S A H0 H1 locs1 → W p l e R s m args below meth c H1 locs1 cells slots Q (F0 m (pc + 3) ls rest)) : W p l e R s m args below meth c H locs cells slots Q (F0 m pc ls (.int v :: .ref (adr 3) :: rest)) := va_put (ci := 0) (v := .int v) (ty := .int) (C := RX0) (T := TX0) (N := 6) hx hb hts hin tyX0 tyX0_ok nmX0 hown hK hP hD hS 3 rfl rfl 0 (by decide) hlink (fun _ h => h) rfl (by decide +kernel) rfl rfl (Nat.le_of_ble_eq_true rfl) hdg (fun H1 locs1 hP _ hS => kk H1 locs1 hP hS)
theorem fwg_3_1 (hx : p.tables.exec = Jvm.exec) (hb : c.code = cc) (hts : ∀ w ∈ Ts, w.before args s = true) (hin : ∀ w ∈ wsX00, w ∈ Ts) (hown : s.vm.findClass own = some m.cls) (hK : va_K D vwCl (tyB cI cZ) s) (hP : va_P D vwCl (fw adr cI cZ u) H) (hlink : (Cond.fieldLink own index "FilmBench$Layers" "kinds" "[I").before args s = true) (hdg : decode cc pc = .ok (.getfield index, 3)) (kk : W p l e R s m args below meth c H locs cells slots Q (F0 m (pc + 3) ls (.ref (adr 4) :: rest))) : W p l e R s m args below meth c H locs cells slots Q (F0 m pc ls (.ref (adr 3) :: rest)) := va_get (ci := 0) (C := RX0) (T := TX0) (N := 6) hx hb hts hin hown hK hP 3 rfl rfl 1 (by decide) hlink (fun _ h => h) rfl hdg kk
theorem fwg_3_2 (hx : p.tables.exec = Jvm.exec) (hb : c.code = cc) (hts : ∀ w ∈ Ts, w.before args s = true) (hin : ∀ w ∈ wsX00, w ∈ Ts) (hown : s.vm.findClass own = some m.cls) (hK : va_K D vwCl (tyB cI cZ) s) (hP : va_P D vwCl (fw adr cI cZ u) H) (hlink : (Cond.fieldLink own index "FilmBench$Layers" "owners" "[I").before args s = true) (hdg : decode cc pc = .ok (.getfield index, 3)) (kk : W p l e R s m args below meth c H locs cells slots Q (F0 m (pc + 3) ls (.ref (adr 5) :: rest))) : W p l e R s m args below meth c H locs cells slots Q (F0 m pc ls (.ref (adr 3) :: rest)) := va_get (ci := 0) (C := RX0) (T := TX0) (N := 6) hx hb hts hin hown hK hP 3 rfl rfl 2 (by decide) hlink (fun _ h => h) rfl hdg kk
theorem fwg_3_3 (hx : p.tables.exec = Jvm.exec) (hb : c.code = cc) (hts : ∀ w ∈ Ts, w.before args s = true) (hin : ∀ w ∈ wsX00, w ∈ Ts) (hown : s.vm.findClass own = some m.cls) (hK : va_K D vwCl (tyB cI cZ) s) (hP : va_P D vwCl (fw adr cI cZ u) H) (hlink : (Cond.fieldLink own index "FilmBench$Layers" "as" "[I").before args s = true) (hdg : decode cc pc = .ok (.getfield index, 3)) (kk : W p l e R s m args below meth c H locs cells slots Q (F0 m (pc + 3) ls (.ref (adr 6) :: rest))) : W p l e R s m args below meth c H locs cells slots Q (F0 m pc ls (.ref (adr 3) :: rest)) := va_get (ci := 0) (C := RX0) (T := TX0) (N := 6) hx hb hts hin hown hK hP 3 rfl rfl 3 (by decide) hlink (fun _ h => h) rfl hdg kk
theorem fwg_3_4 (hx : p.tables.exec = Jvm.exec) (hb : c.code = cc) (hts : ∀ w ∈ Ts, w.before args s = true) (hin : ∀ w ∈ wsX00, w ∈ Ts) (hown : s.vm.findClass own = some m.cls) (hK : va_K D vwCl (tyB cI cZ) s) (hP : va_P D vwCl (fw adr cI cZ u) H) (hlink : (Cond.fieldLink own index "FilmBench$Layers" "bs" "[I").before args s = true) (hdg : decode cc pc = .ok (.getfield index, 3)) (kk : W p l e R s m args below meth c H locs cells slots Q (F0 m (pc + 3) ls (.ref (adr 7) :: rest))) : W p l e R s m args below meth c H locs cells slots Q (F0 m pc ls (.ref (adr 3) :: rest)) := va_get (ci := 0) (C := RX0) (T := TX0) (N := 6) hx hb hts hin hown hK hP 3 rfl rfl 4 (by decide) hlink (fun _ h => h) rfl hdg kk
theorem fwg_3_5 (hx : p.tables.exec = Jvm.exec) (hb : c.code = cc) (hts : ∀ w ∈ Ts, w.before args s = true) (hin : ∀ w ∈ wsX00, w ∈ Ts) (hown : s.vm.findClass own = some m.cls) (hK : va_K D vwCl (tyB cI cZ) s) (hP : va_P D vwCl (fw adr cI cZ u) H) (hlink : (Cond.fieldLink own index "FilmBench$Layers" "ons" "[Z").before args s = true) (hdg : decode cc pc = .ok (.getfield index, 3)) (kk : W p l e R s m args below meth c H locs cells slots Q (F0 m (pc + 3) ls (.ref (adr 8) :: rest))) : W p l e R s m args below meth c H locs cells slots Q (F0 m pc ls (.ref (adr 3) :: rest)) := va_get (ci := 0) (C := RX0) (T := TX0) (N := 6) hx hb hts hin hown hK hP 3 rfl rfl 5 (by decide) hlink (fun _ h => h) rfl hdg kk
theorem fwl_4 {i v : Int32} (hx : p.tables.exec = Jvm.exec) (hb : c.code = cc) (hK : va_K D vwCl (tyB cI cZ) s) (hP : va_P D vwCl (fw adr cI cZ u) H) (hin : vp_in i 12) (hdg : decode cc pc = .ok (.iaload, 1)) (hv : u.2 4 i.toNatClampNeg = v) (kk : W p l e R s m args below meth c H locs cells slots Q (F0 m (pc + 1) ls (.int v :: rest))) : W p l e R s m args below meth c H locs cells slots Q (F0 m pc ls (.int i :: .ref (adr 4) :: rest)) := by subst hv; exact va_iald hx hb hK hP 4 0 rfl rfl hin hdg kk
theorem fws_4 {i x : Int32} (hx : p.tables.exec = Jvm.exec) (hb : c.code = cc) (hK : va_K D vwCl (tyB cI cZ) s) (hP : va_P D vwCl (fw adr cI cZ u) H) (hD : va_D A (fw adr cI cZ u)) (hS : va_S A H0 H locs) (hin : vp_in i 12) (hdg : decode cc pc = .ok (.iastore, 1)) (kk : ∀ (H1 : Heap) (locs1 : List Loc), va_P D vwCl (fw adr cI cZ (sA u 4 (upd (u.2 4) i.toNatClampNeg x))) H1 → va_S A H0 H1 locs1 → W p l e R s m args below meth c H1 locs1 cells slots Q (F0 m (pc + 1) ls rest)) : W p l e R s m args below meth c H locs cells slots Q (F0 m pc ls (.int x :: .int i :: .ref (adr 4) :: rest)) := va_iast hx hb hK hP hD hS 4 0 rfl rfl hin hdg (fun H1 locs1 hP _ hS => kk H1 locs1 hP hS)
theorem fwl_5 {i v : Int32} (hx : p.tables.exec = Jvm.exec) (hb : c.code = cc) (hK : va_K D vwCl (tyB cI cZ) s) (hP : va_P D vwCl (fw adr cI cZ u) H) (hin : vp_in i 12) (hdg : decode cc pc = .ok (.iaload, 1)) (hv : u.2 5 i.toNatClampNeg = v) (kk : W p l e R s m args below meth c H locs cells slots Q (F0 m (pc + 1) ls (.int v :: rest))) : W p l e R s m args below meth c H locs cells slots Q (F0 m pc ls (.int i :: .ref (adr 5) :: rest)) := by subst hv; exact va_iald hx hb hK hP 5 0 rfl rfl hin hdg kk
theorem fws_5 {i x : Int32} (hx : p.tables.exec = Jvm.exec) (hb : c.code = cc) (hK : va_K D vwCl (tyB cI cZ) s) (hP : va_P D vwCl (fw adr cI cZ u) H) (hD : va_D A (fw adr cI cZ u)) (hS : va_S A H0 H locs) (hin : vp_in i 12) (hdg : decode cc pc = .ok (.iastore, 1)) (kk : ∀ (H1 : Heap) (locs1 : List Loc), va_P D vwCl (fw adr cI cZ (sA u 5 (upd (u.2 5) i.toNatClampNeg x))) H1 → va_S A H0 H1 locs1 → W p l e R s m args below meth c H1 locs1 cells slots Q (F0 m (pc + 1) ls rest)) : W p l e R s m args below meth c H locs cells slots Q (F0 m pc ls (.int x :: .int i :: .ref (adr 5) :: rest)) := va_iast hx hb hK hP hD hS 5 0 rfl rfl hin hdg (fun H1 locs1 hP _ hS => kk H1 locs1 hP hS)
theorem fwl_6 {i v : Int32} (hx : p.tables.exec = Jvm.exec) (hb : c.code = cc) (hK : va_K D vwCl (tyB cI cZ) s) (hP : va_P D vwCl (fw adr cI cZ u) H) (hin : vp_in i 12) (hdg : decode cc pc = .ok (.iaload, 1)) (hv : u.2 6 i.toNatClampNeg = v) (kk : W p l e R s m args below meth c H locs cells slots Q (F0 m (pc + 1) ls (.int v :: rest))) : W p l e R s m args below meth c H locs cells slots Q (F0 m pc ls (.int i :: .ref (adr 6) :: rest)) := by subst hv; exact va_iald hx hb hK hP 6 0 rfl rfl hin hdg kk
theorem fws_6 {i x : Int32} (hx : p.tables.exec = Jvm.exec) (hb : c.code = cc) (hK : va_K D vwCl (tyB cI cZ) s) (hP : va_P D vwCl (fw adr cI cZ u) H) (hD : va_D A (fw adr cI cZ u)) (hS : va_S A H0 H locs) (hin : vp_in i 12) (hdg : decode cc pc = .ok (.iastore, 1)) (kk : ∀ (H1 : Heap) (locs1 : List Loc), va_P D vwCl (fw adr cI cZ (sA u 6 (upd (u.2 6) i.toNatClampNeg x))) H1 → va_S A H0 H1 locs1 → W p l e R s m args below meth c H1 locs1 cells slots Q (F0 m (pc + 1) ls rest)) : W p l e R s m args below meth c H locs cells slots Q (F0 m pc ls (.int x :: .int i :: .ref (adr 6) :: rest)) := va_iast hx hb hK hP hD hS 6 0 rfl rfl hin hdg (fun H1 locs1 hP _ hS => kk H1 locs1 hP hS)
theorem fwl_7 {i v : Int32} (hx : p.tables.exec = Jvm.exec) (hb : c.code = cc) (hK : va_K D vwCl (tyB cI cZ) s) (hP : va_P D vwCl (fw adr cI cZ u) H) (hin : vp_in i 12) (hdg : decode cc pc = .ok (.iaload, 1)) (hv : u.2 7 i.toNatClampNeg = v) (kk : W p l e R s m args below meth c H locs cells slots Q (F0 m (pc + 1) ls (.int v :: rest))) : W p l e R s m args below meth c H locs cells slots Q (F0 m pc ls (.int i :: .ref (adr 7) :: rest)) := by subst hv; exact va_iald hx hb hK hP 7 0 rfl rfl hin hdg kk
theorem fws_7 {i x : Int32} (hx : p.tables.exec = Jvm.exec) (hb : c.code = cc) (hK : va_K D vwCl (tyB cI cZ) s) (hP : va_P D vwCl (fw adr cI cZ u) H) (hD : va_D A (fw adr cI cZ u)) (hS : va_S A H0 H locs) (hin : vp_in i 12) (hdg : decode cc pc = .ok (.iastore, 1)) (kk : ∀ (H1 : Heap) (locs1 : List Loc), va_P D vwCl (fw adr cI cZ (sA u 7 (upd (u.2 7) i.toNatClampNeg x))) H1 → va_S A H0 H1 locs1 → W p l e R s m args below meth c H1 locs1 cells slots Q (F0 m (pc + 1) ls rest)) : W p l e R s m args below meth c H locs cells slots Q (F0 m pc ls (.int x :: .int i :: .ref (adr 7) :: rest)) := va_iast hx hb hK hP hD hS 7 0 rfl rfl hin hdg (fun H1 locs1 hP _ hS => kk H1 locs1 hP hS)
theorem fwl_8 {i v : Int32} (hx : p.tables.exec = Jvm.exec) (hb : c.code = cc) (hK : va_K D vwCl (tyB cI cZ) s) (hP : va_P D vwCl (fw adr cI cZ u) H) (hin : vp_in i 12) (hdg : decode cc pc = .ok (.baload, 1)) (hv : u.2 8 i.toNatClampNeg = v) (kk : W p l e R s m args below meth c H locs cells slots Q (F0 m (pc + 1) ls (.int v :: rest))) : W p l e R s m args below meth c H locs cells slots Q (F0 m pc ls (.int i :: .ref (adr 8) :: rest)) := by subst hv; exact va_zald hx hb hK hP 8 1 rfl rfl hin hdg kk
theorem fws_8 {i x : Int32} (hx : p.tables.exec = Jvm.exec) (hb : c.code = cc) (hK : va_K D vwCl (tyB cI cZ) s) (hP : va_P D vwCl (fw adr cI cZ u) H) (hD : va_D A (fw adr cI cZ u)) (hS : va_S A H0 H locs) (hin : vp_in i 12) (hdg : decode cc pc = .ok (.bastore, 1)) (kk : ∀ (H1 : Heap) (locs1 : List Loc), va_P D vwCl (fw adr cI cZ (sA u 8 (upd (u.2 8) i.toNatClampNeg (vp_nar .boolean x)))) H1 → va_S A H0 H1 locs1 → W p l e R s m args below meth c H1 locs1 cells slots Q (F0 m (pc + 1) ls rest)) : W p l e R s m args below meth c H locs cells slots Q (F0 m pc ls (.int x :: .int i :: .ref (adr 8) :: rest)) := va_zast hx hb hK hP hD hS 8 1 rfl rfl hin hdg (fun H1 locs1 hP _ hS => kk H1 locs1 hP hS)
theorem fwl_9 {i v : Int32} (hx : p.tables.exec = Jvm.exec) (hb : c.code = cc) (hK : va_K D vwCl (tyB cI cZ) s) (hP : va_P D vwCl (fw adr cI cZ u) H) (hin : vp_in i 3) (hdg : decode cc pc = .ok (.iaload, 1)) (hv : u.2 9 i.toNatClampNeg = v) (kk : W p l e R s m args below meth c H locs cells slots Q (F0 m (pc + 1) ls (.int v :: rest))) : W p l e R s m args below meth c H locs cells slots Q (F0 m pc ls (.int i :: .ref (adr 9) :: rest)) := by subst hv; exact va_iald hx hb hK hP 9 0 rfl rfl hin hdg kk
theorem fws_9 {i x : Int32} (hx : p.tables.exec = Jvm.exec) (hb : c.code = cc) (hK : va_K D vwCl (tyB cI cZ) s) (hP : va_P D vwCl (fw adr cI cZ u) H) (hD : va_D A (fw adr cI cZ u)) (hS : va_S A H0 H locs) (hin : vp_in i 3) (hdg : decode cc pc = .ok (.iastore, 1)) (kk : ∀ (H1 : Heap) (locs1 : List Loc), va_P D vwCl (fw adr cI cZ (sA u 9 (upd (u.2 9) i.toNatClampNeg x))) H1 → va_S A H0 H1 locs1 → W p l e R s m args below meth c H1 locs1 cells slots Q (F0 m (pc + 1) ls rest)) : W p l e R s m args below meth c H locs cells slots Q (F0 m pc ls (.int x :: .int i :: .ref (adr 9) :: rest)) := va_iast hx hb hK hP hD hS 9 0 rfl rfl hin hdg (fun H1 locs1 hP _ hS => kk H1 locs1 hP hS)
theorem fwg_10_0 (hx : p.tables.exec = Jvm.exec) (hb : c.code = cc) (hts : ∀ w ∈ Ts, w.before args s = true) (hin : ∀ w ∈ wsX30, w ∈ Ts) (hown : s.vm.findClass own = some m.cls) (hK : va_K D vwCl (tyB cI cZ) s) (hP : va_P D vwCl (fw adr cI cZ u) H) (hlink : (Cond.fieldLink own index "FilmBench$Shifts" "film" "LFilmBench$Reel;").before args s = true) (hdg : decode cc pc = .ok (.getfield index, 3)) (kk : W p l e R s m args below meth c H locs cells slots Q (F0 m (pc + 3) ls (.ref (adr 1) :: rest))) : W p l e R s m args below meth c H locs cells slots Q (F0 m pc ls (.ref (adr 10) :: rest)) := va_get (ci := 3) (C := RX3) (T := TX3) (N := 7) hx hb hts hin hown hK hP 10 rfl rfl 0 (by decide) hlink (fun _ h => h) rfl hdg kk
theorem fwg_10_1 {v : Int32} (hx : p.tables.exec = Jvm.exec) (hb : c.code = cc) (hts : ∀ w ∈ Ts, w.before args s = true) (hin : ∀ w ∈ wsX30, w ∈ Ts) (hown : s.vm.findClass own = some m.cls) (hK : va_K D vwCl (tyB cI cZ) s) (hP : va_P D vwCl (fw adr cI cZ u) H) (hlink : (Cond.fieldLink own index "FilmBench$Shifts" "sum" "I").before args s = true) (hdg : decode cc pc = .ok (.getfield index, 3)) (hv : u.1 6 = v) (kk : W p l e R s m args below meth c H locs cells slots Q (F0 m (pc + 3) ls (.int v :: rest))) : W p l e R s m args below meth c H locs cells slots Q (F0 m pc ls (.ref (adr 10) :: rest)) := by subst hv; exact va_get (ci := 3) (C := RX3) (T := TX3) (N := 7) hx hb hts hin hown hK hP 10 rfl rfl 1 (by decide) hlink (fun _ h => h) rfl hdg kk
theorem fwp_10_1 {v : Int32} (hx : p.tables.exec = Jvm.exec) (hb : c.code = cc) (hts : ∀ w ∈ Ts, w.before args s = true) (hin : ∀ w ∈ wsX30, w ∈ Ts) (hown : s.vm.findClass own = some m.cls) (hK : va_K D vwCl (tyB cI cZ) s) (hP : va_P D vwCl (fw adr cI cZ u) H) (hD : va_D A (fw adr cI cZ u)) (hS : va_S A H0 H locs) (hlink : (Cond.fieldLink own index "FilmBench$Shifts" "sum" "I").before args s = true) (hdg : decode cc pc = .ok (.putfield index, 3)) (kk : ∀ (H1 : Heap) (locs1 : List Loc), va_P D vwCl (fw adr cI cZ (si u 6 v)) H1 → va_S A H0 H1 locs1 → W p l e R s m args below meth c H1 locs1 cells slots Q (F0 m (pc + 3) ls rest)) : W p l e R s m args below meth c H locs cells slots Q (F0 m pc ls (.int v :: .ref (adr 10) :: rest)) := va_put (ci := 3) (v := .int v) (ty := .int) (C := RX3) (T := TX3) (N := 7) hx hb hts hin tyX3 tyX3_ok nmX3 hown hK hP hD hS 10 rfl rfl 1 (by decide) hlink (fun _ h => h) rfl (by decide +kernel) rfl rfl (Nat.le_of_ble_eq_true rfl) hdg (fun H1 locs1 hP _ hS => kk H1 locs1 hP hS)
theorem fwg_10_2 {v : Int32} (hx : p.tables.exec = Jvm.exec) (hb : c.code = cc) (hts : ∀ w ∈ Ts, w.before args s = true) (hin : ∀ w ∈ wsX30, w ∈ Ts) (hown : s.vm.findClass own = some m.cls) (hK : va_K D vwCl (tyB cI cZ) s) (hP : va_P D vwCl (fw adr cI cZ u) H) (hlink : (Cond.fieldLink own index "FilmBench$Shifts" "pairs" "I").before args s = true) (hdg : decode cc pc = .ok (.getfield index, 3)) (hv : u.1 7 = v) (kk : W p l e R s m args below meth c H locs cells slots Q (F0 m (pc + 3) ls (.int v :: rest))) : W p l e R s m args below meth c H locs cells slots Q (F0 m pc ls (.ref (adr 10) :: rest)) := by subst hv; exact va_get (ci := 3) (C := RX3) (T := TX3) (N := 7) hx hb hts hin hown hK hP 10 rfl rfl 2 (by decide) hlink (fun _ h => h) rfl hdg kk
theorem fwp_10_2 {v : Int32} (hx : p.tables.exec = Jvm.exec) (hb : c.code = cc) (hts : ∀ w ∈ Ts, w.before args s = true) (hin : ∀ w ∈ wsX30, w ∈ Ts) (hown : s.vm.findClass own = some m.cls) (hK : va_K D vwCl (tyB cI cZ) s) (hP : va_P D vwCl (fw adr cI cZ u) H) (hD : va_D A (fw adr cI cZ u)) (hS : va_S A H0 H locs) (hlink : (Cond.fieldLink own index "FilmBench$Shifts" "pairs" "I").before args s = true) (hdg : decode cc pc = .ok (.putfield index, 3)) (kk : ∀ (H1 : Heap) (locs1 : List Loc), va_P D vwCl (fw adr cI cZ (si u 7 v)) H1 → va_S A H0 H1 locs1 → W p l e R s m args below meth c H1 locs1 cells slots Q (F0 m (pc + 3) ls rest)) : W p l e R s m args below meth c H locs cells slots Q (F0 m pc ls (.int v :: .ref (adr 10) :: rest)) := va_put (ci := 3) (v := .int v) (ty := .int) (C := RX3) (T := TX3) (N := 7) hx hb hts hin tyX3 tyX3_ok nmX3 hown hK hP hD hS 10 rfl rfl 2 (by decide) hlink (fun _ h => h) rfl (by decide +kernel) rfl rfl (Nat.le_of_ble_eq_true rfl) hdg (fun H1 locs1 hP _ hS => kk H1 locs1 hP hS)
theorem fwg_10_3 {v : Int32} (hx : p.tables.exec = Jvm.exec) (hb : c.code = cc) (hts : ∀ w ∈ Ts, w.before args s = true) (hin : ∀ w ∈ wsX30, w ∈ Ts) (hown : s.vm.findClass own = some m.cls) (hK : va_K D vwCl (tyB cI cZ) s) (hP : va_P D vwCl (fw adr cI cZ u) H) (hlink : (Cond.fieldLink own index "FilmBench$Shifts" "bestX" "I").before args s = true) (hdg : decode cc pc = .ok (.getfield index, 3)) (hv : u.1 8 = v) (kk : W p l e R s m args below meth c H locs cells slots Q (F0 m (pc + 3) ls (.int v :: rest))) : W p l e R s m args below meth c H locs cells slots Q (F0 m pc ls (.ref (adr 10) :: rest)) := by subst hv; exact va_get (ci := 3) (C := RX3) (T := TX3) (N := 7) hx hb hts hin hown hK hP 10 rfl rfl 3 (by decide) hlink (fun _ h => h) rfl hdg kk
theorem fwp_10_3 {v : Int32} (hx : p.tables.exec = Jvm.exec) (hb : c.code = cc) (hts : ∀ w ∈ Ts, w.before args s = true) (hin : ∀ w ∈ wsX30, w ∈ Ts) (hown : s.vm.findClass own = some m.cls) (hK : va_K D vwCl (tyB cI cZ) s) (hP : va_P D vwCl (fw adr cI cZ u) H) (hD : va_D A (fw adr cI cZ u)) (hS : va_S A H0 H locs) (hlink : (Cond.fieldLink own index "FilmBench$Shifts" "bestX" "I").before args s = true) (hdg : decode cc pc = .ok (.putfield index, 3)) (kk : ∀ (H1 : Heap) (locs1 : List Loc), va_P D vwCl (fw adr cI cZ (si u 8 v)) H1 → va_S A H0 H1 locs1 → W p l e R s m args below meth c H1 locs1 cells slots Q (F0 m (pc + 3) ls rest)) : W p l e R s m args below meth c H locs cells slots Q (F0 m pc ls (.int v :: .ref (adr 10) :: rest)) := va_put (ci := 3) (v := .int v) (ty := .int) (C := RX3) (T := TX3) (N := 7) hx hb hts hin tyX3 tyX3_ok nmX3 hown hK hP hD hS 10 rfl rfl 3 (by decide) hlink (fun _ h => h) rfl (by decide +kernel) rfl rfl (Nat.le_of_ble_eq_true rfl) hdg (fun H1 locs1 hP _ hS => kk H1 locs1 hP hS)
theorem fwg_10_4 {v : Int32} (hx : p.tables.exec = Jvm.exec) (hb : c.code = cc) (hts : ∀ w ∈ Ts, w.before args s = true) (hin : ∀ w ∈ wsX30, w ∈ Ts) (hown : s.vm.findClass own = some m.cls) (hK : va_K D vwCl (tyB cI cZ) s) (hP : va_P D vwCl (fw adr cI cZ u) H) (hlink : (Cond.fieldLink own index "FilmBench$Shifts" "bestY" "I").before args s = true) (hdg : decode cc pc = .ok (.getfield index, 3)) (hv : u.1 9 = v) (kk : W p l e R s m args below meth c H locs cells slots Q (F0 m (pc + 3) ls (.int v :: rest))) : W p l e R s m args below meth c H locs cells slots Q (F0 m pc ls (.ref (adr 10) :: rest)) := by subst hv; exact va_get (ci := 3) (C := RX3) (T := TX3) (N := 7) hx hb hts hin hown hK hP 10 rfl rfl 4 (by decide) hlink (fun _ h => h) rfl hdg kk
theorem fwp_10_4 {v : Int32} (hx : p.tables.exec = Jvm.exec) (hb : c.code = cc) (hts : ∀ w ∈ Ts, w.before args s = true) (hin : ∀ w ∈ wsX30, w ∈ Ts) (hown : s.vm.findClass own = some m.cls) (hK : va_K D vwCl (tyB cI cZ) s) (hP : va_P D vwCl (fw adr cI cZ u) H) (hD : va_D A (fw adr cI cZ u)) (hS : va_S A H0 H locs) (hlink : (Cond.fieldLink own index "FilmBench$Shifts" "bestY" "I").before args s = true) (hdg : decode cc pc = .ok (.putfield index, 3)) (kk : ∀ (H1 : Heap) (locs1 : List Loc), va_P D vwCl (fw adr cI cZ (si u 9 v)) H1 → va_S A H0 H1 locs1 → W p l e R s m args below meth c H1 locs1 cells slots Q (F0 m (pc + 3) ls rest)) : W p l e R s m args below meth c H locs cells slots Q (F0 m pc ls (.int v :: .ref (adr 10) :: rest)) := va_put (ci := 3) (v := .int v) (ty := .int) (C := RX3) (T := TX3) (N := 7) hx hb hts hin tyX3 tyX3_ok nmX3 hown hK hP hD hS 10 rfl rfl 4 (by decide) hlink (fun _ h => h) rfl (by decide +kernel) rfl rfl (Nat.le_of_ble_eq_true rfl) hdg (fun H1 locs1 hP _ hS => kk H1 locs1 hP hS)
theorem fwg_10_5 {v : Int32} (hx : p.tables.exec = Jvm.exec) (hb : c.code = cc) (hts : ∀ w ∈ Ts, w.before args s = true) (hin : ∀ w ∈ wsX30, w ∈ Ts) (hown : s.vm.findClass own = some m.cls) (hK : va_K D vwCl (tyB cI cZ) s) (hP : va_P D vwCl (fw adr cI cZ u) H) (hlink : (Cond.fieldLink own index "FilmBench$Shifts" "bestSum" "I").before args s = true) (hdg : decode cc pc = .ok (.getfield index, 3)) (hv : u.1 10 = v) (kk : W p l e R s m args below meth c H locs cells slots Q (F0 m (pc + 3) ls (.int v :: rest))) : W p l e R s m args below meth c H locs cells slots Q (F0 m pc ls (.ref (adr 10) :: rest)) := by subst hv; exact va_get (ci := 3) (C := RX3) (T := TX3) (N := 7) hx hb hts hin hown hK hP 10 rfl rfl 5 (by decide) hlink (fun _ h => h) rfl hdg kk
theorem fwp_10_5 {v : Int32} (hx : p.tables.exec = Jvm.exec) (hb : c.code = cc) (hts : ∀ w ∈ Ts, w.before args s = true) (hin : ∀ w ∈ wsX30, w ∈ Ts) (hown : s.vm.findClass own = some m.cls) (hK : va_K D vwCl (tyB cI cZ) s) (hP : va_P D vwCl (fw adr cI cZ u) H) (hD : va_D A (fw adr cI cZ u)) (hS : va_S A H0 H locs) (hlink : (Cond.fieldLink own index "FilmBench$Shifts" "bestSum" "I").before args s = true) (hdg : decode cc pc = .ok (.putfield index, 3)) (kk : ∀ (H1 : Heap) (locs1 : List Loc), va_P D vwCl (fw adr cI cZ (si u 10 v)) H1 → va_S A H0 H1 locs1 → W p l e R s m args below meth c H1 locs1 cells slots Q (F0 m (pc + 3) ls rest)) : W p l e R s m args below meth c H locs cells slots Q (F0 m pc ls (.int v :: .ref (adr 10) :: rest)) := va_put (ci := 3) (v := .int v) (ty := .int) (C := RX3) (T := TX3) (N := 7) hx hb hts hin tyX3 tyX3_ok nmX3 hown hK hP hD hS 10 rfl rfl 5 (by decide) hlink (fun _ h => h) rfl (by decide +kernel) rfl rfl (Nat.le_of_ble_eq_true rfl) hdg (fun H1 locs1 hP _ hS => kk H1 locs1 hP hS)
theorem fwg_10_6 {v : Int32} (hx : p.tables.exec = Jvm.exec) (hb : c.code = cc) (hts : ∀ w ∈ Ts, w.before args s = true) (hin : ∀ w ∈ wsX30, w ∈ Ts) (hown : s.vm.findClass own = some m.cls) (hK : va_K D vwCl (tyB cI cZ) s) (hP : va_P D vwCl (fw adr cI cZ u) H) (hlink : (Cond.fieldLink own index "FilmBench$Shifts" "bestPairs" "I").before args s = true) (hdg : decode cc pc = .ok (.getfield index, 3)) (hv : u.1 11 = v) (kk : W p l e R s m args below meth c H locs cells slots Q (F0 m (pc + 3) ls (.int v :: rest))) : W p l e R s m args below meth c H locs cells slots Q (F0 m pc ls (.ref (adr 10) :: rest)) := by subst hv; exact va_get (ci := 3) (C := RX3) (T := TX3) (N := 7) hx hb hts hin hown hK hP 10 rfl rfl 6 (by decide) hlink (fun _ h => h) rfl hdg kk
theorem fwp_10_6 {v : Int32} (hx : p.tables.exec = Jvm.exec) (hb : c.code = cc) (hts : ∀ w ∈ Ts, w.before args s = true) (hin : ∀ w ∈ wsX30, w ∈ Ts) (hown : s.vm.findClass own = some m.cls) (hK : va_K D vwCl (tyB cI cZ) s) (hP : va_P D vwCl (fw adr cI cZ u) H) (hD : va_D A (fw adr cI cZ u)) (hS : va_S A H0 H locs) (hlink : (Cond.fieldLink own index "FilmBench$Shifts" "bestPairs" "I").before args s = true) (hdg : decode cc pc = .ok (.putfield index, 3)) (kk : ∀ (H1 : Heap) (locs1 : List Loc), va_P D vwCl (fw adr cI cZ (si u 11 v)) H1 → va_S A H0 H1 locs1 → W p l e R s m args below meth c H1 locs1 cells slots Q (F0 m (pc + 3) ls rest)) : W p l e R s m args below meth c H locs cells slots Q (F0 m pc ls (.int v :: .ref (adr 10) :: rest)) := va_put (ci := 3) (v := .int v) (ty := .int) (C := RX3) (T := TX3) (N := 7) hx hb hts hin tyX3 tyX3_ok nmX3 hown hK hP hD hS 10 rfl rfl 6 (by decide) hlink (fun _ h => h) rfl (by decide +kernel) rfl rfl (Nat.le_of_ble_eq_true rfl) hdg (fun H1 locs1 hP _ hS => kk H1 locs1 hP hS)
theorem fwg_11_0 (hx : p.tables.exec = Jvm.exec) (hb : c.code = cc) (hts : ∀ w ∈ Ts, w.before args s = true) (hin : ∀ w ∈ wsX40, w ∈ Ts) (hown : s.vm.findClass own = some m.cls) (hK : va_K D vwCl (tyB cI cZ) s) (hP : va_P D vwCl (fw adr cI cZ u) H) (hlink : (Cond.fieldLink own index "FilmBench$Steady" "drifts" "[I").before args s = true) (hdg : decode cc pc = .ok (.getfield index, 3)) (kk : W p l e R s m args below meth c H locs cells slots Q (F0 m (pc + 3) ls (.ref (adr 12) :: rest))) : W p l e R s m args below meth c H locs cells slots Q (F0 m pc ls (.ref (adr 11) :: rest)) := va_get (ci := 4) (C := RX4) (T := TX4) (N := 6) hx hb hts hin hown hK hP 11 rfl rfl 0 (by decide) hlink (fun _ h => h) rfl hdg kk
theorem fwg_11_1 (hx : p.tables.exec = Jvm.exec) (hb : c.code = cc) (hts : ∀ w ∈ Ts, w.before args s = true) (hin : ∀ w ∈ wsX40, w ∈ Ts) (hown : s.vm.findClass own = some m.cls) (hK : va_K D vwCl (tyB cI cZ) s) (hP : va_P D vwCl (fw adr cI cZ u) H) (hlink : (Cond.fieldLink own index "FilmBench$Steady" "spots" "[I").before args s = true) (hdg : decode cc pc = .ok (.getfield index, 3)) (kk : W p l e R s m args below meth c H locs cells slots Q (F0 m (pc + 3) ls (.ref (adr 13) :: rest))) : W p l e R s m args below meth c H locs cells slots Q (F0 m pc ls (.ref (adr 11) :: rest)) := va_get (ci := 4) (C := RX4) (T := TX4) (N := 6) hx hb hts hin hown hK hP 11 rfl rfl 1 (by decide) hlink (fun _ h => h) rfl hdg kk
theorem fwg_11_2 (hx : p.tables.exec = Jvm.exec) (hb : c.code = cc) (hts : ∀ w ∈ Ts, w.before args s = true) (hin : ∀ w ∈ wsX40, w ∈ Ts) (hown : s.vm.findClass own = some m.cls) (hK : va_K D vwCl (tyB cI cZ) s) (hP : va_P D vwCl (fw adr cI cZ u) H) (hlink : (Cond.fieldLink own index "FilmBench$Steady" "costsBehind" "[I").before args s = true) (hdg : decode cc pc = .ok (.getfield index, 3)) (kk : W p l e R s m args below meth c H locs cells slots Q (F0 m (pc + 3) ls (.ref (adr 14) :: rest))) : W p l e R s m args below meth c H locs cells slots Q (F0 m pc ls (.ref (adr 11) :: rest)) := va_get (ci := 4) (C := RX4) (T := TX4) (N := 6) hx hb hts hin hown hK hP 11 rfl rfl 2 (by decide) hlink (fun _ h => h) rfl hdg kk
theorem fwg_11_3 {v : Int32} (hx : p.tables.exec = Jvm.exec) (hb : c.code = cc) (hts : ∀ w ∈ Ts, w.before args s = true) (hin : ∀ w ∈ wsX40, w ∈ Ts) (hown : s.vm.findClass own = some m.cls) (hK : va_K D vwCl (tyB cI cZ) s) (hP : va_P D vwCl (fw adr cI cZ u) H) (hlink : (Cond.fieldLink own index "FilmBench$Steady" "frames" "I").before args s = true) (hdg : decode cc pc = .ok (.getfield index, 3)) (hv : u.1 12 = v) (kk : W p l e R s m args below meth c H locs cells slots Q (F0 m (pc + 3) ls (.int v :: rest))) : W p l e R s m args below meth c H locs cells slots Q (F0 m pc ls (.ref (adr 11) :: rest)) := by subst hv; exact va_get (ci := 4) (C := RX4) (T := TX4) (N := 6) hx hb hts hin hown hK hP 11 rfl rfl 3 (by decide) hlink (fun _ h => h) rfl hdg kk
theorem fwp_11_3 {v : Int32} (hx : p.tables.exec = Jvm.exec) (hb : c.code = cc) (hts : ∀ w ∈ Ts, w.before args s = true) (hin : ∀ w ∈ wsX40, w ∈ Ts) (hown : s.vm.findClass own = some m.cls) (hK : va_K D vwCl (tyB cI cZ) s) (hP : va_P D vwCl (fw adr cI cZ u) H) (hD : va_D A (fw adr cI cZ u)) (hS : va_S A H0 H locs) (hlink : (Cond.fieldLink own index "FilmBench$Steady" "frames" "I").before args s = true) (hdg : decode cc pc = .ok (.putfield index, 3)) (kk : ∀ (H1 : Heap) (locs1 : List Loc), va_P D vwCl (fw adr cI cZ (si u 12 v)) H1 → va_S A H0 H1 locs1 → W p l e R s m args below meth c H1 locs1 cells slots Q (F0 m (pc + 3) ls rest)) : W p l e R s m args below meth c H locs cells slots Q (F0 m pc ls (.int v :: .ref (adr 11) :: rest)) := va_put (ci := 4) (v := .int v) (ty := .int) (C := RX4) (T := TX4) (N := 6) hx hb hts hin tyX4 tyX4_ok nmX4 hown hK hP hD hS 11 rfl rfl 3 (by decide) hlink (fun _ h => h) rfl (by decide +kernel) rfl rfl (Nat.le_of_ble_eq_true rfl) hdg (fun H1 locs1 hP _ hS => kk H1 locs1 hP hS)
theorem fwg_11_4 {v : Int32} (hx : p.tables.exec = Jvm.exec) (hb : c.code = cc) (hts : ∀ w ∈ Ts, w.before args s = true) (hin : ∀ w ∈ wsX40, w ∈ Ts) (hown : s.vm.findClass own = some m.cls) (hK : va_K D vwCl (tyB cI cZ) s) (hP : va_P D vwCl (fw adr cI cZ u) H) (hlink : (Cond.fieldLink own index "FilmBench$Steady" "stray" "I").before args s = true) (hdg : decode cc pc = .ok (.getfield index, 3)) (hv : u.1 13 = v) (kk : W p l e R s m args below meth c H locs cells slots Q (F0 m (pc + 3) ls (.int v :: rest))) : W p l e R s m args below meth c H locs cells slots Q (F0 m pc ls (.ref (adr 11) :: rest)) := by subst hv; exact va_get (ci := 4) (C := RX4) (T := TX4) (N := 6) hx hb hts hin hown hK hP 11 rfl rfl 4 (by decide) hlink (fun _ h => h) rfl hdg kk
theorem fwp_11_4 {v : Int32} (hx : p.tables.exec = Jvm.exec) (hb : c.code = cc) (hts : ∀ w ∈ Ts, w.before args s = true) (hin : ∀ w ∈ wsX40, w ∈ Ts) (hown : s.vm.findClass own = some m.cls) (hK : va_K D vwCl (tyB cI cZ) s) (hP : va_P D vwCl (fw adr cI cZ u) H) (hD : va_D A (fw adr cI cZ u)) (hS : va_S A H0 H locs) (hlink : (Cond.fieldLink own index "FilmBench$Steady" "stray" "I").before args s = true) (hdg : decode cc pc = .ok (.putfield index, 3)) (kk : ∀ (H1 : Heap) (locs1 : List Loc), va_P D vwCl (fw adr cI cZ (si u 13 v)) H1 → va_S A H0 H1 locs1 → W p l e R s m args below meth c H1 locs1 cells slots Q (F0 m (pc + 3) ls rest)) : W p l e R s m args below meth c H locs cells slots Q (F0 m pc ls (.int v :: .ref (adr 11) :: rest)) := va_put (ci := 4) (v := .int v) (ty := .int) (C := RX4) (T := TX4) (N := 6) hx hb hts hin tyX4 tyX4_ok nmX4 hown hK hP hD hS 11 rfl rfl 4 (by decide) hlink (fun _ h => h) rfl (by decide +kernel) rfl rfl (Nat.le_of_ble_eq_true rfl) hdg (fun H1 locs1 hP _ hS => kk H1 locs1 hP hS)
theorem fwg_11_5 {v : Int32} (hx : p.tables.exec = Jvm.exec) (hb : c.code = cc) (hts : ∀ w ∈ Ts, w.before args s = true) (hin : ∀ w ∈ wsX40, w ∈ Ts) (hown : s.vm.findClass own = some m.cls) (hK : va_K D vwCl (tyB cI cZ) s) (hP : va_P D vwCl (fw adr cI cZ u) H) (hlink : (Cond.fieldLink own index "FilmBench$Steady" "choices" "I").before args s = true) (hdg : decode cc pc = .ok (.getfield index, 3)) (hv : u.1 14 = v) (kk : W p l e R s m args below meth c H locs cells slots Q (F0 m (pc + 3) ls (.int v :: rest))) : W p l e R s m args below meth c H locs cells slots Q (F0 m pc ls (.ref (adr 11) :: rest)) := by subst hv; exact va_get (ci := 4) (C := RX4) (T := TX4) (N := 6) hx hb hts hin hown hK hP 11 rfl rfl 5 (by decide) hlink (fun _ h => h) rfl hdg kk
theorem fwp_11_5 {v : Int32} (hx : p.tables.exec = Jvm.exec) (hb : c.code = cc) (hts : ∀ w ∈ Ts, w.before args s = true) (hin : ∀ w ∈ wsX40, w ∈ Ts) (hown : s.vm.findClass own = some m.cls) (hK : va_K D vwCl (tyB cI cZ) s) (hP : va_P D vwCl (fw adr cI cZ u) H) (hD : va_D A (fw adr cI cZ u)) (hS : va_S A H0 H locs) (hlink : (Cond.fieldLink own index "FilmBench$Steady" "choices" "I").before args s = true) (hdg : decode cc pc = .ok (.putfield index, 3)) (kk : ∀ (H1 : Heap) (locs1 : List Loc), va_P D vwCl (fw adr cI cZ (si u 14 v)) H1 → va_S A H0 H1 locs1 → W p l e R s m args below meth c H1 locs1 cells slots Q (F0 m (pc + 3) ls rest)) : W p l e R s m args below meth c H locs cells slots Q (F0 m pc ls (.int v :: .ref (adr 11) :: rest)) := va_put (ci := 4) (v := .int v) (ty := .int) (C := RX4) (T := TX4) (N := 6) hx hb hts hin tyX4 tyX4_ok nmX4 hown hK hP hD hS 11 rfl rfl 5 (by decide) hlink (fun _ h => h) rfl (by decide +kernel) rfl rfl (Nat.le_of_ble_eq_true rfl) hdg (fun H1 locs1 hP _ hS => kk H1 locs1 hP hS)
theorem fwl_12 {i v : Int32} (hx : p.tables.exec = Jvm.exec) (hb : c.code = cc) (hK : va_K D vwCl (tyB cI cZ) s) (hP : va_P D vwCl (fw adr cI cZ u) H) (hin : vp_in i 10) (hdg : decode cc pc = .ok (.iaload, 1)) (hv : u.2 12 i.toNatClampNeg = v) (kk : W p l e R s m args below meth c H locs cells slots Q (F0 m (pc + 1) ls (.int v :: rest))) : W p l e R s m args below meth c H locs cells slots Q (F0 m pc ls (.int i :: .ref (adr 12) :: rest)) := by subst hv; exact va_iald hx hb hK hP 12 0 rfl rfl hin hdg kk
theorem fws_12 {i x : Int32} (hx : p.tables.exec = Jvm.exec) (hb : c.code = cc) (hK : va_K D vwCl (tyB cI cZ) s) (hP : va_P D vwCl (fw adr cI cZ u) H) (hD : va_D A (fw adr cI cZ u)) (hS : va_S A H0 H locs) (hin : vp_in i 10) (hdg : decode cc pc = .ok (.iastore, 1)) (kk : ∀ (H1 : Heap) (locs1 : List Loc), va_P D vwCl (fw adr cI cZ (sA u 12 (upd (u.2 12) i.toNatClampNeg x))) H1 → va_S A H0 H1 locs1 → W p l e R s m args below meth c H1 locs1 cells slots Q (F0 m (pc + 1) ls rest)) : W p l e R s m args below meth c H locs cells slots Q (F0 m pc ls (.int x :: .int i :: .ref (adr 12) :: rest)) := va_iast hx hb hK hP hD hS 12 0 rfl rfl hin hdg (fun H1 locs1 hP _ hS => kk H1 locs1 hP hS)
theorem fwl_13 {i v : Int32} (hx : p.tables.exec = Jvm.exec) (hb : c.code = cc) (hK : va_K D vwCl (tyB cI cZ) s) (hP : va_P D vwCl (fw adr cI cZ u) H) (hin : vp_in i 10) (hdg : decode cc pc = .ok (.iaload, 1)) (hv : u.2 13 i.toNatClampNeg = v) (kk : W p l e R s m args below meth c H locs cells slots Q (F0 m (pc + 1) ls (.int v :: rest))) : W p l e R s m args below meth c H locs cells slots Q (F0 m pc ls (.int i :: .ref (adr 13) :: rest)) := by subst hv; exact va_iald hx hb hK hP 13 0 rfl rfl hin hdg kk
theorem fws_13 {i x : Int32} (hx : p.tables.exec = Jvm.exec) (hb : c.code = cc) (hK : va_K D vwCl (tyB cI cZ) s) (hP : va_P D vwCl (fw adr cI cZ u) H) (hD : va_D A (fw adr cI cZ u)) (hS : va_S A H0 H locs) (hin : vp_in i 10) (hdg : decode cc pc = .ok (.iastore, 1)) (kk : ∀ (H1 : Heap) (locs1 : List Loc), va_P D vwCl (fw adr cI cZ (sA u 13 (upd (u.2 13) i.toNatClampNeg x))) H1 → va_S A H0 H1 locs1 → W p l e R s m args below meth c H1 locs1 cells slots Q (F0 m (pc + 1) ls rest)) : W p l e R s m args below meth c H locs cells slots Q (F0 m pc ls (.int x :: .int i :: .ref (adr 13) :: rest)) := va_iast hx hb hK hP hD hS 13 0 rfl rfl hin hdg (fun H1 locs1 hP _ hS => kk H1 locs1 hP hS)
theorem fwl_14 {i v : Int32} (hx : p.tables.exec = Jvm.exec) (hb : c.code = cc) (hK : va_K D vwCl (tyB cI cZ) s) (hP : va_P D vwCl (fw adr cI cZ u) H) (hin : vp_in i 490) (hdg : decode cc pc = .ok (.iaload, 1)) (hv : u.2 14 i.toNatClampNeg = v) (kk : W p l e R s m args below meth c H locs cells slots Q (F0 m (pc + 1) ls (.int v :: rest))) : W p l e R s m args below meth c H locs cells slots Q (F0 m pc ls (.int i :: .ref (adr 14) :: rest)) := by subst hv; exact va_iald hx hb hK hP 14 0 rfl rfl hin hdg kk
theorem fws_14 {i x : Int32} (hx : p.tables.exec = Jvm.exec) (hb : c.code = cc) (hK : va_K D vwCl (tyB cI cZ) s) (hP : va_P D vwCl (fw adr cI cZ u) H) (hD : va_D A (fw adr cI cZ u)) (hS : va_S A H0 H locs) (hin : vp_in i 490) (hdg : decode cc pc = .ok (.iastore, 1)) (kk : ∀ (H1 : Heap) (locs1 : List Loc), va_P D vwCl (fw adr cI cZ (sA u 14 (upd (u.2 14) i.toNatClampNeg x))) H1 → va_S A H0 H1 locs1 → W p l e R s m args below meth c H1 locs1 cells slots Q (F0 m (pc + 1) ls rest)) : W p l e R s m args below meth c H locs cells slots Q (F0 m pc ls (.int x :: .int i :: .ref (adr 14) :: rest)) := va_iast hx hb hK hP hD hS 14 0 rfl rfl hin hdg (fun H1 locs1 hP _ hS => kk H1 locs1 hP hS)
theorem fwg_15_0 (hx : p.tables.exec = Jvm.exec) (hb : c.code = cc) (hts : ∀ w ∈ Ts, w.before args s = true) (hin : ∀ w ∈ wsX20, w ∈ Ts) (hown : s.vm.findClass own = some m.cls) (hK : va_K D vwCl (tyB cI cZ) s) (hP : va_P D vwCl (fw adr cI cZ u) H) (hlink : (Cond.fieldLink own index "FilmBench$Sheet" "film" "LFilmBench$Reel;").before args s = true) (hdg : decode cc pc = .ok (.getfield index, 3)) (kk : W p l e R s m args below meth c H locs cells slots Q (F0 m (pc + 3) ls (.ref (adr 1) :: rest))) : W p l e R s m args below meth c H locs cells slots Q (F0 m pc ls (.ref (adr 15) :: rest)) := va_get (ci := 2) (C := RX2) (T := TX2) (N := 6) hx hb hts hin hown hK hP 15 rfl rfl 0 (by decide) hlink (fun _ h => h) rfl hdg kk
theorem fwg_15_1 (hx : p.tables.exec = Jvm.exec) (hb : c.code = cc) (hts : ∀ w ∈ Ts, w.before args s = true) (hin : ∀ w ∈ wsX20, w ∈ Ts) (hown : s.vm.findClass own = some m.cls) (hK : va_K D vwCl (tyB cI cZ) s) (hP : va_P D vwCl (fw adr cI cZ u) H) (hlink : (Cond.fieldLink own index "FilmBench$Sheet" "layers" "LFilmBench$Layers;").before args s = true) (hdg : decode cc pc = .ok (.getfield index, 3)) (kk : W p l e R s m args below meth c H locs cells slots Q (F0 m (pc + 3) ls (.ref (adr 3) :: rest))) : W p l e R s m args below meth c H locs cells slots Q (F0 m pc ls (.ref (adr 15) :: rest)) := va_get (ci := 2) (C := RX2) (T := TX2) (N := 6) hx hb hts hin hown hK hP 15 rfl rfl 1 (by decide) hlink (fun _ h => h) rfl hdg kk
theorem fwg_15_2 (hx : p.tables.exec = Jvm.exec) (hb : c.code = cc) (hts : ∀ w ∈ Ts, w.before args s = true) (hin : ∀ w ∈ wsX20, w ∈ Ts) (hown : s.vm.findClass own = some m.cls) (hK : va_K D vwCl (tyB cI cZ) s) (hP : va_P D vwCl (fw adr cI cZ u) H) (hlink : (Cond.fieldLink own index "FilmBench$Sheet" "rules" "[I").before args s = true) (hdg : decode cc pc = .ok (.getfield index, 3)) (kk : W p l e R s m args below meth c H locs cells slots Q (F0 m (pc + 3) ls (.ref (adr 9) :: rest))) : W p l e R s m args below meth c H locs cells slots Q (F0 m pc ls (.ref (adr 15) :: rest)) := va_get (ci := 2) (C := RX2) (T := TX2) (N := 6) hx hb hts hin hown hK hP 15 rfl rfl 2 (by decide) hlink (fun _ h => h) rfl hdg kk
theorem fwg_15_3 (hx : p.tables.exec = Jvm.exec) (hb : c.code = cc) (hts : ∀ w ∈ Ts, w.before args s = true) (hin : ∀ w ∈ wsX20, w ∈ Ts) (hown : s.vm.findClass own = some m.cls) (hK : va_K D vwCl (tyB cI cZ) s) (hP : va_P D vwCl (fw adr cI cZ u) H) (hlink : (Cond.fieldLink own index "FilmBench$Sheet" "now" "[I").before args s = true) (hdg : decode cc pc = .ok (.getfield index, 3)) (kk : W p l e R s m args below meth c H locs cells slots Q (F0 m (pc + 3) ls (.ref (adr 16) :: rest))) : W p l e R s m args below meth c H locs cells slots Q (F0 m pc ls (.ref (adr 15) :: rest)) := va_get (ci := 2) (C := RX2) (T := TX2) (N := 6) hx hb hts hin hown hK hP 15 rfl rfl 3 (by decide) hlink (fun _ h => h) rfl hdg kk
theorem fwg_15_4 (hx : p.tables.exec = Jvm.exec) (hb : c.code = cc) (hts : ∀ w ∈ Ts, w.before args s = true) (hin : ∀ w ∈ wsX20, w ∈ Ts) (hown : s.vm.findClass own = some m.cls) (hK : va_K D vwCl (tyB cI cZ) s) (hP : va_P D vwCl (fw adr cI cZ u) H) (hlink : (Cond.fieldLink own index "FilmBench$Sheet" "before" "[I").before args s = true) (hdg : decode cc pc = .ok (.getfield index, 3)) (kk : W p l e R s m args below meth c H locs cells slots Q (F0 m (pc + 3) ls (.ref (adr 17) :: rest))) : W p l e R s m args below meth c H locs cells slots Q (F0 m pc ls (.ref (adr 15) :: rest)) := va_get (ci := 2) (C := RX2) (T := TX2) (N := 6) hx hb hts hin hown hK hP 15 rfl rfl 4 (by decide) hlink (fun _ h => h) rfl hdg kk
theorem fwg_15_5 (hx : p.tables.exec = Jvm.exec) (hb : c.code = cc) (hts : ∀ w ∈ Ts, w.before args s = true) (hin : ∀ w ∈ wsX20, w ∈ Ts) (hown : s.vm.findClass own = some m.cls) (hK : va_K D vwCl (tyB cI cZ) s) (hP : va_P D vwCl (fw adr cI cZ u) H) (hlink : (Cond.fieldLink own index "FilmBench$Sheet" "rising" "[I").before args s = true) (hdg : decode cc pc = .ok (.getfield index, 3)) (kk : W p l e R s m args below meth c H locs cells slots Q (F0 m (pc + 3) ls (.ref (adr 18) :: rest))) : W p l e R s m args below meth c H locs cells slots Q (F0 m pc ls (.ref (adr 15) :: rest)) := va_get (ci := 2) (C := RX2) (T := TX2) (N := 6) hx hb hts hin hown hK hP 15 rfl rfl 5 (by decide) hlink (fun _ h => h) rfl hdg kk
theorem fwl_16 {i v : Int32} (hx : p.tables.exec = Jvm.exec) (hb : c.code = cc) (hK : va_K D vwCl (tyB cI cZ) s) (hP : va_P D vwCl (fw adr cI cZ u) H) (hin : vp_in i 36) (hdg : decode cc pc = .ok (.iaload, 1)) (hv : u.2 16 i.toNatClampNeg = v) (kk : W p l e R s m args below meth c H locs cells slots Q (F0 m (pc + 1) ls (.int v :: rest))) : W p l e R s m args below meth c H locs cells slots Q (F0 m pc ls (.int i :: .ref (adr 16) :: rest)) := by subst hv; exact va_iald hx hb hK hP 16 0 rfl rfl hin hdg kk
theorem fws_16 {i x : Int32} (hx : p.tables.exec = Jvm.exec) (hb : c.code = cc) (hK : va_K D vwCl (tyB cI cZ) s) (hP : va_P D vwCl (fw adr cI cZ u) H) (hD : va_D A (fw adr cI cZ u)) (hS : va_S A H0 H locs) (hin : vp_in i 36) (hdg : decode cc pc = .ok (.iastore, 1)) (kk : ∀ (H1 : Heap) (locs1 : List Loc), va_P D vwCl (fw adr cI cZ (sA u 16 (upd (u.2 16) i.toNatClampNeg x))) H1 → va_S A H0 H1 locs1 → W p l e R s m args below meth c H1 locs1 cells slots Q (F0 m (pc + 1) ls rest)) : W p l e R s m args below meth c H locs cells slots Q (F0 m pc ls (.int x :: .int i :: .ref (adr 16) :: rest)) := va_iast hx hb hK hP hD hS 16 0 rfl rfl hin hdg (fun H1 locs1 hP _ hS => kk H1 locs1 hP hS)
theorem fwl_17 {i v : Int32} (hx : p.tables.exec = Jvm.exec) (hb : c.code = cc) (hK : va_K D vwCl (tyB cI cZ) s) (hP : va_P D vwCl (fw adr cI cZ u) H) (hin : vp_in i 36) (hdg : decode cc pc = .ok (.iaload, 1)) (hv : u.2 17 i.toNatClampNeg = v) (kk : W p l e R s m args below meth c H locs cells slots Q (F0 m (pc + 1) ls (.int v :: rest))) : W p l e R s m args below meth c H locs cells slots Q (F0 m pc ls (.int i :: .ref (adr 17) :: rest)) := by subst hv; exact va_iald hx hb hK hP 17 0 rfl rfl hin hdg kk
theorem fws_17 {i x : Int32} (hx : p.tables.exec = Jvm.exec) (hb : c.code = cc) (hK : va_K D vwCl (tyB cI cZ) s) (hP : va_P D vwCl (fw adr cI cZ u) H) (hD : va_D A (fw adr cI cZ u)) (hS : va_S A H0 H locs) (hin : vp_in i 36) (hdg : decode cc pc = .ok (.iastore, 1)) (kk : ∀ (H1 : Heap) (locs1 : List Loc), va_P D vwCl (fw adr cI cZ (sA u 17 (upd (u.2 17) i.toNatClampNeg x))) H1 → va_S A H0 H1 locs1 → W p l e R s m args below meth c H1 locs1 cells slots Q (F0 m (pc + 1) ls rest)) : W p l e R s m args below meth c H locs cells slots Q (F0 m pc ls (.int x :: .int i :: .ref (adr 17) :: rest)) := va_iast hx hb hK hP hD hS 17 0 rfl rfl hin hdg (fun H1 locs1 hP _ hS => kk H1 locs1 hP hS)
theorem fwl_18 {i v : Int32} (hx : p.tables.exec = Jvm.exec) (hb : c.code = cc) (hK : va_K D vwCl (tyB cI cZ) s) (hP : va_P D vwCl (fw adr cI cZ u) H) (hin : vp_in i 36) (hdg : decode cc pc = .ok (.iaload, 1)) (hv : u.2 18 i.toNatClampNeg = v) (kk : W p l e R s m args below meth c H locs cells slots Q (F0 m (pc + 1) ls (.int v :: rest))) : W p l e R s m args below meth c H locs cells slots Q (F0 m pc ls (.int i :: .ref (adr 18) :: rest)) := by subst hv; exact va_iald hx hb hK hP 18 0 rfl rfl hin hdg kk
theorem fws_18 {i x : Int32} (hx : p.tables.exec = Jvm.exec) (hb : c.code = cc) (hK : va_K D vwCl (tyB cI cZ) s) (hP : va_P D vwCl (fw adr cI cZ u) H) (hD : va_D A (fw adr cI cZ u)) (hS : va_S A H0 H locs) (hin : vp_in i 36) (hdg : decode cc pc = .ok (.iastore, 1)) (kk : ∀ (H1 : Heap) (locs1 : List Loc), va_P D vwCl (fw adr cI cZ (sA u 18 (upd (u.2 18) i.toNatClampNeg x))) H1 → va_S A H0 H1 locs1 → W p l e R s m args below meth c H1 locs1 cells slots Q (F0 m (pc + 1) ls rest)) : W p l e R s m args below meth c H locs cells slots Q (F0 m pc ls (.int x :: .int i :: .ref (adr 18) :: rest)) := va_iast hx hb hK hP hD hS 18 0 rfl rfl hin hdg (fun H1 locs1 hP _ hS => kk H1 locs1 hP hS)
theorem fwg_19_0 {v : Int32} (hx : p.tables.exec = Jvm.exec) (hb : c.code = cc) (hts : ∀ w ∈ Ts, w.before args s = true) (hin : ∀ w ∈ wsX10, w ∈ Ts) (hown : s.vm.findClass own = some m.cls) (hK : va_K D vwCl (tyB cI cZ) s) (hP : va_P D vwCl (fw adr cI cZ u) H) (hlink : (Cond.fieldLink own index "FilmBench$Reel" "high" "I").before args s = true) (hdg : decode cc pc = .ok (.getfield index, 3)) (hv : u.1 15 = v) (kk : W p l e R s m args below meth c H locs cells slots Q (F0 m (pc + 3) ls (.int v :: rest))) : W p l e R s m args below meth c H locs cells slots Q (F0 m pc ls (.ref (adr 19) :: rest)) := by subst hv; exact va_get (ci := 1) (C := RX1) (T := TX1) (N := 5) hx hb hts hin hown hK hP 19 rfl rfl 0 (by decide) hlink (fun _ h => h) rfl hdg kk
theorem fwp_19_0 {v : Int32} (hx : p.tables.exec = Jvm.exec) (hb : c.code = cc) (hts : ∀ w ∈ Ts, w.before args s = true) (hin : ∀ w ∈ wsX10, w ∈ Ts) (hown : s.vm.findClass own = some m.cls) (hK : va_K D vwCl (tyB cI cZ) s) (hP : va_P D vwCl (fw adr cI cZ u) H) (hD : va_D A (fw adr cI cZ u)) (hS : va_S A H0 H locs) (hlink : (Cond.fieldLink own index "FilmBench$Reel" "high" "I").before args s = true) (hdg : decode cc pc = .ok (.putfield index, 3)) (kk : ∀ (H1 : Heap) (locs1 : List Loc), va_P D vwCl (fw adr cI cZ (si u 15 v)) H1 → va_S A H0 H1 locs1 → W p l e R s m args below meth c H1 locs1 cells slots Q (F0 m (pc + 3) ls rest)) : W p l e R s m args below meth c H locs cells slots Q (F0 m pc ls (.int v :: .ref (adr 19) :: rest)) := va_put (ci := 1) (v := .int v) (ty := .int) (C := RX1) (T := TX1) (N := 5) hx hb hts hin tyX1 tyX1_ok nmX1 hown hK hP hD hS 19 rfl rfl 0 (by decide) hlink (fun _ h => h) rfl (by decide +kernel) rfl rfl (Nat.le_of_ble_eq_true rfl) hdg (fun H1 locs1 hP _ hS => kk H1 locs1 hP hS)
theorem fwg_19_1 {v : Int32} (hx : p.tables.exec = Jvm.exec) (hb : c.code = cc) (hts : ∀ w ∈ Ts, w.before args s = true) (hin : ∀ w ∈ wsX10, w ∈ Ts) (hown : s.vm.findClass own = some m.cls) (hK : va_K D vwCl (tyB cI cZ) s) (hP : va_P D vwCl (fw adr cI cZ u) H) (hlink : (Cond.fieldLink own index "FilmBench$Reel" "wide" "I").before args s = true) (hdg : decode cc pc = .ok (.getfield index, 3)) (hv : u.1 16 = v) (kk : W p l e R s m args below meth c H locs cells slots Q (F0 m (pc + 3) ls (.int v :: rest))) : W p l e R s m args below meth c H locs cells slots Q (F0 m pc ls (.ref (adr 19) :: rest)) := by subst hv; exact va_get (ci := 1) (C := RX1) (T := TX1) (N := 5) hx hb hts hin hown hK hP 19 rfl rfl 1 (by decide) hlink (fun _ h => h) rfl hdg kk
theorem fwp_19_1 {v : Int32} (hx : p.tables.exec = Jvm.exec) (hb : c.code = cc) (hts : ∀ w ∈ Ts, w.before args s = true) (hin : ∀ w ∈ wsX10, w ∈ Ts) (hown : s.vm.findClass own = some m.cls) (hK : va_K D vwCl (tyB cI cZ) s) (hP : va_P D vwCl (fw adr cI cZ u) H) (hD : va_D A (fw adr cI cZ u)) (hS : va_S A H0 H locs) (hlink : (Cond.fieldLink own index "FilmBench$Reel" "wide" "I").before args s = true) (hdg : decode cc pc = .ok (.putfield index, 3)) (kk : ∀ (H1 : Heap) (locs1 : List Loc), va_P D vwCl (fw adr cI cZ (si u 16 v)) H1 → va_S A H0 H1 locs1 → W p l e R s m args below meth c H1 locs1 cells slots Q (F0 m (pc + 3) ls rest)) : W p l e R s m args below meth c H locs cells slots Q (F0 m pc ls (.int v :: .ref (adr 19) :: rest)) := va_put (ci := 1) (v := .int v) (ty := .int) (C := RX1) (T := TX1) (N := 5) hx hb hts hin tyX1 tyX1_ok nmX1 hown hK hP hD hS 19 rfl rfl 1 (by decide) hlink (fun _ h => h) rfl (by decide +kernel) rfl rfl (Nat.le_of_ble_eq_true rfl) hdg (fun H1 locs1 hP _ hS => kk H1 locs1 hP hS)
theorem fwg_19_2 {v : Int32} (hx : p.tables.exec = Jvm.exec) (hb : c.code = cc) (hts : ∀ w ∈ Ts, w.before args s = true) (hin : ∀ w ∈ wsX10, w ∈ Ts) (hown : s.vm.findClass own = some m.cls) (hK : va_K D vwCl (tyB cI cZ) s) (hP : va_P D vwCl (fw adr cI cZ u) H) (hlink : (Cond.fieldLink own index "FilmBench$Reel" "squares" "I").before args s = true) (hdg : decode cc pc = .ok (.getfield index, 3)) (hv : u.1 17 = v) (kk : W p l e R s m args below meth c H locs cells slots Q (F0 m (pc + 3) ls (.int v :: rest))) : W p l e R s m args below meth c H locs cells slots Q (F0 m pc ls (.ref (adr 19) :: rest)) := by subst hv; exact va_get (ci := 1) (C := RX1) (T := TX1) (N := 5) hx hb hts hin hown hK hP 19 rfl rfl 2 (by decide) hlink (fun _ h => h) rfl hdg kk
theorem fwp_19_2 {v : Int32} (hx : p.tables.exec = Jvm.exec) (hb : c.code = cc) (hts : ∀ w ∈ Ts, w.before args s = true) (hin : ∀ w ∈ wsX10, w ∈ Ts) (hown : s.vm.findClass own = some m.cls) (hK : va_K D vwCl (tyB cI cZ) s) (hP : va_P D vwCl (fw adr cI cZ u) H) (hD : va_D A (fw adr cI cZ u)) (hS : va_S A H0 H locs) (hlink : (Cond.fieldLink own index "FilmBench$Reel" "squares" "I").before args s = true) (hdg : decode cc pc = .ok (.putfield index, 3)) (kk : ∀ (H1 : Heap) (locs1 : List Loc), va_P D vwCl (fw adr cI cZ (si u 17 v)) H1 → va_S A H0 H1 locs1 → W p l e R s m args below meth c H1 locs1 cells slots Q (F0 m (pc + 3) ls rest)) : W p l e R s m args below meth c H locs cells slots Q (F0 m pc ls (.int v :: .ref (adr 19) :: rest)) := va_put (ci := 1) (v := .int v) (ty := .int) (C := RX1) (T := TX1) (N := 5) hx hb hts hin tyX1 tyX1_ok nmX1 hown hK hP hD hS 19 rfl rfl 2 (by decide) hlink (fun _ h => h) rfl (by decide +kernel) rfl rfl (Nat.le_of_ble_eq_true rfl) hdg (fun H1 locs1 hP _ hS => kk H1 locs1 hP hS)
theorem fwg_19_3 {v : Int32} (hx : p.tables.exec = Jvm.exec) (hb : c.code = cc) (hts : ∀ w ∈ Ts, w.before args s = true) (hin : ∀ w ∈ wsX10, w ∈ Ts) (hown : s.vm.findClass own = some m.cls) (hK : va_K D vwCl (tyB cI cZ) s) (hP : va_P D vwCl (fw adr cI cZ u) H) (hlink : (Cond.fieldLink own index "FilmBench$Reel" "frames" "I").before args s = true) (hdg : decode cc pc = .ok (.getfield index, 3)) (hv : u.1 18 = v) (kk : W p l e R s m args below meth c H locs cells slots Q (F0 m (pc + 3) ls (.int v :: rest))) : W p l e R s m args below meth c H locs cells slots Q (F0 m pc ls (.ref (adr 19) :: rest)) := by subst hv; exact va_get (ci := 1) (C := RX1) (T := TX1) (N := 5) hx hb hts hin hown hK hP 19 rfl rfl 3 (by decide) hlink (fun _ h => h) rfl hdg kk
theorem fwp_19_3 {v : Int32} (hx : p.tables.exec = Jvm.exec) (hb : c.code = cc) (hts : ∀ w ∈ Ts, w.before args s = true) (hin : ∀ w ∈ wsX10, w ∈ Ts) (hown : s.vm.findClass own = some m.cls) (hK : va_K D vwCl (tyB cI cZ) s) (hP : va_P D vwCl (fw adr cI cZ u) H) (hD : va_D A (fw adr cI cZ u)) (hS : va_S A H0 H locs) (hlink : (Cond.fieldLink own index "FilmBench$Reel" "frames" "I").before args s = true) (hdg : decode cc pc = .ok (.putfield index, 3)) (kk : ∀ (H1 : Heap) (locs1 : List Loc), va_P D vwCl (fw adr cI cZ (si u 18 v)) H1 → va_S A H0 H1 locs1 → W p l e R s m args below meth c H1 locs1 cells slots Q (F0 m (pc + 3) ls rest)) : W p l e R s m args below meth c H locs cells slots Q (F0 m pc ls (.int v :: .ref (adr 19) :: rest)) := va_put (ci := 1) (v := .int v) (ty := .int) (C := RX1) (T := TX1) (N := 5) hx hb hts hin tyX1 tyX1_ok nmX1 hown hK hP hD hS 19 rfl rfl 3 (by decide) hlink (fun _ h => h) rfl (by decide +kernel) rfl rfl (Nat.le_of_ble_eq_true rfl) hdg (fun H1 locs1 hP _ hS => kk H1 locs1 hP hS)
theorem fwg_19_4 (hx : p.tables.exec = Jvm.exec) (hb : c.code = cc) (hts : ∀ w ∈ Ts, w.before args s = true) (hin : ∀ w ∈ wsX10, w ∈ Ts) (hown : s.vm.findClass own = some m.cls) (hK : va_K D vwCl (tyB cI cZ) s) (hP : va_P D vwCl (fw adr cI cZ u) H) (hlink : (Cond.fieldLink own index "FilmBench$Reel" "greys" "[I").before args s = true) (hdg : decode cc pc = .ok (.getfield index, 3)) (kk : W p l e R s m args below meth c H locs cells slots Q (F0 m (pc + 3) ls (.ref (adr 20) :: rest))) : W p l e R s m args below meth c H locs cells slots Q (F0 m pc ls (.ref (adr 19) :: rest)) := va_get (ci := 1) (C := RX1) (T := TX1) (N := 5) hx hb hts hin hown hK hP 19 rfl rfl 4 (by decide) hlink (fun _ h => h) rfl hdg kk
theorem fwl_20 {i v : Int32} (hx : p.tables.exec = Jvm.exec) (hb : c.code = cc) (hK : va_K D vwCl (tyB cI cZ) s) (hP : va_P D vwCl (fw adr cI cZ u) H) (hin : vp_in i 360) (hdg : decode cc pc = .ok (.iaload, 1)) (hv : u.2 20 i.toNatClampNeg = v) (kk : W p l e R s m args below meth c H locs cells slots Q (F0 m (pc + 1) ls (.int v :: rest))) : W p l e R s m args below meth c H locs cells slots Q (F0 m pc ls (.int i :: .ref (adr 20) :: rest)) := by subst hv; exact va_iald hx hb hK hP 20 0 rfl rfl hin hdg kk
theorem fws_20 {i x : Int32} (hx : p.tables.exec = Jvm.exec) (hb : c.code = cc) (hK : va_K D vwCl (tyB cI cZ) s) (hP : va_P D vwCl (fw adr cI cZ u) H) (hD : va_D A (fw adr cI cZ u)) (hS : va_S A H0 H locs) (hin : vp_in i 360) (hdg : decode cc pc = .ok (.iastore, 1)) (kk : ∀ (H1 : Heap) (locs1 : List Loc), va_P D vwCl (fw adr cI cZ (sA u 20 (upd (u.2 20) i.toNatClampNeg x))) H1 → va_S A H0 H1 locs1 → W p l e R s m args below meth c H1 locs1 cells slots Q (F0 m (pc + 1) ls rest)) : W p l e R s m args below meth c H locs cells slots Q (F0 m pc ls (.int x :: .int i :: .ref (adr 20) :: rest)) := va_iast hx hb hK hP hD hS 20 0 rfl rfl hin hdg (fun H1 locs1 hP _ hS => kk H1 locs1 hP hS)
theorem fwg_21_0 {v : Int32} (hx : p.tables.exec = Jvm.exec) (hb : c.code = cc) (hts : ∀ w ∈ Ts, w.before args s = true) (hin : ∀ w ∈ wsX00, w ∈ Ts) (hown : s.vm.findClass own = some m.cls) (hK : va_K D vwCl (tyB cI cZ) s) (hP : va_P D vwCl (fw adr cI cZ u) H) (hlink : (Cond.fieldLink own index "FilmBench$Layers" "count" "I").before args s = true) (hdg : decode cc pc = .ok (.getfield index, 3)) (hv : u.1 19 = v) (kk : W p l e R s m args below meth c H locs cells slots Q (F0 m (pc + 3) ls (.int v :: rest))) : W p l e R s m args below meth c H locs cells slots Q (F0 m pc ls (.ref (adr 21) :: rest)) := by subst hv; exact va_get (ci := 0) (C := RX0) (T := TX0) (N := 6) hx hb hts hin hown hK hP 21 rfl rfl 0 (by decide) hlink (fun _ h => h) rfl hdg kk
theorem fwp_21_0 {v : Int32} (hx : p.tables.exec = Jvm.exec) (hb : c.code = cc) (hts : ∀ w ∈ Ts, w.before args s = true) (hin : ∀ w ∈ wsX00, w ∈ Ts) (hown : s.vm.findClass own = some m.cls) (hK : va_K D vwCl (tyB cI cZ) s) (hP : va_P D vwCl (fw adr cI cZ u) H) (hD : va_D A (fw adr cI cZ u)) (hS : va_S A H0 H locs) (hlink : (Cond.fieldLink own index "FilmBench$Layers" "count" "I").before args s = true) (hdg : decode cc pc = .ok (.putfield index, 3)) (kk : ∀ (H1 : Heap) (locs1 : List Loc), va_P D vwCl (fw adr cI cZ (si u 19 v)) H1 → va_S A H0 H1 locs1 → W p l e R s m args below meth c H1 locs1 cells slots Q (F0 m (pc + 3) ls rest)) : W p l e R s m args below meth c H locs cells slots Q (F0 m pc ls (.int v :: .ref (adr 21) :: rest)) := va_put (ci := 0) (v := .int v) (ty := .int) (C := RX0) (T := TX0) (N := 6) hx hb hts hin tyX0 tyX0_ok nmX0 hown hK hP hD hS 21 rfl rfl 0 (by decide) hlink (fun _ h => h) rfl (by decide +kernel) rfl rfl (Nat.le_of_ble_eq_true rfl) hdg (fun H1 locs1 hP _ hS => kk H1 locs1 hP hS)
theorem fwg_21_1 (hx : p.tables.exec = Jvm.exec) (hb : c.code = cc) (hts : ∀ w ∈ Ts, w.before args s = true) (hin : ∀ w ∈ wsX00, w ∈ Ts) (hown : s.vm.findClass own = some m.cls) (hK : va_K D vwCl (tyB cI cZ) s) (hP : va_P D vwCl (fw adr cI cZ u) H) (hlink : (Cond.fieldLink own index "FilmBench$Layers" "kinds" "[I").before args s = true) (hdg : decode cc pc = .ok (.getfield index, 3)) (kk : W p l e R s m args below meth c H locs cells slots Q (F0 m (pc + 3) ls (.ref (adr 22) :: rest))) : W p l e R s m args below meth c H locs cells slots Q (F0 m pc ls (.ref (adr 21) :: rest)) := va_get (ci := 0) (C := RX0) (T := TX0) (N := 6) hx hb hts hin hown hK hP 21 rfl rfl 1 (by decide) hlink (fun _ h => h) rfl hdg kk
theorem fwg_21_2 (hx : p.tables.exec = Jvm.exec) (hb : c.code = cc) (hts : ∀ w ∈ Ts, w.before args s = true) (hin : ∀ w ∈ wsX00, w ∈ Ts) (hown : s.vm.findClass own = some m.cls) (hK : va_K D vwCl (tyB cI cZ) s) (hP : va_P D vwCl (fw adr cI cZ u) H) (hlink : (Cond.fieldLink own index "FilmBench$Layers" "owners" "[I").before args s = true) (hdg : decode cc pc = .ok (.getfield index, 3)) (kk : W p l e R s m args below meth c H locs cells slots Q (F0 m (pc + 3) ls (.ref (adr 23) :: rest))) : W p l e R s m args below meth c H locs cells slots Q (F0 m pc ls (.ref (adr 21) :: rest)) := va_get (ci := 0) (C := RX0) (T := TX0) (N := 6) hx hb hts hin hown hK hP 21 rfl rfl 2 (by decide) hlink (fun _ h => h) rfl hdg kk
theorem fwg_21_3 (hx : p.tables.exec = Jvm.exec) (hb : c.code = cc) (hts : ∀ w ∈ Ts, w.before args s = true) (hin : ∀ w ∈ wsX00, w ∈ Ts) (hown : s.vm.findClass own = some m.cls) (hK : va_K D vwCl (tyB cI cZ) s) (hP : va_P D vwCl (fw adr cI cZ u) H) (hlink : (Cond.fieldLink own index "FilmBench$Layers" "as" "[I").before args s = true) (hdg : decode cc pc = .ok (.getfield index, 3)) (kk : W p l e R s m args below meth c H locs cells slots Q (F0 m (pc + 3) ls (.ref (adr 24) :: rest))) : W p l e R s m args below meth c H locs cells slots Q (F0 m pc ls (.ref (adr 21) :: rest)) := va_get (ci := 0) (C := RX0) (T := TX0) (N := 6) hx hb hts hin hown hK hP 21 rfl rfl 3 (by decide) hlink (fun _ h => h) rfl hdg kk
theorem fwg_21_4 (hx : p.tables.exec = Jvm.exec) (hb : c.code = cc) (hts : ∀ w ∈ Ts, w.before args s = true) (hin : ∀ w ∈ wsX00, w ∈ Ts) (hown : s.vm.findClass own = some m.cls) (hK : va_K D vwCl (tyB cI cZ) s) (hP : va_P D vwCl (fw adr cI cZ u) H) (hlink : (Cond.fieldLink own index "FilmBench$Layers" "bs" "[I").before args s = true) (hdg : decode cc pc = .ok (.getfield index, 3)) (kk : W p l e R s m args below meth c H locs cells slots Q (F0 m (pc + 3) ls (.ref (adr 25) :: rest))) : W p l e R s m args below meth c H locs cells slots Q (F0 m pc ls (.ref (adr 21) :: rest)) := va_get (ci := 0) (C := RX0) (T := TX0) (N := 6) hx hb hts hin hown hK hP 21 rfl rfl 4 (by decide) hlink (fun _ h => h) rfl hdg kk
theorem fwg_21_5 (hx : p.tables.exec = Jvm.exec) (hb : c.code = cc) (hts : ∀ w ∈ Ts, w.before args s = true) (hin : ∀ w ∈ wsX00, w ∈ Ts) (hown : s.vm.findClass own = some m.cls) (hK : va_K D vwCl (tyB cI cZ) s) (hP : va_P D vwCl (fw adr cI cZ u) H) (hlink : (Cond.fieldLink own index "FilmBench$Layers" "ons" "[Z").before args s = true) (hdg : decode cc pc = .ok (.getfield index, 3)) (kk : W p l e R s m args below meth c H locs cells slots Q (F0 m (pc + 3) ls (.ref (adr 26) :: rest))) : W p l e R s m args below meth c H locs cells slots Q (F0 m pc ls (.ref (adr 21) :: rest)) := va_get (ci := 0) (C := RX0) (T := TX0) (N := 6) hx hb hts hin hown hK hP 21 rfl rfl 5 (by decide) hlink (fun _ h => h) rfl hdg kk
theorem fwl_22 {i v : Int32} (hx : p.tables.exec = Jvm.exec) (hb : c.code = cc) (hK : va_K D vwCl (tyB cI cZ) s) (hP : va_P D vwCl (fw adr cI cZ u) H) (hin : vp_in i 12) (hdg : decode cc pc = .ok (.iaload, 1)) (hv : u.2 22 i.toNatClampNeg = v) (kk : W p l e R s m args below meth c H locs cells slots Q (F0 m (pc + 1) ls (.int v :: rest))) : W p l e R s m args below meth c H locs cells slots Q (F0 m pc ls (.int i :: .ref (adr 22) :: rest)) := by subst hv; exact va_iald hx hb hK hP 22 0 rfl rfl hin hdg kk
theorem fws_22 {i x : Int32} (hx : p.tables.exec = Jvm.exec) (hb : c.code = cc) (hK : va_K D vwCl (tyB cI cZ) s) (hP : va_P D vwCl (fw adr cI cZ u) H) (hD : va_D A (fw adr cI cZ u)) (hS : va_S A H0 H locs) (hin : vp_in i 12) (hdg : decode cc pc = .ok (.iastore, 1)) (kk : ∀ (H1 : Heap) (locs1 : List Loc), va_P D vwCl (fw adr cI cZ (sA u 22 (upd (u.2 22) i.toNatClampNeg x))) H1 → va_S A H0 H1 locs1 → W p l e R s m args below meth c H1 locs1 cells slots Q (F0 m (pc + 1) ls rest)) : W p l e R s m args below meth c H locs cells slots Q (F0 m pc ls (.int x :: .int i :: .ref (adr 22) :: rest)) := va_iast hx hb hK hP hD hS 22 0 rfl rfl hin hdg (fun H1 locs1 hP _ hS => kk H1 locs1 hP hS)
theorem fwl_23 {i v : Int32} (hx : p.tables.exec = Jvm.exec) (hb : c.code = cc) (hK : va_K D vwCl (tyB cI cZ) s) (hP : va_P D vwCl (fw adr cI cZ u) H) (hin : vp_in i 12) (hdg : decode cc pc = .ok (.iaload, 1)) (hv : u.2 23 i.toNatClampNeg = v) (kk : W p l e R s m args below meth c H locs cells slots Q (F0 m (pc + 1) ls (.int v :: rest))) : W p l e R s m args below meth c H locs cells slots Q (F0 m pc ls (.int i :: .ref (adr 23) :: rest)) := by subst hv; exact va_iald hx hb hK hP 23 0 rfl rfl hin hdg kk
theorem fws_23 {i x : Int32} (hx : p.tables.exec = Jvm.exec) (hb : c.code = cc) (hK : va_K D vwCl (tyB cI cZ) s) (hP : va_P D vwCl (fw adr cI cZ u) H) (hD : va_D A (fw adr cI cZ u)) (hS : va_S A H0 H locs) (hin : vp_in i 12) (hdg : decode cc pc = .ok (.iastore, 1)) (kk : ∀ (H1 : Heap) (locs1 : List Loc), va_P D vwCl (fw adr cI cZ (sA u 23 (upd (u.2 23) i.toNatClampNeg x))) H1 → va_S A H0 H1 locs1 → W p l e R s m args below meth c H1 locs1 cells slots Q (F0 m (pc + 1) ls rest)) : W p l e R s m args below meth c H locs cells slots Q (F0 m pc ls (.int x :: .int i :: .ref (adr 23) :: rest)) := va_iast hx hb hK hP hD hS 23 0 rfl rfl hin hdg (fun H1 locs1 hP _ hS => kk H1 locs1 hP hS)
theorem fwl_24 {i v : Int32} (hx : p.tables.exec = Jvm.exec) (hb : c.code = cc) (hK : va_K D vwCl (tyB cI cZ) s) (hP : va_P D vwCl (fw adr cI cZ u) H) (hin : vp_in i 12) (hdg : decode cc pc = .ok (.iaload, 1)) (hv : u.2 24 i.toNatClampNeg = v) (kk : W p l e R s m args below meth c H locs cells slots Q (F0 m (pc + 1) ls (.int v :: rest))) : W p l e R s m args below meth c H locs cells slots Q (F0 m pc ls (.int i :: .ref (adr 24) :: rest)) := by subst hv; exact va_iald hx hb hK hP 24 0 rfl rfl hin hdg kk
theorem fws_24 {i x : Int32} (hx : p.tables.exec = Jvm.exec) (hb : c.code = cc) (hK : va_K D vwCl (tyB cI cZ) s) (hP : va_P D vwCl (fw adr cI cZ u) H) (hD : va_D A (fw adr cI cZ u)) (hS : va_S A H0 H locs) (hin : vp_in i 12) (hdg : decode cc pc = .ok (.iastore, 1)) (kk : ∀ (H1 : Heap) (locs1 : List Loc), va_P D vwCl (fw adr cI cZ (sA u 24 (upd (u.2 24) i.toNatClampNeg x))) H1 → va_S A H0 H1 locs1 → W p l e R s m args below meth c H1 locs1 cells slots Q (F0 m (pc + 1) ls rest)) : W p l e R s m args below meth c H locs cells slots Q (F0 m pc ls (.int x :: .int i :: .ref (adr 24) :: rest)) := va_iast hx hb hK hP hD hS 24 0 rfl rfl hin hdg (fun H1 locs1 hP _ hS => kk H1 locs1 hP hS)
theorem fwl_25 {i v : Int32} (hx : p.tables.exec = Jvm.exec) (hb : c.code = cc) (hK : va_K D vwCl (tyB cI cZ) s) (hP : va_P D vwCl (fw adr cI cZ u) H) (hin : vp_in i 12) (hdg : decode cc pc = .ok (.iaload, 1)) (hv : u.2 25 i.toNatClampNeg = v) (kk : W p l e R s m args below meth c H locs cells slots Q (F0 m (pc + 1) ls (.int v :: rest))) : W p l e R s m args below meth c H locs cells slots Q (F0 m pc ls (.int i :: .ref (adr 25) :: rest)) := by subst hv; exact va_iald hx hb hK hP 25 0 rfl rfl hin hdg kk
theorem fws_25 {i x : Int32} (hx : p.tables.exec = Jvm.exec) (hb : c.code = cc) (hK : va_K D vwCl (tyB cI cZ) s) (hP : va_P D vwCl (fw adr cI cZ u) H) (hD : va_D A (fw adr cI cZ u)) (hS : va_S A H0 H locs) (hin : vp_in i 12) (hdg : decode cc pc = .ok (.iastore, 1)) (kk : ∀ (H1 : Heap) (locs1 : List Loc), va_P D vwCl (fw adr cI cZ (sA u 25 (upd (u.2 25) i.toNatClampNeg x))) H1 → va_S A H0 H1 locs1 → W p l e R s m args below meth c H1 locs1 cells slots Q (F0 m (pc + 1) ls rest)) : W p l e R s m args below meth c H locs cells slots Q (F0 m pc ls (.int x :: .int i :: .ref (adr 25) :: rest)) := va_iast hx hb hK hP hD hS 25 0 rfl rfl hin hdg (fun H1 locs1 hP _ hS => kk H1 locs1 hP hS)
theorem fwl_26 {i v : Int32} (hx : p.tables.exec = Jvm.exec) (hb : c.code = cc) (hK : va_K D vwCl (tyB cI cZ) s) (hP : va_P D vwCl (fw adr cI cZ u) H) (hin : vp_in i 12) (hdg : decode cc pc = .ok (.baload, 1)) (hv : u.2 26 i.toNatClampNeg = v) (kk : W p l e R s m args below meth c H locs cells slots Q (F0 m (pc + 1) ls (.int v :: rest))) : W p l e R s m args below meth c H locs cells slots Q (F0 m pc ls (.int i :: .ref (adr 26) :: rest)) := by subst hv; exact va_zald hx hb hK hP 26 1 rfl rfl hin hdg kk
theorem fws_26 {i x : Int32} (hx : p.tables.exec = Jvm.exec) (hb : c.code = cc) (hK : va_K D vwCl (tyB cI cZ) s) (hP : va_P D vwCl (fw adr cI cZ u) H) (hD : va_D A (fw adr cI cZ u)) (hS : va_S A H0 H locs) (hin : vp_in i 12) (hdg : decode cc pc = .ok (.bastore, 1)) (kk : ∀ (H1 : Heap) (locs1 : List Loc), va_P D vwCl (fw adr cI cZ (sA u 26 (upd (u.2 26) i.toNatClampNeg (vp_nar .boolean x)))) H1 → va_S A H0 H1 locs1 → W p l e R s m args below meth c H1 locs1 cells slots Q (F0 m (pc + 1) ls rest)) : W p l e R s m args below meth c H locs cells slots Q (F0 m pc ls (.int x :: .int i :: .ref (adr 26) :: rest)) := va_zast hx hb hK hP hD hS 26 1 rfl rfl hin hdg (fun H1 locs1 hP _ hS => kk H1 locs1 hP hS)
end Gfw
end
