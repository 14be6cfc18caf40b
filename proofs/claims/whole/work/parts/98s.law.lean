/-! the law -/
theorem law_loop {sc : av_S} (hN : sc.1 ≤ 2560) {P : Option av_V → av_H → Prop} {H1 : Nat × Nat} (fin : ∀ h', h'.1 = H1 → P (some (.inl 1)) h') : ∀ (u c : Nat) (h : av_H) (s : SS), u = sc.1 - 5 * c → CB h s → MSS h 980 s → SZ c s → h.1 = H1 → WP sc (12 + 1) 159 18 [(0, .inr (.inl 1)), (1, .inr (.inl 2)), (2, .inr (.inl 980)), (3, .inl ((5 * c : Nat) : Int))] [] h P := by
  intro u
  induction u using Nat.strongRecOn with
  | _ u ih =>
    intro c h s hu C hm0 Z eh
    rw [u159_18]
    by_cases cl : 5 * c + 5 ≤ sc.1
    · have hc : c < 512 := by omega
      have okY := Z.okY hc
      have okR := Z.okR hc
      have nxt : ∀ (h2 : av_H) (s2 : SS), CB h2 s2 → MSS h2 980 s2 → SZ (c + 1) s2 → h2.1 = h.1 → WP sc (12 + 1) 159 555 [(0, .inr (.inl 1)), (1, .inr (.inl 2)), (2, .inr (.inl 980)), (3, .inl ((5 * c : Nat) : Int))] [] h2 P := by
        intro h2 s2 C2 M2 Z2 e2
        have := ih (sc.1 - 5 * (c + 1)) (by omega) (c + 1) h2 s2 rfl C2 M2 Z2 (e2.trans eh)
        rw [show ((5 * (c + 1) : Nat) : Int) = ((5 * c : Nat) : Int) + 5 by omega] at this
        clear C2 M2 Z2 okY okR Z C hm0
        simp (disch := omega) only [u159_555, u159_558, wr_id, rng, rngp, if_pos, if_neg, if_true, if_false, reduceCtorEq, true_and, and_true, and_self, Option.toList_some, Option.toList_none, List.cons_append, List.nil_append, Int.toNat_natCast]
        exact this
      have t0 : (((5 * c : Nat) : Int)).toNat = 5 * c := Int.toNat_natCast _
      have start : WP sc (12 + 1) 159 32 [(0, .inr (.inl 1)), (1, .inr (.inl 2)), (2, .inr (.inl 980)), (3, .inl ((5 * c : Nat) : Int))] [.inl (sc.2 (5 * c) % 32)] h P → WP sc (12 + 1) 159 19 [(0, .inr (.inl 1)), (1, .inr (.inl 2)), (2, .inr (.inl 980)), (3, .inl ((5 * c : Nat) : Int))] [.inl ((5 * c : Nat) : Int)] h P := by
        intro q
        clear nxt okY okR Z C hm0
        simp (disch := omega) only [u159_19, u159_20, u159_21, u159_22, u159_23, u159_26, u159_27, u159_28, u159_29, u159_31, wr_id, rng, rngp, if_pos, if_neg, if_true, if_false, reduceCtorEq, true_and, and_true, and_self, Option.toList_some, Option.toList_none, List.cons_append, List.nil_append, Int.toNat_natCast]
        exact q
      refine start ?_
      clear start
      have i1 : 0 ≤ ((5 * c : Nat) : Int) + 1 ∧ ((5 * c : Nat) : Int) + 1 < (sc.1 : Int) := by omega
      have i2 : 0 ≤ ((5 * c : Nat) : Int) + 2 ∧ ((5 * c : Nat) : Int) + 2 < (sc.1 : Int) := by omega
      have i3 : 0 ≤ ((5 * c : Nat) : Int) + 3 ∧ ((5 * c : Nat) : Int) + 3 < (sc.1 : Int) := by omega
      have i4 : 0 ≤ ((5 * c : Nat) : Int) + 4 ∧ ((5 * c : Nat) : Int) + 4 < (sc.1 : Int) := by omega
      generalize sc.2 (5 * c) % 32 = op
      by_cases c0 : op = 0
      · obtain ⟨h1, h2, w1, w2, C2, M2, e2, k1, k2⟩ := both (sc := sc) (m1 := 71) (m2 := 130) (as := []) (r := xBegins s) C hm0 (b_begins (d := 0) C okY) (fun h1 hm => c_begins (d := 0) hm)
        have q := nxt h2 _ C2 M2 (sz_begins Z) e2
        rw [u159_32, c0]
        clear C2 M2 nxt okY okR Z C hm0
        simp (disch := omega) only [u159_120, u159_121, u159_124, u159_125, u159_128, u159_131, u159_132, k1, k2, w1, w2, wr_id, rng, rngp, if_pos, if_neg, if_true, if_false, reduceCtorEq, true_and, and_true, and_self, Option.toList_some, Option.toList_none, List.cons_append, List.nil_append, Int.toNat_natCast]
        exact q
      by_cases c1 : op = 1
      · obtain ⟨h1, h2, w1, w2, C2, M2, e2, k1, k2⟩ := both (sc := sc) (m1 := 72) (m2 := 131) (as := [(1, .inl (sc.2 (((5 * c : Nat) : Int) + 1).toNat)), (2, .inl (sc.2 (((5 * c : Nat) : Int) + 2).toNat)), (3, .inl (sc.2 (((5 * c : Nat) : Int) + 3).toNat)), (4, .inl (sc.2 (((5 * c : Nat) : Int) + 4).toNat))]) (r := xNode s (sc.2 (((5 * c : Nat) : Int) + 1).toNat) (sc.2 (((5 * c : Nat) : Int) + 2).toNat) (sc.2 (((5 * c : Nat) : Int) + 3).toNat) (sc.2 (((5 * c : Nat) : Int) + 4).toNat)) C hm0 (b_node (d := 0) C okY okR) (fun h1 hm => c_node (d := 0) hm okR okY.1)
        have q := nxt h2 _ C2 M2 (sz_node Z) e2
        rw [u159_32, c1]
        clear C2 M2 nxt okY okR Z C hm0
        simp (disch := omega) only [u159_133, u159_134, u159_135, u159_136, u159_137, u159_138, u159_139, u159_140, u159_141, u159_142, u159_143, u159_144, u159_145, u159_146, u159_147, u159_148, u159_149, u159_150, u159_151, u159_152, u159_153, u159_154, u159_157, u159_158, u159_159, u159_160, u159_161, u159_162, u159_163, u159_164, u159_165, u159_166, u159_167, u159_168, u159_169, u159_170, u159_171, u159_172, u159_173, u159_174, u159_175, u159_176, u159_177, u159_178, u159_181, u159_184, u159_185, k1, k2, w1, w2, wr_id, rng, rngp, if_pos, if_neg, if_true, if_false, reduceCtorEq, true_and, and_true, and_self, Option.toList_some, Option.toList_none, List.cons_append, List.nil_append, Int.toNat_natCast]
        exact q
      by_cases c2 : op = 2
      · obtain ⟨h1, h2, w1, w2, C2, M2, e2, k1, k2⟩ := both (sc := sc) (m1 := 73) (m2 := 132) (as := [(1, .inl (sc.2 (((5 * c : Nat) : Int) + 1).toNat))]) (r := xLen s (sc.2 (((5 * c : Nat) : Int) + 1).toNat)) C hm0 (b_len (d := 0) C okY okR) (fun h1 hm => c_len (d := 0) hm okR)
        have q := nxt h2 _ C2 M2 (sz_len Z) e2
        rw [u159_32, c2]
        clear C2 M2 nxt okY okR Z C hm0
        simp (disch := omega) only [u159_186, u159_187, u159_188, u159_189, u159_190, u159_191, u159_192, u159_195, u159_196, u159_197, u159_198, u159_199, u159_200, u159_201, u159_204, u159_207, u159_208, k1, k2, w1, w2, wr_id, rng, rngp, if_pos, if_neg, if_true, if_false, reduceCtorEq, true_and, and_true, and_self, Option.toList_some, Option.toList_none, List.cons_append, List.nil_append, Int.toNat_natCast]
        exact q
      by_cases c3 : op = 3
      · obtain ⟨h1, h2, w1, w2, C2, M2, e2, k1, k2⟩ := both (sc := sc) (m1 := 74) (m2 := 133) (as := [(1, .inl (sc.2 (((5 * c : Nat) : Int) + 1).toNat))]) (r := xAli s (sc.2 (((5 * c : Nat) : Int) + 1).toNat)) C hm0 (b_ali (d := 0) C okY okR) (fun h1 hm => c_ali (d := 0) hm okR)
        have q := nxt h2 _ C2 M2 (sz_ali Z) e2
        rw [u159_32, c3]
        clear C2 M2 nxt okY okR Z C hm0
        simp (disch := omega) only [u159_209, u159_210, u159_211, u159_212, u159_213, u159_214, u159_215, u159_218, u159_219, u159_220, u159_221, u159_222, u159_223, u159_224, u159_227, u159_230, u159_231, k1, k2, w1, w2, wr_id, rng, rngp, if_pos, if_neg, if_true, if_false, reduceCtorEq, true_and, and_true, and_self, Option.toList_some, Option.toList_none, List.cons_append, List.nil_append, Int.toNat_natCast]
        exact q
      by_cases c4 : op = 4
      · obtain ⟨h1, h2, w1, w2, C2, M2, e2, k1, k2⟩ := both (sc := sc) (m1 := 75) (m2 := 134) (as := [(1, .inl (sc.2 (((5 * c : Nat) : Int) + 1).toNat))]) (r := xSteps s (sc.2 (((5 * c : Nat) : Int) + 1).toNat)) C hm0 (b_steps (d := 0) C okY okR) (fun h1 hm => c_steps (d := 0) hm okR okY.1)
        have q := nxt h2 _ C2 M2 (sz_steps Z hc) e2
        rw [u159_32, c4]
        clear C2 M2 nxt okY okR Z C hm0
        simp (disch := omega) only [u159_232, u159_233, u159_234, u159_235, u159_236, u159_237, u159_238, u159_241, u159_242, u159_243, u159_244, u159_245, u159_246, u159_247, u159_250, u159_253, u159_254, k1, k2, w1, w2, wr_id, rng, rngp, if_pos, if_neg, if_true, if_false, reduceCtorEq, true_and, and_true, and_self, Option.toList_some, Option.toList_none, List.cons_append, List.nil_append, Int.toNat_natCast]
        exact q
      by_cases c5 : op = 5
      · obtain ⟨h1, h2, w1, w2, C2, M2, e2, k1, k2⟩ := both (sc := sc) (m1 := 76) (m2 := 135) (as := []) (r := xMarks s) C hm0 (b_marks (d := 0) C okY okR) (fun h1 hm => c_marks (d := 0) hm okR okY.1)
        have q := nxt h2 _ C2 M2 (sz_marks Z) e2
        rw [u159_32, c5]
        clear C2 M2 nxt okY okR Z C hm0
        simp (disch := omega) only [u159_255, u159_256, u159_259, u159_260, u159_263, u159_266, u159_267, k1, k2, w1, w2, wr_id, rng, rngp, if_pos, if_neg, if_true, if_false, reduceCtorEq, true_and, and_true, and_self, Option.toList_some, Option.toList_none, List.cons_append, List.nil_append, Int.toNat_natCast]
        exact q
      by_cases c6 : op = 6
      · obtain ⟨h1, h2, w1, w2, C2, M2, e2, k1, k2⟩ := both (sc := sc) (m1 := 77) (m2 := 136) (as := []) (r := xFails s) C hm0 (b_fails (d := 0) C okY okR) (fun h1 hm => c_fails (d := 0) hm okY.1)
        have q := nxt h2 _ C2 M2 (sz_fails Z) e2
        rw [u159_32, c6]
        clear C2 M2 nxt okY okR Z C hm0
        simp (disch := omega) only [u159_268, u159_269, u159_272, u159_273, u159_276, u159_279, u159_280, k1, k2, w1, w2, wr_id, rng, rngp, if_pos, if_neg, if_true, if_false, reduceCtorEq, true_and, and_true, and_self, Option.toList_some, Option.toList_none, List.cons_append, List.nil_append, Int.toNat_natCast]
        exact q
      by_cases c7 : op = 7
      · obtain ⟨h1, h2, w1, w2, C2, M2, e2, k1, k2⟩ := both (sc := sc) (m1 := 78) (m2 := 137) (as := [(1, .inl (sc.2 (((5 * c : Nat) : Int) + 1).toNat)), (2, .inl (sc.2 (((5 * c : Nat) : Int) + 2).toNat))]) (r := xOf s (sc.2 (((5 * c : Nat) : Int) + 1).toNat) (sc.2 (((5 * c : Nat) : Int) + 2).toNat)) C hm0 (b_of (d := 0) C okY okR) (fun h1 hm => c_of (d := 0) hm okR okY.1)
        have q := nxt h2 _ C2 M2 (sz_if Z) e2
        rw [u159_32, c7]
        clear C2 M2 nxt okY okR Z C hm0
        simp (disch := omega) only [u159_281, u159_282, u159_283, u159_284, u159_285, u159_286, u159_287, u159_288, u159_289, u159_290, u159_291, u159_292, u159_295, u159_296, u159_297, u159_298, u159_299, u159_300, u159_301, u159_302, u159_303, u159_304, u159_305, u159_306, u159_309, u159_312, u159_313, k1, k2, w1, w2, wr_id, rng, rngp, if_pos, if_neg, if_true, if_false, reduceCtorEq, true_and, and_true, and_self, Option.toList_some, Option.toList_none, List.cons_append, List.nil_append, Int.toNat_natCast]
        exact q
      by_cases c8 : op = 8
      · obtain ⟨h1, h2, w1, w2, C2, M2, e2, k1, k2⟩ := both (sc := sc) (m1 := 79) (m2 := 140) (as := [(1, .inl (sc.2 (((5 * c : Nat) : Int) + 1).toNat)), (2, .inl (sc.2 (((5 * c : Nat) : Int) + 2).toNat)), (3, .inl (sc.2 (((5 * c : Nat) : Int) + 3).toNat))]) (r := xLetter s (sc.2 (((5 * c : Nat) : Int) + 1).toNat) (sc.2 (((5 * c : Nat) : Int) + 2).toNat) (sc.2 (((5 * c : Nat) : Int) + 3).toNat)) C hm0 (b_letter (d := 0) C okR) (fun h1 hm => c_letter (d := 0) hm okR okY.1)
        have q := nxt h2 _ C2 M2 (sz_if Z) e2
        rw [u159_32, c8]
        clear C2 M2 nxt okY okR Z C hm0
        simp (disch := omega) only [u159_314, u159_315, u159_316, u159_317, u159_318, u159_319, u159_320, u159_321, u159_322, u159_323, u159_324, u159_325, u159_326, u159_327, u159_328, u159_329, u159_330, u159_333, u159_334, u159_335, u159_336, u159_337, u159_338, u159_339, u159_340, u159_341, u159_342, u159_343, u159_344, u159_345, u159_346, u159_347, u159_348, u159_349, u159_352, u159_355, u159_356, k1, k2, w1, w2, wr_id, rng, rngp, if_pos, if_neg, if_true, if_false, reduceCtorEq, true_and, and_true, and_self, Option.toList_some, Option.toList_none, List.cons_append, List.nil_append, Int.toNat_natCast]
        exact q
      by_cases c9 : op = 9
      · obtain ⟨h1, h2, w1, w2, C2, M2, e2, k1, k2⟩ := both (sc := sc) (m1 := 80) (m2 := 141) (as := [(1, .inl (sc.2 (((5 * c : Nat) : Int) + 1).toNat)), (2, .inl (sc.2 (((5 * c : Nat) : Int) + 2).toNat))]) (r := xSum s (sc.2 (((5 * c : Nat) : Int) + 1).toNat) (sc.2 (((5 * c : Nat) : Int) + 2).toNat)) C hm0 (b_sum (d := 0) C okR) (fun h1 hm => c_sum (d := 0) hm okR okY.1)
        have q := nxt h2 _ C2 M2 (sz_if Z) e2
        rw [u159_32, c9]
        clear C2 M2 nxt okY okR Z C hm0
        simp (disch := omega) only [u159_357, u159_358, u159_359, u159_360, u159_361, u159_362, u159_363, u159_364, u159_365, u159_366, u159_367, u159_368, u159_371, u159_372, u159_373, u159_374, u159_375, u159_376, u159_377, u159_378, u159_379, u159_380, u159_381, u159_382, u159_385, u159_388, u159_389, k1, k2, w1, w2, wr_id, rng, rngp, if_pos, if_neg, if_true, if_false, reduceCtorEq, true_and, and_true, and_self, Option.toList_some, Option.toList_none, List.cons_append, List.nil_append, Int.toNat_natCast]
        exact q
      by_cases c10 : op = 10
      · obtain ⟨h1, h2, w1, w2, C2, M2, e2, k1, k2⟩ := both (sc := sc) (m1 := 81) (m2 := 142) (as := [(1, .inl (sc.2 (((5 * c : Nat) : Int) + 1).toNat)), (2, .inl (sc.2 (((5 * c : Nat) : Int) + 2).toNat)), (3, .inl (sc.2 (((5 * c : Nat) : Int) + 3).toNat))]) (r := xRow s (sc.2 (((5 * c : Nat) : Int) + 1).toNat) (sc.2 (((5 * c : Nat) : Int) + 2).toNat) (sc.2 (((5 * c : Nat) : Int) + 3).toNat)) C hm0 (b_row (d := 0) C okR) (fun h1 hm => c_row (d := 0) hm okR okY.1)
        have q := nxt h2 _ C2 M2 (sz_if Z) e2
        rw [u159_32, c10]
        clear C2 M2 nxt okY okR Z C hm0
        simp (disch := omega) only [u159_390, u159_391, u159_392, u159_393, u159_394, u159_395, u159_396, u159_397, u159_398, u159_399, u159_400, u159_401, u159_402, u159_403, u159_404, u159_405, u159_406, u159_409, u159_410, u159_411, u159_412, u159_413, u159_414, u159_415, u159_416, u159_417, u159_418, u159_419, u159_420, u159_421, u159_422, u159_423, u159_424, u159_425, u159_428, u159_431, u159_432, k1, k2, w1, w2, wr_id, rng, rngp, if_pos, if_neg, if_true, if_false, reduceCtorEq, true_and, and_true, and_self, Option.toList_some, Option.toList_none, List.cons_append, List.nil_append, Int.toNat_natCast]
        exact q
      by_cases c11 : op = 11
      · obtain ⟨h1, h2, w1, w2, C2, M2, e2, k1, k2⟩ := both (sc := sc) (m1 := 82) (m2 := 143) (as := [(1, .inl (sc.2 (((5 * c : Nat) : Int) + 1).toNat))]) (r := xCount s (sc.2 (((5 * c : Nat) : Int) + 1).toNat)) C hm0 (b_count (d := 0) C okY okR) (fun h1 hm => c_count (d := 0) hm okR okY.1)
        have q := nxt h2 _ C2 M2 (sz_if Z) e2
        rw [u159_32, c11]
        clear C2 M2 nxt okY okR Z C hm0
        simp (disch := omega) only [u159_433, u159_434, u159_435, u159_436, u159_437, u159_438, u159_439, u159_442, u159_443, u159_444, u159_445, u159_446, u159_447, u159_448, u159_451, u159_454, u159_455, k1, k2, w1, w2, wr_id, rng, rngp, if_pos, if_neg, if_true, if_false, reduceCtorEq, true_and, and_true, and_self, Option.toList_some, Option.toList_none, List.cons_append, List.nil_append, Int.toNat_natCast]
        exact q
      by_cases c12 : op = 12
      · obtain ⟨h1, h2, w1, w2, C2, M2, e2, k1, k2⟩ := both (sc := sc) (m1 := 83) (m2 := 145) (as := [(1, .inl (sc.2 (((5 * c : Nat) : Int) + 1).toNat))]) (r := xType s (sc.2 (((5 * c : Nat) : Int) + 1).toNat)) C hm0 (b_type (d := 0) C okR) (fun h1 hm => c_type (d := 0) hm okR)
        have q := nxt h2 _ C2 M2 (sz_type Z) e2
        rw [u159_32, c12]
        clear C2 M2 nxt okY okR Z C hm0
        simp (disch := omega) only [u159_456, u159_457, u159_458, u159_459, u159_460, u159_461, u159_462, u159_465, u159_466, u159_467, u159_468, u159_469, u159_470, u159_471, u159_474, u159_477, u159_478, k1, k2, w1, w2, wr_id, rng, rngp, if_pos, if_neg, if_true, if_false, reduceCtorEq, true_and, and_true, and_self, Option.toList_some, Option.toList_none, List.cons_append, List.nil_append, Int.toNat_natCast]
        exact q
      by_cases c13 : op = 13
      · obtain ⟨h1, h2, w1, w2, C2, M2, e2, k1, k2⟩ := both (sc := sc) (m1 := 84) (m2 := 146) (as := []) (r := xClear s) C hm0 (b_clear (d := 0) C) (fun h1 hm => c_clear (d := 0) hm)
        have q := nxt h2 _ C2 M2 (sz_clear Z) e2
        rw [u159_32, c13]
        clear C2 M2 nxt okY okR Z C hm0
        simp (disch := omega) only [u159_479, u159_480, u159_483, u159_484, u159_487, u159_490, u159_491, k1, k2, w1, w2, wr_id, rng, rngp, if_pos, if_neg, if_true, if_false, reduceCtorEq, true_and, and_true, and_self, Option.toList_some, Option.toList_none, List.cons_append, List.nil_append, Int.toNat_natCast]
        exact q
      by_cases c14 : op = 14
      · obtain ⟨h1, h2, w1, w2, C2, M2, e2, k1, k2⟩ := both (sc := sc) (m1 := 85) (m2 := 152) (as := []) (r := xDoes s) C hm0 (b_does (d := 0) C okY.b (fun os h j _ => (Z.exe hc h j).okY (by omega) (by omega) (by omega))) (fun h1 hm => c_does (d := 0) hm Z.2.2.2.2 (fun os h j _ => ((Z.exe hc h j).okY (by omega) (by omega) (by omega)).1))
        have q := nxt h2 _ C2 M2 (sz_does Z hc) e2
        rw [u159_32, c14]
        clear C2 M2 nxt okY okR Z C hm0
        simp (disch := omega) only [u159_492, u159_493, u159_496, u159_497, u159_500, u159_503, u159_504, k1, k2, w1, w2, wr_id, rng, rngp, if_pos, if_neg, if_true, if_false, reduceCtorEq, true_and, and_true, and_self, Option.toList_some, Option.toList_none, List.cons_append, List.nil_append, Int.toNat_natCast]
        exact q
      by_cases c15 : op = 15
      · obtain ⟨h1, h2, w1, w2, C2, M2, e2, k1, k2⟩ := both (sc := sc) (m1 := 86) (m2 := 153) (as := []) (r := xBack s) C hm0 (b_back (d := 0) C okR (fun j hj => ((Z.2.1 j hj).okY (by omega) (by omega) (by omega)).b)) (fun h1 hm => c_back (d := 0) hm okR)
        have q := nxt h2 _ C2 M2 (sz_back Z) e2
        rw [u159_32, c15]
        clear C2 M2 nxt okY okR Z C hm0
        simp (disch := omega) only [u159_505, u159_506, u159_509, u159_510, u159_513, u159_516, u159_517, k1, k2, w1, w2, wr_id, rng, rngp, if_pos, if_neg, if_true, if_false, reduceCtorEq, true_and, and_true, and_self, Option.toList_some, Option.toList_none, List.cons_append, List.nil_append, Int.toNat_natCast]
        exact q
      by_cases c16 : op = 16
      · obtain ⟨h1, h2, w1, w2, C2, M2, e2, k1, k2⟩ := both (sc := sc) (m1 := 87) (m2 := 154) (as := [(1, .inl (sc.2 (((5 * c : Nat) : Int) + 1).toNat))]) (r := xTold s (sc.2 (((5 * c : Nat) : Int) + 1).toNat)) C hm0 (b_toldc (d := 0) C okR) (fun h1 hm => c_told (d := 0) hm okR)
        have q := nxt h2 _ C2 M2 (sz_if Z) e2
        rw [u159_32, c16]
        clear C2 M2 nxt okY okR Z C hm0
        simp (disch := omega) only [u159_518, u159_519, u159_520, u159_521, u159_522, u159_523, u159_524, u159_527, u159_528, u159_529, u159_530, u159_531, u159_532, u159_533, u159_536, u159_539, u159_540, k1, k2, w1, w2, wr_id, rng, rngp, if_pos, if_neg, if_true, if_false, reduceCtorEq, true_and, and_true, and_self, Option.toList_some, Option.toList_none, List.cons_append, List.nil_append, Int.toNat_natCast]
        exact q
      by_cases c17 : op = 17
      · have w1 : ∀ Q, WP sc 12 88 0 [(0, .inr (.inl 2))] [] h Q ↔ Q (some (.inr (.inr (xDig s)))) h := fun Q => b_digest (d := 0) C okY Q
        have w2 : ∀ Q, WP sc 12 156 0 [(0, .inr (.inl 980))] [] h Q ↔ Q (some (.inr (.inr (xDig s)))) h := fun Q => c_digest (d := 0) hm0 okY.1 Q
        have k1 : (kd h 2).1 = 6 := C.1.1
        have k2 : (kd h 980).1 = 7 := hm0.1.1
        have q := nxt h s C hm0 Z.wk rfl
        rw [u159_32, c17]
        simp (disch := omega) only [u159_541, u159_542, u159_545, u159_546, u159_549, u159_550, u159_553, u159_554, k1, k2, w1, w2, wr_id, rng, rngp, if_pos, if_neg, if_true, if_false, reduceCtorEq, true_and, and_true, and_self, Option.toList_some, Option.toList_none, List.cons_append, List.nil_append, Int.toNat_natCast]
        exact q
      have q := nxt h s C hm0 Z.wk rfl
      rw [u159_32, if_neg c0, if_neg c1, if_neg c2, if_neg c3, if_neg c4, if_neg c5, if_neg c6, if_neg c7, if_neg c8, if_neg c9, if_neg c10, if_neg c11, if_neg c12, if_neg c13, if_neg c14, if_neg c15, if_neg c16, if_neg c17]
      exact q
    · have f := fin h eh
      clear Z C hm0 ih
      simp (disch := omega) only [u159_19, u159_20, u159_21, u159_22, u159_23, u159_561, u159_562, true_or, or_true, wr_id, rng, rngp, if_pos, if_neg, if_true, if_false, reduceCtorEq, true_and, and_true, and_self, Option.toList_some, Option.toList_none, List.cons_append, List.nil_append, Int.toNat_natCast]
      exact f
theorem le4 {p q : Nat} (a : p ≤ q + 44979) (b : q ≤ 5 + 31000) : p ≤ 7302250 := Nat.le_trans a (Nat.le_trans (Nat.add_le_add_right b _) (by decide))
theorem lawWP0 : LawWP := by
  intro sc hN hin
  show WP sc (12 + 1) 159 0 _ _ _ _
  have e2 : hE0.1.1 + 2 = 2 := rfl
  have ka : (kd (al hE0 6 5) 2).1 = 6 := by rw [kd_aL, if_pos e2.symm]
  obtain ⟨h1, w1, C1, n1, s1, -⟩ := b_init (sc := sc) (d := 7) (h := al hE0 6 5) rfl ka (fun j => by rw [gI_al, if_pos e2.symm])
  have w1' : ∀ Q, WP sc 12 70 0 [(0, .inr (.inl 2))] [] (al hE0 6 5) Q ↔ Q none h1 := w1
  have e3 : h1.1.1 + 2 = 980 := by omega
  have kb : (kd (al h1 7 8) 980).1 = 7 := by rw [kd_aL, if_pos (by omega)]
  obtain ⟨h2, w2, M2, s2, f2⟩ := c_init (sc := sc) (d := 10) (h := al h1 7 8) (x := 980) (by rw [h11_al]; omega) (by omega) kb (fun j => by rw [gI_al, if_pos (by omega)])
  have w2' : ∀ Q, WP sc 12 94 0 [(0, .inr (.inl 980))] [] (al h1 7 8) Q ↔ Q none h2 := w2
  have G : Ga h1 h2 980 980 6 44979 := by
    have x1 : Ga h1 (al h1 7 8) 980 980 1 8 := Ga.al.lo (by omega)
    have x2 : Ga (al h1 7 8) h2 980 980 5 44971 := ⟨by rw [s2], by rw [s2]; exact Nat.le_refl _, fun b hb => (f2 b hb).1, fun b j hb _ => (f2 b hb).2.1 j, fun b j hb _ => (f2 b hb).2.2 j⟩
    exact x1.tr x2 (Nat.le_refl _)
  have C2 : CB h2 (sNew, [], fun _ => 0, []) := by
    obtain ⟨⟨k0, k1, k2, k3, k4, k5, k6⟩, C, a1, ⟨b1, π, ⟨b2, b3⟩, b4⟩, R, p, o, T⟩ := C1
    have i : ∀ a j, a < 980 → gI h2 a j = gI h1 a j := fun a j ha => G.2.2.2.1 a j ha (by omega)
    have g : ∀ a j, a < 980 → gR h2 a j = gR h1 a j := fun a j ha => G.2.2.2.2 a j ha (by omega)
    have k : ∀ a, a < 980 → kd h2 a = kd h1 a := fun a ha => G.2.2.1 a ha
    refine ⟨⟨by rw [k _ (by omega)]; exact k0, by rw [g _ _ (by omega)]; exact k1, by rw [g _ _ (by omega)]; exact k2, by rw [k _ (by omega)]; exact k3, by rw [g _ _ (by omega)]; exact k4, by rw [g _ _ (by omega)]; exact k5, by rw [k _ (by omega)]; exact k6⟩, CW.ga C G (by omega) (by omega), by rw [i _ _ (by omega)]; exact a1, ⟨b1, π, ⟨fun j hj => ?_, b3⟩, fun j hj => absurd hj (Nat.not_lt_zero j)⟩, fun j hj => by rw [i _ _ (by omega)]; exact R j hj, p, o, T.ga G (by omega) (by omega)⟩
    obtain ⟨u1, u2, u3⟩ := b2 j hj
    exact ⟨u1, by rw [g _ _ (by omega)]; exact u2, u3.ga G (by omega) (by omega)⟩
  have n2 : h2.1.1 ≤ 600000 := by rw [G.1, n1]; decide
  have z2 : h2.1.2 ≤ 7302250 := by
    have a1 := G.2.1
    have a2 := s1
    have a3 : (al hE0 6 5).1.2 = 5 := rfl
    rw [a3] at a2
    generalize h2.1.2 = p at *
    generalize h1.1.2 = q at *
    exact le4 a1 a2
  have Z0 : SZ 0 (sNew, [], fun _ => 0, []) := ⟨invz_new (by omega) (by omega), fun j hj => absurd hj (Nat.not_lt_zero j), fun k hk => ⟨Int.le_refl _, Int.le_refl _⟩, Nat.zero_le _, fun i hi => absurd hi (Nat.not_lt_zero i)⟩
  have L := law_loop (sc := sc) hN (P := fun r h' => r = some (.inl 1) ∧ h'.1.1 ≤ 600000 ∧ h'.1.2 ≤ 7302250) (H1 := h2.1) (fun h' e => ⟨rfl, by rw [e]; exact n2, by rw [e]; exact z2⟩) _ 0 h2 _ rfl C2 M2 Z0 rfl
  simp (disch := omega) only [u159_0, u159_3, u159_4, u159_7, u159_8, u159_11, u159_12, u159_15, u159_16, u159_17, e2, ka, w1', e3, kb, w2', wr_id, rng, rngp, if_pos, if_neg, if_true, if_false, reduceCtorEq, true_and, and_true, and_self, Option.toList_some, Option.toList_none, List.cons_append, List.nil_append, Int.toNat_natCast]
  exact L
