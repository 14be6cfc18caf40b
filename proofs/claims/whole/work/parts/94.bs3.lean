/-! the calls of the class (2) -/
theorem b_ref {sc : av_S} {d : Nat} {h : av_H} {s : SS} {how : Int} (S : CB h s) (hr : okR s.2.2.1) (hh : how = -2 ∨ how = -3 ∨ how = -4) : ∃ h', (∀ Q, WP sc (d + 11) 90 0 [(0, .inr (.inl 2)), (1, .inl how)] [] h Q ↔ Q (some (.inl how)) h') ∧ CB h' (xRef s how).2 ∧ Fr h h' 2 980 := b_refuse (d := d + 10) S hr hh
theorem b_of {sc : av_S} {d : Nat} {h : av_H} {s : SS} {n w : Int} (S : CB h s) (ok : okY s.1) (hr : okR s.2.2.1) : Cb sc (d + 12) 78 [(1, .inl n), (2, .inl w)] h (xOf s n w) := by
  obtain ⟨K, C, -⟩ := id S
  obtain ⟨k0, k1, -⟩ := id K
  obtain ⟨z1, z2⟩ := C.sz
  obtain ⟨⟨w0, v1, v2, v3⟩, -, -, cn, -⟩ := id C
  have hn : ∀ Q, WP sc (d + 11) 49 0 [(0, .inr (.inl 3)), (1, .inl n)] [] h Q ↔ Q (some (.inl (bI (isNd s.1 n)))) h := fun Q => w_hasNode (d := d + 10) C Q
  obtain ⟨h1, w1, S1, F1⟩ := b_ref (sc := sc) (d := d) (how := -2) S hr (by omega)
  unfold xOf
  by_cases c : isNd s.1 n = true
  · rw [c] at hn
    have c' : 0 ≤ n ∧ n < sg s.1 0 := of_decide_eq_true c
    by_cases c1 : 0 ≤ w
    · by_cases c2 : w ≤ 9
      · rw [if_pos ⟨c, c1, c2⟩]
        obtain ⟨m, rfl⟩ : ∃ m : Nat, n = (m : Int) := ⟨n.toNat, by omega⟩
        obtain ⟨k, rfl⟩ : ∃ k : Nat, w = (k : Int) := ⟨w.toNat, by omega⟩
        have hm : m < sN s.1 := by omega
        have N := cn m hm
        obtain ⟨o5, o9, oU, -⟩ := ok.2.2.2.1 m hm
        have wf : ∀ Q, WP sc (d + 11) 8 0 [(0, .inr (.inl (3 + 2 + 20 * m))), (1, .inl (k : Int))] [] h Q ↔ Q (some (.inl (sFact s.1 m k))) h := fun Q => n_factS (d := d + 10) N (by omega) o5 o9 oU Q
        have kn : (kd h (3 + 2 + 20 * m)).1 = 1 := by obtain ⟨pa, la, K, -⟩ := N.to; exact K.1
        have v3' := v3 m (by omega)
        refine ⟨h, fun Q => ?_, S, Fr.rf⟩
        clear S S1 C N
        simp (disch := omega) only [u78_0, u78_1, u78_4, u78_5, u78_8, u78_11, u78_12, u78_15, u78_16, u78_18, u78_21, u78_22, u78_24, u78_27, u78_28, u78_29, u78_32, u78_35, u78_36, u78_37, u78_38, u78_41, k0, k1, w0, hn, v1, v2, v3', kn, wf, bI_t, true_or, or_true, wr_id, rng, rngp, if_pos, if_neg, if_true, if_false, reduceCtorEq, true_and, and_true, and_self, Option.toList_some, Option.toList_none, List.cons_append, List.nil_append, Int.toNat_natCast]
      · rw [if_neg (fun q => c2 q.2.2)]
        refine ⟨h1, fun Q => ?_, S1, F1⟩
        clear S S1 C
        simp (disch := omega) only [u78_0, u78_1, u78_4, u78_5, u78_8, u78_11, u78_12, u78_15, u78_16, u78_18, u78_21, u78_22, u78_24, u78_27, u78_28, u78_29, u78_32, u78_35, u78_36, u78_37, u78_38, u78_41, k0, k1, w0, hn, w1, bI_t, wr_id, rng, rngp, if_pos, if_neg, if_true, if_false, reduceCtorEq, true_and, and_true, and_self, Option.toList_some, Option.toList_none, List.cons_append, List.nil_append, Int.toNat_natCast]
        rfl
    · rw [if_neg (fun q => c1 q.2.1)]
      refine ⟨h1, fun Q => ?_, S1, F1⟩
      clear S S1 C
      simp (disch := omega) only [u78_0, u78_1, u78_4, u78_5, u78_8, u78_11, u78_12, u78_15, u78_16, u78_18, u78_21, u78_22, u78_24, u78_27, u78_28, u78_29, u78_32, u78_35, u78_36, u78_37, u78_38, u78_41, k0, k1, w0, hn, w1, bI_t, wr_id, rng, rngp, if_pos, if_neg, if_true, if_false, reduceCtorEq, true_and, and_true, and_self, Option.toList_some, Option.toList_none, List.cons_append, List.nil_append, Int.toNat_natCast]
      rfl
  · rw [if_neg (fun q => c q.1)]
    rw [Bool.eq_false_iff.mpr c] at hn
    refine ⟨h1, fun Q => ?_, S1, F1⟩
    clear S S1 C
    simp (disch := omega) only [u78_0, u78_1, u78_4, u78_5, u78_8, u78_11, u78_12, u78_15, u78_16, u78_18, u78_21, u78_22, u78_24, u78_27, u78_28, u78_29, u78_32, u78_35, u78_36, u78_37, u78_38, u78_41, k0, k1, w0, hn, w1, bI_f, wr_id, rng, rngp, if_pos, if_neg, if_true, if_false, reduceCtorEq, true_and, and_true, and_self, Option.toList_some, Option.toList_none, List.cons_append, List.nil_append, Int.toNat_natCast]
    rfl
theorem plc_at {L : List Int} {j : Int} (hj : 0 ≤ j) : (if 0 ≤ j ∧ j < (L.length : Int) then L.getD j.toNat 0 else -1) = plc L j := by
  unfold plc
  by_cases c : j < (L.length : Int)
  · rw [if_pos ⟨hj, c⟩, if_pos c]
  · rw [if_neg (fun q => c q.2), if_neg c]
theorem b_letter {sc : av_S} {d : Nat} {h : av_H} {s : SS} {n i j : Int} (S : CB h s) (hr : okR s.2.2.1) : Cb sc (d + 12) 79 [(1, .inl n), (2, .inl i), (3, .inl j)] h (xLetter s n i j) := by
  obtain ⟨K, C, -⟩ := id S
  obtain ⟨k0, k1, -⟩ := id K
  obtain ⟨z1, z2⟩ := C.sz
  obtain ⟨⟨w0, v1, v2, v3⟩, -, -, cn, -⟩ := id C
  have hn : ∀ Q, WP sc (d + 11) 49 0 [(0, .inr (.inl 3)), (1, .inl n)] [] h Q ↔ Q (some (.inl (bI (isNd s.1 n)))) h := fun Q => w_hasNode (d := d + 10) C Q
  obtain ⟨h1, w1, S1, F1⟩ := b_ref (sc := sc) (d := d) (how := -2) S hr (by omega)
  unfold xLetter
  by_cases c : isNd s.1 n = true
  · rw [c] at hn
    have c' : 0 ≤ n ∧ n < sg s.1 0 := of_decide_eq_true c
    obtain ⟨m, rfl⟩ : ∃ m : Nat, n = (m : Int) := ⟨n.toNat, by omega⟩
    have hm : m < sN s.1 := by omega
    have N := cn m hm
    have wi : ∀ Q, WP sc (d + 11) 4 0 [(0, .inr (.inl (3 + 2 + 20 * m))), (1, .inl i)] [] h Q ↔ Q (some (.inl (if 0 ≤ i ∧ i < (nin (sf s.1 m 0) : Int) then 1 else 0))) h := fun Q => n_hasIn (d := d + 10) N Q
    have kn : (kd h (3 + 2 + 20 * m)).1 = 1 := by obtain ⟨pa, la, K, -⟩ := N.to; exact K.1
    have v3' := v3 m (by omega)
    rw [Int.toNat_natCast]
    by_cases c1 : 0 ≤ i ∧ i < (nin (sf s.1 m 0) : Int)
    · rw [if_pos c1] at wi
      by_cases c2 : 0 ≤ j
      · rw [if_pos ⟨c, c1, c2⟩]
        have ni := nin_le (sf s.1 m 0)
        obtain ⟨q, rfl⟩ : ∃ q : Nat, i = (q : Int) := ⟨i.toNat, by omega⟩
        have hq : q < 2 := by omega
        have RR := N.ch hq
        obtain ⟨pa, la, KK, -⟩ := N.to
        have ch : ∀ Q, WP sc (d + 11) 5 0 [(0, .inr (.inl (3 + 2 + 20 * m))), (1, .inl (q : Int))] [] h Q ↔ Q (some (.inr (.inl (3 + 2 + 20 * m + 2 + 2 * q)))) h := by
          intro Q
          refine (n_channel (d := d + 10) KK Q).trans ?_
          have e : (if (q : Int) = 1 then 3 + 2 + 20 * m + 4 else 3 + 2 + 20 * m + 2) = 3 + 2 + 20 * m + 2 + 2 * q := by split <;> omega
          rw [e]
        have wa : ∀ Q, WP sc (d + 11) 26 0 [(0, .inr (.inl (3 + 2 + 20 * m + 2 + 2 * q))), (1, .inl j)] [] h Q ↔ Q (some (.inl (plc (sr s.1 m q) j))) h := fun Q => by rw [← plc_at c2]; exact r_at (d := d + 10) RR Q
        have mk : (kd h (3 + 2 + 20 * m + 2 + 2 * q)).1 = 3 := RR.1.1
        refine ⟨h, fun Q => ?_, S, Fr.rf⟩
        clear S S1 C N RR KK
        simp (disch := omega) only [u79_0, u79_1, u79_4, u79_5, u79_8, u79_11, u79_12, u79_15, u79_18, u79_19, u79_20, u79_21, u79_24, u79_27, u79_28, u79_31, u79_32, u79_34, u79_37, u79_38, u79_39, u79_42, u79_45, u79_46, u79_47, u79_48, u79_51, u79_52, u79_55, k0, k1, w0, hn, v1, v2, v3', kn, wi, ch, mk, wa, bI_t, true_or, or_true, wr_id, rng, rngp, if_pos, if_neg, if_true, if_false, reduceCtorEq, true_and, and_true, and_self, Option.toList_some, Option.toList_none, List.cons_append, List.nil_append, Int.toNat_natCast]
      · rw [if_neg (fun q => c2 q.2.2)]
        refine ⟨h1, fun Q => ?_, S1, F1⟩
        clear S S1 C N
        simp (disch := omega) only [u79_0, u79_1, u79_4, u79_5, u79_8, u79_11, u79_12, u79_15, u79_18, u79_19, u79_20, u79_21, u79_24, u79_27, u79_28, u79_31, u79_32, u79_34, u79_37, u79_38, u79_39, u79_42, u79_45, u79_46, u79_47, u79_48, u79_51, u79_52, u79_55, k0, k1, w0, hn, v1, v2, v3', kn, wi, w1, bI_t, true_or, or_true, wr_id, rng, rngp, if_pos, if_neg, if_true, if_false, reduceCtorEq, true_and, and_true, and_self, Option.toList_some, Option.toList_none, List.cons_append, List.nil_append, Int.toNat_natCast]
        rfl
    · rw [if_neg c1] at wi
      rw [if_neg (fun q => c1 q.2.1)]
      refine ⟨h1, fun Q => ?_, S1, F1⟩
      clear S S1 C N
      simp (disch := omega) only [u79_0, u79_1, u79_4, u79_5, u79_8, u79_11, u79_12, u79_15, u79_18, u79_19, u79_20, u79_21, u79_24, u79_27, u79_28, u79_31, u79_32, u79_34, u79_37, u79_38, u79_39, u79_42, u79_45, u79_46, u79_47, u79_48, u79_51, u79_52, u79_55, k0, k1, w0, hn, v1, v2, v3', kn, wi, w1, bI_t, true_or, or_true, wr_id, rng, rngp, if_pos, if_neg, if_true, if_false, reduceCtorEq, true_and, and_true, and_self, Option.toList_some, Option.toList_none, List.cons_append, List.nil_append, Int.toNat_natCast]
      rfl
  · rw [if_neg (fun q => c q.1)]
    rw [Bool.eq_false_iff.mpr c] at hn
    refine ⟨h1, fun Q => ?_, S1, F1⟩
    clear S S1 C
    simp (disch := omega) only [u79_0, u79_1, u79_4, u79_5, u79_8, u79_11, u79_12, u79_15, u79_18, u79_19, u79_20, u79_21, u79_24, u79_27, u79_28, u79_31, u79_32, u79_34, u79_37, u79_38, u79_39, u79_42, u79_45, u79_46, u79_47, u79_48, u79_51, u79_52, u79_55, k0, k1, w0, hn, w1, bI_f, wr_id, rng, rngp, if_pos, if_neg, if_true, if_false, reduceCtorEq, true_and, and_true, and_self, Option.toList_some, Option.toList_none, List.cons_append, List.nil_append, Int.toNat_natCast]
    rfl
theorem b_sum {sc : av_S} {d : Nat} {h : av_H} {s : SS} {n j : Int} (S : CB h s) (hr : okR s.2.2.1) : Cb sc (d + 12) 80 [(1, .inl n), (2, .inl j)] h (xSum s n j) := by
  obtain ⟨K, C, -⟩ := id S
  obtain ⟨k0, k1, -⟩ := id K
  obtain ⟨z1, z2⟩ := C.sz
  obtain ⟨⟨w0, v1, v2, v3⟩, -, -, cn, -⟩ := id C
  have hn : ∀ Q, WP sc (d + 11) 49 0 [(0, .inr (.inl 3)), (1, .inl n)] [] h Q ↔ Q (some (.inl (bI (isNd s.1 n)))) h := fun Q => w_hasNode (d := d + 10) C Q
  obtain ⟨h1, w1, S1, F1⟩ := b_ref (sc := sc) (d := d) (how := -2) S hr (by omega)
  unfold xSum
  by_cases c : isNd s.1 n = true
  · rw [c] at hn
    have c' : 0 ≤ n ∧ n < sg s.1 0 := of_decide_eq_true c
    obtain ⟨m, rfl⟩ : ∃ m : Nat, n = (m : Int) := ⟨n.toNat, by omega⟩
    have hm : m < sN s.1 := by omega
    have N := cn m hm
    obtain ⟨pa, la, KK, PP, LL, II, SSm, -⟩ := N.to
    have kn := KK.1
    have ks := KK.2.1.1
    have kt := KK.2.1.2
    have i0 := II.1
    have v3' := v3 m (by omega)
    rw [Int.toNat_natCast]
    by_cases c3 : sf s.1 m 0 = 3
    · by_cases c1 : 0 ≤ j
      · by_cases c2 : j ≤ 3
        · rw [if_pos ⟨c, c3, c1, c2⟩]
          obtain ⟨q, rfl⟩ : ∃ q : Nat, j = (q : Int) := ⟨j.toNat, by omega⟩
          have sq := SSm c3 q (by omega)
          refine ⟨h, fun Q => ?_, S, Fr.rf⟩
          clear S S1 C N
          simp (disch := omega) only [u80_0, u80_1, u80_4, u80_5, u80_8, u80_11, u80_12, u80_15, u80_18, u80_19, u80_20, u80_23, u80_24, u80_27, u80_28, u80_31, u80_32, u80_33, u80_36, u80_37, u80_39, u80_42, u80_43, u80_44, u80_47, u80_50, u80_51, u80_52, u80_55, u80_56, u80_57, k0, k1, w0, hn, v1, v2, v3', kn, ks, kt, i0, c3, sq, bI_t, true_or, or_true, wr_id, rng, rngp, if_pos, if_neg, if_true, if_false, reduceCtorEq, true_and, and_true, and_self, Option.toList_some, Option.toList_none, List.cons_append, List.nil_append, Int.toNat_natCast]
        · rw [if_neg (fun q => c2 q.2.2.2)]
          refine ⟨h1, fun Q => ?_, S1, F1⟩
          clear S S1 C N
          simp (disch := omega) only [u80_0, u80_1, u80_4, u80_5, u80_8, u80_11, u80_12, u80_15, u80_18, u80_19, u80_20, u80_23, u80_24, u80_27, u80_28, u80_31, u80_32, u80_33, u80_36, u80_37, u80_39, u80_42, u80_43, u80_44, u80_47, u80_50, u80_51, u80_52, u80_55, u80_56, u80_57, k0, k1, w0, hn, v1, v2, v3', kn, i0, c3, w1, bI_t, true_or, or_true, wr_id, rng, rngp, if_pos, if_neg, if_true, if_false, reduceCtorEq, true_and, and_true, and_self, Option.toList_some, Option.toList_none, List.cons_append, List.nil_append, Int.toNat_natCast]
          rfl
      · rw [if_neg (fun q => c1 q.2.2.1)]
        refine ⟨h1, fun Q => ?_, S1, F1⟩
        clear S S1 C N
        simp (disch := omega) only [u80_0, u80_1, u80_4, u80_5, u80_8, u80_11, u80_12, u80_15, u80_18, u80_19, u80_20, u80_23, u80_24, u80_27, u80_28, u80_31, u80_32, u80_33, u80_36, u80_37, u80_39, u80_42, u80_43, u80_44, u80_47, u80_50, u80_51, u80_52, u80_55, u80_56, u80_57, k0, k1, w0, hn, v1, v2, v3', kn, i0, c3, w1, bI_t, true_or, or_true, wr_id, rng, rngp, if_pos, if_neg, if_true, if_false, reduceCtorEq, true_and, and_true, and_self, Option.toList_some, Option.toList_none, List.cons_append, List.nil_append, Int.toNat_natCast]
        rfl
    · rw [if_neg (fun q => c3 q.2.1)]
      refine ⟨h1, fun Q => ?_, S1, F1⟩
      clear S S1 C N
      simp (disch := omega) only [u80_0, u80_1, u80_4, u80_5, u80_8, u80_11, u80_12, u80_15, u80_18, u80_19, u80_20, u80_23, u80_24, u80_27, u80_28, u80_31, u80_32, u80_33, u80_36, u80_37, u80_39, u80_42, u80_43, u80_44, u80_47, u80_50, u80_51, u80_52, u80_55, u80_56, u80_57, k0, k1, w0, hn, v1, v2, v3', kn, i0, c3, w1, bI_t, true_or, or_true, wr_id, rng, rngp, if_pos, if_neg, if_true, if_false, reduceCtorEq, true_and, and_true, and_self, Option.toList_some, Option.toList_none, List.cons_append, List.nil_append, Int.toNat_natCast]
      rfl
  · rw [if_neg (fun q => c q.1)]
    rw [Bool.eq_false_iff.mpr c] at hn
    refine ⟨h1, fun Q => ?_, S1, F1⟩
    clear S S1 C
    simp (disch := omega) only [u80_0, u80_1, u80_4, u80_5, u80_8, u80_11, u80_12, u80_15, u80_18, u80_19, u80_20, u80_23, u80_24, u80_27, u80_28, u80_31, u80_32, u80_33, u80_36, u80_37, u80_39, u80_42, u80_43, u80_44, u80_47, u80_50, u80_51, u80_52, u80_55, u80_56, u80_57, k0, k1, w0, hn, w1, bI_f, wr_id, rng, rngp, if_pos, if_neg, if_true, if_false, reduceCtorEq, true_and, and_true, and_self, Option.toList_some, Option.toList_none, List.cons_append, List.nil_append, Int.toNat_natCast]
    rfl
theorem b_row {sc : av_S} {d : Nat} {h : av_H} {s : SS} {n i j : Int} (S : CB h s) (hr : okR s.2.2.1) : Cb sc (d + 12) 81 [(1, .inl n), (2, .inl i), (3, .inl j)] h (xRow s n i j) := by
  obtain ⟨K, C, -⟩ := id S
  obtain ⟨k0, k1, -⟩ := id K
  obtain ⟨z1, z2⟩ := C.sz
  obtain ⟨⟨w0, v1, v2, v3⟩, -, -, cn, -⟩ := id C
  have hn : ∀ Q, WP sc (d + 11) 49 0 [(0, .inr (.inl 3)), (1, .inl n)] [] h Q ↔ Q (some (.inl (bI (isNd s.1 n)))) h := fun Q => w_hasNode (d := d + 10) C Q
  obtain ⟨h1, w1, S1, F1⟩ := b_ref (sc := sc) (d := d) (how := -2) S hr (by omega)
  unfold xRow
  by_cases c : isNd s.1 n = true
  · rw [c] at hn
    have c' : 0 ≤ n ∧ n < sg s.1 0 := of_decide_eq_true c
    obtain ⟨m, rfl⟩ : ∃ m : Nat, n = (m : Int) := ⟨n.toNat, by omega⟩
    have hm : m < sN s.1 := by omega
    have N := cn m hm
    obtain ⟨pa, la, KK, PP, LL, II, SSm, ⟨r0, r1, r4, r5, r6⟩, -⟩ := N.to
    have kn := KK.1
    have i0 := II.1
    have v3' := v3 m (by omega)
    rw [Int.toNat_natCast]
    by_cases c5 : sf s.1 m 0 = 5
    · by_cases c1 : 0 ≤ i
      · by_cases c2 : i ≤ 2
        · by_cases c3 : 0 ≤ j
          · rw [if_pos ⟨c, c5, ⟨c1, c2⟩, c3⟩]
            obtain ⟨q, rfl⟩ : ∃ q : Nat, i = (q : Int) := ⟨i.toNat, by omega⟩
            have hq : q < 3 := by omega
            have ch : ∀ Q, WP sc (d + 11) 7 0 [(0, .inr (.inl (3 + 2 + 20 * m))), (1, .inl (q : Int))] [] h Q ↔ Q (some (.inr (.inl (3 + 2 + 20 * m + 6 + 2 * q)))) h := fun Q => n_sinkRow (d := d + 10) KK hq Q
            have RR : ∃ cap, RowIs h (3 + 2 + 20 * m + 6 + 2 * q) cap (sr s.1 m (4 + q)) := by
              have e : q = 0 ∨ q = 1 ∨ q = 2 := by omega
              rcases e with rfl | rfl | rfl
              · exact ⟨_, r4⟩
              · exact ⟨_, r5⟩
              · exact ⟨_, r6⟩
            obtain ⟨cap, RR⟩ := RR
            have wa : ∀ Q, WP sc (d + 11) 26 0 [(0, .inr (.inl (3 + 2 + 20 * m + 6 + 2 * q))), (1, .inl j)] [] h Q ↔ Q (some (.inl (plc (sr s.1 m (4 + q)) j))) h := fun Q => by rw [← plc_at c3]; exact r_at (d := d + 10) RR Q
            have mk : (kd h (3 + 2 + 20 * m + 6 + 2 * q)).1 = 3 := RR.1.1
            refine ⟨h, fun Q => ?_, S, Fr.rf⟩
            clear S S1 C N RR r0 r1 r4 r5 r6
            simp (disch := omega) only [u81_0, u81_1, u81_4, u81_5, u81_8, u81_11, u81_12, u81_15, u81_18, u81_19, u81_20, u81_23, u81_24, u81_27, u81_28, u81_31, u81_32, u81_33, u81_36, u81_37, u81_40, u81_41, u81_43, u81_46, u81_47, u81_48, u81_51, u81_54, u81_55, u81_56, u81_57, u81_60, u81_61, u81_64, k0, k1, w0, hn, v1, v2, v3', kn, i0, c5, ch, mk, wa, bI_t, true_or, or_true, wr_id, rng, rngp, if_pos, if_neg, if_true, if_false, reduceCtorEq, true_and, and_true, and_self, Option.toList_some, Option.toList_none, List.cons_append, List.nil_append, Int.toNat_natCast]
          · rw [if_neg (fun q => c3 q.2.2.2)]
            refine ⟨h1, fun Q => ?_, S1, F1⟩
            clear S S1 C N
            simp (disch := omega) only [u81_0, u81_1, u81_4, u81_5, u81_8, u81_11, u81_12, u81_15, u81_18, u81_19, u81_20, u81_23, u81_24, u81_27, u81_28, u81_31, u81_32, u81_33, u81_36, u81_37, u81_40, u81_41, u81_43, u81_46, u81_47, u81_48, u81_51, u81_54, u81_55, u81_56, u81_57, u81_60, u81_61, u81_64, k0, k1, w0, hn, v1, v2, v3', kn, i0, c5, w1, bI_t, true_or, or_true, wr_id, rng, rngp, if_pos, if_neg, if_true, if_false, reduceCtorEq, true_and, and_true, and_self, Option.toList_some, Option.toList_none, List.cons_append, List.nil_append, Int.toNat_natCast]
            rfl
        · rw [if_neg (fun q => c2 q.2.2.1.2)]
          refine ⟨h1, fun Q => ?_, S1, F1⟩
          clear S S1 C N
          simp (disch := omega) only [u81_0, u81_1, u81_4, u81_5, u81_8, u81_11, u81_12, u81_15, u81_18, u81_19, u81_20, u81_23, u81_24, u81_27, u81_28, u81_31, u81_32, u81_33, u81_36, u81_37, u81_40, u81_41, u81_43, u81_46, u81_47, u81_48, u81_51, u81_54, u81_55, u81_56, u81_57, u81_60, u81_61, u81_64, k0, k1, w0, hn, v1, v2, v3', kn, i0, c5, w1, bI_t, true_or, or_true, wr_id, rng, rngp, if_pos, if_neg, if_true, if_false, reduceCtorEq, true_and, and_true, and_self, Option.toList_some, Option.toList_none, List.cons_append, List.nil_append, Int.toNat_natCast]
          rfl
      · rw [if_neg (fun q => c1 q.2.2.1.1)]
        refine ⟨h1, fun Q => ?_, S1, F1⟩
        clear S S1 C N
        simp (disch := omega) only [u81_0, u81_1, u81_4, u81_5, u81_8, u81_11, u81_12, u81_15, u81_18, u81_19, u81_20, u81_23, u81_24, u81_27, u81_28, u81_31, u81_32, u81_33, u81_36, u81_37, u81_40, u81_41, u81_43, u81_46, u81_47, u81_48, u81_51, u81_54, u81_55, u81_56, u81_57, u81_60, u81_61, u81_64, k0, k1, w0, hn, v1, v2, v3', kn, i0, c5, w1, bI_t, true_or, or_true, wr_id, rng, rngp, if_pos, if_neg, if_true, if_false, reduceCtorEq, true_and, and_true, and_self, Option.toList_some, Option.toList_none, List.cons_append, List.nil_append, Int.toNat_natCast]
        rfl
    · rw [if_neg (fun q => c5 q.2.1)]
      refine ⟨h1, fun Q => ?_, S1, F1⟩
      clear S S1 C N
      simp (disch := omega) only [u81_0, u81_1, u81_4, u81_5, u81_8, u81_11, u81_12, u81_15, u81_18, u81_19, u81_20, u81_23, u81_24, u81_27, u81_28, u81_31, u81_32, u81_33, u81_36, u81_37, u81_40, u81_41, u81_43, u81_46, u81_47, u81_48, u81_51, u81_54, u81_55, u81_56, u81_57, u81_60, u81_61, u81_64, k0, k1, w0, hn, v1, v2, v3', kn, i0, c5, w1, bI_t, true_or, or_true, wr_id, rng, rngp, if_pos, if_neg, if_true, if_false, reduceCtorEq, true_and, and_true, and_self, Option.toList_some, Option.toList_none, List.cons_append, List.nil_append, Int.toNat_natCast]
      rfl
  · rw [if_neg (fun q => c q.1)]
    rw [Bool.eq_false_iff.mpr c] at hn
    refine ⟨h1, fun Q => ?_, S1, F1⟩
    clear S S1 C
    simp (disch := omega) only [u81_0, u81_1, u81_4, u81_5, u81_8, u81_11, u81_12, u81_15, u81_18, u81_19, u81_20, u81_23, u81_24, u81_27, u81_28, u81_31, u81_32, u81_33, u81_36, u81_37, u81_40, u81_41, u81_43, u81_46, u81_47, u81_48, u81_51, u81_54, u81_55, u81_56, u81_57, u81_60, u81_61, u81_64, k0, k1, w0, hn, w1, bI_f, wr_id, rng, rngp, if_pos, if_neg, if_true, if_false, reduceCtorEq, true_and, and_true, and_self, Option.toList_some, Option.toList_none, List.cons_append, List.nil_append, Int.toNat_natCast]
    rfl
theorem b_count {sc : av_S} {d : Nat} {h : av_H} {s : SS} {w : Int} (S : CB h s) (ok : okY s.1) (hr : okR s.2.2.1) : Cb sc (d + 12) 82 [(1, .inl w)] h (xCount s w) := by
  obtain ⟨K, C, -⟩ := id S
  obtain ⟨k0, k1, -⟩ := id K
  have w0 : (kd h 3).1 = 5 := C.1.1
  obtain ⟨h1, w1, S1, F1⟩ := b_ref (sc := sc) (d := d) (how := -2) S hr (by omega)
  unfold xCount
  by_cases c : 0 ≤ w ∧ w ≤ 9
  · rw [if_pos c]
    obtain ⟨k, rfl⟩ : ∃ k : Nat, w = (k : Int) := ⟨w.toNat, by omega⟩
    have wt : ∀ Q, WP sc (d + 11) 50 0 [(0, .inr (.inl 3)), (1, .inl (k : Int))] [] h Q ↔ Q (some (.inl (sCount s.1 k))) h := fun Q => w_tally (d := d + 9) C (by omega) (fun n hn => (ok.2.2.2.1 n hn).2.2.2) ok.2.2.2.2.1 ok.1.2.2.1 ok.2.2.1 Q
    refine ⟨h, fun Q => ?_, S, Fr.rf⟩
    clear S S1 C
    simp (disch := omega) only [u82_0, u82_1, u82_4, u82_5, u82_7, u82_10, u82_11, u82_13, u82_16, u82_17, u82_18, u82_21, u82_22, u82_25, k0, k1, w0, wt, wr_id, rng, rngp, if_pos, if_neg, if_true, if_false, reduceCtorEq, true_and, and_true, and_self, Option.toList_some, Option.toList_none, List.cons_append, List.nil_append, Int.toNat_natCast]
  · rw [if_neg c]
    refine ⟨h1, fun Q => ?_, S1, F1⟩
    clear S S1 C
    by_cases c1 : 0 ≤ w
    · simp (disch := omega) only [u82_0, u82_1, u82_4, u82_5, u82_7, u82_10, u82_11, u82_13, u82_16, u82_17, u82_18, u82_21, u82_22, u82_25, k0, w1, wr_id, rng, rngp, if_pos, if_neg, if_true, if_false, reduceCtorEq, true_and, and_true, and_self, Option.toList_some, Option.toList_none, List.cons_append, List.nil_append, Int.toNat_natCast]
      rfl
    · simp (disch := omega) only [u82_0, u82_1, u82_4, u82_5, u82_7, u82_10, u82_11, u82_13, u82_16, u82_17, u82_18, u82_21, u82_22, u82_25, k0, w1, wr_id, rng, rngp, if_pos, if_neg, if_true, if_false, reduceCtorEq, true_and, and_true, and_self, Option.toList_some, Option.toList_none, List.cons_append, List.nil_append, Int.toNat_natCast]
      rfl
theorem b_toldc {sc : av_S} {d : Nat} {h : av_H} {s : SS} {w : Int} (S : CB h s) (hr : okR s.2.2.1) : Cb sc (d + 12) 87 [(1, .inl w)] h (xTold s w) := by
  obtain ⟨K, C, -⟩ := id S
  obtain ⟨k0, k1, -⟩ := id K
  obtain ⟨h1, w1, S1, F1⟩ := b_ref (sc := sc) (d := d) (how := -2) S hr (by omega)
  unfold xTold
  by_cases c : 0 ≤ w ∧ w ≤ 4
  · rw [if_pos c]
    obtain ⟨k, rfl⟩ : ∃ k : Nat, w = (k : Int) := ⟨w.toNat, by omega⟩
    have wt : ∀ Q, WP sc (d + 11) 91 0 [(0, .inr (.inl 2)), (1, .inl (k : Int))] [] h Q ↔ Q (some (.inl (sToldF s.2.1 s.2.2.1 s.2.2.2 k))) h := fun Q => b_told (d := d + 10) S (by omega) Q
    refine ⟨h, fun Q => ?_, S, Fr.rf⟩
    clear S S1 C
    simp (disch := omega) only [u87_0, u87_1, u87_4, u87_5, u87_6, u87_9, u87_10, u87_12, u87_15, u87_16, u87_17, u87_18, u87_21, k0, wt, wr_id, rng, rngp, if_pos, if_neg, if_true, if_false, reduceCtorEq, true_and, and_true, and_self, Option.toList_some, Option.toList_none, List.cons_append, List.nil_append, Int.toNat_natCast]
  · rw [if_neg c]
    refine ⟨h1, fun Q => ?_, S1, F1⟩
    clear S S1 C
    by_cases c1 : 0 ≤ w
    · simp (disch := omega) only [u87_0, u87_1, u87_4, u87_5, u87_6, u87_9, u87_10, u87_12, u87_15, u87_16, u87_17, u87_18, u87_21, k0, w1, wr_id, rng, rngp, if_pos, if_neg, if_true, if_false, reduceCtorEq, true_and, and_true, and_self, Option.toList_some, Option.toList_none, List.cons_append, List.nil_append, Int.toNat_natCast]
      rfl
    · simp (disch := omega) only [u87_0, u87_1, u87_4, u87_5, u87_6, u87_9, u87_10, u87_12, u87_15, u87_16, u87_17, u87_18, u87_21, k0, w1, wr_id, rng, rngp, if_pos, if_neg, if_true, if_false, reduceCtorEq, true_and, and_true, and_self, Option.toList_some, Option.toList_none, List.cons_append, List.nil_append, Int.toNat_natCast]
      rfl
