/-! the calls of the reference that tell, its text -/
theorem c_id {sc : av_S} {d m x : Nat} {as : av_L} {h : av_H} {v : Int} {s : SS} (S : MSS h x s) (H : WP sc d m 0 ((0, .inr (.inl x)) :: as) [] h (fun r h' => r = some (.inl v) ∧ h' = h)) : Cm sc d m x as h (v, s) :=
  ⟨h, H.ev, S, MG.rf⟩
theorem isNd_t {σ : sS} {n : Int} (h : isNd σ n = true) : 0 ≤ n ∧ n < sg σ 0 := by
  unfold isNd at h
  exact of_decide_eq_true h
theorem k_isNode {sc : av_S} {d : Nat} {h : av_H} {x : Nat} {s : SS} {n : Int} (S : MSS h x s) (hN : 0 ≤ sg s.1 0 ∧ sg s.1 0 ≤ 8) (Q : Option av_V → av_H → Prop) : WP sc (d + 11) 101 0 [(0, .inr (.inl x)), (1, .inl n)] [] h Q ↔ Q (some (.inl (if isNd s.1 n = true then 1 else 0))) h := m_isNode (d := d + 9) S.1 S.2.1 hN Q
theorem c_of {sc : av_S} {d : Nat} {h : av_H} {x : Nat} {s : SS} {n w : Int} (S : MSS h x s) (hr : okR s.2.2.1) (ok : okW s.1) : Cm sc (d + 12) 137 x [(1, .inl n), (2, .inl w)] h (xOf s n w) := by
  obtain ⟨k0, -⟩ := id S.1
  unfold xOf
  by_cases c1 : isNd s.1 n = true
  · by_cases c2 : 0 ≤ w ∧ w ≤ 9
    · rw [if_pos ⟨c1, c2⟩]
      have q := isNd_t c1
      have qn : n.toNat < sN s.1 := by unfold sN; omega
      obtain ⟨o1, o2, o3, o4, o5, o6, -⟩ := id ok
      have e1 : ∀ Q, WP sc (d + 11) 138 0 [(0, .inr (.inl x)), (1, .inl n), (2, .inl w)] [] h Q ↔ Q (some (.inl (sFact s.1 n.toNat w.toNat))) h := by
        intro Q
        have := m_ofNode (sc := sc) (d := d + 8) (n := n.toNat) (k := w.toNat) S.1 S.2.1 (by omega) (by omega) (o6 _ qn).1 (o6 _ qn).2 Q
        rw [show ((n.toNat : Nat) : Int) = n by omega, show ((w.toNat : Nat) : Int) = w by omega] at this
        exact this
      refine c_id S ?_
      simp (disch := omega) only [u137_0, u137_1, u137_2, u137_5, u137_8, u137_9, u137_10, u137_12, u137_15, u137_18, u137_19, u137_21, u137_24, u137_25, u137_26, u137_27, u137_28, u137_31, k0, k_isNode S ok.1, m_in, c1, c2, e1, wr_id, rng, rngp, if_pos, if_neg, if_true, if_false, reduceCtorEq, true_and, and_true, and_self, Option.toList_some, Option.toList_none, List.cons_append, List.nil_append, Int.toNat_natCast]
    · obtain ⟨h1, w1, S1, G⟩ := k_ref (sc := sc) (d := d) (how := -2) S hr
      rw [if_neg (fun q => c2 q.2)]
      refine Cm.of ?_
      simp (disch := omega) only [u137_0, u137_1, u137_2, u137_5, u137_8, u137_9, u137_10, u137_12, u137_15, u137_18, u137_19, u137_21, u137_24, u137_25, u137_26, u137_27, u137_28, u137_31, k0, k_isNode S ok.1, m_in, c1, c2, w1, wr_id, rng, rngp, if_pos, if_neg, if_true, if_false, reduceCtorEq, true_and, and_true, and_self, Option.toList_some, Option.toList_none, List.cons_append, List.nil_append, Int.toNat_natCast]
      exact ⟨rfl, S1, G⟩
  · obtain ⟨h1, w1, S1, G⟩ := k_ref (sc := sc) (d := d) (how := -2) S hr
    rw [if_neg (fun q => c1 q.1)]
    refine Cm.of ?_
    simp (disch := omega) only [u137_0, u137_1, u137_2, u137_5, u137_8, u137_9, u137_10, u137_12, u137_15, u137_18, u137_19, u137_21, u137_24, u137_25, u137_26, u137_27, u137_28, u137_31, k0, k_isNode S ok.1, m_in, c1, w1, wr_id, rng, rngp, if_pos, if_neg, if_true, if_false, reduceCtorEq, true_and, and_true, and_self, Option.toList_some, Option.toList_none, List.cons_append, List.nil_append, Int.toNat_natCast]
    exact ⟨rfl, S1, G⟩
theorem c_letter {sc : av_S} {d : Nat} {h : av_H} {x : Nat} {s : SS} {n i j : Int} (S : MSS h x s) (hr : okR s.2.2.1) (ok : okW s.1) : Cm sc (d + 12) 140 x [(1, .inl n), (2, .inl i), (3, .inl j)] h (xLetter s n i j) := by
  obtain ⟨k0, -⟩ := id S.1
  unfold xLetter
  have ref : ¬ (isNd s.1 n = true ∧ (0 ≤ i ∧ i < (nin (sf s.1 n.toNat 0) : Int)) ∧ 0 ≤ j) → Cm sc (d + 12) 140 x [(1, .inl n), (2, .inl i), (3, .inl j)] h (xRef s (-2)) := by
    intro hno
    obtain ⟨h1, w1, S1, G⟩ := k_ref (sc := sc) (d := d) (how := -2) S hr
    refine Cm.of ?_
    have o1 := ok.1
    by_cases c1 : isNd s.1 n = true
    · have q := isNd_t c1
      have e1 : ∀ Q, WP sc (d + 11) 103 0 [(0, .inr (.inl x)), (1, .inl n)] [] h Q ↔ Q (some (.inl (nin (sf s.1 n.toNat 0) : Int))) h := by
        intro Q
        have := m_ins (sc := sc) (d := d + 8) (n := n.toNat) S.1 S.2.1 (by omega) Q
        rw [show ((n.toNat : Nat) : Int) = n by omega] at this
        exact this
      have nb : (nin (sf s.1 n.toNat 0) : Int) ≤ 2 := by unfold nin; split <;> (try split) <;> omega
      by_cases c2 : 0 ≤ i ∧ i ≤ (nin (sf s.1 n.toNat 0) : Int) - 1
      · have c3 : ¬ 0 ≤ j := fun q3 => hno ⟨c1, by omega, q3⟩
        simp (disch := omega) only [u140_0, u140_1, u140_2, u140_5, u140_8, u140_9, u140_10, u140_11, u140_12, u140_15, u140_16, u140_17, u140_20, u140_23, u140_24, u140_27, u140_28, u140_30, u140_33, u140_34, u140_35, u140_36, u140_37, u140_40, u140_41, u140_44, k0, k_isNode S ok.1, m_in, e1, c1, c2, w1, wr_id, rng, rngp, if_pos, if_neg, if_true, if_false, reduceCtorEq, true_and, and_true, and_self, Option.toList_some, Option.toList_none, List.cons_append, List.nil_append, Int.toNat_natCast]
        exact ⟨rfl, S1, G⟩
      · simp (disch := omega) only [u140_0, u140_1, u140_2, u140_5, u140_8, u140_9, u140_10, u140_11, u140_12, u140_15, u140_16, u140_17, u140_20, u140_23, u140_24, u140_27, u140_28, u140_30, u140_33, u140_34, u140_35, u140_36, u140_37, u140_40, u140_41, u140_44, k0, k_isNode S ok.1, m_in, e1, c1, c2, w1, wr_id, rng, rngp, if_pos, if_neg, if_true, if_false, reduceCtorEq, true_and, and_true, and_self, Option.toList_some, Option.toList_none, List.cons_append, List.nil_append, Int.toNat_natCast]
        exact ⟨rfl, S1, G⟩
    · simp (disch := omega) only [u140_0, u140_1, u140_2, u140_5, u140_8, u140_9, u140_10, u140_11, u140_12, u140_15, u140_16, u140_17, u140_20, u140_23, u140_24, u140_27, u140_28, u140_30, u140_33, u140_34, u140_35, u140_36, u140_37, u140_40, u140_41, u140_44, k0, k_isNode S ok.1, m_in, c1, w1, wr_id, rng, rngp, if_pos, if_neg, if_true, if_false, reduceCtorEq, true_and, and_true, and_self, Option.toList_some, Option.toList_none, List.cons_append, List.nil_append, Int.toNat_natCast]
      exact ⟨rfl, S1, G⟩
  by_cases c : isNd s.1 n = true ∧ (0 ≤ i ∧ i < (nin (sf s.1 n.toNat 0) : Int)) ∧ 0 ≤ j
  · rw [if_pos c]
    obtain ⟨c1, c2, c3⟩ := c
    have q := isNd_t c1
    have o1 := ok.1
    have nb : (nin (sf s.1 n.toNat 0) : Int) ≤ 2 := by unfold nin; split <;> (try split) <;> omega
    have e1 : ∀ Q, WP sc (d + 11) 103 0 [(0, .inr (.inl x)), (1, .inl n)] [] h Q ↔ Q (some (.inl (nin (sf s.1 n.toNat 0) : Int))) h := by
      intro Q
      have := m_ins (sc := sc) (d := d + 8) (n := n.toNat) S.1 S.2.1 (by omega) Q
      rw [show ((n.toNat : Nat) : Int) = n by omega] at this
      exact this
    have e2 : ∀ Q, WP sc (d + 11) 100 0 [(0, .inl n), (1, .inl i)] [] h Q ↔ Q (some (.inl (250 + 129 * (7 * n + i)))) h := by
      intro Q
      have := m_rowAt (sc := sc) (d := d + 10) (h := h) (n := n.toNat) (r := i) (by omega) (by omega) Q
      rw [show ((n.toNat : Nat) : Int) = n by omega] at this
      exact this
    have e3 : ∀ Q, WP sc (d + 11) 139 0 [(0, .inr (.inl x)), (1, .inl (250 + 129 * (7 * n + i))), (2, .inl j)] [] h Q ↔ Q (some (.inl (plc (sr s.1 n.toNat i.toNat) j))) h := fun Q => m_place (d := d + 10) (n := n.toNat) (r := i.toNat) S.1 S.2.1 (by omega) (by omega) (by omega) c3 Q
    have c4 : 0 ≤ i ∧ i ≤ (nin (sf s.1 n.toNat 0) : Int) - 1 := by omega
    refine c_id S ?_
    simp (disch := omega) only [u140_0, u140_1, u140_2, u140_5, u140_8, u140_9, u140_10, u140_11, u140_12, u140_15, u140_16, u140_17, u140_20, u140_23, u140_24, u140_27, u140_28, u140_30, u140_33, u140_34, u140_35, u140_36, u140_37, u140_40, u140_41, u140_44, k0, k_isNode S ok.1, m_in, e1, e2, e3, c1, c4, wr_id, rng, rngp, if_pos, if_neg, if_true, if_false, reduceCtorEq, true_and, and_true, and_self, Option.toList_some, Option.toList_none, List.cons_append, List.nil_append, Int.toNat_natCast]
  · rw [if_neg c]
    exact ref c
theorem k_kind {sc : av_S} {d : Nat} {h : av_H} {x : Nat} {s : SS} {n : Int} (S : MSS h x s) (hn : 0 ≤ n ∧ n < 8) (Q : Option av_V → av_H → Prop) : WP sc (d + 11) 102 0 [(0, .inr (.inl x)), (1, .inl n)] [] h Q ↔ Q (some (.inl (sf s.1 n.toNat 0))) h := by
  have := m_kind (sc := sc) (d := d + 9) (n := n.toNat) S.1 S.2.1 (by omega) Q
  rw [show ((n.toNat : Nat) : Int) = n by omega] at this
  exact this
theorem c_sum {sc : av_S} {d : Nat} {h : av_H} {x : Nat} {s : SS} {n j : Int} (S : MSS h x s) (hr : okR s.2.2.1) (ok : okW s.1) : Cm sc (d + 12) 141 x [(1, .inl n), (2, .inl j)] h (xSum s n j) := by
  obtain ⟨k0, ⟨k1, k2⟩, -⟩ := id S.1
  unfold xSum
  have o1 := ok.1
  obtain ⟨h1, w1, S1, G⟩ := k_ref (sc := sc) (d := d) (how := -2) S hr
  by_cases c1 : isNd s.1 n = true
  · have q := isNd_t c1
    have e1 : ∀ Q, WP sc (d + 11) 102 0 [(0, .inr (.inl x)), (1, .inl n)] [] h Q ↔ Q (some (.inl (sf s.1 n.toNat 0))) h := fun Q => k_kind S (by omega) Q
    have e2 : ∀ Q, WP sc (d + 11) 99 0 [(0, .inl n)] [] h Q ↔ Q (some (.inl (10 + 30 * n))) h := by
      intro Q
      have := m_at (sc := sc) (d := d + 10) (h := h) (n := n.toNat) (by omega) Q
      rw [show ((n.toNat : Nat) : Int) = n by omega] at this
      exact this
    by_cases c2 : sf s.1 n.toNat 0 = 3
    · by_cases c3 : 0 ≤ j ∧ j ≤ 3
      · rw [if_pos ⟨c1, c2, c3⟩]
        have fk := S.2.1.f (i := 10 + 30 * n + 10 + j) (n := n.toNat) (k := 10 + j.toNat) (by omega) (by omega) (by omega) (by omega)
        refine c_id S ?_
        simp (disch := omega) only [u141_0, u141_1, u141_2, u141_5, u141_8, u141_9, u141_10, u141_13, u141_14, u141_17, u141_18, u141_19, u141_20, u141_23, u141_26, u141_27, u141_29, u141_32, u141_33, u141_34, u141_37, u141_38, u141_41, u141_43, u141_44, u141_45, u141_46, u141_47, k0, k1, k2, k_isNode S ok.1, m_in, e1, e2, fk, c1, c2, c3, wr_id, rng, rngp, if_pos, if_neg, if_true, if_false, reduceCtorEq, true_and, and_true, and_self, Option.toList_some, Option.toList_none, List.cons_append, List.nil_append, Int.toNat_natCast]
      · rw [if_neg (fun q => c3 q.2.2)]
        refine Cm.of ?_
        simp (disch := omega) only [u141_0, u141_1, u141_2, u141_5, u141_8, u141_9, u141_10, u141_13, u141_14, u141_17, u141_18, u141_19, u141_20, u141_23, u141_26, u141_27, u141_29, u141_32, u141_33, u141_34, u141_37, u141_38, u141_41, u141_43, u141_44, u141_45, u141_46, u141_47, k0, k1, k2, k_isNode S ok.1, m_in, e1, e2, c1, c2, c3, w1, wr_id, rng, rngp, if_pos, if_neg, if_true, if_false, reduceCtorEq, true_and, and_true, and_self, Option.toList_some, Option.toList_none, List.cons_append, List.nil_append, Int.toNat_natCast]
        exact ⟨rfl, S1, G⟩
    · rw [if_neg (fun q => c2 q.2.1)]
      refine Cm.of ?_
      simp (disch := omega) only [u141_0, u141_1, u141_2, u141_5, u141_8, u141_9, u141_10, u141_13, u141_14, u141_17, u141_18, u141_19, u141_20, u141_23, u141_26, u141_27, u141_29, u141_32, u141_33, u141_34, u141_37, u141_38, u141_41, u141_43, u141_44, u141_45, u141_46, u141_47, k0, k1, k2, k_isNode S ok.1, m_in, e1, e2, c1, c2, w1, wr_id, rng, rngp, if_pos, if_neg, if_true, if_false, reduceCtorEq, true_and, and_true, and_self, Option.toList_some, Option.toList_none, List.cons_append, List.nil_append, Int.toNat_natCast]
      exact ⟨rfl, S1, G⟩
  · rw [if_neg (fun q => c1 q.1)]
    refine Cm.of ?_
    simp (disch := omega) only [u141_0, u141_1, u141_2, u141_5, u141_8, u141_9, u141_10, u141_13, u141_14, u141_17, u141_18, u141_19, u141_20, u141_23, u141_26, u141_27, u141_29, u141_32, u141_33, u141_34, u141_37, u141_38, u141_41, u141_43, u141_44, u141_45, u141_46, u141_47, k0, k_isNode S ok.1, m_in, c1, w1, wr_id, rng, rngp, if_pos, if_neg, if_true, if_false, reduceCtorEq, true_and, and_true, and_self, Option.toList_some, Option.toList_none, List.cons_append, List.nil_append, Int.toNat_natCast]
    exact ⟨rfl, S1, G⟩
theorem c_row {sc : av_S} {d : Nat} {h : av_H} {x : Nat} {s : SS} {n w j : Int} (S : MSS h x s) (hr : okR s.2.2.1) (ok : okW s.1) : Cm sc (d + 12) 142 x [(1, .inl n), (2, .inl w), (3, .inl j)] h (xRow s n w j) := by
  obtain ⟨k0, ⟨k1, k2⟩, -⟩ := id S.1
  unfold xRow
  have o1 := ok.1
  obtain ⟨h1, w1, S1, G⟩ := k_ref (sc := sc) (d := d) (how := -2) S hr
  by_cases c1 : isNd s.1 n = true
  · have q := isNd_t c1
    have e1 : ∀ Q, WP sc (d + 11) 102 0 [(0, .inr (.inl x)), (1, .inl n)] [] h Q ↔ Q (some (.inl (sf s.1 n.toNat 0))) h := fun Q => k_kind S (by omega) Q
    by_cases c2 : sf s.1 n.toNat 0 = 5
    · by_cases c3 : 0 ≤ w ∧ w ≤ 2
      · by_cases c4 : 0 ≤ j
        · rw [if_pos ⟨c1, c2, c3, c4⟩]
          have e2 : ∀ Q, WP sc (d + 11) 100 0 [(0, .inl n), (1, .inl (4 + w))] [] h Q ↔ Q (some (.inl (250 + 129 * (7 * n + (4 + w))))) h := by
            intro Q
            have := m_rowAt (sc := sc) (d := d + 10) (h := h) (n := n.toNat) (r := 4 + w) (by omega) (by omega) Q
            rw [show ((n.toNat : Nat) : Int) = n by omega] at this
            exact this
          have e3 : ∀ Q, WP sc (d + 11) 139 0 [(0, .inr (.inl x)), (1, .inl (250 + 129 * (7 * n + (4 + w)))), (2, .inl j)] [] h Q ↔ Q (some (.inl (plc (sr s.1 n.toNat (4 + w.toNat)) j))) h := fun Q => m_place (d := d + 10) (n := n.toNat) (r := 4 + w.toNat) S.1 S.2.1 (by omega) (by omega) (by omega) c4 Q
          refine c_id S ?_
          simp (disch := omega) only [u142_0, u142_1, u142_2, u142_5, u142_8, u142_9, u142_10, u142_13, u142_14, u142_17, u142_18, u142_19, u142_20, u142_23, u142_26, u142_27, u142_30, u142_31, u142_33, u142_36, u142_37, u142_38, u142_39, u142_40, u142_41, u142_42, u142_45, u142_46, u142_49, k0, k1, k2, k_isNode S ok.1, m_in, e1, e2, e3, c1, c2, c3, c4, wr_id, rng, rngp, if_pos, if_neg, if_true, if_false, reduceCtorEq, true_and, and_true, and_self, Option.toList_some, Option.toList_none, List.cons_append, List.nil_append, Int.toNat_natCast]
        · rw [if_neg (fun q => c4 q.2.2.2)]
          refine Cm.of ?_
          simp (disch := omega) only [u142_0, u142_1, u142_2, u142_5, u142_8, u142_9, u142_10, u142_13, u142_14, u142_17, u142_18, u142_19, u142_20, u142_23, u142_26, u142_27, u142_30, u142_31, u142_33, u142_36, u142_37, u142_38, u142_39, u142_40, u142_41, u142_42, u142_45, u142_46, u142_49, k0, k1, k2, k_isNode S ok.1, m_in, e1, c1, c2, c3, w1, wr_id, rng, rngp, if_pos, if_neg, if_true, if_false, reduceCtorEq, true_and, and_true, and_self, Option.toList_some, Option.toList_none, List.cons_append, List.nil_append, Int.toNat_natCast]
          exact ⟨rfl, S1, G⟩
      · rw [if_neg (fun q => c3 q.2.2.1)]
        refine Cm.of ?_
        simp (disch := omega) only [u142_0, u142_1, u142_2, u142_5, u142_8, u142_9, u142_10, u142_13, u142_14, u142_17, u142_18, u142_19, u142_20, u142_23, u142_26, u142_27, u142_30, u142_31, u142_33, u142_36, u142_37, u142_38, u142_39, u142_40, u142_41, u142_42, u142_45, u142_46, u142_49, k0, k1, k2, k_isNode S ok.1, m_in, e1, c1, c2, c3, w1, wr_id, rng, rngp, if_pos, if_neg, if_true, if_false, reduceCtorEq, true_and, and_true, and_self, Option.toList_some, Option.toList_none, List.cons_append, List.nil_append, Int.toNat_natCast]
        exact ⟨rfl, S1, G⟩
    · rw [if_neg (fun q => c2 q.2.1)]
      refine Cm.of ?_
      simp (disch := omega) only [u142_0, u142_1, u142_2, u142_5, u142_8, u142_9, u142_10, u142_13, u142_14, u142_17, u142_18, u142_19, u142_20, u142_23, u142_26, u142_27, u142_30, u142_31, u142_33, u142_36, u142_37, u142_38, u142_39, u142_40, u142_41, u142_42, u142_45, u142_46, u142_49, k0, k1, k2, k_isNode S ok.1, m_in, e1, c1, c2, w1, wr_id, rng, rngp, if_pos, if_neg, if_true, if_false, reduceCtorEq, true_and, and_true, and_self, Option.toList_some, Option.toList_none, List.cons_append, List.nil_append, Int.toNat_natCast]
      exact ⟨rfl, S1, G⟩
  · rw [if_neg (fun q => c1 q.1)]
    refine Cm.of ?_
    simp (disch := omega) only [u142_0, u142_1, u142_2, u142_5, u142_8, u142_9, u142_10, u142_13, u142_14, u142_17, u142_18, u142_19, u142_20, u142_23, u142_26, u142_27, u142_30, u142_31, u142_33, u142_36, u142_37, u142_38, u142_39, u142_40, u142_41, u142_42, u142_45, u142_46, u142_49, k0, k_isNode S ok.1, m_in, c1, w1, wr_id, rng, rngp, if_pos, if_neg, if_true, if_false, reduceCtorEq, true_and, and_true, and_self, Option.toList_some, Option.toList_none, List.cons_append, List.nil_append, Int.toNat_natCast]
    exact ⟨rfl, S1, G⟩
theorem c_count {sc : av_S} {d : Nat} {h : av_H} {x : Nat} {s : SS} {w : Int} (S : MSS h x s) (hr : okR s.2.2.1) (ok : okW s.1) : Cm sc (d + 12) 143 x [(1, .inl w)] h (xCount s w) := by
  obtain ⟨k0, -⟩ := id S.1
  unfold xCount
  by_cases c : 0 ≤ w ∧ w ≤ 9
  · rw [if_pos c]
    have e1 : ∀ Q, WP sc (d + 11) 144 0 [(0, .inr (.inl x)), (1, .inl w)] [] h Q ↔ Q (some (.inl (sCount s.1 w.toNat))) h := by
      intro Q
      have := m_countOf (sc := sc) (d := d + 9) (k := w.toNat) S.1 S.2.1 ok.1 (by omega) Q
      rw [show ((w.toNat : Nat) : Int) = w by omega] at this
      exact this
    refine c_id S ?_
    simp (disch := omega) only [u143_0, u143_1, u143_2, u143_4, u143_7, u143_10, u143_11, u143_12, u143_15, u143_18, u143_19, u143_21, u143_24, k0, m_in, e1, c, wr_id, rng, rngp, if_pos, if_neg, if_true, if_false, reduceCtorEq, true_and, and_true, and_self, Option.toList_some, Option.toList_none, List.cons_append, List.nil_append, Int.toNat_natCast]
  · rw [if_neg c]
    obtain ⟨h1, w1, S1, G⟩ := k_ref (sc := sc) (d := d) (how := -2) S hr
    refine Cm.of ?_
    simp (disch := omega) only [u143_0, u143_1, u143_2, u143_4, u143_7, u143_10, u143_11, u143_12, u143_15, u143_18, u143_19, u143_21, u143_24, k0, m_in, w1, c, wr_id, rng, rngp, if_pos, if_neg, if_true, if_false, reduceCtorEq, true_and, and_true, and_self, Option.toList_some, Option.toList_none, List.cons_append, List.nil_append, Int.toNat_natCast]
    exact ⟨rfl, S1, G⟩
theorem c_told {sc : av_S} {d : Nat} {h : av_H} {x : Nat} {s : SS} {w : Int} (S : MSS h x s) (hr : okR s.2.2.1) : Cm sc (d + 12) 154 x [(1, .inl w)] h (xTold s w) := by
  obtain ⟨k0, -⟩ := id S.1
  unfold xTold
  by_cases c : 0 ≤ w ∧ w ≤ 4
  · rw [if_pos c]
    have e1 : ∀ Q, WP sc (d + 11) 155 0 [(0, .inr (.inl x)), (1, .inl w)] [] h Q ↔ Q (some (.inl (sToldF s.2.1 s.2.2.1 s.2.2.2 w.toNat))) h := by
      intro Q
      have := m_toldOf (sc := sc) (d := d + 10) (k := w.toNat) S (by omega) Q
      rw [show ((w.toNat : Nat) : Int) = w by omega] at this
      exact this
    refine c_id S ?_
    simp (disch := omega) only [u154_0, u154_1, u154_2, u154_3, u154_6, u154_9, u154_10, u154_11, u154_14, u154_17, u154_18, u154_20, u154_23, k0, m_in, e1, c, wr_id, rng, rngp, if_pos, if_neg, if_true, if_false, reduceCtorEq, true_and, and_true, and_self, Option.toList_some, Option.toList_none, List.cons_append, List.nil_append, Int.toNat_natCast]
  · rw [if_neg c]
    obtain ⟨h1, w1, S1, G⟩ := k_ref (sc := sc) (d := d) (how := -2) S hr
    refine Cm.of ?_
    simp (disch := omega) only [u154_0, u154_1, u154_2, u154_3, u154_6, u154_9, u154_10, u154_11, u154_14, u154_17, u154_18, u154_20, u154_23, k0, m_in, w1, c, wr_id, rng, rngp, if_pos, if_neg, if_true, if_false, reduceCtorEq, true_and, and_true, and_self, Option.toList_some, Option.toList_none, List.cons_append, List.nil_append, Int.toNat_natCast]
    exact ⟨rfl, S1, G⟩
theorem c_type {sc : av_S} {d : Nat} {h : av_H} {x : Nat} {s : SS} {c : Int} (S : MSS h x s) (hr : okR s.2.2.1) : Cm sc (d + 12) 145 x [(1, .inl c)] h (xType s c) := by
  obtain ⟨K, H, ⟨s1, s2, s3⟩, r1, t1, t2, t3⟩ := id S
  obtain ⟨k0, -, -, -, ⟨k5, k6⟩, -⟩ := id K
  unfold xType
  by_cases c1 : 0 ≤ c ∧ c ≤ 127
  · rw [if_pos c1]
    by_cases c2 : s.2.2.2.length = 120
    · rw [if_pos c2]
      obtain ⟨h1, w1, S1, G⟩ := k_ref (sc := sc) (d := d) (how := -4) S hr
      have t1' : gI h x 4 = 120 := by rw [t1, c2]; rfl
      refine Cm.of ?_
      simp (disch := omega) only [u145_0, u145_1, u145_2, u145_4, u145_7, u145_10, u145_11, u145_13, u145_16, u145_17, u145_18, u145_21, u145_23, u145_26, u145_27, u145_29, u145_32, u145_33, u145_34, u145_37, u145_38, u145_41, u145_42, u145_43, u145_44, u145_45, u145_48, u145_49, u145_50, u145_53, u145_54, u145_57, k0, m_in, t1', w1, c1, wr_id, rng, rngp, if_pos, if_neg, if_true, if_false, reduceCtorEq, true_and, and_true, and_self, Option.toList_some, Option.toList_none, List.cons_append, List.nil_append, Int.toNat_natCast]
      exact ⟨rfl, S1, G⟩
    · rw [if_neg c2]
      have ln : s.2.2.2.length < 120 := by omega
      have G : MG h (sI (sI h (x + 4) s.2.2.2.length c) x 4 ((s.2.2.2.length : Int) + 1)) x := (MG.sI (by omega)).tr (MG.sI (by omega))
      refine Cm.of ?_
      simp (disch := omega) only [u145_0, u145_1, u145_2, u145_4, u145_7, u145_10, u145_11, u145_13, u145_16, u145_17, u145_18, u145_21, u145_23, u145_26, u145_27, u145_29, u145_32, u145_33, u145_34, u145_37, u145_38, u145_41, u145_42, u145_43, u145_44, u145_45, u145_48, u145_49, u145_50, u145_53, u145_54, u145_57, k0, k5, k6, m_in, t1, c1, kd_sI, gR_sI, gI_sI_eq, gI_sI_nb, wr_id, rng, rngp, if_pos, if_neg, if_true, if_false, reduceCtorEq, true_and, and_true, and_self, Option.toList_some, Option.toList_none, List.cons_append, List.nil_append, Int.toNat_natCast]
      refine ⟨⟨K.mg G, ?_, ⟨?_, s2, fun j hj => ?_⟩, fun k hk => ?_, ?_, ?_, fun i hi => ?_⟩, G⟩
      · exact MR_MV.mpr ((MR_MV.mp H).cg (fun k _ => by rw [gI_sI_nb (by omega), gI_sI_nb (by omega)]))
      · rw [gI_sI_ne (by omega), gI_sI_nb (by omega)]; exact s1
      · exact (s3 j hj).cg (fun k _ => by rw [gI_sI_nb (by omega), gI_sI_nb (by omega)])
      · rw [gI_sI_nb (by omega), gI_sI_nb (by omega)]; exact r1 k hk
      · show gI _ x 4 = ((s.2.2.2 ++ [c]).length : Int)
        rw [gI_sI_eq rfl, List.length_append]; simp
      · show (s.2.2.2 ++ [c]).length ≤ 120
        rw [List.length_append]; simp; omega
      · change i < (s.2.2.2 ++ [c]).length at hi
        show gI _ (x + 4) i = (s.2.2.2 ++ [c]).getD i 0
        rw [List.length_append] at hi
        simp at hi
        rw [gI_sI_nb (by omega)]
        by_cases e : i = s.2.2.2.length
        · rw [gI_sI_eq e, e]
          have := gd_r (l := s.2.2.2) (m := [c]) (i := 0)
          rw [Nat.add_zero] at this
          rw [this]; rfl
        · rw [gI_sI_ne e, gd_l (by omega)]
          exact t3 i (by omega)
  · rw [if_neg c1]
    obtain ⟨h1, w1, S1, G⟩ := k_ref (sc := sc) (d := d) (how := -2) S hr
    refine Cm.of ?_
    simp (disch := omega) only [u145_0, u145_1, u145_2, u145_4, u145_7, u145_10, u145_11, u145_13, u145_16, u145_17, u145_18, u145_21, u145_23, u145_26, u145_27, u145_29, u145_32, u145_33, u145_34, u145_37, u145_38, u145_41, u145_42, u145_43, u145_44, u145_45, u145_48, u145_49, u145_50, u145_53, u145_54, u145_57, k0, m_in, w1, c1, wr_id, rng, rngp, if_pos, if_neg, if_true, if_false, reduceCtorEq, true_and, and_true, and_self, Option.toList_some, Option.toList_none, List.cons_append, List.nil_append, Int.toNat_natCast]
    exact ⟨rfl, S1, G⟩
theorem c_clear {sc : av_S} {d : Nat} {h : av_H} {x : Nat} {s : SS} (S : MSS h x s) : Cm sc (d + 12) 146 x [] h (xClear s) := by
  obtain ⟨K, H, ⟨s1, s2, s3⟩, r1, t1, t2, t3⟩ := id S
  obtain ⟨k0, -⟩ := id K
  have G : MG h (sI h x 4 0) x := MG.sI (by omega)
  refine Cm.of ?_
  simp (disch := omega) only [u146_0, u146_1, u146_4, u146_5, u146_6, u146_7, u146_10, u146_11, k0, t1, kd_sI, gR_sI, wr_id, rng, rngp, if_pos, if_neg, if_true, if_false, reduceCtorEq, true_and, and_true, and_self, Option.toList_some, Option.toList_none, List.cons_append, List.nil_append, Int.toNat_natCast]
  refine ⟨rfl, ⟨K.mg G, ?_, ⟨?_, s2, fun j hj => ?_⟩, fun k hk => ?_, ?_, ?_, fun i hi => ?_⟩, G⟩
  · exact MR_MV.mpr ((MR_MV.mp H).cg (fun k _ => by rw [gI_sI_nb (by omega)]))
  · rw [gI_sI_ne (by omega)]; exact s1
  · exact (s3 j hj).cg (fun k _ => by rw [gI_sI_nb (by omega)])
  · rw [gI_sI_nb (by omega)]; exact r1 k hk
  · rw [gI_sI_eq rfl]; rfl
  · show ([] : List Int).length ≤ 120
    simp
  · change i < ([] : List Int).length at hi
    simp at hi
theorem c_back {sc : av_S} {d : Nat} {h : av_H} {x : Nat} {s : SS} (S : MSS h x s) (hr : okR s.2.2.1) : Cm sc (d + 12) 153 x [] h (xBack s) := by
  obtain ⟨σ, ps, rf, tx⟩ := s
  unfold xBack
  by_cases c : ps = []
  · rw [if_pos c]
    obtain ⟨h1, w1, S1, G⟩ := k_ref (sc := sc) (d := d) (how := -3) S hr
    obtain ⟨K, H, ⟨s1, s2, s3⟩, r1, t1, t2, t3⟩ := id S
    obtain ⟨k0, -⟩ := id K
    have s1' : gI h x 2 = 0 := by
      rw [s1]
      show ((ps.length : Nat) : Int) = 0
      rw [c]; rfl
    refine Cm.of ?_
    simp (disch := omega) only [u153_0, u153_1, u153_4, u153_7, u153_8, u153_10, u153_13, u153_14, u153_15, u153_16, u153_19, u153_20, u153_21, u153_24, u153_25, u153_27, u153_30, u153_33, u153_34, u153_37, u153_38, u153_39, u153_42, u153_45, u153_46, u153_49, u153_50, u153_51, u153_52, u153_53, u153_54, u153_57, u153_60, u153_61, u153_64, k0, s1', w1, wr_id, rng, rngp, if_pos, if_neg, if_true, if_false, reduceCtorEq, true_and, and_true, and_self, Option.toList_some, Option.toList_none, List.cons_append, List.nil_append, Int.toNat_natCast]
    exact ⟨rfl, S1, G⟩
  · rw [if_neg c]
    obtain ⟨qs, τ, rfl⟩ : ∃ qs τ, ps = qs ++ [τ] := ⟨ps.dropLast, ps.getLast c, (List.dropLast_concat_getLast c).symm⟩
    obtain ⟨h1, w1, S1, G⟩ := m_back (sc := sc) (d := d + 11) S
    have e1 : ((qs ++ [τ]).length : Int) - 1 = (qs.length : Int) := by rw [List.length_append]; simp
    have e2 : (qs ++ [τ]).dropLast = qs := by simp
    have e3 : (qs ++ [τ]).getLastD sNew = τ := by simp
    refine ⟨h1, ?_, ?_, G⟩
    · intro Q
      show _ ↔ Q (some (.inl (((qs ++ [τ]).length : Int) - 1))) h1
      rw [e1]; exact w1 Q
    · show MS h1 x ((qs ++ [τ]).getLastD sNew) ((qs ++ [τ]).dropLast) rf tx
      rw [e2, e3]; exact S1
