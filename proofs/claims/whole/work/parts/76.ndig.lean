/-! a node's digest in the class -/
theorem n_factS {sc : av_S} {d : Nat} {h : av_H} {a n k : Nat} {σ : sS} (N : CN h a (sf σ n) (sr σ n)) (hk : k < 10) (h5 : sf σ n 5 = 0 ∨ sf σ n 5 = 1) (h9 : sf σ n 9 = 0 ∨ sf σ n 9 = 1) (hU : sg σ 4 ≠ 1 → sf σ n 9 = 0) (Q : Option av_V → av_H → Prop) : WP sc (d + 1) 8 0 [(0, .inr (.inl a)), (1, .inl (k : Int))] [] h Q ↔ Q (some (.inl (sFact σ n k))) h := by
  rw [n_fact N hk h5 h9 Q]
  have e : (if k = 4 then (if sf σ n 0 = 0 then sf σ n 4 else -1) else if k = 6 then (if sf σ n 0 = 4 then sf σ n 6 else -1) else if k = 7 ∨ k = 8 then sf σ n k - 1 else sf σ n k) = sFact σ n k := by
    unfold sFact
    by_cases e9 : k = 9
    · subst e9
      by_cases c : sg σ 4 = 1
      · rw [if_neg (by decide), if_neg (by decide), if_neg (by decide), if_neg (by decide), if_neg (by decide), if_neg (by decide), if_pos rfl, if_pos c]
      · rw [if_neg (by decide), if_neg (by decide), if_neg (by decide), if_neg (by decide), if_neg (by decide), if_neg (by decide), if_pos rfl, if_neg c]
        exact hU c
    · rw [if_neg e9]
  rw [e]
theorem n_digest {sc : av_S} {d : Nat} {h : av_H} {a n : Nat} {σ : sS} {w : Int64} (N : CN h a (sf σ n) (sr σ n)) (h5 : sf σ n 5 = 0 ∨ sf σ n 5 = 1) (h9 : sf σ n 9 = 0 ∨ sf σ n 9 = 1) (hU : sg σ 4 ≠ 1 → sf σ n 9 = 0) (Q : Option av_V → av_H → Prop) : WP sc (d + 2) 21 0 [(0, .inr (.inl a)), (1, .inr (.inr w))] [] h Q ↔ Q (some (.inr (.inr (dgN σ n w)))) h := by
  have e1 : ∀ (j : Nat), j < 10 → ∀ Q, WP sc (d + 1) 8 0 [(0, .inr (.inl a)), (1, .inl (j : Int))] [] h Q ↔ Q (some (.inl (sFact σ n j))) h := fun j hj Q => n_factS N hj h5 h9 hU Q
  have e2 : ∀ (i : Int) Q, WP sc (d + 1) 4 0 [(0, .inr (.inl a)), (1, .inl i)] [] h Q ↔ Q (some (.inl (if 0 ≤ i ∧ i < (nin (sf σ n 0) : Int) then 1 else 0))) h := fun i Q => n_hasIn N Q
  obtain ⟨pa, la, K, P, L, I, S, ⟨r0, r1, r4, r5, r6⟩, p, l⟩ := N.to
  have k0 := K.1
  have ks := K.2.1.1
  have kt := K.2.1.2
  have i0 := I.1
  have e3 : ∀ (i : Int) Q, WP sc (d + 1) 5 0 [(0, .inr (.inl a)), (1, .inl i)] [] h Q ↔ Q (some (.inr (.inl (if i = 1 then a + 4 else a + 2)))) h := fun i Q => n_channel K Q
  have e4 : ∀ (j : Nat), j < 3 → ∀ Q, WP sc (d + 1) 7 0 [(0, .inr (.inl a)), (1, .inl (j : Int))] [] h Q ↔ Q (some (.inr (.inl (a + 6 + 2 * j)))) h := fun j hj Q => n_sinkRow K hj Q
  have m0 : (kd h (a + 2)).1 = 3 := r0.1.1
  have m1 : (kd h (a + 4)).1 = 3 := r1.1.1
  have d0 : ∀ w Q, WP sc (d + 1) 32 0 [(0, .inr (.inl (a + 2))), (1, .inr (.inr w))] [] h Q ↔ Q (some (.inr (.inr (mxs w (sr σ n 0))))) h := fun w Q => r_digest r0 (by omega) Q
  have d1 : ∀ w Q, WP sc (d + 1) 32 0 [(0, .inr (.inl (a + 4))), (1, .inr (.inr w))] [] h Q ↔ Q (some (.inr (.inr (mxs w (sr σ n 1))))) h := fun w Q => r_digest r1 (by omega) Q
  have l1 : ∀ (v : Int64) (t j : Nat), t = 10 - j → j ≤ 10 → (WP sc (d + 2) 21 5 [(0, .inr (.inl a)), (1, .inr (.inr w)), (3, .inr (.inr (mxr (sFact σ n) v j))), (5, .inl (j : Int))] [] h Q ↔ WP sc (d + 2) 21 35 [(0, .inr (.inl a)), (1, .inr (.inr w)), (3, .inr (.inr (mxr (sFact σ n) v 10))), (5, .inl 0)] [] h Q) := by
    intro v t
    induction t with
    | zero =>
      intro j ht hj
      have e : j = 10 := by omega
      subst e
      rw [u21_5]
      simp (disch := omega) only [u21_0, u21_1, u21_2, u21_3, u21_7, u21_9, u21_12, u21_15, u21_16, u21_17, u21_18, u21_20, u21_23, u21_24, u21_25, u21_26, u21_29, u21_32, u21_33, u21_37, u21_38, u21_41, u21_42, u21_44, u21_47, u21_50, u21_51, u21_53, u21_56, u21_57, u21_60, u21_61, u21_64, u21_67, u21_68, u21_71, u21_72, u21_75, u21_76, u21_80, u21_81, u21_84, u21_87, u21_88, u21_89, u21_90, u21_93, u21_95, u21_96, u21_97, u21_98, u21_99, u21_102, u21_105, u21_106, u21_109, u21_110, u21_113, u21_114, u21_118, u21_119, u21_122, u21_123, u21_125, u21_128, u21_129, u21_132, u21_133, u21_136, u21_139, u21_140, wr_id, rng, rngp, if_pos, if_neg, if_true, if_false, reduceCtorEq, true_and, and_true, and_self, Option.toList_some, Option.toList_none, List.cons_append, List.nil_append, Int.toNat_natCast]
    | succ t ih =>
      intro j ht hj
      rw [← ih (j + 1) (by omega) (by omega), u21_5]
      simp (disch := omega) only [u21_0, u21_1, u21_2, u21_3, u21_7, u21_9, u21_12, u21_15, u21_16, u21_17, u21_18, u21_20, u21_23, u21_24, u21_25, u21_26, u21_29, u21_32, u21_33, u21_37, u21_38, u21_41, u21_42, u21_44, u21_47, u21_50, u21_51, u21_53, u21_56, u21_57, u21_60, u21_61, u21_64, u21_67, u21_68, u21_71, u21_72, u21_75, u21_76, u21_80, u21_81, u21_84, u21_87, u21_88, u21_89, u21_90, u21_93, u21_95, u21_96, u21_97, u21_98, u21_99, u21_102, u21_105, u21_106, u21_109, u21_110, u21_113, u21_114, u21_118, u21_119, u21_122, u21_123, u21_125, u21_128, u21_129, u21_132, u21_133, u21_136, u21_139, u21_140, k0, e1, wr_id, rng, rngp, if_pos, if_neg, if_true, if_false, reduceCtorEq, true_and, and_true, and_self, Option.toList_some, Option.toList_none, List.cons_append, List.nil_append, Int.toNat_natCast]
      rw [show (j : Int) + 1 = ((j + 1 : Nat) : Int) by omega]
      rfl
  have l2 : ∀ (v : Int64), (WP sc (d + 2) 21 35 [(0, .inr (.inl a)), (1, .inr (.inr w)), (3, .inr (.inr v)), (5, .inl 0)] [] h Q ↔ WP sc (d + 2) 21 67 [(0, .inr (.inl a)), (1, .inr (.inr w)), (3, .inr (.inr (dgR σ n v))), (5, .inl 2)] [] h Q) := by
    intro v
    rw [u21_35]
    rcases nin_c (sf σ n 0) with c | c | c
    · rw [c] at e2
      simp (disch := omega) only [u21_0, u21_1, u21_2, u21_3, u21_7, u21_9, u21_12, u21_15, u21_16, u21_17, u21_18, u21_20, u21_23, u21_24, u21_25, u21_26, u21_29, u21_32, u21_33, u21_37, u21_38, u21_41, u21_42, u21_44, u21_47, u21_50, u21_51, u21_53, u21_56, u21_57, u21_60, u21_61, u21_64, u21_68, u21_71, u21_72, u21_75, u21_76, u21_80, u21_81, u21_84, u21_87, u21_88, u21_89, u21_90, u21_93, u21_95, u21_96, u21_97, u21_98, u21_99, u21_102, u21_105, u21_106, u21_109, u21_110, u21_113, u21_114, u21_118, u21_119, u21_122, u21_123, u21_125, u21_128, u21_129, u21_132, u21_133, u21_136, u21_139, u21_140, k0, e2, wr_id, rng, rngp, if_pos, if_neg, if_true, if_false, reduceCtorEq, true_and, and_true, and_self, Option.toList_some, Option.toList_none, List.cons_append, List.nil_append, Int.toNat_natCast]
      rw [u21_35]
      simp (disch := omega) only [u21_0, u21_1, u21_2, u21_3, u21_7, u21_9, u21_12, u21_15, u21_16, u21_17, u21_18, u21_20, u21_23, u21_24, u21_25, u21_26, u21_29, u21_32, u21_33, u21_37, u21_38, u21_41, u21_42, u21_44, u21_47, u21_50, u21_51, u21_53, u21_56, u21_57, u21_60, u21_61, u21_64, u21_68, u21_71, u21_72, u21_75, u21_76, u21_80, u21_81, u21_84, u21_87, u21_88, u21_89, u21_90, u21_93, u21_95, u21_96, u21_97, u21_98, u21_99, u21_102, u21_105, u21_106, u21_109, u21_110, u21_113, u21_114, u21_118, u21_119, u21_122, u21_123, u21_125, u21_128, u21_129, u21_132, u21_133, u21_136, u21_139, u21_140, k0, e2, wr_id, rng, rngp, if_pos, if_neg, if_true, if_false, reduceCtorEq, true_and, and_true, and_self, Option.toList_some, Option.toList_none, List.cons_append, List.nil_append, Int.toNat_natCast]
      rw [u21_35]
      simp (disch := omega) only [u21_0, u21_1, u21_2, u21_3, u21_7, u21_9, u21_12, u21_15, u21_16, u21_17, u21_18, u21_20, u21_23, u21_24, u21_25, u21_26, u21_29, u21_32, u21_33, u21_37, u21_38, u21_41, u21_42, u21_44, u21_47, u21_50, u21_51, u21_53, u21_56, u21_57, u21_60, u21_61, u21_64, u21_68, u21_71, u21_72, u21_75, u21_76, u21_80, u21_81, u21_84, u21_87, u21_88, u21_89, u21_90, u21_93, u21_95, u21_96, u21_97, u21_98, u21_99, u21_102, u21_105, u21_106, u21_109, u21_110, u21_113, u21_114, u21_118, u21_119, u21_122, u21_123, u21_125, u21_128, u21_129, u21_132, u21_133, u21_136, u21_139, u21_140, wr_id, rng, rngp, if_pos, if_neg, if_true, if_false, reduceCtorEq, true_and, and_true, and_self, Option.toList_some, Option.toList_none, List.cons_append, List.nil_append, Int.toNat_natCast]
      unfold dgR
      rw [if_pos c]
      rfl
    · rw [c] at e2
      simp (disch := omega) only [u21_0, u21_1, u21_2, u21_3, u21_7, u21_9, u21_12, u21_15, u21_16, u21_17, u21_18, u21_20, u21_23, u21_24, u21_25, u21_26, u21_29, u21_32, u21_33, u21_37, u21_38, u21_41, u21_42, u21_44, u21_47, u21_50, u21_51, u21_53, u21_56, u21_57, u21_60, u21_61, u21_64, u21_68, u21_71, u21_72, u21_75, u21_76, u21_80, u21_81, u21_84, u21_87, u21_88, u21_89, u21_90, u21_93, u21_95, u21_96, u21_97, u21_98, u21_99, u21_102, u21_105, u21_106, u21_109, u21_110, u21_113, u21_114, u21_118, u21_119, u21_122, u21_123, u21_125, u21_128, u21_129, u21_132, u21_133, u21_136, u21_139, u21_140, k0, e2, e3, m0, d0, wr_id, rng, rngp, if_pos, if_neg, if_true, if_false, reduceCtorEq, true_and, and_true, and_self, Option.toList_some, Option.toList_none, List.cons_append, List.nil_append, Int.toNat_natCast]
      rw [u21_35]
      simp (disch := omega) only [u21_0, u21_1, u21_2, u21_3, u21_7, u21_9, u21_12, u21_15, u21_16, u21_17, u21_18, u21_20, u21_23, u21_24, u21_25, u21_26, u21_29, u21_32, u21_33, u21_37, u21_38, u21_41, u21_42, u21_44, u21_47, u21_50, u21_51, u21_53, u21_56, u21_57, u21_60, u21_61, u21_64, u21_68, u21_71, u21_72, u21_75, u21_76, u21_80, u21_81, u21_84, u21_87, u21_88, u21_89, u21_90, u21_93, u21_95, u21_96, u21_97, u21_98, u21_99, u21_102, u21_105, u21_106, u21_109, u21_110, u21_113, u21_114, u21_118, u21_119, u21_122, u21_123, u21_125, u21_128, u21_129, u21_132, u21_133, u21_136, u21_139, u21_140, k0, e2, wr_id, rng, rngp, if_pos, if_neg, if_true, if_false, reduceCtorEq, true_and, and_true, and_self, Option.toList_some, Option.toList_none, List.cons_append, List.nil_append, Int.toNat_natCast]
      rw [u21_35]
      simp (disch := omega) only [u21_0, u21_1, u21_2, u21_3, u21_7, u21_9, u21_12, u21_15, u21_16, u21_17, u21_18, u21_20, u21_23, u21_24, u21_25, u21_26, u21_29, u21_32, u21_33, u21_37, u21_38, u21_41, u21_42, u21_44, u21_47, u21_50, u21_51, u21_53, u21_56, u21_57, u21_60, u21_61, u21_64, u21_68, u21_71, u21_72, u21_75, u21_76, u21_80, u21_81, u21_84, u21_87, u21_88, u21_89, u21_90, u21_93, u21_95, u21_96, u21_97, u21_98, u21_99, u21_102, u21_105, u21_106, u21_109, u21_110, u21_113, u21_114, u21_118, u21_119, u21_122, u21_123, u21_125, u21_128, u21_129, u21_132, u21_133, u21_136, u21_139, u21_140, wr_id, rng, rngp, if_pos, if_neg, if_true, if_false, reduceCtorEq, true_and, and_true, and_self, Option.toList_some, Option.toList_none, List.cons_append, List.nil_append, Int.toNat_natCast]
      unfold dgR
      rw [if_neg (by omega), if_pos c]
      rfl
    · rw [c] at e2
      simp (disch := omega) only [u21_0, u21_1, u21_2, u21_3, u21_7, u21_9, u21_12, u21_15, u21_16, u21_17, u21_18, u21_20, u21_23, u21_24, u21_25, u21_26, u21_29, u21_32, u21_33, u21_37, u21_38, u21_41, u21_42, u21_44, u21_47, u21_50, u21_51, u21_53, u21_56, u21_57, u21_60, u21_61, u21_64, u21_68, u21_71, u21_72, u21_75, u21_76, u21_80, u21_81, u21_84, u21_87, u21_88, u21_89, u21_90, u21_93, u21_95, u21_96, u21_97, u21_98, u21_99, u21_102, u21_105, u21_106, u21_109, u21_110, u21_113, u21_114, u21_118, u21_119, u21_122, u21_123, u21_125, u21_128, u21_129, u21_132, u21_133, u21_136, u21_139, u21_140, k0, e2, e3, m0, d0, wr_id, rng, rngp, if_pos, if_neg, if_true, if_false, reduceCtorEq, true_and, and_true, and_self, Option.toList_some, Option.toList_none, List.cons_append, List.nil_append, Int.toNat_natCast]
      rw [u21_35]
      simp (disch := omega) only [u21_0, u21_1, u21_2, u21_3, u21_7, u21_9, u21_12, u21_15, u21_16, u21_17, u21_18, u21_20, u21_23, u21_24, u21_25, u21_26, u21_29, u21_32, u21_33, u21_37, u21_38, u21_41, u21_42, u21_44, u21_47, u21_50, u21_51, u21_53, u21_56, u21_57, u21_60, u21_61, u21_64, u21_68, u21_71, u21_72, u21_75, u21_76, u21_80, u21_81, u21_84, u21_87, u21_88, u21_89, u21_90, u21_93, u21_95, u21_96, u21_97, u21_98, u21_99, u21_102, u21_105, u21_106, u21_109, u21_110, u21_113, u21_114, u21_118, u21_119, u21_122, u21_123, u21_125, u21_128, u21_129, u21_132, u21_133, u21_136, u21_139, u21_140, k0, e2, e3, m1, d1, wr_id, rng, rngp, if_pos, if_neg, if_true, if_false, reduceCtorEq, true_and, and_true, and_self, Option.toList_some, Option.toList_none, List.cons_append, List.nil_append, Int.toNat_natCast]
      rw [u21_35]
      simp (disch := omega) only [u21_0, u21_1, u21_2, u21_3, u21_7, u21_9, u21_12, u21_15, u21_16, u21_17, u21_18, u21_20, u21_23, u21_24, u21_25, u21_26, u21_29, u21_32, u21_33, u21_37, u21_38, u21_41, u21_42, u21_44, u21_47, u21_50, u21_51, u21_53, u21_56, u21_57, u21_60, u21_61, u21_64, u21_68, u21_71, u21_72, u21_75, u21_76, u21_80, u21_81, u21_84, u21_87, u21_88, u21_89, u21_90, u21_93, u21_95, u21_96, u21_97, u21_98, u21_99, u21_102, u21_105, u21_106, u21_109, u21_110, u21_113, u21_114, u21_118, u21_119, u21_122, u21_123, u21_125, u21_128, u21_129, u21_132, u21_133, u21_136, u21_139, u21_140, wr_id, rng, rngp, if_pos, if_neg, if_true, if_false, reduceCtorEq, true_and, and_true, and_self, Option.toList_some, Option.toList_none, List.cons_append, List.nil_append, Int.toNat_natCast]
      unfold dgR
      rw [if_neg (by omega), if_neg (by omega)]
      rfl
  have l3 : ∀ (v : Int64) (z : Int), ∃ z', (WP sc (d + 2) 21 67 [(0, .inr (.inl a)), (1, .inr (.inr w)), (3, .inr (.inr v)), (5, .inl z)] [] h Q ↔ WP sc (d + 2) 21 105 [(0, .inr (.inl a)), (1, .inr (.inr w)), (3, .inr (.inr (dgT σ n v))), (5, .inl z')] [] h Q) := by
    intro v z
    by_cases c : sf σ n 0 = 3
    · have s := S c
      have lp : ∀ (t j : Nat), t = 4 - j → j ≤ 4 → (WP sc (d + 2) 21 78 [(0, .inr (.inl a)), (1, .inr (.inr w)), (3, .inr (.inr (mxr (fun j => sf σ n (10 + j)) v j))), (5, .inl (j : Int))] [] h Q ↔ WP sc (d + 2) 21 105 [(0, .inr (.inl a)), (1, .inr (.inr w)), (3, .inr (.inr (mxr (fun j => sf σ n (10 + j)) v 4))), (5, .inl 4)] [] h Q) := by
        intro t
        induction t with
        | zero =>
          intro j ht hj
          have e : j = 4 := by omega
          subst e
          rw [u21_78]
          simp (disch := omega) only [u21_0, u21_1, u21_2, u21_3, u21_7, u21_9, u21_12, u21_15, u21_16, u21_17, u21_18, u21_20, u21_23, u21_24, u21_25, u21_26, u21_29, u21_32, u21_33, u21_37, u21_38, u21_41, u21_42, u21_44, u21_47, u21_50, u21_51, u21_53, u21_56, u21_57, u21_60, u21_61, u21_64, u21_67, u21_68, u21_71, u21_72, u21_75, u21_76, u21_80, u21_81, u21_84, u21_87, u21_88, u21_89, u21_90, u21_93, u21_95, u21_96, u21_97, u21_98, u21_99, u21_102, u21_106, u21_109, u21_110, u21_113, u21_114, u21_118, u21_119, u21_122, u21_123, u21_125, u21_128, u21_129, u21_132, u21_133, u21_136, u21_139, u21_140, wr_id, rng, rngp, if_pos, if_neg, if_true, if_false, reduceCtorEq, true_and, and_true, and_self, Option.toList_some, Option.toList_none, List.cons_append, List.nil_append, Int.toNat_natCast]
          rfl
        | succ t ih =>
          intro j ht hj
          have sj := s j (by omega)
          rw [← ih (j + 1) (by omega) (by omega), u21_78]
          simp (disch := omega) only [u21_0, u21_1, u21_2, u21_3, u21_7, u21_9, u21_12, u21_15, u21_16, u21_17, u21_18, u21_20, u21_23, u21_24, u21_25, u21_26, u21_29, u21_32, u21_33, u21_37, u21_38, u21_41, u21_42, u21_44, u21_47, u21_50, u21_51, u21_53, u21_56, u21_57, u21_60, u21_61, u21_64, u21_67, u21_68, u21_71, u21_72, u21_75, u21_76, u21_80, u21_81, u21_84, u21_87, u21_88, u21_89, u21_90, u21_93, u21_95, u21_96, u21_97, u21_98, u21_99, u21_102, u21_106, u21_109, u21_110, u21_113, u21_114, u21_118, u21_119, u21_122, u21_123, u21_125, u21_128, u21_129, u21_132, u21_133, u21_136, u21_139, u21_140, k0, ks, kt, sj, wr_id, rng, rngp, if_pos, if_neg, if_true, if_false, reduceCtorEq, true_and, and_true, and_self, Option.toList_some, Option.toList_none, List.cons_append, List.nil_append, Int.toNat_natCast]
          rw [show (j : Int) + 1 = ((j + 1 : Nat) : Int) by omega]
          rfl
      refine ⟨4, ?_⟩
      unfold dgT
      rw [if_pos c, ← lp 4 0 rfl (by omega)]
      simp (disch := omega) only [u21_0, u21_1, u21_2, u21_3, u21_7, u21_9, u21_12, u21_15, u21_16, u21_17, u21_18, u21_20, u21_23, u21_24, u21_25, u21_26, u21_29, u21_32, u21_33, u21_37, u21_38, u21_41, u21_42, u21_44, u21_47, u21_50, u21_51, u21_53, u21_56, u21_57, u21_60, u21_61, u21_64, u21_67, u21_68, u21_71, u21_72, u21_75, u21_76, u21_80, u21_81, u21_84, u21_87, u21_88, u21_89, u21_90, u21_93, u21_95, u21_96, u21_97, u21_98, u21_99, u21_102, u21_106, u21_109, u21_110, u21_113, u21_114, u21_118, u21_119, u21_122, u21_123, u21_125, u21_128, u21_129, u21_132, u21_133, u21_136, u21_139, u21_140, k0, i0, c, wr_id, rng, rngp, if_pos, if_neg, if_true, if_false, reduceCtorEq, true_and, and_true, and_self, Option.toList_some, Option.toList_none, List.cons_append, List.nil_append, Int.toNat_natCast]
      rfl
    · refine ⟨z, ?_⟩
      unfold dgT
      rw [if_neg c]
      simp (disch := omega) only [u21_0, u21_1, u21_2, u21_3, u21_7, u21_9, u21_12, u21_15, u21_16, u21_17, u21_18, u21_20, u21_23, u21_24, u21_25, u21_26, u21_29, u21_32, u21_33, u21_37, u21_38, u21_41, u21_42, u21_44, u21_47, u21_50, u21_51, u21_53, u21_56, u21_57, u21_60, u21_61, u21_64, u21_67, u21_68, u21_71, u21_72, u21_75, u21_76, u21_80, u21_81, u21_84, u21_87, u21_88, u21_89, u21_90, u21_93, u21_95, u21_96, u21_97, u21_98, u21_99, u21_102, u21_106, u21_109, u21_110, u21_113, u21_114, u21_118, u21_119, u21_122, u21_123, u21_125, u21_128, u21_129, u21_132, u21_133, u21_136, u21_139, u21_140, k0, i0, c, wr_id, rng, rngp, if_pos, if_neg, if_true, if_false, reduceCtorEq, true_and, and_true, and_self, Option.toList_some, Option.toList_none, List.cons_append, List.nil_append, Int.toNat_natCast]
  have l4 : ∀ (v : Int64) (z : Int), (WP sc (d + 2) 21 105 [(0, .inr (.inl a)), (1, .inr (.inr w)), (3, .inr (.inr v)), (5, .inl z)] [] h Q ↔ Q (some (.inr (.inr (dgS σ n v)))) h) := by
    intro v z
    by_cases c : sf σ n 0 = 5
    · have a0 : ∀ Q, WP sc (d + 1) 7 0 [(0, .inr (.inl a)), (1, .inl 0)] [] h Q ↔ Q (some (.inr (.inl (a + 6)))) h := fun Q => e4 0 (by omega) Q
      have a1 : ∀ Q, WP sc (d + 1) 7 0 [(0, .inr (.inl a)), (1, .inl (0 + 1))] [] h Q ↔ Q (some (.inr (.inl (a + 8)))) h := fun Q => e4 1 (by omega) Q
      have a2 : ∀ Q, WP sc (d + 1) 7 0 [(0, .inr (.inl a)), (1, .inl (0 + 1 + 1))] [] h Q ↔ Q (some (.inr (.inl (a + 10)))) h := fun Q => e4 2 (by omega) Q
      have m4 : (kd h (a + 6)).1 = 3 := r4.1.1
      have m5 : (kd h (a + 8)).1 = 3 := r5.1.1
      have m6 : (kd h (a + 10)).1 = 3 := r6.1.1
      have d4 : ∀ w Q, WP sc (d + 1) 32 0 [(0, .inr (.inl (a + 6))), (1, .inr (.inr w))] [] h Q ↔ Q (some (.inr (.inr (mxs w (sr σ n 4))))) h := fun w Q => r_digest r4 (by omega) Q
      have d5 : ∀ w Q, WP sc (d + 1) 32 0 [(0, .inr (.inl (a + 8))), (1, .inr (.inr w))] [] h Q ↔ Q (some (.inr (.inr (mxs w (sr σ n 5))))) h := fun w Q => r_digest r5 (by omega) Q
      have d6 : ∀ w Q, WP sc (d + 1) 32 0 [(0, .inr (.inl (a + 10))), (1, .inr (.inr w))] [] h Q ↔ Q (some (.inr (.inr (mxs w (sr σ n 6))))) h := fun w Q => r_digest r6 (by omega) Q
      unfold dgS
      rw [if_pos c]
      simp (disch := omega) only [u21_0, u21_1, u21_2, u21_3, u21_7, u21_9, u21_12, u21_15, u21_16, u21_17, u21_18, u21_20, u21_23, u21_24, u21_25, u21_26, u21_29, u21_32, u21_33, u21_37, u21_38, u21_41, u21_42, u21_44, u21_47, u21_50, u21_51, u21_53, u21_56, u21_57, u21_60, u21_61, u21_64, u21_67, u21_68, u21_71, u21_72, u21_75, u21_76, u21_80, u21_81, u21_84, u21_87, u21_88, u21_89, u21_90, u21_93, u21_95, u21_96, u21_97, u21_98, u21_99, u21_102, u21_105, u21_106, u21_109, u21_110, u21_113, u21_114, u21_118, u21_119, u21_122, u21_123, u21_125, u21_128, u21_129, u21_132, u21_133, u21_136, u21_139, u21_140, k0, i0, c, wr_id, rng, rngp, if_pos, if_neg, if_true, if_false, reduceCtorEq, true_and, and_true, and_self, Option.toList_some, Option.toList_none, List.cons_append, List.nil_append, Int.toNat_natCast]
      rw [u21_116]
      simp (disch := omega) only [u21_0, u21_1, u21_2, u21_3, u21_7, u21_9, u21_12, u21_15, u21_16, u21_17, u21_18, u21_20, u21_23, u21_24, u21_25, u21_26, u21_29, u21_32, u21_33, u21_37, u21_38, u21_41, u21_42, u21_44, u21_47, u21_50, u21_51, u21_53, u21_56, u21_57, u21_60, u21_61, u21_64, u21_67, u21_68, u21_71, u21_72, u21_75, u21_76, u21_80, u21_81, u21_84, u21_87, u21_88, u21_89, u21_90, u21_93, u21_95, u21_96, u21_97, u21_98, u21_99, u21_102, u21_105, u21_106, u21_109, u21_110, u21_113, u21_114, u21_118, u21_119, u21_122, u21_123, u21_125, u21_128, u21_129, u21_132, u21_133, u21_136, u21_139, u21_140, k0, a0, m4, d4, wr_id, rng, rngp, if_pos, if_neg, if_true, if_false, reduceCtorEq, true_and, and_true, and_self, Option.toList_some, Option.toList_none, List.cons_append, List.nil_append, Int.toNat_natCast]
      rw [u21_116]
      simp (disch := omega) only [u21_0, u21_1, u21_2, u21_3, u21_7, u21_9, u21_12, u21_15, u21_16, u21_17, u21_18, u21_20, u21_23, u21_24, u21_25, u21_26, u21_29, u21_32, u21_33, u21_37, u21_38, u21_41, u21_42, u21_44, u21_47, u21_50, u21_51, u21_53, u21_56, u21_57, u21_60, u21_61, u21_64, u21_67, u21_68, u21_71, u21_72, u21_75, u21_76, u21_80, u21_81, u21_84, u21_87, u21_88, u21_89, u21_90, u21_93, u21_95, u21_96, u21_97, u21_98, u21_99, u21_102, u21_105, u21_106, u21_109, u21_110, u21_113, u21_114, u21_118, u21_119, u21_122, u21_123, u21_125, u21_128, u21_129, u21_132, u21_133, u21_136, u21_139, u21_140, k0, a1, m5, d5, wr_id, rng, rngp, if_pos, if_neg, if_true, if_false, reduceCtorEq, true_and, and_true, and_self, Option.toList_some, Option.toList_none, List.cons_append, List.nil_append, Int.toNat_natCast]
      rw [u21_116]
      simp (disch := omega) only [u21_0, u21_1, u21_2, u21_3, u21_7, u21_9, u21_12, u21_15, u21_16, u21_17, u21_18, u21_20, u21_23, u21_24, u21_25, u21_26, u21_29, u21_32, u21_33, u21_37, u21_38, u21_41, u21_42, u21_44, u21_47, u21_50, u21_51, u21_53, u21_56, u21_57, u21_60, u21_61, u21_64, u21_67, u21_68, u21_71, u21_72, u21_75, u21_76, u21_80, u21_81, u21_84, u21_87, u21_88, u21_89, u21_90, u21_93, u21_95, u21_96, u21_97, u21_98, u21_99, u21_102, u21_105, u21_106, u21_109, u21_110, u21_113, u21_114, u21_118, u21_119, u21_122, u21_123, u21_125, u21_128, u21_129, u21_132, u21_133, u21_136, u21_139, u21_140, k0, a2, m6, d6, wr_id, rng, rngp, if_pos, if_neg, if_true, if_false, reduceCtorEq, true_and, and_true, and_self, Option.toList_some, Option.toList_none, List.cons_append, List.nil_append, Int.toNat_natCast]
      rw [u21_116]
      simp (disch := omega) only [u21_0, u21_1, u21_2, u21_3, u21_7, u21_9, u21_12, u21_15, u21_16, u21_17, u21_18, u21_20, u21_23, u21_24, u21_25, u21_26, u21_29, u21_32, u21_33, u21_37, u21_38, u21_41, u21_42, u21_44, u21_47, u21_50, u21_51, u21_53, u21_56, u21_57, u21_60, u21_61, u21_64, u21_67, u21_68, u21_71, u21_72, u21_75, u21_76, u21_80, u21_81, u21_84, u21_87, u21_88, u21_89, u21_90, u21_93, u21_95, u21_96, u21_97, u21_98, u21_99, u21_102, u21_105, u21_106, u21_109, u21_110, u21_113, u21_114, u21_118, u21_119, u21_122, u21_123, u21_125, u21_128, u21_129, u21_132, u21_133, u21_136, u21_139, u21_140, wr_id, rng, rngp, if_pos, if_neg, if_true, if_false, reduceCtorEq, true_and, and_true, and_self, Option.toList_some, Option.toList_none, List.cons_append, List.nil_append, Int.toNat_natCast]
    · unfold dgS
      rw [if_neg c]
      simp (disch := omega) only [u21_0, u21_1, u21_2, u21_3, u21_7, u21_9, u21_12, u21_15, u21_16, u21_17, u21_18, u21_20, u21_23, u21_24, u21_25, u21_26, u21_29, u21_32, u21_33, u21_37, u21_38, u21_41, u21_42, u21_44, u21_47, u21_50, u21_51, u21_53, u21_56, u21_57, u21_60, u21_61, u21_64, u21_67, u21_68, u21_71, u21_72, u21_75, u21_76, u21_80, u21_81, u21_84, u21_87, u21_88, u21_89, u21_90, u21_93, u21_95, u21_96, u21_97, u21_98, u21_99, u21_102, u21_105, u21_106, u21_109, u21_110, u21_113, u21_114, u21_118, u21_119, u21_122, u21_123, u21_125, u21_128, u21_129, u21_132, u21_133, u21_136, u21_139, u21_140, k0, i0, c, wr_id, rng, rngp, if_pos, if_neg, if_true, if_false, reduceCtorEq, true_and, and_true, and_self, Option.toList_some, Option.toList_none, List.cons_append, List.nil_append, Int.toNat_natCast]
  unfold dgN
  obtain ⟨z', e⟩ := l3 (dgR σ n (mxr (sFact σ n) w 10)) 2
  rw [← l4 _ z', ← e, ← l2, ← l1 w 10 0 rfl (by omega)]
  simp (disch := omega) only [u21_0, u21_1, u21_2, u21_3, u21_7, u21_9, u21_12, u21_15, u21_16, u21_17, u21_18, u21_20, u21_23, u21_24, u21_25, u21_26, u21_29, u21_32, u21_33, u21_37, u21_38, u21_41, u21_42, u21_44, u21_47, u21_50, u21_51, u21_53, u21_56, u21_57, u21_60, u21_61, u21_64, u21_67, u21_68, u21_71, u21_72, u21_75, u21_76, u21_80, u21_81, u21_84, u21_87, u21_88, u21_89, u21_90, u21_93, u21_95, u21_96, u21_97, u21_98, u21_99, u21_102, u21_105, u21_106, u21_109, u21_110, u21_113, u21_114, u21_118, u21_119, u21_122, u21_123, u21_125, u21_128, u21_129, u21_132, u21_133, u21_136, u21_139, u21_140, wr_id, rng, rngp, if_pos, if_neg, if_true, if_false, reduceCtorEq, true_and, and_true, and_self, Option.toList_some, Option.toList_none, List.cons_append, List.nil_append, Int.toNat_natCast]
  rfl
