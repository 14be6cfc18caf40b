/-! what the reference tells -/
def mx (w : Int64) (z : Int) : Int64 := Int64.ofNat 31 * w + Int64.ofInt z
def mxs (w : Int64) (L : List Int) : Int64 := L.foldl mx w
def sFact (σ : sS) (n k : Nat) : Int := if k = 4 then (if sf σ n 0 = 0 then sf σ n 4 else -1) else if k = 6 then (if sf σ n 0 = 4 then sf σ n 6 else -1) else if k = 7 ∨ k = 8 then sf σ n k - 1 else if k = 9 then (if sg σ 4 = 1 then sf σ n 9 else 0) else sf σ n k
def sLet (σ : sS) : Int := sumN (fun n => ((sr σ n 0).length : Int) + ((sr σ n 1).length : Int)) (sN σ)
def sCount (σ : sS) (k : Nat) : Int := if k < 9 then sg σ k else sLet σ
def sToldF (ps : List sS) (rf : Nat → Int) (tx : List Int) (k : Nat) : Int := if k < 3 then rf k else if k = 3 then (tx.length : Int) else (ps.length : Int)
theorem m_ofNode {sc : av_S} {d : Nat} {h : av_H} {x n k : Nat} {σ : sS} (K : MK h x) (H : MR h x σ) (hn : n < 8) (hk : k < 10) (h7 : 0 ≤ sf σ n 7 ∧ sf σ n 7 ≤ 2) (h8 : 0 ≤ sf σ n 8 ∧ sf σ n 8 ≤ 2) (Q : Option av_V → av_H → Prop) : WP sc (d + 3) 138 0 [(0, .inr (.inl x)), (1, .inl (n : Int)), (2, .inl (k : Int))] [] h Q ↔ Q (some (.inl (sFact σ n k))) h := by
  obtain ⟨k0, ⟨k1, k2⟩, -⟩ := id K
  have g4 := H.g (i := 4) (k := 4) (by omega) rfl
  have fk : (k = 9 → sg σ 4 = 1) → gI h (x + 1) (10 + 30 * (n : Int) + (k : Int)).toNat = sf σ n k := fun q => H.f (i := 10 + 30 * (n : Int) + (k : Int)) (n := n) (k := k) hn (by omega) (fun e => Or.inl (q e)) (by omega)
  by_cases e4 : k = 4
  · subst e4
    have fk := fk (by omega)
    have fk' : gI h (x + 1) (10 + 30 * (n : Int) + 4).toNat = sf σ n 4 := fk
    by_cases c : sf σ n 0 = 0 <;> simp (disch := omega) only [u138_0, u138_1, u138_4, u138_5, u138_6, u138_44, u138_45, u138_46, u138_49, u138_52, u138_53, u138_56, u138_57, u138_58, u138_59, u138_60, u138_63, u138_64, u138_65, u138_66, u138_67, u138_70, u138_71, u138_74, u138_75, u138_78, u138_79, u138_81, u138_82, u138_83, u138_86, u138_87, u138_88, u138_89, u138_92, u138_93, u138_94, u138_95, u138_96, u138_97, u138_98, u138_99, u138_100, u138_103, u138_104, u138_105, u138_106, u138_109, u138_110, u138_113, u138_114, u138_116, u138_117, u138_118, u138_121, u138_122, u138_123, u138_124, u138_127, u138_128, u138_129, u138_130, u138_131, k0, k1, k2, m_at, m_kind K H hn, fk', c, wr_id, rng, rngp, if_pos, if_neg, if_true, if_false, reduceCtorEq, true_and, and_true, and_self, Option.toList_some, Option.toList_none, List.cons_append, List.nil_append, Int.toNat_natCast] <;> simp [sFact, c]
  · by_cases e6 : k = 6
    · subst e6
      have fk := fk (by omega)
      have fk' : gI h (x + 1) (10 + 30 * (n : Int) + 6).toNat = sf σ n 6 := fk
      by_cases c : sf σ n 0 = 4 <;> simp (disch := omega) only [u138_0, u138_1, u138_4, u138_5, u138_6, u138_44, u138_45, u138_46, u138_49, u138_52, u138_53, u138_56, u138_57, u138_58, u138_59, u138_60, u138_63, u138_64, u138_65, u138_66, u138_67, u138_70, u138_71, u138_74, u138_75, u138_78, u138_79, u138_81, u138_82, u138_83, u138_86, u138_87, u138_88, u138_89, u138_92, u138_93, u138_94, u138_95, u138_96, u138_97, u138_98, u138_99, u138_100, u138_103, u138_104, u138_105, u138_106, u138_109, u138_110, u138_113, u138_114, u138_116, u138_117, u138_118, u138_121, u138_122, u138_123, u138_124, u138_127, u138_128, u138_129, u138_130, u138_131, k0, k1, k2, m_at, m_kind K H hn, fk', c, wr_id, rng, rngp, if_pos, if_neg, if_true, if_false, reduceCtorEq, true_and, and_true, and_self, Option.toList_some, Option.toList_none, List.cons_append, List.nil_append, Int.toNat_natCast] <;> simp [sFact, c]
    · by_cases e9 : k = 9
      · subst e9
        by_cases c : sg σ 4 = 1
        · have fk := fk (fun _ => c)
          have fk' : gI h (x + 1) (10 + 30 * (n : Int) + 9).toNat = sf σ n 9 := fk
          simp (disch := omega) only [u138_0, u138_1, u138_4, u138_5, u138_6, u138_44, u138_45, u138_46, u138_49, u138_52, u138_53, u138_56, u138_57, u138_58, u138_59, u138_60, u138_63, u138_64, u138_65, u138_66, u138_67, u138_70, u138_71, u138_74, u138_75, u138_78, u138_79, u138_81, u138_82, u138_83, u138_86, u138_87, u138_88, u138_89, u138_92, u138_93, u138_94, u138_95, u138_96, u138_97, u138_98, u138_99, u138_100, u138_103, u138_104, u138_105, u138_106, u138_109, u138_110, u138_113, u138_114, u138_116, u138_117, u138_118, u138_121, u138_122, u138_123, u138_124, u138_127, u138_128, u138_129, u138_130, u138_131, k0, k1, k2, m_at, g4, fk', c, wr_id, rng, rngp, if_pos, if_neg, if_true, if_false, reduceCtorEq, true_and, and_true, and_self, Option.toList_some, Option.toList_none, List.cons_append, List.nil_append, Int.toNat_natCast]
          simp [sFact, c]
        · simp (disch := omega) only [u138_0, u138_1, u138_4, u138_5, u138_6, u138_44, u138_45, u138_46, u138_49, u138_52, u138_53, u138_56, u138_57, u138_58, u138_59, u138_60, u138_63, u138_64, u138_65, u138_66, u138_67, u138_70, u138_71, u138_74, u138_75, u138_78, u138_79, u138_81, u138_82, u138_83, u138_86, u138_87, u138_88, u138_89, u138_92, u138_93, u138_94, u138_95, u138_96, u138_97, u138_98, u138_99, u138_100, u138_103, u138_104, u138_105, u138_106, u138_109, u138_110, u138_113, u138_114, u138_116, u138_117, u138_118, u138_121, u138_122, u138_123, u138_124, u138_127, u138_128, u138_129, u138_130, u138_131, k0, k1, k2, m_at, g4, c, wr_id, rng, rngp, if_pos, if_neg, if_true, if_false, reduceCtorEq, true_and, and_true, and_self, Option.toList_some, Option.toList_none, List.cons_append, List.nil_append, Int.toNat_natCast]
          simp [sFact, c]
      · have fk := fk (by omega)
        by_cases e7 : k = 7
        · subst e7
          simp (disch := omega) only [u138_0, u138_1, u138_4, u138_5, u138_6, u138_44, u138_45, u138_46, u138_49, u138_52, u138_53, u138_56, u138_57, u138_58, u138_59, u138_60, u138_63, u138_64, u138_65, u138_66, u138_67, u138_70, u138_71, u138_74, u138_75, u138_78, u138_79, u138_81, u138_82, u138_83, u138_86, u138_87, u138_88, u138_89, u138_92, u138_93, u138_94, u138_95, u138_96, u138_97, u138_98, u138_99, u138_100, u138_103, u138_104, u138_105, u138_106, u138_109, u138_110, u138_113, u138_114, u138_116, u138_117, u138_118, u138_121, u138_122, u138_123, u138_124, u138_127, u138_128, u138_129, u138_130, u138_131, k0, k1, k2, m_at, fk, wr_id, rng, rngp, if_pos, if_neg, if_true, if_false, reduceCtorEq, true_and, and_true, and_self, Option.toList_some, Option.toList_none, List.cons_append, List.nil_append, Int.toNat_natCast]
          simp [sFact]
        · by_cases e8 : k = 8
          · subst e8
            simp (disch := omega) only [u138_0, u138_1, u138_4, u138_5, u138_6, u138_44, u138_45, u138_46, u138_49, u138_52, u138_53, u138_56, u138_57, u138_58, u138_59, u138_60, u138_63, u138_64, u138_65, u138_66, u138_67, u138_70, u138_71, u138_74, u138_75, u138_78, u138_79, u138_81, u138_82, u138_83, u138_86, u138_87, u138_88, u138_89, u138_92, u138_93, u138_94, u138_95, u138_96, u138_97, u138_98, u138_99, u138_100, u138_103, u138_104, u138_105, u138_106, u138_109, u138_110, u138_113, u138_114, u138_116, u138_117, u138_118, u138_121, u138_122, u138_123, u138_124, u138_127, u138_128, u138_129, u138_130, u138_131, k0, k1, k2, m_at, fk, wr_id, rng, rngp, if_pos, if_neg, if_true, if_false, reduceCtorEq, true_and, and_true, and_self, Option.toList_some, Option.toList_none, List.cons_append, List.nil_append, Int.toNat_natCast]
            simp [sFact]
          · simp (disch := omega) only [u138_0, u138_1, u138_4, u138_5, u138_6, u138_44, u138_45, u138_46, u138_49, u138_52, u138_53, u138_56, u138_57, u138_58, u138_59, u138_60, u138_63, u138_64, u138_65, u138_66, u138_67, u138_70, u138_71, u138_74, u138_75, u138_78, u138_79, u138_81, u138_82, u138_83, u138_86, u138_87, u138_88, u138_89, u138_92, u138_93, u138_94, u138_95, u138_96, u138_97, u138_98, u138_99, u138_100, u138_103, u138_104, u138_105, u138_106, u138_109, u138_110, u138_113, u138_114, u138_116, u138_117, u138_118, u138_121, u138_122, u138_123, u138_124, u138_127, u138_128, u138_129, u138_130, u138_131, k0, k1, k2, m_at, fk, wr_id, rng, rngp, if_pos, if_neg, if_true, if_false, reduceCtorEq, true_and, and_true, and_self, Option.toList_some, Option.toList_none, List.cons_append, List.nil_append, Int.toNat_natCast]
            simp [sFact, e4, e6, e7, e8, e9]
theorem m_place {sc : av_S} {d : Nat} {h : av_H} {x n r : Nat} {σ : sS} {i R : Int} (K : MK h x) (H : MR h x σ) (hn : n < 8) (hr : r < 7) (hR : R = 250 + 129 * (7 * (n : Int) + (r : Int))) (hi : 0 ≤ i) (Q : Option av_V → av_H → Prop) : WP sc (d + 1) 139 0 [(0, .inr (.inl x)), (1, .inl R), (2, .inl i)] [] h Q ↔ Q (some (.inl (if i < ((sr σ n r).length : Int) then (sr σ n r).getD i.toNat 0 else -1))) h := by
  obtain ⟨k0, ⟨k1, k2⟩, -⟩ := id K
  obtain ⟨a1, a2, a3⟩ := H.2.2 n hn r hr
  have b1 : gI h (x + 1) R.toNat = ((sr σ n r).length : Int) := by rw [← a1]; congr 1 <;> omega
  by_cases c : i < ((sr σ n r).length : Int)
  · have b2 : gI h (x + 1) (R + 1 + i).toNat = (sr σ n r).getD i.toNat 0 := by
      rw [← a3 i.toNat (by omega)]; congr 1; omega
    simp (disch := omega) only [u139_0, u139_1, u139_2, u139_5, u139_6, u139_7, u139_10, u139_11, u139_14, u139_15, u139_16, u139_17, u139_18, u139_19, u139_20, u139_23, u139_24, k0, k1, k2, b1, b2, c, wr_id, rng, rngp, if_pos, if_neg, if_true, if_false, reduceCtorEq, true_and, and_true, and_self, Option.toList_some, Option.toList_none, List.cons_append, List.nil_append, Int.toNat_natCast]
  · simp (disch := omega) only [u139_0, u139_1, u139_2, u139_5, u139_6, u139_7, u139_10, u139_11, u139_14, u139_15, u139_16, u139_17, u139_18, u139_19, u139_20, u139_23, u139_24, k0, k1, k2, b1, c, wr_id, rng, rngp, if_pos, if_neg, if_true, if_false, reduceCtorEq, true_and, and_true, and_self, Option.toList_some, Option.toList_none, List.cons_append, List.nil_append, Int.toNat_natCast]
theorem m_rowInto {sc : av_S} {d : Nat} {h : av_H} {x n r : Nat} {σ : sS} {R : Int} {w : Int64} (K : MK h x) (H : MR h x σ) (hn : n < 8) (hr : r < 7) (hR : R = 250 + 129 * (7 * (n : Int) + (r : Int))) (Q : Option av_V → av_H → Prop) : WP sc (d + 1) 157 0 [(0, .inr (.inl x)), (1, .inr (.inr w)), (3, .inl R)] [] h Q ↔ Q (some (.inr (.inr (mxs w (sr σ n r))))) h := by
  obtain ⟨k0, ⟨k1, k2⟩, -⟩ := id K
  obtain ⟨a1, a2, a3⟩ := H.2.2 n hn r hr
  have b1 : gI h (x + 1) R.toNat = ((sr σ n r).length : Int) := by rw [← a1]; congr 1 <;> omega
  have loop : ∀ (t j : Nat) (v : Int64), t = (sr σ n r).length - j → j ≤ (sr σ n r).length → (WP sc (d + 1) 157 6 [(0, .inr (.inl x)), (1, .inr (.inr w)), (3, .inl R), (4, .inr (.inr v)), (6, .inl ((j : Int) + 1))] [] h Q ↔ Q (some (.inr (.inr (mxs v ((sr σ n r).drop j))))) h) := by
    intro t
    induction t with
    | zero =>
      intro j v ht hj
      rw [u157_6]
      simp (disch := omega) only [u157_0, u157_1, u157_3, u157_4, u157_8, u157_9, u157_12, u157_13, u157_14, u157_17, u157_20, u157_22, u157_23, u157_24, u157_27, u157_28, u157_30, u157_31, u157_32, u157_33, u157_34, u157_36, u157_39, u157_42, u157_44, k0, k1, k2, b1, wr_id, rng, rngp, if_pos, if_neg, if_true, if_false, reduceCtorEq, true_and, and_true, and_self, Option.toList_some, Option.toList_none, List.cons_append, List.nil_append, Int.toNat_natCast]
      rw [List.drop_of_length_le (by omega)]
      rfl
    | succ t ih =>
      intro j v ht hj
      have b2 : gI h (x + 1) (R + ((j : Int) + 1)).toNat = (sr σ n r).getD j 0 := by
        rw [← a3 j (by omega)]; congr 1; omega
      rw [u157_6]
      simp (disch := omega) only [u157_0, u157_1, u157_3, u157_4, u157_8, u157_9, u157_12, u157_13, u157_14, u157_17, u157_20, u157_22, u157_23, u157_24, u157_27, u157_28, u157_30, u157_31, u157_32, u157_33, u157_34, u157_36, u157_39, u157_42, u157_44, k0, k1, k2, b1, b2, wr_id, rng, rngp, if_pos, if_neg, if_true, if_false, reduceCtorEq, true_and, and_true, and_self, Option.toList_some, Option.toList_none, List.cons_append, List.nil_append, Int.toNat_natCast]
      rw [show (j : Int) + 1 + 1 = ((j + 1 : Nat) : Int) + 1 by omega, ih (j + 1) _ (by omega) (by omega)]
      rw [List.drop_eq_getElem_cons (show j < (sr σ n r).length by omega)]
      rw [List.getD_eq_getElem?_getD, List.getElem?_eq_getElem (show j < (sr σ n r).length by omega)]
      rfl
  have l0 := loop _ 0 w rfl (by omega)
  rw [List.drop_zero] at l0
  rw [← l0]
  simp (disch := omega) only [u157_0, u157_1, u157_3, u157_4, u157_8, u157_9, u157_12, u157_13, u157_14, u157_17, u157_20, u157_22, u157_23, u157_24, u157_27, u157_28, u157_30, u157_31, u157_32, u157_33, u157_34, u157_36, u157_39, u157_42, u157_44, wr_id, rng, rngp, if_pos, if_neg, if_true, if_false, reduceCtorEq, true_and, and_true, and_self, Option.toList_some, Option.toList_none, List.cons_append, List.nil_append, Int.toNat_natCast]
  rfl
theorem m_countOf {sc : av_S} {d : Nat} {h : av_H} {x k : Nat} {σ : sS} (K : MK h x) (H : MR h x σ) (hN : 0 ≤ sg σ 0 ∧ sg σ 0 ≤ 8) (hk : k < 10) (Q : Option av_V → av_H → Prop) : WP sc (d + 2) 144 0 [(0, .inr (.inl x)), (1, .inl (k : Int))] [] h Q ↔ Q (some (.inl (sCount σ k))) h := by
  obtain ⟨k0, ⟨k1, k2⟩, -⟩ := id K
  have hsN : (sN σ : Int) = sg σ 0 := by unfold sN; omega
  unfold sCount
  by_cases c : k < 9
  · have gk := H.1 k c
    simp (disch := omega) only [u144_0, u144_1, u144_3, u144_6, u144_7, u144_10, u144_11, u144_12, u144_13, u144_14, u144_15, u144_16, u144_18, u144_19, u144_22, u144_23, u144_24, u144_27, u144_28, u144_29, u144_32, u144_33, u144_34, u144_37, u144_38, u144_39, u144_42, u144_43, u144_44, u144_47, u144_48, u144_49, u144_50, u144_51, u144_54, u144_57, u144_58, k0, k1, k2, gk, c, wr_id, rng, rngp, if_pos, if_neg, if_true, if_false, reduceCtorEq, true_and, and_true, and_self, Option.toList_some, Option.toList_none, List.cons_append, List.nil_append, Int.toNat_natCast]
  · have g0 := H.g (i := 0) (k := 0) (by omega) rfl
    have bd : ∀ n, n ≤ 8 → 0 ≤ sumN (fun n => ((sr σ n 0).length : Int) + ((sr σ n 1).length : Int)) n ∧ sumN (fun n => ((sr σ n 0).length : Int) + ((sr σ n 1).length : Int)) n ≤ 256 * n := by
      intro n
      induction n with
      | zero => intro _; simp [sumN]
      | succ n ih =>
        intro hn
        have := ih (by omega)
        have l0 := (H.2.2 n (by omega) 0 (by omega)).2.1
        have l1 := (H.2.2 n (by omega) 1 (by omega)).2.1
        simp only [sumN]
        omega
    have loop : ∀ (t n : Nat), t = sN σ - n → n ≤ sN σ → (WP sc (d + 2) 144 17 [(0, .inr (.inl x)), (1, .inl (k : Int)), (2, .inl (sumN (fun n => ((sr σ n 0).length : Int) + ((sr σ n 1).length : Int)) n)), (3, .inl (n : Int))] [] h Q ↔ Q (some (.inl (sLet σ))) h) := by
      intro t
      induction t with
      | zero =>
        intro n ht hn
        have e : n = sN σ := by omega
        subst e
        rw [u144_17]
        simp (disch := omega) only [u144_0, u144_1, u144_3, u144_6, u144_7, u144_10, u144_11, u144_12, u144_13, u144_14, u144_15, u144_16, u144_18, u144_19, u144_22, u144_23, u144_24, u144_27, u144_28, u144_29, u144_32, u144_33, u144_34, u144_37, u144_38, u144_39, u144_42, u144_43, u144_44, u144_47, u144_48, u144_49, u144_50, u144_51, u144_54, u144_57, u144_58, k0, k1, k2, g0, wr_id, rng, rngp, if_pos, if_neg, if_true, if_false, reduceCtorEq, true_and, and_true, and_self, Option.toList_some, Option.toList_none, List.cons_append, List.nil_append, Int.toNat_natCast]
        rfl
      | succ t ih =>
        intro n ht hn
        have b := bd n (by omega)
        obtain ⟨a1, a2, -⟩ := H.2.2 n (by omega) 0 (by omega)
        obtain ⟨b1, b2, -⟩ := H.2.2 n (by omega) 1 (by omega)
        have c1 : gI h (x + 1) (250 + 129 * (7 * (n : Int) + 0)).toNat = ((sr σ n 0).length : Int) := by rw [← a1]; congr 1 <;> omega
        have c2 : gI h (x + 1) (250 + 129 * (7 * (n : Int) + 1)).toNat = ((sr σ n 1).length : Int) := by rw [← b1]; congr 1 <;> omega
        rw [← ih (n + 1) (by omega) (by omega), u144_17]
        simp (disch := omega) only [u144_0, u144_1, u144_3, u144_6, u144_7, u144_10, u144_11, u144_12, u144_13, u144_14, u144_15, u144_16, u144_18, u144_19, u144_22, u144_23, u144_24, u144_27, u144_28, u144_29, u144_32, u144_33, u144_34, u144_37, u144_38, u144_39, u144_42, u144_43, u144_44, u144_47, u144_48, u144_49, u144_50, u144_51, u144_54, u144_57, u144_58, k0, k1, k2, g0, m_rowAt, c1, c2, wr_id, rng, rngp, if_pos, if_neg, if_true, if_false, reduceCtorEq, true_and, and_true, and_self, Option.toList_some, Option.toList_none, List.cons_append, List.nil_append, Int.toNat_natCast]
        rw [show (n : Int) + 1 = ((n + 1 : Nat) : Int) by omega]
        rfl
    have l0 := loop _ 0 rfl (by omega)
    rw [if_neg c, ← l0]
    simp (disch := omega) only [u144_0, u144_1, u144_3, u144_6, u144_7, u144_10, u144_11, u144_12, u144_13, u144_14, u144_15, u144_16, u144_18, u144_19, u144_22, u144_23, u144_24, u144_27, u144_28, u144_29, u144_32, u144_33, u144_34, u144_37, u144_38, u144_39, u144_42, u144_43, u144_44, u144_47, u144_48, u144_49, u144_50, u144_51, u144_54, u144_57, u144_58, k0, k1, k2, wr_id, rng, rngp, if_pos, if_neg, if_true, if_false, reduceCtorEq, true_and, and_true, and_self, Option.toList_some, Option.toList_none, List.cons_append, List.nil_append, Int.toNat_natCast]
    rfl
theorem m_toldOf {sc : av_S} {d : Nat} {h : av_H} {x k : Nat} {σ : sS} {ps : List sS} {rf : Nat → Int} {tx : List Int} (S : MS h x σ ps rf tx) (hk : k < 5) (Q : Option av_V → av_H → Prop) : WP sc (d + 1) 155 0 [(0, .inr (.inl x)), (1, .inl (k : Int))] [] h Q ↔ Q (some (.inl (sToldF ps rf tx k))) h := by
  obtain ⟨K, H, ⟨s1, s2, s3⟩, r1, t1, t2, t3⟩ := S
  obtain ⟨k0, -, -, ⟨k3, k4⟩, -⟩ := id K
  unfold sToldF
  by_cases c : k < 3
  · have rk := r1 k c
    simp (disch := omega) only [u155_0, u155_1, u155_2, u155_5, u155_6, u155_9, u155_10, u155_11, u155_14, u155_15, u155_16, u155_19, u155_20, u155_23, u155_26, u155_27, u155_30, k0, k3, k4, rk, c, wr_id, rng, rngp, if_pos, if_neg, if_true, if_false, reduceCtorEq, true_and, and_true, and_self, Option.toList_some, Option.toList_none, List.cons_append, List.nil_append, Int.toNat_natCast]
  · by_cases e : k = 3
    · subst e
      simp (disch := omega) only [u155_0, u155_1, u155_2, u155_5, u155_6, u155_9, u155_10, u155_11, u155_14, u155_15, u155_16, u155_19, u155_20, u155_23, u155_26, u155_27, u155_30, k0, t1, wr_id, rng, rngp, if_pos, if_neg, if_true, if_false, reduceCtorEq, true_and, and_true, and_self, Option.toList_some, Option.toList_none, List.cons_append, List.nil_append, Int.toNat_natCast]
    · simp (disch := omega) only [u155_0, u155_1, u155_2, u155_5, u155_6, u155_9, u155_10, u155_11, u155_14, u155_15, u155_16, u155_19, u155_20, u155_23, u155_26, u155_27, u155_30, k0, s1, wr_id, rng, rngp, if_pos, if_neg, if_true, if_false, reduceCtorEq, true_and, and_true, and_self, Option.toList_some, Option.toList_none, List.cons_append, List.nil_append, Int.toNat_natCast]
