/-! the reference's nodes act -/
theorem room_of {σ : sS} {n t i : Nat} (h : sRoom σ n = true) (hf : fed σ n t i = true) : (sr σ t i).length < 6 := by
  have q := fed_lt hf
  have hi := nin_le (sf σ t 0)
  have h1 := List.all_eq_true.mp (List.all_eq_true.mp h t (List.mem_range.mpr q.2.1)) i (List.mem_range.mpr (by omega))
  rw [hf] at h1
  simpa using h1
theorem MR.r0 {h : av_H} {x : Nat} {σ : sS} (H : MR h x σ) {i : Int} {n r : Nat} (hn : n < 8) (hr : r < 7) (hi : i = 250 + 129 * (7 * (n : Int) + (r : Int))) : gI h (x + 1) i.toNat = ((sr σ n r).length : Int) := by
  rw [← (H.2.2 n hn r hr).1]
  congr 1
  omega
/-- numbers of node n are such as a node may have -/
def okN (σ : sS) (n : Nat) : Prop := (0 ≤ sf σ n 0 ∧ sf σ n 0 ≤ 5) ∧ (0 ≤ sf σ n 3 ∧ sf σ n 3 ≤ 99) ∧ (0 ≤ sf σ n 4 ∧ sf σ n 4 ≤ 30) ∧ (sf σ n 6 = 0 ∨ sf σ n 6 = 1) ∧ (0 ≤ sf σ n 7 ∧ sf σ n 7 ≤ 2) ∧ (0 ≤ sf σ n 8 ∧ sf σ n 8 ≤ 2) ∧ (sf σ n 0 = 0 → 1 ≤ sf σ n 1 ∧ sf σ n 1 ≤ 9) ∧ (sf σ n 0 = 2 → 1 ≤ sf σ n 3) ∧ (∀ k, k < 4 → 0 ≤ sf σ n (10 + k) ∧ sf σ n (10 + k) ≤ 1000000000) ∧ (∀ i, i < 2 → ∀ v ∈ sr σ n i, 0 ≤ v ∧ v ≤ 100)
theorem m_source {sc : av_S} {d : Nat} {h : av_H} {x n : Nat} {σ : sS} (K : MK h x) (H : MR h x σ) (hN : 0 ≤ sg σ 0 ∧ sg σ 0 ≤ 8) (hn : n < 8) (hT : 0 ≤ sg σ 1 ∧ sg σ 1 ≤ 1000000000) (ok : okN σ n) (hk : sf σ n 0 = 0) : ∃ h', (∀ Q, WP sc (d + 5) 110 0 [(0, .inr (.inl x)), (1, .inl (n : Int))] [] h Q ↔ Q none h') ∧ MR h' x (sSource σ n) ∧ MF h h' x := by
  obtain ⟨k0, ⟨k1, k2⟩, -⟩ := id K
  obtain ⟨o1, o2, o3, o4, o5, o6, o7, o8, o9, o10⟩ := ok
  have o7 := o7 hk
  have g1 := H.g (i := 1) (k := 1) (by omega) rfl
  have g2 := H.g (i := 2) (k := 2) (by omega) rfl
  have f1 := H.f (i := 10 + 30 * (n : Int) + 1) (n := n) (k := 1) hn (by omega) (by omega) (by omega)
  have f3 := H.f (i := 10 + 30 * (n : Int) + 3) (n := n) (k := 3) hn (by omega) (by omega) (by omega)
  have f4 := H.f (i := 10 + 30 * (n : Int) + 4) (n := n) (k := 4) hn (by omega) (by omega) (by omega)
  have f5 := H.f (i := 10 + 30 * (n : Int) + 5) (n := n) (k := 5) hn (by omega) (by omega) (by omega)
  have em1 := Int.emod_nonneg (sg σ 1) (show sf σ n 1 ≠ 0 by omega)
  have big : WP sc (d + 5) 110 0 [(0, .inr (.inl x)), (1, .inl (n : Int))] [] h (fun r h' => r = none ∧ MR h' x (sSource σ n) ∧ MF h h' x) := by
    by_cases c1 : sg σ 1 % sf σ n 1 = 0
    · by_cases c2 : sRoom σ n = true
      · by_cases c3 : sf σ n 5 = 1
        · obtain ⟨h1, hw, hm, hf⟩ := @m_sends sc d h x n σ 100 K H hN hn (fun t i q => by have := room_of c2 q; omega)
          have q1 := hf.kd x
          have q2 := hf.gR x 0
          have q3 := hf.kd (x + 1)
          have f4' : gI h1 (x + 1) (10 + 30 * (n : Int) + 4).toNat = sf σ n 4 := hm.f (i := 10 + 30 * (n : Int) + 4) (n := n) (k := 4) hn (by omega) (by omega) (by omega)
          simp (disch := omega) only [u110_0, u110_1, u110_4, u110_5, u110_6, u110_9, u110_10, u110_11, u110_12, u110_15, u110_16, u110_17, u110_18, u110_19, u110_20, u110_23, u110_24, u110_25, u110_28, u110_31, u110_32, u110_33, u110_36, u110_37, u110_38, u110_39, u110_40, u110_41, u110_44, u110_45, u110_46, u110_48, u110_51, u110_52, u110_55, u110_56, u110_57, u110_58, u110_59, u110_60, u110_61, u110_64, u110_65, u110_67, u110_68, u110_69, u110_72, u110_73, u110_74, u110_75, u110_76, u110_77, u110_78, u110_81, u110_82, u110_84, u110_85, u110_86, u110_87, u110_88, u110_91, u110_92, u110_94, u110_95, u110_96, u110_97, u110_100, u110_101, u110_104, u110_105, u110_106, u110_107, u110_108, u110_109, u110_112, u110_113, u110_114, u110_117, u110_118, u110_121, u110_122, u110_123, u110_124, u110_125, u110_126, u110_127, u110_128, u110_129, u110_132, u110_133, u110_134, u110_135, u110_136, u110_138, u110_139, u110_140, u110_141, u110_142, u110_143, u110_144, u110_145, u110_146, u110_147, u110_149, u110_150, u110_153, u110_154, u110_157, u110_158, u110_159, u110_160, u110_161, u110_162, u110_163, u110_164, u110_165, k0, k1, k2, q1, q2, q3, g1, g2, f1, f3, f4, f5, f4', c1, c3, m_at, m_hasRoom K H hN hn, c2, bI_t, hw, kd_sI, gR_sI, gI_sI_ne, wr_id, rng, rngp, if_pos, if_neg, if_true, if_false, reduceCtorEq, true_and, and_true, and_self, Option.toList_some, Option.toList_none, List.cons_append, List.nil_append, Int.toNat_natCast]
          unfold sSource
          rw [if_pos ⟨c1, c2⟩, if_pos c3]
          exact ⟨(((hm.setf (k := 5) hn (by omega) (by omega)).setf (k := 19) hn (by omega) (by omega)).setf (k := 24) hn (by omega) (by omega)).setf (k := 9) hn (by omega) (by omega), (((hf.tr MF.sI).tr MF.sI).tr MF.sI).tr MF.sI⟩
        · by_cases c4 : sf σ n 4 < sg σ 2
          · obtain ⟨h1, hw, hm, hf⟩ := @m_sends sc d h x n σ ((sf σ n 3 * 7 + sf σ n 4 * sf σ n 4 + sf σ n 4 * 3) % 100) K H hN hn (fun t i q => by have := room_of c2 q; omega)
            have q1 := hf.kd x
            have q2 := hf.gR x 0
            have q3 := hf.kd (x + 1)
            have f4' : gI h1 (x + 1) (10 + 30 * (n : Int) + 4).toNat = sf σ n 4 := hm.f (i := 10 + 30 * (n : Int) + 4) (n := n) (k := 4) hn (by omega) (by omega) (by omega)
            have hsq : 0 ≤ sf σ n 4 * sf σ n 4 ∧ sf σ n 4 * sf σ n 4 ≤ 900 := by
              constructor
              · exact Int.mul_nonneg o3.1 o3.1
              · have := Int.mul_le_mul o3.2 o3.2 o3.1 (by omega : (0 : Int) ≤ 30)
                omega
            simp (disch := omega) only [u110_0, u110_1, u110_4, u110_5, u110_6, u110_9, u110_10, u110_11, u110_12, u110_15, u110_16, u110_17, u110_18, u110_19, u110_20, u110_23, u110_24, u110_25, u110_28, u110_31, u110_32, u110_33, u110_36, u110_37, u110_38, u110_39, u110_40, u110_41, u110_44, u110_45, u110_46, u110_48, u110_51, u110_52, u110_55, u110_56, u110_57, u110_58, u110_59, u110_60, u110_61, u110_64, u110_65, u110_67, u110_68, u110_69, u110_72, u110_73, u110_74, u110_75, u110_76, u110_77, u110_78, u110_81, u110_82, u110_84, u110_85, u110_86, u110_87, u110_88, u110_91, u110_92, u110_94, u110_95, u110_96, u110_97, u110_100, u110_101, u110_104, u110_105, u110_106, u110_107, u110_108, u110_109, u110_112, u110_113, u110_114, u110_117, u110_118, u110_121, u110_122, u110_123, u110_124, u110_125, u110_126, u110_127, u110_128, u110_129, u110_132, u110_133, u110_134, u110_135, u110_136, u110_138, u110_139, u110_140, u110_141, u110_142, u110_143, u110_144, u110_145, u110_146, u110_147, u110_149, u110_150, u110_153, u110_154, u110_157, u110_158, u110_159, u110_160, u110_161, u110_162, u110_163, u110_164, u110_165, k0, k1, k2, q1, q2, q3, g1, g2, f1, f3, f4, f5, f4', c1, c3, c4, m_at, m_hasRoom K H hN hn, c2, bI_t, hw, kd_sI, gR_sI, gI_sI_ne, wr_id, rng, rngp, if_pos, if_neg, if_true, if_false, reduceCtorEq, true_and, and_true, and_self, Option.toList_some, Option.toList_none, List.cons_append, List.nil_append, Int.toNat_natCast]
            unfold sSource
            rw [if_pos ⟨c1, c2⟩, if_neg c3, if_pos c4]
            exact ⟨hm.setf (k := 4) hn (by omega) (by omega), hf.tr MF.sI⟩
          · simp (disch := omega) only [u110_0, u110_1, u110_4, u110_5, u110_6, u110_9, u110_10, u110_11, u110_12, u110_15, u110_16, u110_17, u110_18, u110_19, u110_20, u110_23, u110_24, u110_25, u110_28, u110_31, u110_32, u110_33, u110_36, u110_37, u110_38, u110_39, u110_40, u110_41, u110_44, u110_45, u110_46, u110_48, u110_51, u110_52, u110_55, u110_56, u110_57, u110_58, u110_59, u110_60, u110_61, u110_64, u110_65, u110_67, u110_68, u110_69, u110_72, u110_73, u110_74, u110_75, u110_76, u110_77, u110_78, u110_81, u110_82, u110_84, u110_85, u110_86, u110_87, u110_88, u110_91, u110_92, u110_94, u110_95, u110_96, u110_97, u110_100, u110_101, u110_104, u110_105, u110_106, u110_107, u110_108, u110_109, u110_112, u110_113, u110_114, u110_117, u110_118, u110_121, u110_122, u110_123, u110_124, u110_125, u110_126, u110_127, u110_128, u110_129, u110_132, u110_133, u110_134, u110_135, u110_136, u110_138, u110_139, u110_140, u110_141, u110_142, u110_143, u110_144, u110_145, u110_146, u110_147, u110_149, u110_150, u110_153, u110_154, u110_157, u110_158, u110_159, u110_160, u110_161, u110_162, u110_163, u110_164, u110_165, k0, k1, k2, g1, g2, f1, f3, f4, f5, c1, c3, c4, m_at, m_hasRoom K H hN hn, c2, bI_t, wr_id, rng, rngp, if_pos, if_neg, if_true, if_false, reduceCtorEq, true_and, and_true, and_self, Option.toList_some, Option.toList_none, List.cons_append, List.nil_append, Int.toNat_natCast]
            unfold sSource
            rw [if_pos ⟨c1, c2⟩, if_neg c3, if_neg c4]
            exact ⟨H, MF.rf⟩
      · have c2' : sRoom σ n = false := by simpa using c2
        simp (disch := omega) only [u110_0, u110_1, u110_4, u110_5, u110_6, u110_9, u110_10, u110_11, u110_12, u110_15, u110_16, u110_17, u110_18, u110_19, u110_20, u110_23, u110_24, u110_25, u110_28, u110_31, u110_32, u110_33, u110_36, u110_37, u110_38, u110_39, u110_40, u110_41, u110_44, u110_45, u110_46, u110_48, u110_51, u110_52, u110_55, u110_56, u110_57, u110_58, u110_59, u110_60, u110_61, u110_64, u110_65, u110_67, u110_68, u110_69, u110_72, u110_73, u110_74, u110_75, u110_76, u110_77, u110_78, u110_81, u110_82, u110_84, u110_85, u110_86, u110_87, u110_88, u110_91, u110_92, u110_94, u110_95, u110_96, u110_97, u110_100, u110_101, u110_104, u110_105, u110_106, u110_107, u110_108, u110_109, u110_112, u110_113, u110_114, u110_117, u110_118, u110_121, u110_122, u110_123, u110_124, u110_125, u110_126, u110_127, u110_128, u110_129, u110_132, u110_133, u110_134, u110_135, u110_136, u110_138, u110_139, u110_140, u110_141, u110_142, u110_143, u110_144, u110_145, u110_146, u110_147, u110_149, u110_150, u110_153, u110_154, u110_157, u110_158, u110_159, u110_160, u110_161, u110_162, u110_163, u110_164, u110_165, k0, k1, k2, g1, g2, f1, c1, m_at, m_hasRoom K H hN hn, c2', bI_f, wr_id, rng, rngp, if_pos, if_neg, if_true, if_false, reduceCtorEq, true_and, and_true, and_self, Option.toList_some, Option.toList_none, List.cons_append, List.nil_append, Int.toNat_natCast]
        unfold sSource
        rw [if_neg (fun q => c2 q.2)]
        exact ⟨H, MF.rf⟩
    · simp (disch := omega) only [u110_0, u110_1, u110_4, u110_5, u110_6, u110_9, u110_10, u110_11, u110_12, u110_15, u110_16, u110_17, u110_18, u110_19, u110_20, u110_23, u110_24, u110_25, u110_28, u110_31, u110_32, u110_33, u110_36, u110_37, u110_38, u110_39, u110_40, u110_41, u110_44, u110_45, u110_46, u110_48, u110_51, u110_52, u110_55, u110_56, u110_57, u110_58, u110_59, u110_60, u110_61, u110_64, u110_65, u110_67, u110_68, u110_69, u110_72, u110_73, u110_74, u110_75, u110_76, u110_77, u110_78, u110_81, u110_82, u110_84, u110_85, u110_86, u110_87, u110_88, u110_91, u110_92, u110_94, u110_95, u110_96, u110_97, u110_100, u110_101, u110_104, u110_105, u110_106, u110_107, u110_108, u110_109, u110_112, u110_113, u110_114, u110_117, u110_118, u110_121, u110_122, u110_123, u110_124, u110_125, u110_126, u110_127, u110_128, u110_129, u110_132, u110_133, u110_134, u110_135, u110_136, u110_138, u110_139, u110_140, u110_141, u110_142, u110_143, u110_144, u110_145, u110_146, u110_147, u110_149, u110_150, u110_153, u110_154, u110_157, u110_158, u110_159, u110_160, u110_161, u110_162, u110_163, u110_164, u110_165, k0, k1, k2, g1, g2, f1, m_at, wr_id, rng, rngp, if_pos, if_neg, if_true, if_false, reduceCtorEq, true_and, and_true, and_self, Option.toList_some, Option.toList_none, List.cons_append, List.nil_append, Int.toNat_natCast]
      unfold sSource
      rw [if_neg (fun q => c1 q.1)]
      exact ⟨H, MF.rf⟩
  obtain ⟨r, h', hw, rfl, hm, hf⟩ := big.evE
  exact ⟨h', hw, hm, hf⟩
theorem m_inOf {sc : av_S} {d : Nat} {h : av_H} {x n : Nat} {σ : sS} (K : MK h x) (H : MR h x σ) (hn : n < 8) (ok : okN σ n) (Q : Option av_V → av_H → Prop) : WP sc (d + 3) 111 0 [(0, .inr (.inl x)), (1, .inl (n : Int))] [] h Q ↔ Q (some (.inl (sIn σ n))) h := by
  obtain ⟨k0, ⟨k1, k2⟩, -⟩ := id K
  obtain ⟨o1, o2, o3, o4, o5, o6, o7, o8, o9, o10⟩ := ok
  have r0 := H.r0 (i := 250 + 129 * (7 * (n : Int) + 0)) (n := n) (r := 0) hn (by omega) (by omega)
  have r1 := H.r0 (i := 250 + 129 * (7 * (n : Int) + 1)) (n := n) (r := 1) hn (by omega) (by omega)
  have f6 := H.f (i := 10 + 30 * (n : Int) + 6) (n := n) (k := 6) hn (by omega) (by omega) (by omega)
  have f7 := H.f (i := 10 + 30 * (n : Int) + 7) (n := n) (k := 7) hn (by omega) (by omega) (by omega)
  unfold sIn
  by_cases c4 : sf σ n 0 = 4
  · rw [if_pos c4]
    have go : ∀ (t : Nat) (ht : t < 2) (e : Int), ((e = 0 ∧ sf σ n 6 = t) ∨ (e = 1 ∧ 1 - sf σ n 6 = t)) → ∀ Q, WP sc (d + 3) 111 46 [(0, .inr (.inl x)), (1, .inl (n : Int)), (2, .inl (10 + 30 * (n : Int))), (3, .inl (sf σ n 6)), (4, .inl e)] [] h Q ↔ (if sCan σ n (t : Int) = true then Q (some (.inl (t : Int))) h else WP sc (d + 3) 111 46 [(0, .inr (.inl x)), (1, .inl (n : Int)), (2, .inl (10 + 30 * (n : Int))), (3, .inl (sf σ n 6)), (4, .inl (e + 1))] [] h Q) := by
      intro t ht e he Q
      have rt := H.r0 (i := 250 + 129 * (7 * (n : Int) + (t : Int))) (n := n) (r := t) hn (by omega) (by omega)
      rw [u111_46]
      rcases he with ⟨he, het⟩ | ⟨he, het⟩
      · subst he
        simp (disch := omega) only [u111_0, u111_1, u111_2, u111_5, u111_6, u111_9, u111_10, u111_13, u111_14, u111_15, u111_18, u111_19, u111_22, u111_23, u111_26, u111_27, u111_28, u111_29, u111_32, u111_33, u111_34, u111_37, u111_38, u111_40, u111_41, u111_42, u111_43, u111_44, u111_48, u111_49, u111_52, u111_54, u111_57, u111_58, u111_61, u111_62, u111_63, u111_64, u111_66, u111_67, u111_70, u111_71, u111_73, u111_76, u111_77, u111_80, u111_81, u111_84, u111_85, u111_87, u111_88, u111_89, u111_91, u111_92, u111_93, u111_96, u111_98, u111_99, u111_102, u111_105, u111_106, k0, k1, k2, het, m_rowAt, rt, f7, wr_id, rng, rngp, if_pos, if_neg, if_true, if_false, reduceCtorEq, true_and, and_true, and_self, Option.toList_some, Option.toList_none, List.cons_append, List.nil_append, Int.toNat_natCast]
        by_cases a1 : (sr σ n t).length = 0
        · simp [sCan, a1]
        · by_cases a2 : sf σ n 7 = (t : Int) + 1
          · simp [sCan, a1, a2, show (0 : Int) < ((sr σ n t).length : Int) by omega]
          · simp [sCan, a1, a2, show (0 : Int) < ((sr σ n t).length : Int) by omega]
      · subst he
        simp (disch := omega) only [u111_0, u111_1, u111_2, u111_5, u111_6, u111_9, u111_10, u111_13, u111_14, u111_15, u111_18, u111_19, u111_22, u111_23, u111_26, u111_27, u111_28, u111_29, u111_32, u111_33, u111_34, u111_37, u111_38, u111_40, u111_41, u111_42, u111_43, u111_44, u111_48, u111_49, u111_52, u111_54, u111_57, u111_58, u111_61, u111_62, u111_63, u111_64, u111_66, u111_67, u111_70, u111_71, u111_73, u111_76, u111_77, u111_80, u111_81, u111_84, u111_85, u111_87, u111_88, u111_89, u111_91, u111_92, u111_93, u111_96, u111_98, u111_99, u111_102, u111_105, u111_106, k0, k1, k2, het, m_rowAt, rt, f7, wr_id, rng, rngp, if_pos, if_neg, if_true, if_false, reduceCtorEq, true_and, and_true, and_self, Option.toList_some, Option.toList_none, List.cons_append, List.nil_append, Int.toNat_natCast]
        by_cases a1 : (sr σ n t).length = 0
        · simp [sCan, a1]
        · by_cases a2 : sf σ n 7 = (t : Int) + 1
          · simp [sCan, a1, a2, show (0 : Int) < ((sr σ n t).length : Int) by omega]
          · simp [sCan, a1, a2, show (0 : Int) < ((sr σ n t).length : Int) by omega]
    simp (disch := omega) only [u111_0, u111_1, u111_2, u111_5, u111_6, u111_9, u111_10, u111_13, u111_14, u111_15, u111_18, u111_19, u111_22, u111_23, u111_26, u111_27, u111_28, u111_29, u111_32, u111_33, u111_34, u111_37, u111_38, u111_40, u111_41, u111_42, u111_43, u111_44, u111_48, u111_49, u111_52, u111_54, u111_57, u111_58, u111_61, u111_62, u111_63, u111_64, u111_66, u111_67, u111_70, u111_71, u111_73, u111_76, u111_77, u111_80, u111_81, u111_84, u111_85, u111_87, u111_88, u111_89, u111_91, u111_92, u111_93, u111_96, u111_98, u111_99, u111_102, u111_105, u111_106, k0, k1, k2, m_kind K H hn, c4, m_at, f6, wr_id, rng, rngp, if_pos, if_neg, if_true, if_false, reduceCtorEq, true_and, and_true, and_self, Option.toList_some, Option.toList_none, List.cons_append, List.nil_append, Int.toNat_natCast]
    have two : WP sc (d + 3) 111 46 [(0, .inr (.inl x)), (1, .inl (n : Int)), (2, .inl (10 + 30 * (n : Int))), (3, .inl (sf σ n 6)), (4, .inl 2)] [] h Q ↔ Q (some (.inl (-1))) h := by
      rw [u111_46]
      simp (disch := omega) only [u111_0, u111_1, u111_2, u111_5, u111_6, u111_9, u111_10, u111_13, u111_14, u111_15, u111_18, u111_19, u111_22, u111_23, u111_26, u111_27, u111_28, u111_29, u111_32, u111_33, u111_34, u111_37, u111_38, u111_40, u111_41, u111_42, u111_43, u111_44, u111_48, u111_49, u111_52, u111_54, u111_57, u111_58, u111_61, u111_62, u111_63, u111_64, u111_66, u111_67, u111_70, u111_71, u111_73, u111_76, u111_77, u111_80, u111_81, u111_84, u111_85, u111_87, u111_88, u111_89, u111_91, u111_92, u111_93, u111_96, u111_98, u111_99, u111_102, u111_105, u111_106, wr_id, rng, rngp, if_pos, if_neg, if_true, if_false, reduceCtorEq, true_and, and_true, and_self, Option.toList_some, Option.toList_none, List.cons_append, List.nil_append, Int.toNat_natCast]
    rcases o4 with o4 | o4
    · rw [go 0 (by omega) 0 (by omega), show (0 : Int) + 1 = 1 from rfl, go 1 (by omega) 1 (by omega), show (1 : Int) + 1 = 2 from rfl, two, o4]
      simp only [Int.sub_zero, show ((0 : Nat) : Int) = 0 from rfl, show ((1 : Nat) : Int) = 1 from rfl]
      by_cases a0 : sCan σ n 0 = true
      · simp [a0]
      · by_cases a1 : sCan σ n 1 = true
        · simp [a0, a1]
        · simp [a0, a1]
    · rw [go 1 (by omega) 0 (by omega), show (0 : Int) + 1 = 1 from rfl, go 0 (by omega) 1 (by omega), show (1 : Int) + 1 = 2 from rfl, two, o4]
      simp only [show ((0 : Nat) : Int) = 0 from rfl, show ((1 : Nat) : Int) = 1 from rfl]
      by_cases a0 : sCan σ n 0 = true
      · by_cases a1 : sCan σ n 1 = true
        · simp [a0, a1]
        · simp [a0, a1]
      · by_cases a1 : sCan σ n 1 = true
        · simp [a0, a1]
        · simp [a0, a1]
  · rw [if_neg c4]
    simp (disch := omega) only [u111_0, u111_1, u111_2, u111_5, u111_6, u111_9, u111_10, u111_13, u111_14, u111_15, u111_18, u111_19, u111_22, u111_23, u111_26, u111_27, u111_28, u111_29, u111_32, u111_33, u111_34, u111_37, u111_38, u111_40, u111_41, u111_42, u111_43, u111_44, u111_48, u111_49, u111_52, u111_54, u111_57, u111_58, u111_61, u111_62, u111_63, u111_64, u111_66, u111_67, u111_70, u111_71, u111_73, u111_76, u111_77, u111_80, u111_81, u111_84, u111_85, u111_87, u111_88, u111_89, u111_91, u111_92, u111_93, u111_96, u111_98, u111_99, u111_102, u111_105, u111_106, k0, k1, k2, m_kind K H hn, m_rowAt, r0, wr_id, rng, rngp, if_pos, if_neg, if_true, if_false, reduceCtorEq, true_and, and_true, and_self, Option.toList_some, Option.toList_none, List.cons_append, List.nil_append, Int.toNat_natCast]
    by_cases a0 : (sr σ n 0).length = 0
    · simp [a0]
    · simp [a0, show (0 : Int) < ((sr σ n 0).length : Int) by omega]
