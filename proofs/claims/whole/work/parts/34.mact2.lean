theorem m_pours {sc : av_S} {d : Nat} {h : av_H} {x n a b : Nat} {σ : sS} {one other : Int} (K : MK h x) (H : MR h x σ) (hn : n < 8) (ha : a < 7) (hb : b < 7) (hab : a ≠ b) (h1 : one = 250 + 129 * (7 * (n : Int) + (a : Int))) (h2 : other = 250 + 129 * (7 * (n : Int) + (b : Int))) (hlen : (sr σ n b).length + (sr σ n a).length ≤ 128) : ∃ h', (∀ Q, WP sc (d + 2) 107 0 [(0, .inr (.inl x)), (1, .inl one), (2, .inl other)] [] h Q ↔ Q none h') ∧ MR h' x (ur (ur σ n b (sr σ n b ++ sr σ n a)) n a []) ∧ MF h h' x := by
  have loop : ∀ (t k : Nat) (hk : av_H), t = (sr σ n a).length - k → k ≤ (sr σ n a).length → MF h hk x → MR hk x (ur σ n b (sr σ n b ++ (sr σ n a).take k)) → WP sc (d + 2) 107 2 [(0, .inr (.inl x)), (1, .inl one), (2, .inl other), (3, .inl ((k + 1 : Nat) : Int))] [] hk (fun r h' => r = none ∧ MR h' x (ur (ur σ n b (sr σ n b ++ sr σ n a)) n a []) ∧ MF h h' x) := by
    intro t
    induction t with
    | zero =>
      intro k hk ht hk2 hf hm
      have hK := K.mf hf
      obtain ⟨k0, ⟨k1, k2⟩, -⟩ := id hK
      have r1 : gI hk (x + 1) one.toNat = ((sr σ n a).length : Int) := by
        have := hm.r0 (i := one) hn ha h1
        rw [sr_ur, if_neg (fun q => hab q.2)] at this
        exact this
      rw [u107_2]
      simp (disch := omega) only [u107_0, u107_1, u107_3, u107_4, u107_7, u107_8, u107_9, u107_12, u107_13, u107_14, u107_15, u107_18, u107_19, u107_20, u107_21, u107_22, u107_25, u107_28, u107_31, u107_32, u107_35, u107_36, u107_37, u107_38, k0, k1, k2, r1, wr_id, rng, rngp, if_pos, if_neg, if_true, if_false, reduceCtorEq, true_and, and_true, and_self, Option.toList_some, Option.toList_none, List.cons_append, List.nil_append, Int.toNat_natCast]
      have hkl : k = (sr σ n a).length := by omega
      rw [hkl, List.take_length] at hm
      refine ⟨hm.row hn ha (fun j hj => ?_) ?_ (by simp) (fun i hi => by simp at hi), hf.tr MF.sI⟩
      · rw [gI_sI_ne (by omega)]
      · rw [gI_sI_eq (by omega)]; rfl
    | succ t ih =>
      intro k hk ht hk2 hf hm
      have hK := K.mf hf
      obtain ⟨k0, ⟨k1, k2⟩, -⟩ := id hK
      have r1 : gI hk (x + 1) one.toNat = ((sr σ n a).length : Int) := by
        have := hm.r0 (i := one) hn ha h1
        rw [sr_ur, if_neg (fun q => hab q.2)] at this
        exact this
      have r2 : gI hk (x + 1) (one + ((k + 1 : Nat) : Int)).toNat = (sr σ n a).getD k 0 := by
        have := (hm.2.2 n hn a ha).2.2 k
        rw [sr_ur, if_neg (fun q => hab q.2)] at this
        rw [← this (by omega)]
        congr 1
        omega
      obtain ⟨h2', hw, hm', hf'⟩ := @m_puts sc d hk x n b _ other ((sr σ n a).getD k 0) hK hm hn hb h2 (by rw [sr_ur, if_pos ⟨rfl, rfl⟩, List.length_append, List.length_take]; omega)
      rw [u107_2]
      simp (disch := omega) only [u107_0, u107_1, u107_3, u107_4, u107_7, u107_8, u107_9, u107_12, u107_13, u107_14, u107_15, u107_18, u107_19, u107_20, u107_21, u107_22, u107_25, u107_28, u107_31, u107_32, u107_35, u107_36, u107_37, u107_38, k0, k1, k2, r1, r2, hw, wr_id, rng, rngp, if_pos, if_neg, if_true, if_false, reduceCtorEq, true_and, and_true, and_self, Option.toList_some, Option.toList_none, List.cons_append, List.nil_append, Int.toNat_natCast]
      rw [show ((k + 1 : Nat) : Int) + 1 = ((k + 1 + 1 : Nat) : Int) by omega]
      refine ih (k + 1) h2' (by omega) (by omega) (hf.tr hf') (hm'.cg (fun _ _ => rfl) (fun _ _ _ _ _ => rfl) (fun n2 hn2 r hr => ?_))
      simp only [sr_ur, and_self, if_true]
      by_cases e : n2 = n ∧ r = b
      · rw [if_pos e, if_pos e, List.append_assoc]
        congr 1
        rw [List.take_add_one, List.getD_eq_getElem?_getD, List.getElem?_eq_getElem (by omega)]
        rfl
      · rw [if_neg e, if_neg e, if_neg e]
  have big : WP sc (d + 2) 107 0 [(0, .inr (.inl x)), (1, .inl one), (2, .inl other)] [] h (fun r h' => r = none ∧ MR h' x (ur (ur σ n b (sr σ n b ++ sr σ n a)) n a []) ∧ MF h h' x) := by
    simp only [u107_0, u107_1, u107_3, u107_4, u107_7, u107_8, u107_9, u107_12, u107_13, u107_14, u107_15, u107_18, u107_19, u107_20, u107_21, u107_22, u107_25, u107_28, u107_31, u107_32, u107_35, u107_36, u107_37, u107_38]
    refine loop _ 0 h rfl (by omega) MF.rf (H.cg (fun _ _ => rfl) (fun _ _ _ _ _ => rfl) (fun n2 hn2 r hr => ?_))
    rw [sr_ur]
    by_cases e : n2 = n ∧ r = b
    · rw [if_pos e, e.1, e.2]; simp
    · rw [if_neg e]
  obtain ⟨r, h', hw, rfl, hm, hf⟩ := big.evE
  exact ⟨h', hw, hm, hf⟩
theorem m_item {sc : av_S} {d : Nat} {h : av_H} {x n i : Nat} {σ : sS} {v : Int} (K : MK h x) (H : MR h x σ) (hN : 0 ≤ sg σ 0 ∧ sg σ 0 ≤ 8) (hn : n < 8) (hi : i < 2) (ok : okN σ n) (hk : sf σ n 0 ≠ 0) (hroom : ∀ t i, fed σ n t i = true → (sr σ t i).length < 128) (hv : 0 ≤ v ∧ v ≤ 99) (c2 : (sr σ n 2).length < 128) (c4 : (sr σ n 4).length < 128) : ∃ h', (∀ Q, WP sc (d + 5) 112 0 [(0, .inr (.inl x)), (1, .inl (n : Int)), (2, .inl (i : Int)), (3, .inl v)] [] h Q ↔ Q none h') ∧ MR h' x (sItem σ n i v) ∧ MF h h' x := by
  obtain ⟨k0, ⟨k1, k2⟩, -⟩ := id K
  obtain ⟨o1, o2, o3, o4, o5, o6, o7, o8, o9, o10⟩ := ok
  have f3 := H.f (i := 10 + 30 * (n : Int) + 3) (n := n) (k := 3) hn (by omega) (by omega) (by omega)
  have f8 := H.f (i := 10 + 30 * (n : Int) + 8) (n := n) (k := 8) hn (by omega) (by omega) (by omega)
  have mk := @m_kind sc (d + 2) h x n σ K H hn
  have big : WP sc (d + 5) 112 0 [(0, .inr (.inl x)), (1, .inl (n : Int)), (2, .inl (i : Int)), (3, .inl v)] [] h (fun r h' => r = none ∧ MR h' x (sItem σ n i v) ∧ MF h h' x) := by
    unfold sItem
    by_cases q1 : sf σ n 0 = 1
    · obtain ⟨h1, hw, hm, hf⟩ := @m_sends sc d h x n σ ((v + sf σ n 3) % 100) K H hN hn hroom
      simp (disch := omega) only [u112_0, u112_1, u112_4, u112_6, u112_7, u112_8, u112_11, u112_40, u112_41, u112_42, u112_43, u112_44, u112_47, u112_49, u112_50, u112_51, u112_52, u112_53, u112_55, u112_56, u112_59, u112_62, u112_63, u112_64, u112_67, u112_69, u112_70, u112_71, u112_72, u112_73, u112_76, u112_77, u112_78, u112_79, u112_82, u112_85, u112_86, u112_89, u112_91, u112_93, u112_94, u112_95, u112_96, u112_97, u112_98, u112_99, u112_100, u112_101, u112_102, u112_103, u112_104, u112_105, u112_106, u112_109, u112_111, u112_113, u112_114, u112_115, u112_116, u112_117, u112_118, u112_119, u112_121, u112_122, u112_125, u112_128, u112_129, u112_132, u112_134, u112_136, u112_137, u112_138, u112_139, u112_140, u112_141, u112_144, u112_145, u112_146, u112_147, u112_150, u112_151, u112_154, u112_155, u112_156, u112_157, u112_160, u112_163, u112_164, u112_165, u112_166, u112_169, u112_170, u112_173, k0, k1, k2, mk, q1, m_at, f3, hw, wr_id, rng, rngp, if_pos, if_neg, if_true, if_false, reduceCtorEq, true_and, and_true, and_self, Option.toList_some, Option.toList_none, List.cons_append, List.nil_append, Int.toNat_natCast]
      exact ⟨hm, hf⟩
    · by_cases q2 : sf σ n 0 = 2
      · have q2' := o8 q2
        have em := Int.emod_nonneg v (show sf σ n 3 ≠ 0 by omega)
        by_cases q3 : v % sf σ n 3 = 0
        · simp (disch := omega) only [u112_0, u112_1, u112_4, u112_6, u112_7, u112_8, u112_11, u112_40, u112_41, u112_42, u112_43, u112_44, u112_47, u112_49, u112_50, u112_51, u112_52, u112_53, u112_55, u112_56, u112_59, u112_62, u112_63, u112_64, u112_67, u112_69, u112_70, u112_71, u112_72, u112_73, u112_76, u112_77, u112_78, u112_79, u112_82, u112_85, u112_86, u112_89, u112_91, u112_93, u112_94, u112_95, u112_96, u112_97, u112_98, u112_99, u112_100, u112_101, u112_102, u112_103, u112_104, u112_105, u112_106, u112_109, u112_111, u112_113, u112_114, u112_115, u112_116, u112_117, u112_118, u112_119, u112_121, u112_122, u112_125, u112_128, u112_129, u112_132, u112_134, u112_136, u112_137, u112_138, u112_139, u112_140, u112_141, u112_144, u112_145, u112_146, u112_147, u112_150, u112_151, u112_154, u112_155, u112_156, u112_157, u112_160, u112_163, u112_164, u112_165, u112_166, u112_169, u112_170, u112_173, k0, k1, k2, mk, q2, q3, m_at, f3, wr_id, rng, rngp, if_pos, if_neg, if_true, if_false, reduceCtorEq, true_and, and_true, and_self, Option.toList_some, Option.toList_none, List.cons_append, List.nil_append, Int.toNat_natCast]
          exact ⟨H, MF.rf⟩
        · obtain ⟨h1, hw, hm, hf⟩ := @m_sends sc d h x n σ v K H hN hn hroom
          simp (disch := omega) only [u112_0, u112_1, u112_4, u112_6, u112_7, u112_8, u112_11, u112_40, u112_41, u112_42, u112_43, u112_44, u112_47, u112_49, u112_50, u112_51, u112_52, u112_53, u112_55, u112_56, u112_59, u112_62, u112_63, u112_64, u112_67, u112_69, u112_70, u112_71, u112_72, u112_73, u112_76, u112_77, u112_78, u112_79, u112_82, u112_85, u112_86, u112_89, u112_91, u112_93, u112_94, u112_95, u112_96, u112_97, u112_98, u112_99, u112_100, u112_101, u112_102, u112_103, u112_104, u112_105, u112_106, u112_109, u112_111, u112_113, u112_114, u112_115, u112_116, u112_117, u112_118, u112_119, u112_121, u112_122, u112_125, u112_128, u112_129, u112_132, u112_134, u112_136, u112_137, u112_138, u112_139, u112_140, u112_141, u112_144, u112_145, u112_146, u112_147, u112_150, u112_151, u112_154, u112_155, u112_156, u112_157, u112_160, u112_163, u112_164, u112_165, u112_166, u112_169, u112_170, u112_173, k0, k1, k2, mk, q2, m_at, f3, hw, wr_id, rng, rngp, if_pos, if_neg, if_true, if_false, reduceCtorEq, true_and, and_true, and_self, Option.toList_some, Option.toList_none, List.cons_append, List.nil_append, Int.toNat_natCast]
          exact ⟨hm, hf⟩
      · by_cases q3 : sf σ n 0 = 3
        · have hq : (v % 4).toNat < 4 := by omega
          have o9' := o9 _ hq
          have fs := H.f (i := 10 + 30 * (n : Int) + 10 + v % 4) (n := n) (k := 10 + (v % 4).toNat) hn (by omega) (by omega) (by omega)
          have hm1 : MR (sI h (x + 1) (10 + 30 * (n : Int) + 10 + v % 4).toNat (sf σ n (10 + (v % 4).toNat) + v)) x (uf σ n (10 + (v % 4).toNat) (sf σ n (10 + (v % 4).toNat) + v)) := H.setf hn (by omega) (by omega)
          obtain ⟨h1, hw, hm, hf⟩ := @m_sends sc d _ x n _ ((sf σ n (10 + (v % 4).toNat) + v) % 100) (K.mf MF.sI) hm1 hN hn (fun t i q => hroom t i (by
            have q9 := fed_lt q
            rw [sf_uf, sf_uf] at q9
            rw [if_neg (by omega), if_neg (by omega)] at q9
            exact decide_eq_true q9))
          simp (disch := omega) only [u112_0, u112_1, u112_4, u112_6, u112_7, u112_8, u112_11, u112_40, u112_41, u112_42, u112_43, u112_44, u112_47, u112_49, u112_50, u112_51, u112_52, u112_53, u112_55, u112_56, u112_59, u112_62, u112_63, u112_64, u112_67, u112_69, u112_70, u112_71, u112_72, u112_73, u112_76, u112_77, u112_78, u112_79, u112_82, u112_85, u112_86, u112_89, u112_91, u112_93, u112_94, u112_95, u112_96, u112_97, u112_98, u112_99, u112_100, u112_101, u112_102, u112_103, u112_104, u112_105, u112_106, u112_109, u112_111, u112_113, u112_114, u112_115, u112_116, u112_117, u112_118, u112_119, u112_121, u112_122, u112_125, u112_128, u112_129, u112_132, u112_134, u112_136, u112_137, u112_138, u112_139, u112_140, u112_141, u112_144, u112_145, u112_146, u112_147, u112_150, u112_151, u112_154, u112_155, u112_156, u112_157, u112_160, u112_163, u112_164, u112_165, u112_166, u112_169, u112_170, u112_173, k0, k1, k2, mk, q3, m_at, fs, hw, kd_sI, gR_sI, gI_sI_eq, wr_id, rng, rngp, if_pos, if_neg, if_true, if_false, reduceCtorEq, true_and, and_true, and_self, Option.toList_some, Option.toList_none, List.cons_append, List.nil_append, Int.toNat_natCast]
          exact ⟨hm, MF.sI.tr hf⟩
        · by_cases q4 : sf σ n 0 = 4
          · by_cases q8 : sf σ n 8 = (i : Int) + 1
            · obtain ⟨h0, hw0, hm0, hf0⟩ := @m_puts sc (d + 3) h x n 2 σ (250 + 129 * (7 * (n : Int) + 2)) v K H hn (by omega) (by omega) c2
              obtain ⟨h1, hw, hm, hf⟩ := @m_sends sc d h0 x n _ v (K.mf hf0) hm0 hN hn (fun t i q => by
                have q9 := fed_lt q
                rw [sr_ur, if_neg (by omega)]
                exact hroom t i q)
              have e0 := hf0.kd x
              simp (disch := omega) only [u112_0, u112_1, u112_4, u112_6, u112_7, u112_8, u112_11, u112_40, u112_41, u112_42, u112_43, u112_44, u112_47, u112_49, u112_50, u112_51, u112_52, u112_53, u112_55, u112_56, u112_59, u112_62, u112_63, u112_64, u112_67, u112_69, u112_70, u112_71, u112_72, u112_73, u112_76, u112_77, u112_78, u112_79, u112_82, u112_85, u112_86, u112_89, u112_91, u112_93, u112_94, u112_95, u112_96, u112_97, u112_98, u112_99, u112_100, u112_101, u112_102, u112_103, u112_104, u112_105, u112_106, u112_109, u112_111, u112_113, u112_114, u112_115, u112_116, u112_117, u112_118, u112_119, u112_121, u112_122, u112_125, u112_128, u112_129, u112_132, u112_134, u112_136, u112_137, u112_138, u112_139, u112_140, u112_141, u112_144, u112_145, u112_146, u112_147, u112_150, u112_151, u112_154, u112_155, u112_156, u112_157, u112_160, u112_163, u112_164, u112_165, u112_166, u112_169, u112_170, u112_173, k0, k1, k2, e0, mk, q4, q8, m_at, f8, m_rowAt, hw0, hw, wr_id, rng, rngp, if_pos, if_neg, if_true, if_false, reduceCtorEq, true_and, and_true, and_self, Option.toList_some, Option.toList_none, List.cons_append, List.nil_append, Int.toNat_natCast]
              exact ⟨hm, hf0.tr hf⟩
            · obtain ⟨h1, hw, hm, hf⟩ := @m_sends sc d h x n σ v K H hN hn hroom
              simp (disch := omega) only [u112_0, u112_1, u112_4, u112_6, u112_7, u112_8, u112_11, u112_40, u112_41, u112_42, u112_43, u112_44, u112_47, u112_49, u112_50, u112_51, u112_52, u112_53, u112_55, u112_56, u112_59, u112_62, u112_63, u112_64, u112_67, u112_69, u112_70, u112_71, u112_72, u112_73, u112_76, u112_77, u112_78, u112_79, u112_82, u112_85, u112_86, u112_89, u112_91, u112_93, u112_94, u112_95, u112_96, u112_97, u112_98, u112_99, u112_100, u112_101, u112_102, u112_103, u112_104, u112_105, u112_106, u112_109, u112_111, u112_113, u112_114, u112_115, u112_116, u112_117, u112_118, u112_119, u112_121, u112_122, u112_125, u112_128, u112_129, u112_132, u112_134, u112_136, u112_137, u112_138, u112_139, u112_140, u112_141, u112_144, u112_145, u112_146, u112_147, u112_150, u112_151, u112_154, u112_155, u112_156, u112_157, u112_160, u112_163, u112_164, u112_165, u112_166, u112_169, u112_170, u112_173, k0, k1, k2, mk, q4, m_at, f8, hw, wr_id, rng, rngp, if_pos, if_neg, if_true, if_false, reduceCtorEq, true_and, and_true, and_self, Option.toList_some, Option.toList_none, List.cons_append, List.nil_append, Int.toNat_natCast]
              exact ⟨hm, hf⟩
          · obtain ⟨h0, hw0, hm0, hf0⟩ := @m_puts sc (d + 3) h x n 4 σ (250 + 129 * (7 * (n : Int) + 4)) v K H hn (by omega) (by omega) c4
            simp (disch := omega) only [u112_0, u112_1, u112_4, u112_6, u112_7, u112_8, u112_11, u112_40, u112_41, u112_42, u112_43, u112_44, u112_47, u112_49, u112_50, u112_51, u112_52, u112_53, u112_55, u112_56, u112_59, u112_62, u112_63, u112_64, u112_67, u112_69, u112_70, u112_71, u112_72, u112_73, u112_76, u112_77, u112_78, u112_79, u112_82, u112_85, u112_86, u112_89, u112_91, u112_93, u112_94, u112_95, u112_96, u112_97, u112_98, u112_99, u112_100, u112_101, u112_102, u112_103, u112_104, u112_105, u112_106, u112_109, u112_111, u112_113, u112_114, u112_115, u112_116, u112_117, u112_118, u112_119, u112_121, u112_122, u112_125, u112_128, u112_129, u112_132, u112_134, u112_136, u112_137, u112_138, u112_139, u112_140, u112_141, u112_144, u112_145, u112_146, u112_147, u112_150, u112_151, u112_154, u112_155, u112_156, u112_157, u112_160, u112_163, u112_164, u112_165, u112_166, u112_169, u112_170, u112_173, k0, k1, k2, mk, m_at, m_rowAt, hw0, wr_id, rng, rngp, if_pos, if_neg, if_true, if_false, reduceCtorEq, true_and, and_true, and_self, Option.toList_some, Option.toList_none, List.cons_append, List.nil_append, Int.toNat_natCast]
            exact ⟨hm0, hf0⟩
  obtain ⟨r, h', hw, rfl, hm, hf⟩ := big.evE
  exact ⟨h', hw, hm, hf⟩
theorem m_isPart {sc : av_S} {d : Nat} {h : av_H} {x n : Nat} {σ : sS} {num inn : Int} (K : MK h x) (H : MR h x σ) (hn : n < 8) : ∃ h', (∀ Q, WP sc (d + 2) 113 0 [(0, .inr (.inl x)), (1, .inl (n : Int)), (2, .inl num), (3, .inl inn)] [] h Q ↔ Q none h') ∧ MR h' x (sPart σ n num inn) ∧ MF h h' x := by
  obtain ⟨k0, ⟨k1, k2⟩, -⟩ := id K
  have big : WP sc (d + 2) 113 0 [(0, .inr (.inl x)), (1, .inl (n : Int)), (2, .inl num), (3, .inl inn)] [] h (fun r h' => r = none ∧ MR h' x (sPart σ n num inn) ∧ MF h h' x) := by
    simp (disch := omega) only [u113_0, u113_1, u113_4, u113_6, u113_7, u113_10, u113_12, u113_14, u113_15, u113_16, u113_17, u113_18, u113_21, u113_23, u113_25, u113_26, u113_27, u113_28, u113_29, u113_32, u113_34, u113_36, u113_37, u113_38, u113_39, k0, k1, k2, m_at, kd_sI, gR_sI, wr_id, rng, rngp, if_pos, if_neg, if_true, if_false, reduceCtorEq, true_and, and_true, and_self, Option.toList_some, Option.toList_none, List.cons_append, List.nil_append, Int.toNat_natCast]
    exact ⟨((H.setf (k := 9) hn (by omega) (by omega)).setf (k := 24) hn (by omega) (by omega)).setf (k := 25) hn (by omega) (by omega), (MF.sI.tr MF.sI).tr MF.sI⟩
  obtain ⟨r, h', hw, rfl, hm, hf⟩ := big.evE
  exact ⟨h', hw, hm, hf⟩
theorem m_joinBarrier {sc : av_S} {d : Nat} {h : av_H} {x n i : Nat} {σ : sS} (K : MK h x) (H : MR h x σ) (hN : 0 ≤ sg σ 0 ∧ sg σ 0 ≤ 8) (hn : n < 8) (hi : i < 2) (ok : okN σ n) (hk : sf σ n 0 = 4) (hroom : ∀ t i, fed σ n t i = true → (sr σ t i).length < 128) : ∃ h', (∀ Q, WP sc (d + 5) 114 0 [(0, .inr (.inl x)), (1, .inl (n : Int)), (2, .inl (i : Int))] [] h Q ↔ Q none h') ∧ MR h' x (sBarrier σ n i) ∧ MF h h' x := by
  obtain ⟨k0, ⟨k1, k2⟩, -⟩ := id K
  obtain ⟨o1, o2, o3, o4, o5, o6, o7, o8, o9, o10⟩ := ok
  have g5 := H.g (i := 5) (k := 5) (by omega) rfl
  have f7 := H.f (i := 10 + 30 * (n : Int) + 7) (n := n) (k := 7) hn (by omega) (by omega) (by omega)
  have f8 := H.f (i := 10 + 30 * (n : Int) + 8) (n := n) (k := 8) hn (by omega) (by omega) (by omega)
  have r2 := H.r0 (i := 250 + 129 * (7 * (n : Int) + 2)) (n := n) (r := 2) hn (by omega) (by omega)
  have big : WP sc (d + 5) 114 0 [(0, .inr (.inl x)), (1, .inl (n : Int)), (2, .inl (i : Int))] [] h (fun r h' => r = none ∧ MR h' x (sBarrier σ n i) ∧ MF h h' x) := by
    unfold sBarrier
    rw [if_pos hk]
    by_cases q1 : sg σ 5 = 1
    · by_cases q2 : sf σ n 7 = 0
      · simp (disch := omega) only [u114_0, u114_1, u114_4, u114_5, u114_6, u114_9, u114_10, u114_11, u114_12, u114_15, u114_16, u114_19, u114_20, u114_22, u114_23, u114_24, u114_27, u114_28, u114_31, u114_32, u114_34, u114_35, u114_36, u114_37, u114_38, u114_39, u114_42, u114_43, u114_46, u114_47, u114_49, u114_50, u114_51, u114_52, u114_53, u114_54, u114_56, u114_59, u114_60, u114_61, u114_62, u114_63, u114_66, u114_69, u114_70, u114_73, u114_74, u114_76, u114_77, u114_78, u114_81, u114_82, u114_83, u114_85, u114_88, u114_89, u114_92, u114_93, u114_95, u114_96, u114_97, u114_98, u114_99, u114_100, u114_101, u114_104, u114_105, u114_106, u114_109, u114_110, u114_111, u114_114, u114_115, u114_118, u114_119, u114_121, u114_122, u114_123, u114_125, u114_126, u114_129, u114_130, u114_132, u114_133, u114_134, u114_135, u114_136, u114_137, u114_138, u114_141, u114_142, u114_143, u114_146, u114_147, u114_149, u114_152, k0, k1, k2, g5, q1, f7, q2, m_at, wr_id, rng, rngp, if_pos, if_neg, if_true, if_false, reduceCtorEq, true_and, and_true, and_self, Option.toList_some, Option.toList_none, List.cons_append, List.nil_append, Int.toNat_natCast]
        exact ⟨H.setf (k := 7) hn (by omega) (by omega), MF.sI⟩
      · have hm1 : MR (sI h (x + 1) (10 + 30 * (n : Int) + 7).toNat 0) x (uf σ n 7 0) := H.setf hn (by omega) (by omega)
        obtain ⟨h1, hw, hm, hf⟩ := @m_sends sc d _ x n _ 100 (K.mf MF.sI) hm1 hN hn (fun t i q => hroom t i (by
            have q9 := fed_lt q
            rw [sf_uf, sf_uf, if_neg (by omega), if_neg (by omega)] at q9
            exact decide_eq_true q9))
        obtain ⟨h2, hw2, hm2, hf2⟩ := @m_isPart sc (d + 2) h1 x n _ 0 0 ((K.mf MF.sI).mf hf) hm hn
        have e0 := hf.kd x
        simp (disch := omega) only [u114_0, u114_1, u114_4, u114_5, u114_6, u114_9, u114_10, u114_11, u114_12, u114_15, u114_16, u114_19, u114_20, u114_22, u114_23, u114_24, u114_27, u114_28, u114_31, u114_32, u114_34, u114_35, u114_36, u114_37, u114_38, u114_39, u114_42, u114_43, u114_46, u114_47, u114_49, u114_50, u114_51, u114_52, u114_53, u114_54, u114_56, u114_59, u114_60, u114_61, u114_62, u114_63, u114_66, u114_69, u114_70, u114_73, u114_74, u114_76, u114_77, u114_78, u114_81, u114_82, u114_83, u114_85, u114_88, u114_89, u114_92, u114_93, u114_95, u114_96, u114_97, u114_98, u114_99, u114_100, u114_101, u114_104, u114_105, u114_106, u114_109, u114_110, u114_111, u114_114, u114_115, u114_118, u114_119, u114_121, u114_122, u114_123, u114_125, u114_126, u114_129, u114_130, u114_132, u114_133, u114_134, u114_135, u114_136, u114_137, u114_138, u114_141, u114_142, u114_143, u114_146, u114_147, u114_149, u114_152, k0, k1, k2, g5, q1, f7, q2, m_at, kd_sI, e0, hw, hw2, wr_id, rng, rngp, if_pos, if_neg, if_true, if_false, reduceCtorEq, true_and, and_true, and_self, Option.toList_some, Option.toList_none, List.cons_append, List.nil_append, Int.toNat_natCast]
        exact ⟨hm2, (MF.sI.tr hf).tr hf2⟩
    · by_cases q2 : sf σ n 8 = 0
      · obtain ⟨h1, hw, hm, hf⟩ := @m_sends sc d h x n σ 100 K H hN hn hroom
        have e0 := hf.kd x
        have e1 := hf.kd (x + 1)
        have e2 := hf.gR x 0
        simp (disch := omega) only [u114_0, u114_1, u114_4, u114_5, u114_6, u114_9, u114_10, u114_11, u114_12, u114_15, u114_16, u114_19, u114_20, u114_22, u114_23, u114_24, u114_27, u114_28, u114_31, u114_32, u114_34, u114_35, u114_36, u114_37, u114_38, u114_39, u114_42, u114_43, u114_46, u114_47, u114_49, u114_50, u114_51, u114_52, u114_53, u114_54, u114_56, u114_59, u114_60, u114_61, u114_62, u114_63, u114_66, u114_69, u114_70, u114_73, u114_74, u114_76, u114_77, u114_78, u114_81, u114_82, u114_83, u114_85, u114_88, u114_89, u114_92, u114_93, u114_95, u114_96, u114_97, u114_98, u114_99, u114_100, u114_101, u114_104, u114_105, u114_106, u114_109, u114_110, u114_111, u114_114, u114_115, u114_118, u114_119, u114_121, u114_122, u114_123, u114_125, u114_126, u114_129, u114_130, u114_132, u114_133, u114_134, u114_135, u114_136, u114_137, u114_138, u114_141, u114_142, u114_143, u114_146, u114_147, u114_149, u114_152, k0, k1, k2, g5, q1, f8, q2, m_at, kd_sI, gR_sI, e0, e1, e2, hw, m_rowAt, wr_id, rng, rngp, if_pos, if_neg, if_true, if_false, reduceCtorEq, true_and, and_true, and_self, Option.toList_some, Option.toList_none, List.cons_append, List.nil_append, Int.toNat_natCast]
        have hm8 : MR (sI h1 (x + 1) (10 + 30 * (n : Int) + 8).toNat (2 - (i : Int))) x (uf (sSend σ n 100) n 8 (2 - (i : Int))) := hm.setf hn (by omega) (by omega)
        refine ⟨hm8.row hn (by omega) (fun j hj => ?_) ?_ (by simp) (fun i hi => by simp at hi), (hf.tr MF.sI).tr MF.sI⟩
        · rw [gI_sI_ne (by omega)]
        · rw [gI_sI_eq (by omega)]; rfl
      · have hm1 : MR (sI h (x + 1) (10 + 30 * (n : Int) + 8).toNat 0) x (uf σ n 8 0) := H.setf hn (by omega) (by omega)
        obtain ⟨h2, hw2, hm2, hf2⟩ := @m_isPart sc (d + 2) _ x n _ ((sr σ n 2).length : Int) (sf σ n 8) (K.mf MF.sI) hm1 hn
        simp (disch := omega) only [u114_0, u114_1, u114_4, u114_5, u114_6, u114_9, u114_10, u114_11, u114_12, u114_15, u114_16, u114_19, u114_20, u114_22, u114_23, u114_24, u114_27, u114_28, u114_31, u114_32, u114_34, u114_35, u114_36, u114_37, u114_38, u114_39, u114_42, u114_43, u114_46, u114_47, u114_49, u114_50, u114_51, u114_52, u114_53, u114_54, u114_56, u114_59, u114_60, u114_61, u114_62, u114_63, u114_66, u114_69, u114_70, u114_73, u114_74, u114_76, u114_77, u114_78, u114_81, u114_82, u114_83, u114_85, u114_88, u114_89, u114_92, u114_93, u114_95, u114_96, u114_97, u114_98, u114_99, u114_100, u114_101, u114_104, u114_105, u114_106, u114_109, u114_110, u114_111, u114_114, u114_115, u114_118, u114_119, u114_121, u114_122, u114_123, u114_125, u114_126, u114_129, u114_130, u114_132, u114_133, u114_134, u114_135, u114_136, u114_137, u114_138, u114_141, u114_142, u114_143, u114_146, u114_147, u114_149, u114_152, k0, k1, k2, g5, q1, f8, q2, m_at, kd_sI, gR_sI, gI_sI_ne, m_rowAt, r2, hw2, wr_id, rng, rngp, if_pos, if_neg, if_true, if_false, reduceCtorEq, true_and, and_true, and_self, Option.toList_some, Option.toList_none, List.cons_append, List.nil_append, Int.toNat_natCast]
        exact ⟨hm2, MF.sI.tr hf2⟩
  obtain ⟨r, h', hw, rfl, hm, hf⟩ := big.evE
  exact ⟨h', hw, hm, hf⟩
theorem m_barrier {sc : av_S} {d : Nat} {h : av_H} {x n i : Nat} {σ : sS} (K : MK h x) (H : MR h x σ) (hN : 0 ≤ sg σ 0 ∧ sg σ 0 ≤ 8) (hn : n < 8) (hi : i < 2) (ok : okN σ n) (hroom : ∀ t i, fed σ n t i = true → (sr σ t i).length < 128) (c5 : (sr σ n 5).length + (sr σ n 4).length ≤ 128) : ∃ h', (∀ Q, WP sc (d + 6) 115 0 [(0, .inr (.inl x)), (1, .inl (n : Int)), (2, .inl (i : Int))] [] h Q ↔ Q none h') ∧ MR h' x (sBarrier σ n i) ∧ MF h h' x := by
  obtain ⟨k0, ⟨k1, k2⟩, -⟩ := id K
  have mk := @m_kind sc (d + 3) h x n σ K H hn
  have big : WP sc (d + 6) 115 0 [(0, .inr (.inl x)), (1, .inl (n : Int)), (2, .inl (i : Int))] [] h (fun r h' => r = none ∧ MR h' x (sBarrier σ n i) ∧ MF h h' x) := by
    by_cases q4 : sf σ n 0 = 4
    · obtain ⟨h1, hw, hm, hf⟩ := @m_joinBarrier sc d h x n i σ K H hN hn hi ok q4 hroom
      simp (disch := omega) only [u115_0, u115_1, u115_4, u115_5, u115_6, u115_7, u115_10, u115_11, u115_14, u115_15, u115_16, u115_17, u115_20, u115_23, u115_24, u115_25, u115_28, u115_29, u115_32, u115_33, u115_34, u115_35, u115_38, u115_39, u115_40, u115_43, u115_46, u115_47, u115_48, u115_49, u115_50, u115_53, u115_56, u115_57, u115_58, u115_60, u115_63, u115_64, u115_66, u115_67, u115_71, u115_72, u115_75, u115_76, u115_79, u115_80, u115_82, u115_83, u115_85, u115_86, u115_87, u115_90, u115_91, u115_93, u115_94, u115_96, u115_97, u115_98, u115_99, u115_101, u115_102, u115_105, u115_106, u115_108, u115_109, u115_111, u115_112, u115_113, u115_114, u115_117, u115_118, u115_120, u115_121, u115_123, u115_124, u115_125, u115_128, u115_129, u115_132, u115_133, u115_134, u115_136, u115_139, u115_142, u115_143, u115_144, u115_146, u115_147, u115_150, k0, k1, k2, mk, q4, m_at, hw, wr_id, rng, rngp, if_pos, if_neg, if_true, if_false, reduceCtorEq, true_and, and_true, and_self, Option.toList_some, Option.toList_none, List.cons_append, List.nil_append, Int.toNat_natCast]
      exact ⟨hm, hf⟩
    · unfold sBarrier
      rw [if_neg q4]
      by_cases q5 : sf σ n 0 = 5
      · obtain ⟨h1, hw, hm, hf⟩ := @m_pours sc (d + 3) h x n 4 5 σ (250 + 129 * (7 * (n : Int) + 4)) (250 + 129 * (7 * (n : Int) + 5)) K H hn (by omega) (by omega) (by omega) rfl rfl c5
        obtain ⟨h2, hw2, hm2, hf2⟩ := @m_isPart sc (d + 3) h1 x n _ 0 0 (K.mf hf) hm hn
        have e0 := hf.kd x
        simp (disch := omega) only [u115_0, u115_1, u115_4, u115_5, u115_6, u115_7, u115_10, u115_11, u115_14, u115_15, u115_16, u115_17, u115_20, u115_23, u115_24, u115_25, u115_28, u115_29, u115_32, u115_33, u115_34, u115_35, u115_38, u115_39, u115_40, u115_43, u115_46, u115_47, u115_48, u115_49, u115_50, u115_53, u115_56, u115_57, u115_58, u115_60, u115_63, u115_64, u115_66, u115_67, u115_71, u115_72, u115_75, u115_76, u115_79, u115_80, u115_82, u115_83, u115_85, u115_86, u115_87, u115_90, u115_91, u115_93, u115_94, u115_96, u115_97, u115_98, u115_99, u115_101, u115_102, u115_105, u115_106, u115_108, u115_109, u115_111, u115_112, u115_113, u115_114, u115_117, u115_118, u115_120, u115_121, u115_123, u115_124, u115_125, u115_128, u115_129, u115_132, u115_133, u115_134, u115_136, u115_139, u115_142, u115_143, u115_144, u115_146, u115_147, u115_150, k0, k1, k2, e0, mk, q5, m_at, m_rowAt, hw, hw2, wr_id, rng, rngp, if_pos, if_neg, if_true, if_false, reduceCtorEq, true_and, and_true, and_self, Option.toList_some, Option.toList_none, List.cons_append, List.nil_append, Int.toNat_natCast]
        exact ⟨hm2, hf.tr hf2⟩
      · rw [if_neg q5]
        obtain ⟨h1, hw, hm, hf⟩ := @m_sends sc (d + 1) h x n σ 100 K H hN hn hroom
        have e0 := hf.kd x
        have one : ∀ (k : Nat) (o : Int) (τ : sS) (hk : av_H) (Q : Option av_V → av_H → Prop), k < 4 → 0 ≤ o → o ≤ k → MF h hk x → MR hk x τ → (WP sc (d + 6) 115 69 [(0, .inr (.inl x)), (1, .inl (n : Int)), (2, .inl (i : Int)), (3, .inl (10 + 30 * (n : Int))), (4, .inl o), (5, .inl (k : Int))] [] hk Q ↔ WP sc (d + 6) 115 69 [(0, .inr (.inl x)), (1, .inl (n : Int)), (2, .inl (i : Int)), (3, .inl (10 + 30 * (n : Int))), (4, .inl (o + if sf τ n (10 + k) = sf τ n (15 + k) then 0 else 1)), (5, .inl ((k + 1 : Nat) : Int))] [] (sI hk (x + 1) (10 + 30 * n + 20 + k) (sf τ n (10 + k))) Q) ∧ MR (sI hk (x + 1) (10 + 30 * n + 20 + k) (sf τ n (10 + k))) x (uf τ n (20 + k) (sf τ n (10 + k))) := by
          intro k o τ hk Q c1 c2 c3 c4 c6
          obtain ⟨k0', ⟨k1', k2'⟩, -⟩ := K.mf c4
          have fa := c6.f (i := 10 + 30 * (n : Int) + 10 + (k : Int)) (n := n) (k := 10 + k) hn (by omega) (by omega) (by omega)
          have fb := c6.f (i := 10 + 30 * (n : Int) + 15 + (k : Int)) (n := n) (k := 15 + k) hn (by omega) (by omega) (by omega)
          refine ⟨?_, c6.setf hn (by omega) (by omega)⟩
          rw [u115_69]
          simp (disch := omega) only [u115_0, u115_1, u115_4, u115_5, u115_6, u115_7, u115_10, u115_11, u115_14, u115_15, u115_16, u115_17, u115_20, u115_23, u115_24, u115_25, u115_28, u115_29, u115_32, u115_33, u115_34, u115_35, u115_38, u115_39, u115_40, u115_43, u115_46, u115_47, u115_48, u115_49, u115_50, u115_53, u115_56, u115_57, u115_58, u115_60, u115_63, u115_64, u115_66, u115_67, u115_71, u115_72, u115_75, u115_76, u115_79, u115_80, u115_82, u115_83, u115_85, u115_86, u115_87, u115_90, u115_91, u115_93, u115_94, u115_96, u115_97, u115_98, u115_99, u115_101, u115_102, u115_105, u115_106, u115_108, u115_109, u115_111, u115_112, u115_113, u115_114, u115_117, u115_118, u115_120, u115_121, u115_123, u115_124, u115_125, u115_128, u115_129, u115_132, u115_133, u115_134, u115_136, u115_139, u115_142, u115_143, u115_144, u115_146, u115_147, u115_150, k0', k1', k2', fa, fb, kd_sI, gR_sI, gI_sI_ne, wr_id, rng, rngp, if_pos, if_neg, if_true, if_false, reduceCtorEq, true_and, and_true, and_self, Option.toList_some, Option.toList_none, List.cons_append, List.nil_append, Int.toNat_natCast]
          rw [show (10 + 30 * (n : Int) + 20 + (k : Int)).toNat = 10 + 30 * n + 20 + k by omega, show (k : Int) + 1 = ((k + 1 : Nat) : Int) by omega]
          by_cases e : sf τ n (10 + k) = sf τ n (15 + k)
          · simp [e]
          · simp [e]
        simp (disch := omega) only [u115_0, u115_1, u115_4, u115_5, u115_6, u115_7, u115_10, u115_11, u115_14, u115_15, u115_16, u115_17, u115_20, u115_23, u115_24, u115_25, u115_28, u115_29, u115_32, u115_33, u115_34, u115_35, u115_38, u115_39, u115_40, u115_43, u115_46, u115_47, u115_48, u115_49, u115_50, u115_53, u115_56, u115_57, u115_58, u115_60, u115_63, u115_64, u115_66, u115_67, u115_71, u115_72, u115_75, u115_76, u115_79, u115_80, u115_82, u115_83, u115_85, u115_86, u115_87, u115_90, u115_91, u115_93, u115_94, u115_96, u115_97, u115_98, u115_99, u115_101, u115_102, u115_105, u115_106, u115_108, u115_109, u115_111, u115_112, u115_113, u115_114, u115_117, u115_118, u115_120, u115_121, u115_123, u115_124, u115_125, u115_128, u115_129, u115_132, u115_133, u115_134, u115_136, u115_139, u115_142, u115_143, u115_144, u115_146, u115_147, u115_150, k0, k1, k2, mk, m_at, hw, wr_id, rng, rngp, if_pos, if_neg, if_true, if_false, reduceCtorEq, true_and, and_true, and_self, Option.toList_some, Option.toList_none, List.cons_append, List.nil_append, Int.toNat_natCast]
        have hb01 : ∀ (p : Prop) [Decidable p], (0 : Int) ≤ (if p then (0 : Int) else 1) ∧ (if p then (0 : Int) else 1) ≤ 1 := by
          intro p _
          split <;> omega
        have z0 := one 0 0 _ h1 (fun r h' => r = none ∧ MR h' x (sPart (sCopy (sSend σ n 100) n) n (sOthers σ n) 0) ∧ MF h h' x) (by omega) (by omega) (by omega) hf hm
        have f1 := hf.tr (MF.sI (k := 10 + 30 * n + 20 + 0) (z := sf (sSend σ n 100) n (10 + 0)))
        have b0 := hb01 (sf (sSend σ n 100) n (10 + 0) = sf (sSend σ n 100) n (15 + 0))
        rw [show (0 : Int) = ((0 : Nat) : Int) from rfl]
        refine z0.1.mpr ?_
        have z1 := one 1 (0 + if sf (sSend σ n 100) n (10 + 0) = sf (sSend σ n 100) n (15 + 0) then 0 else 1) _ _ (fun r h' => r = none ∧ MR h' x (sPart (sCopy (sSend σ n 100) n) n (sOthers σ n) 0) ∧ MF h h' x) (by omega) (by omega) (by omega) f1 z0.2
        refine z1.1.mpr ?_
        generalize ht1 : uf (sSend σ n 100) n (20 + 0) (sf (sSend σ n 100) n (10 + 0)) = t1 at *
        have f2 := f1.tr (MF.sI (k := 10 + 30 * n + 20 + 1) (z := sf t1 n (10 + 1)))
        have b1 := hb01 (sf t1 n (10 + 1) = sf t1 n (15 + 1))
        have z2 := one 2 (0 + (if sf (sSend σ n 100) n (10 + 0) = sf (sSend σ n 100) n (15 + 0) then 0 else 1) + if sf t1 n (10 + 1) = sf t1 n (15 + 1) then 0 else 1) _ _ (fun r h' => r = none ∧ MR h' x (sPart (sCopy (sSend σ n 100) n) n (sOthers σ n) 0) ∧ MF h h' x) (by omega) (by omega) (by omega) f2 z1.2
        refine z2.1.mpr ?_
        generalize ht2 : uf t1 n (20 + 1) (sf t1 n (10 + 1)) = t2 at *
        have f3 := f2.tr (MF.sI (k := 10 + 30 * n + 20 + 2) (z := sf t2 n (10 + 2)))
        have b2 := hb01 (sf t2 n (10 + 2) = sf t2 n (15 + 2))
        have z3 := one 3 (0 + (if sf (sSend σ n 100) n (10 + 0) = sf (sSend σ n 100) n (15 + 0) then 0 else 1) + (if sf t1 n (10 + 1) = sf t1 n (15 + 1) then 0 else 1) + if sf t2 n (10 + 2) = sf t2 n (15 + 2) then 0 else 1) _ _ (fun r h' => r = none ∧ MR h' x (sPart (sCopy (sSend σ n 100) n) n (sOthers σ n) 0) ∧ MF h h' x) (by omega) (by omega) (by omega) f3 z2.2
        refine z3.1.mpr ?_
        generalize ht3 : uf t2 n (20 + 2) (sf t2 n (10 + 2)) = t3 at *
        have f4 := f3.tr (MF.sI (k := 10 + 30 * n + 20 + 3) (z := sf t3 n (10 + 3)))
        have hm4 := z3.2
        have eo : (0 + (if sf (sSend σ n 100) n (10 + 0) = sf (sSend σ n 100) n (15 + 0) then (0 : Int) else 1) + (if sf t1 n (10 + 1) = sf t1 n (15 + 1) then 0 else 1) + (if sf t2 n (10 + 2) = sf t2 n (15 + 2) then 0 else 1) + if sf t3 n (10 + 3) = sf t3 n (15 + 3) then 0 else 1) = sOthers σ n := by
          subst ht1 ht2 ht3
          unfold sOthers
          simp [sf_uf]
          rfl
        have ec : uf t3 n (20 + 3) (sf t3 n (10 + 3)) = sCopy (sSend σ n 100) n := by
          subst ht1 ht2 ht3
          unfold sCopy
          simp [sf_uf]
        rw [eo]
        rw [ec] at hm4
        generalize sI (sI (sI (sI h1 (x + 1) (10 + 30 * n + 20 + 0) (sf (sSend σ n 100) n (10 + 0))) (x + 1) (10 + 30 * n + 20 + 1) (sf t1 n (10 + 1))) (x + 1) (10 + 30 * n + 20 + 2) (sf t2 n (10 + 2))) (x + 1) (10 + 30 * n + 20 + 3) (sf t3 n (10 + 3)) = h4 at *
        obtain ⟨h5, hw5, hm5, hf5⟩ := @m_isPart sc (d + 3) h4 x n _ (sOthers σ n) 0 (K.mf f4) hm4 hn
        have e4 := f4.kd x
        rw [u115_69]
        simp (disch := omega) only [u115_0, u115_1, u115_4, u115_5, u115_6, u115_7, u115_10, u115_11, u115_14, u115_15, u115_16, u115_17, u115_20, u115_23, u115_24, u115_25, u115_28, u115_29, u115_32, u115_33, u115_34, u115_35, u115_38, u115_39, u115_40, u115_43, u115_46, u115_47, u115_48, u115_49, u115_50, u115_53, u115_56, u115_57, u115_58, u115_60, u115_63, u115_64, u115_66, u115_67, u115_71, u115_72, u115_75, u115_76, u115_79, u115_80, u115_82, u115_83, u115_85, u115_86, u115_87, u115_90, u115_91, u115_93, u115_94, u115_96, u115_97, u115_98, u115_99, u115_101, u115_102, u115_105, u115_106, u115_108, u115_109, u115_111, u115_112, u115_113, u115_114, u115_117, u115_118, u115_120, u115_121, u115_123, u115_124, u115_125, u115_128, u115_129, u115_132, u115_133, u115_134, u115_136, u115_139, u115_142, u115_143, u115_144, u115_146, u115_147, u115_150, k0, e4, hw5, wr_id, rng, rngp, if_pos, if_neg, if_true, if_false, reduceCtorEq, true_and, and_true, and_self, Option.toList_some, Option.toList_none, List.cons_append, List.nil_append, Int.toNat_natCast]
        exact ⟨hm5, f4.tr hf5⟩
  obtain ⟨r, h', hw, rfl, hm, hf⟩ := big.evE
  exact ⟨h', hw, hm, hf⟩
