def sFl (σ : sS) (m : Nat) : sS := (fun k => if k = 4 then 0 else if k = 7 then sg σ 7 + 1 else sg σ k,
  fun a k => if a < m then (if k = 5 ∨ k = 6 ∨ k = 7 ∨ k = 8 ∨ k = 9 then 0 else if k = 4 then sf σ a 14 else if k = 10 then sf σ a 15 else if k = 11 then sf σ a 16 else if k = 12 then sf σ a 17 else if k = 13 then sf σ a 18 else sf σ a k) else sf σ a k,
  fun a k => if a < m then (if k = 0 then (if sf σ a 26 = 1 then sr σ a 3 else []) else if k = 1 then (if sf σ a 26 = 2 then sr σ a 3 else []) else if k = 4 ∨ k = 5 then [] else sr σ a k) else sr σ a k)
theorem sg_sFl (σ : sS) (m k : Nat) : sg (sFl σ m) k = if k = 4 then 0 else if k = 7 then sg σ 7 + 1 else sg σ k := rfl
theorem sf_sFl (σ : sS) (m a k : Nat) : sf (sFl σ m) a k = if a < m then (if k = 5 ∨ k = 6 ∨ k = 7 ∨ k = 8 ∨ k = 9 then 0 else if k = 4 then sf σ a 14 else if k = 10 then sf σ a 15 else if k = 11 then sf σ a 16 else if k = 12 then sf σ a 17 else if k = 13 then sf σ a 18 else sf σ a k) else sf σ a k := rfl
theorem sr_sFl (σ : sS) (m a k : Nat) : sr (sFl σ m) a k = if a < m then (if k = 0 then (if sf σ a 26 = 1 then sr σ a 3 else []) else if k = 1 then (if sf σ a 26 = 2 then sr σ a 3 else []) else if k = 4 ∨ k = 5 then [] else sr σ a k) else sr σ a k := rfl
theorem MR.row0 {h : av_H} {x : Nat} {σ : sS} (H : MR h x σ) {n r i : Nat} (hn : n < 8) (hr : r < 7) (hi : i = 250 + 129 * (7 * n + r)) : MR (sI h (x + 1) i 0) x (ur σ n r []) :=
  H.row hn hr (fun j hj => by rw [gI_sI_ne (by omega)]) (by rw [gI_sI_eq (by omega)]; rfl) (by simp) (fun i hi => by simp at hi)
theorem m_failsOnce {sc : av_S} {d : Nat} {h : av_H} {x : Nat} {σ : sS} (K : MK h x) (H : MR h x σ) (hN : 0 ≤ sg σ 0 ∧ sg σ 0 ≤ 8) (h7 : 0 ≤ sg σ 7 ∧ sg σ 7 ≤ 1000000000) (h26 : ∀ n, n < sN σ → sf σ n 26 = 0 ∨ sf σ n 26 = 1 ∨ sf σ n 26 = 2) : ∃ h', (∀ Q, WP sc (d + 2) 128 0 [(0, .inr (.inl x))] [] h Q ↔ Q (some (.inl (sg σ 3))) h') ∧ MR h' x (sFails σ) ∧ MF h h' x := by
  have hsN : (sN σ : Int) = sg σ 0 := by unfold sN; omega
  have loop : ∀ (t n : Nat) (hk : av_H), t = sN σ - n → n ≤ sN σ → MF h hk x → MR hk x (sFl σ n) → WP sc (d + 2) 128 20 [(0, .inr (.inl x)), (1, .inl (n : Int))] [] hk (fun r h' => r = some (.inl (sg σ 3)) ∧ MR h' x (sFails σ) ∧ MF h h' x) := by
    intro t
    induction t with
    | zero =>
      intro n hk ht hn hf hm
      obtain ⟨k0, ⟨k1, k2⟩, -⟩ := id (K.mf hf)
      have e : n = sN σ := by omega
      subst e
      have g0 : gI hk (x + 1) (Int.toNat 0) = sg σ 0 := hm.g (i := 0) (k := 0) (by omega) rfl
      have g3 : gI hk (x + 1) (Int.toNat 3) = sg σ 3 := hm.g (i := 3) (k := 3) (by omega) rfl
      rw [u128_20]
      simp (disch := omega) only [u128_0, u128_1, u128_4, u128_5, u128_6, u128_7, u128_8, u128_11, u128_13, u128_14, u128_15, u128_16, u128_17, u128_18, u128_19, u128_21, u128_22, u128_25, u128_26, u128_27, u128_30, u128_31, u128_34, u128_35, u128_36, u128_39, u128_40, u128_41, u128_42, u128_43, u128_44, u128_45, u128_48, u128_49, u128_51, u128_52, u128_53, u128_54, u128_55, u128_58, u128_59, u128_61, u128_62, u128_63, u128_64, u128_65, u128_68, u128_69, u128_71, u128_72, u128_73, u128_74, u128_75, u128_78, u128_79, u128_81, u128_82, u128_83, u128_84, u128_85, u128_88, u128_89, u128_90, u128_91, u128_92, u128_95, u128_96, u128_98, u128_99, u128_100, u128_101, u128_102, u128_104, u128_105, u128_108, u128_109, u128_112, u128_113, u128_115, u128_116, u128_117, u128_118, u128_119, u128_122, u128_123, u128_125, u128_126, u128_127, u128_128, u128_129, u128_130, u128_133, u128_136, u128_137, u128_140, u128_141, u128_142, u128_145, u128_146, u128_147, u128_148, u128_151, u128_152, u128_153, u128_156, u128_157, u128_158, u128_159, u128_162, u128_163, u128_164, u128_167, u128_168, u128_169, u128_170, u128_173, u128_174, u128_175, u128_178, u128_179, u128_180, u128_181, u128_184, u128_185, u128_187, u128_188, u128_189, u128_192, u128_193, u128_194, u128_195, u128_198, u128_199, u128_200, u128_203, u128_204, u128_206, u128_207, u128_208, u128_209, u128_210, u128_213, u128_216, u128_219, u128_222, u128_223, u128_226, u128_227, u128_228, k0, k1, k2, g0, g3, wr_id, rng, rngp, if_pos, if_neg, if_true, if_false, reduceCtorEq, true_and, and_true, and_self, Option.toList_some, Option.toList_none, List.cons_append, List.nil_append, Int.toNat_natCast]
      exact ⟨hm, hf⟩
    | succ t ih =>
      intro n hk ht hn hf hm
      have hn8 : n < 8 := by omega
      obtain ⟨k0, ⟨k1, k2⟩, -⟩ := id (K.mf hf)
      have g0 : gI hk (x + 1) (Int.toNat 0) = sg σ 0 := hm.g (i := 0) (k := 0) (by omega) rfl
      have ff : ∀ k, sf (sFl σ n) n k = sf σ n k := fun k => by rw [sf_sFl, if_neg (by omega)]
      have fr : ∀ k, sr (sFl σ n) n k = sr σ n k := fun k => by rw [sr_sFl, if_neg (by omega)]
      have f14 := hm.f (i := 10 + 30 * (n : Int) + 14) (n := n) (k := 14) hn8 (by omega) (by omega) (by omega)
      rw [ff] at f14
      have hm1 : MR (sI (sI (sI (sI (sI (sI hk (x + 1) (10 + 30 * n + 5) 0) (x + 1) (10 + 30 * n + 6) 0) (x + 1) (10 + 30 * n + 7) 0) (x + 1) (10 + 30 * n + 8) 0) (x + 1) (10 + 30 * n + 9) 0) (x + 1) (10 + 30 * n + 4) (sf σ n 14)) x (uf (uf (uf (uf (uf (uf (sFl σ n) n 5 0) n 6 0) n 7 0) n 8 0) n 9 0) n 4 (sf σ n 14)) :=
        (((((hm.setf (k := 5) hn8 (by omega) rfl).setf (k := 6) hn8 (by omega) rfl).setf (k := 7) hn8 (by omega) rfl).setf (k := 8) hn8 (by omega) rfl).setf (k := 9) hn8 (by omega) rfl).setf (k := 4) hn8 (by omega) rfl
      have f1 : MF h (sI (sI (sI (sI (sI (sI hk (x + 1) (10 + 30 * n + 5) 0) (x + 1) (10 + 30 * n + 6) 0) (x + 1) (10 + 30 * n + 7) 0) (x + 1) (10 + 30 * n + 8) 0) (x + 1) (10 + 30 * n + 9) 0) (x + 1) (10 + 30 * n + 4) (sf σ n 14)) x := ((((((hf.tr MF.sI).tr MF.sI).tr MF.sI).tr MF.sI).tr MF.sI).tr MF.sI)
      rw [u128_20]
      simp (disch := omega) only [u128_0, u128_1, u128_4, u128_5, u128_6, u128_7, u128_8, u128_11, u128_13, u128_14, u128_15, u128_16, u128_17, u128_18, u128_19, u128_21, u128_22, u128_25, u128_26, u128_27, u128_30, u128_31, u128_34, u128_35, u128_36, u128_39, u128_40, u128_41, u128_42, u128_43, u128_44, u128_45, u128_48, u128_49, u128_51, u128_52, u128_53, u128_54, u128_55, u128_58, u128_59, u128_61, u128_62, u128_63, u128_64, u128_65, u128_68, u128_69, u128_71, u128_72, u128_73, u128_74, u128_75, u128_78, u128_79, u128_81, u128_82, u128_83, u128_84, u128_85, u128_88, u128_89, u128_90, u128_91, u128_92, u128_95, u128_96, u128_98, u128_99, u128_100, u128_101, u128_102, u128_104, u128_105, u128_108, u128_109, u128_112, u128_113, u128_115, u128_116, u128_117, u128_118, u128_119, u128_122, u128_123, u128_125, u128_126, u128_127, u128_128, u128_129, u128_130, u128_133, u128_136, u128_137, u128_140, u128_141, u128_142, u128_145, u128_146, u128_147, u128_148, u128_151, u128_152, u128_153, u128_156, u128_157, u128_158, u128_159, u128_162, u128_163, u128_164, u128_167, u128_168, u128_169, u128_170, u128_173, u128_174, u128_175, u128_178, u128_179, u128_180, u128_181, u128_184, u128_185, u128_187, u128_188, u128_189, u128_192, u128_193, u128_194, u128_195, u128_198, u128_199, u128_200, u128_203, u128_204, u128_206, u128_207, u128_208, u128_209, u128_210, u128_213, u128_216, u128_219, u128_222, u128_223, u128_226, u128_227, u128_228, k0, k1, k2, g0, m_at, f14, kd_sI, gR_sI, gI_sI_ne, wr_id, rng, rngp, if_pos, if_neg, if_true, if_false, reduceCtorEq, true_and, and_true, and_self, Option.toList_some, Option.toList_none, List.cons_append, List.nil_append, Int.toNat_natCast]
      rw [show (10 + 30 * (n : Int) + 5).toNat = 10 + 30 * n + 5 by omega, show (10 + 30 * (n : Int) + 6).toNat = 10 + 30 * n + 6 by omega, show (10 + 30 * (n : Int) + 7).toNat = 10 + 30 * n + 7 by omega, show (10 + 30 * (n : Int) + 8).toNat = 10 + 30 * n + 8 by omega, show (10 + 30 * (n : Int) + 9).toNat = 10 + 30 * n + 9 by omega, show (10 + 30 * (n : Int) + 4).toNat = 10 + 30 * n + 4 by omega]
      have one : ∀ (k : Nat) (ρ : sS) (hq : av_H) (Q : Option av_V → av_H → Prop), k < 4 → MF h hq x → MR hq x ρ → (WP sc (d + 2) 128 103 [(0, .inr (.inl x)), (1, .inl (n : Int)), (2, .inl (10 + 30 * (n : Int))), (3, .inl (k : Int))] [] hq Q ↔ WP sc (d + 2) 128 103 [(0, .inr (.inl x)), (1, .inl (n : Int)), (2, .inl (10 + 30 * (n : Int))), (3, .inl ((k + 1 : Nat) : Int))] [] (sI hq (x + 1) (10 + 30 * n + 10 + k) (sf ρ n (15 + k))) Q) ∧ MR (sI hq (x + 1) (10 + 30 * n + 10 + k) (sf ρ n (15 + k))) x (uf ρ n (10 + k) (sf ρ n (15 + k))) ∧ MF h (sI hq (x + 1) (10 + 30 * n + 10 + k) (sf ρ n (15 + k))) x := by
        intro k ρ hq Q c1 c4 c6
        obtain ⟨k0', ⟨k1', k2'⟩, -⟩ := K.mf c4
        have fa := c6.f (i := 10 + 30 * (n : Int) + 15 + (k : Int)) (n := n) (k := 15 + k) hn8 (by omega) (by omega) (by omega)
        refine ⟨?_, c6.setf hn8 (by omega) (by omega), c4.tr MF.sI⟩
        rw [u128_103]
        simp (disch := omega) only [u128_0, u128_1, u128_4, u128_5, u128_6, u128_7, u128_8, u128_11, u128_13, u128_14, u128_15, u128_16, u128_17, u128_18, u128_19, u128_21, u128_22, u128_25, u128_26, u128_27, u128_30, u128_31, u128_34, u128_35, u128_36, u128_39, u128_40, u128_41, u128_42, u128_43, u128_44, u128_45, u128_48, u128_49, u128_51, u128_52, u128_53, u128_54, u128_55, u128_58, u128_59, u128_61, u128_62, u128_63, u128_64, u128_65, u128_68, u128_69, u128_71, u128_72, u128_73, u128_74, u128_75, u128_78, u128_79, u128_81, u128_82, u128_83, u128_84, u128_85, u128_88, u128_89, u128_90, u128_91, u128_92, u128_95, u128_96, u128_98, u128_99, u128_100, u128_101, u128_102, u128_104, u128_105, u128_108, u128_109, u128_112, u128_113, u128_115, u128_116, u128_117, u128_118, u128_119, u128_122, u128_123, u128_125, u128_126, u128_127, u128_128, u128_129, u128_130, u128_133, u128_136, u128_137, u128_140, u128_141, u128_142, u128_145, u128_146, u128_147, u128_148, u128_151, u128_152, u128_153, u128_156, u128_157, u128_158, u128_159, u128_162, u128_163, u128_164, u128_167, u128_168, u128_169, u128_170, u128_173, u128_174, u128_175, u128_178, u128_179, u128_180, u128_181, u128_184, u128_185, u128_187, u128_188, u128_189, u128_192, u128_193, u128_194, u128_195, u128_198, u128_199, u128_200, u128_203, u128_204, u128_206, u128_207, u128_208, u128_209, u128_210, u128_213, u128_216, u128_219, u128_222, u128_223, u128_226, u128_227, u128_228, k0', k1', k2', fa, kd_sI, gR_sI, gI_sI_ne, wr_id, rng, rngp, if_pos, if_neg, if_true, if_false, reduceCtorEq, true_and, and_true, and_self, Option.toList_some, Option.toList_none, List.cons_append, List.nil_append, Int.toNat_natCast]
        rw [show (10 + 30 * (n : Int) + 10 + (k : Int)).toNat = 10 + 30 * n + 10 + k by omega, show (k : Int) + 1 = ((k + 1 : Nat) : Int) by omega]
      generalize sI (sI (sI (sI (sI (sI hk (x + 1) (10 + 30 * n + 5) 0) (x + 1) (10 + 30 * n + 6) 0) (x + 1) (10 + 30 * n + 7) 0) (x + 1) (10 + 30 * n + 8) 0) (x + 1) (10 + 30 * n + 9) 0) (x + 1) (10 + 30 * n + 4) (sf σ n 14) = h2 at *
      generalize ht2 : uf (uf (uf (uf (uf (uf (sFl σ n) n 5 0) n 6 0) n 7 0) n 8 0) n 9 0) n 4 (sf σ n 14) = t2 at *
      rw [show (0 : Int) = ((0 : Nat) : Int) from rfl]
      obtain ⟨w3, hm3, f3⟩ := one 0 t2 h2 (fun r h' => r = some (.inl (sg σ 3)) ∧ MR h' x (sFails σ) ∧ MF h h' x) (by omega) f1 hm1
      refine w3.mpr ?_
      generalize sI h2 (x + 1) (10 + 30 * n + 10 + 0) (sf t2 n (15 + 0)) = h3 at *
      generalize ht3 : uf t2 n (10 + 0) (sf t2 n (15 + 0)) = t3 at *
      obtain ⟨w4, hm4, f4⟩ := one 1 t3 h3 (fun r h' => r = some (.inl (sg σ 3)) ∧ MR h' x (sFails σ) ∧ MF h h' x) (by omega) f3 hm3
      refine w4.mpr ?_
      generalize sI h3 (x + 1) (10 + 30 * n + 10 + 1) (sf t3 n (15 + 1)) = h4 at *
      generalize ht4 : uf t3 n (10 + 1) (sf t3 n (15 + 1)) = t4 at *
      obtain ⟨w5, hm5, f5⟩ := one 2 t4 h4 (fun r h' => r = some (.inl (sg σ 3)) ∧ MR h' x (sFails σ) ∧ MF h h' x) (by omega) f4 hm4
      refine w5.mpr ?_
      generalize sI h4 (x + 1) (10 + 30 * n + 10 + 2) (sf t4 n (15 + 2)) = h5 at *
      generalize ht5 : uf t4 n (10 + 2) (sf t4 n (15 + 2)) = t5 at *
      obtain ⟨w6, hm6, f6⟩ := one 3 t5 h5 (fun r h' => r = some (.inl (sg σ 3)) ∧ MR h' x (sFails σ) ∧ MF h h' x) (by omega) f5 hm5
      refine w6.mpr ?_
      generalize sI h5 (x + 1) (10 + 30 * n + 10 + 3) (sf t5 n (15 + 3)) = h6 at *
      generalize ht6 : uf t5 n (10 + 3) (sf t5 n (15 + 3)) = t6 at *
      have e6 : ∀ a j, sf t6 a j = if a = n ∧ j = 13 then sf σ n 18 else if a = n ∧ j = 12 then sf σ n 17 else if a = n ∧ j = 11 then sf σ n 16 else if a = n ∧ j = 10 then sf σ n 15 else if a = n ∧ j = 4 then sf σ n 14 else if a = n ∧ (j = 5 ∨ j = 6 ∨ j = 7 ∨ j = 8 ∨ j = 9) then 0 else sf (sFl σ n) a j := by
        intro a j
        subst ht2 ht3 ht4 ht5 ht6
        simp only [sf_uf]
        by_cases ca : a = n
        · subst ca
          simp only [ff, true_and]
          by_cases c13 : j = 13
          · subst c13; simp
          · by_cases c12 : j = 12
            · subst c12; simp
            · by_cases c11 : j = 11
              · subst c11; simp
              · by_cases c10 : j = 10
                · subst c10; simp
                · by_cases c4 : j = 4
                  · subst c4; simp
                  · simp only [c13, c12, c11, c10, c4, if_false]
                    by_cases c9 : j = 9
                    · subst c9; simp
                    · by_cases c8 : j = 8
                      · subst c8; simp
                      · by_cases c7 : j = 7
                        · subst c7; simp
                        · by_cases c6 : j = 6
                          · subst c6; simp
                          · by_cases c5 : j = 5
                            · subst c5; simp
                            · simp [c9, c8, c7, c6, c5, c13, c12, c11, c10, c4]
        · simp [ca]
      have eg6 : ∀ j, sg t6 j = sg (sFl σ n) j := by
        intro j
        subst ht2 ht3 ht4 ht5 ht6
        rfl
      have er6 : ∀ a j, sr t6 a j = sr (sFl σ n) a j := by
        intro a j
        subst ht2 ht3 ht4 ht5 ht6
        rfl
      have hm7 : MR (sI (sI (sI (sI h6 (x + 1) (250 + 129 * (7 * n + 0)) 0) (x + 1) (250 + 129 * (7 * n + 1)) 0) (x + 1) (250 + 129 * (7 * n + 4)) 0) (x + 1) (250 + 129 * (7 * n + 5)) 0) x (ur (ur (ur (ur t6 n 0 []) n 1 []) n 4 []) n 5 []) := (((hm6.row0 hn8 (by omega) rfl).row0 hn8 (by omega) rfl).row0 hn8 (by omega) rfl).row0 hn8 (by omega) rfl
      have f7 : MF h (sI (sI (sI (sI h6 (x + 1) (250 + 129 * (7 * n + 0)) 0) (x + 1) (250 + 129 * (7 * n + 1)) 0) (x + 1) (250 + 129 * (7 * n + 4)) 0) (x + 1) (250 + 129 * (7 * n + 5)) 0) x := ((((f6.tr MF.sI).tr MF.sI).tr MF.sI).tr MF.sI)
      obtain ⟨k6, ⟨k7, k8⟩, -⟩ := K.mf f6
      have l26 := hm6.f (i := 10 + 30 * (n : Int) + 26) (n := n) (k := 26) hn8 (by omega) (by omega) (by omega)
      rw [e6, if_neg (by omega), if_neg (by omega), if_neg (by omega), if_neg (by omega), if_neg (by omega), if_neg (by omega), ff] at l26
      have t26 := h26 n (by omega)
      have fin : ∀ (h8 : av_H) (ρ : sS), MF h h8 x → MR h8 x ρ → (∀ j, sg ρ j = sg t6 j) → (∀ a j, sf ρ a j = sf t6 a j) → (∀ a j, sr ρ a j = if a = n then (if j = 0 then (if sf σ a 26 = 1 then sr σ a 3 else []) else if j = 1 then (if sf σ a 26 = 2 then sr σ a 3 else []) else if j = 4 ∨ j = 5 then [] else sr σ a j) else sr t6 a j) → WP sc (d + 2) 128 20 [(0, .inr (.inl x)), (1, .inl ((n + 1 : Nat) : Int))] [] h8 (fun r h' => r = some (.inl (sg σ 3)) ∧ MR h' x (sFails σ) ∧ MF h h' x) := by
        intro h8 ρ f8 hm8 p1 p2 p3
        refine ih (n + 1) h8 (by omega) (by omega) f8 (hm8.cg (fun k hk => ?_) (fun a ha k hk _ => ?_) (fun a ha r hr => ?_))
        · rw [p1, eg6]; rfl
        · rw [p2, e6, sf_sFl, sf_sFl]
          by_cases ca : a = n
          · subst ca
            simp only [true_and, show a < a + 1 by omega, if_true, show ¬ a < a by omega, if_false]
            by_cases c13 : k = 13
            · subst c13; simp
            · by_cases c12 : k = 12
              · subst c12; simp
              · by_cases c11 : k = 11
                · subst c11; simp
                · by_cases c10 : k = 10
                  · subst c10; simp
                  · by_cases c4 : k = 4
                    · subst c4; simp
                    · simp [c13, c12, c11, c10, c4]
          · by_cases cb : a < n
            · simp [ca, cb, show a < n + 1 by omega]
            · simp [ca, cb, show ¬ a < n + 1 by omega]
        · rw [p3, er6, sr_sFl, sr_sFl]
          by_cases ca : a = n
          · subst ca
            simp
          · by_cases cb : a < n
            · simp [ca, cb, show a < n + 1 by omega]
            · simp [ca, cb, show ¬ a < n + 1 by omega]
      have idx : (250 + 129 * (7 * (n : Int) + 0)).toNat = 250 + 129 * (7 * n + 0) ∧ (250 + 129 * (7 * (n : Int) + 1)).toNat = 250 + 129 * (7 * n + 1) ∧ (250 + 129 * (7 * (n : Int) + 4)).toNat = 250 + 129 * (7 * n + 4) ∧ (250 + 129 * (7 * (n : Int) + 5)).toNat = 250 + 129 * (7 * n + 5) := by omega
      rw [u128_103]
      rcases t26 with q | q | q
      · simp (disch := omega) only [u128_0, u128_1, u128_4, u128_5, u128_6, u128_7, u128_8, u128_11, u128_13, u128_14, u128_15, u128_16, u128_17, u128_18, u128_19, u128_21, u128_22, u128_25, u128_26, u128_27, u128_30, u128_31, u128_34, u128_35, u128_36, u128_39, u128_40, u128_41, u128_42, u128_43, u128_44, u128_45, u128_48, u128_49, u128_51, u128_52, u128_53, u128_54, u128_55, u128_58, u128_59, u128_61, u128_62, u128_63, u128_64, u128_65, u128_68, u128_69, u128_71, u128_72, u128_73, u128_74, u128_75, u128_78, u128_79, u128_81, u128_82, u128_83, u128_84, u128_85, u128_88, u128_89, u128_90, u128_91, u128_92, u128_95, u128_96, u128_98, u128_99, u128_100, u128_101, u128_102, u128_104, u128_105, u128_108, u128_109, u128_112, u128_113, u128_115, u128_116, u128_117, u128_118, u128_119, u128_122, u128_123, u128_125, u128_126, u128_127, u128_128, u128_129, u128_130, u128_133, u128_136, u128_137, u128_140, u128_141, u128_142, u128_145, u128_146, u128_147, u128_148, u128_151, u128_152, u128_153, u128_156, u128_157, u128_158, u128_159, u128_162, u128_163, u128_164, u128_167, u128_168, u128_169, u128_170, u128_173, u128_174, u128_175, u128_178, u128_179, u128_180, u128_181, u128_184, u128_185, u128_187, u128_188, u128_189, u128_192, u128_193, u128_194, u128_195, u128_198, u128_199, u128_200, u128_203, u128_204, u128_206, u128_207, u128_208, u128_209, u128_210, u128_213, u128_216, u128_219, u128_222, u128_223, u128_226, u128_227, u128_228, k6, k7, k8, kd_sI, gR_sI, gI_sI_ne, m_rowAt, l26, q, wr_id, rng, rngp, if_pos, if_neg, if_true, if_false, reduceCtorEq, true_and, and_true, and_self, Option.toList_some, Option.toList_none, List.cons_append, List.nil_append, Int.toNat_natCast]
        rw [idx.1, idx.2.1, idx.2.2.1, idx.2.2.2, show (n : Int) + 1 = ((n + 1 : Nat) : Int) by omega]
        refine fin _ _ f7 hm7 (fun _ => rfl) (fun _ _ => rfl) (fun a j => ?_)
        simp only [sr_ur, er6]
        by_cases ca : a = n
        · subst ca
          simp only [q, true_and, fr]
          by_cases c5 : j = 5
          · subst c5; simp
          · by_cases c4 : j = 4
            · subst c4; simp
            · by_cases c1 : j = 1
              · subst c1; simp
              · by_cases c0 : j = 0
                · subst c0; simp
                · simp [c0, c1, c4, c5]
        · simp [ca]
      · obtain ⟨h8, hw8, hm8, hf8⟩ := @m_copiesRow sc d _ x n 3 0 _ (250 + 129 * (7 * (n : Int) + 3)) (250 + 129 * (7 * (n : Int) + 0)) (K.mf f7) hm7 hn8 (by omega) (by omega) (by omega) rfl rfl
        simp (disch := omega) only [u128_0, u128_1, u128_4, u128_5, u128_6, u128_7, u128_8, u128_11, u128_13, u128_14, u128_15, u128_16, u128_17, u128_18, u128_19, u128_21, u128_22, u128_25, u128_26, u128_27, u128_30, u128_31, u128_34, u128_35, u128_36, u128_39, u128_40, u128_41, u128_42, u128_43, u128_44, u128_45, u128_48, u128_49, u128_51, u128_52, u128_53, u128_54, u128_55, u128_58, u128_59, u128_61, u128_62, u128_63, u128_64, u128_65, u128_68, u128_69, u128_71, u128_72, u128_73, u128_74, u128_75, u128_78, u128_79, u128_81, u128_82, u128_83, u128_84, u128_85, u128_88, u128_89, u128_90, u128_91, u128_92, u128_95, u128_96, u128_98, u128_99, u128_100, u128_101, u128_102, u128_104, u128_105, u128_108, u128_109, u128_112, u128_113, u128_115, u128_116, u128_117, u128_118, u128_119, u128_122, u128_123, u128_125, u128_126, u128_127, u128_128, u128_129, u128_130, u128_133, u128_136, u128_137, u128_140, u128_141, u128_142, u128_145, u128_146, u128_147, u128_148, u128_151, u128_152, u128_153, u128_156, u128_157, u128_158, u128_159, u128_162, u128_163, u128_164, u128_167, u128_168, u128_169, u128_170, u128_173, u128_174, u128_175, u128_178, u128_179, u128_180, u128_181, u128_184, u128_185, u128_187, u128_188, u128_189, u128_192, u128_193, u128_194, u128_195, u128_198, u128_199, u128_200, u128_203, u128_204, u128_206, u128_207, u128_208, u128_209, u128_210, u128_213, u128_216, u128_219, u128_222, u128_223, u128_226, u128_227, u128_228, k6, k7, k8, kd_sI, gR_sI, gI_sI_ne, m_rowAt, l26, q, wr_id, rng, rngp, if_pos, if_neg, if_true, if_false, reduceCtorEq, true_and, and_true, and_self, Option.toList_some, Option.toList_none, List.cons_append, List.nil_append, Int.toNat_natCast]
        rw [idx.1, idx.2.1, idx.2.2.1, idx.2.2.2, show (1 : Int) - 1 = 0 from rfl, hw8]
        simp only [u128_0, u128_1, u128_4, u128_5, u128_6, u128_7, u128_8, u128_11, u128_13, u128_14, u128_15, u128_16, u128_17, u128_18, u128_19, u128_21, u128_22, u128_25, u128_26, u128_27, u128_30, u128_31, u128_34, u128_35, u128_36, u128_39, u128_40, u128_41, u128_42, u128_43, u128_44, u128_45, u128_48, u128_49, u128_51, u128_52, u128_53, u128_54, u128_55, u128_58, u128_59, u128_61, u128_62, u128_63, u128_64, u128_65, u128_68, u128_69, u128_71, u128_72, u128_73, u128_74, u128_75, u128_78, u128_79, u128_81, u128_82, u128_83, u128_84, u128_85, u128_88, u128_89, u128_90, u128_91, u128_92, u128_95, u128_96, u128_98, u128_99, u128_100, u128_101, u128_102, u128_104, u128_105, u128_108, u128_109, u128_112, u128_113, u128_115, u128_116, u128_117, u128_118, u128_119, u128_122, u128_123, u128_125, u128_126, u128_127, u128_128, u128_129, u128_130, u128_133, u128_136, u128_137, u128_140, u128_141, u128_142, u128_145, u128_146, u128_147, u128_148, u128_151, u128_152, u128_153, u128_156, u128_157, u128_158, u128_159, u128_162, u128_163, u128_164, u128_167, u128_168, u128_169, u128_170, u128_173, u128_174, u128_175, u128_178, u128_179, u128_180, u128_181, u128_184, u128_185, u128_187, u128_188, u128_189, u128_192, u128_193, u128_194, u128_195, u128_198, u128_199, u128_200, u128_203, u128_204, u128_206, u128_207, u128_208, u128_209, u128_210, u128_213, u128_216, u128_219, u128_222, u128_223, u128_226, u128_227, u128_228, wr_id, rng, rngp, if_pos, if_neg, if_true, if_false, reduceCtorEq, true_and, and_true, and_self, Option.toList_some, Option.toList_none, List.cons_append, List.nil_append, Int.toNat_natCast]
        rw [show wr ((n : Int) + 1) = ((n + 1 : Nat) : Int) by unfold wr; omega]
        refine fin _ _ (f7.tr hf8) hm8 (fun _ => rfl) (fun _ _ => rfl) (fun a j => ?_)
        simp only [sr_ur, er6]
        by_cases ca : a = n
        · subst ca
          simp only [q, true_and, fr]
          by_cases c5 : j = 5
          · subst c5; simp
          · by_cases c4 : j = 4
            · subst c4; simp
            · by_cases c1 : j = 1
              · subst c1; simp
              · by_cases c0 : j = 0
                · subst c0; simp
                · simp [c0, c1, c4, c5]
        · simp [ca]
      · obtain ⟨h8, hw8, hm8, hf8⟩ := @m_copiesRow sc d _ x n 3 1 _ (250 + 129 * (7 * (n : Int) + 3)) (250 + 129 * (7 * (n : Int) + 1)) (K.mf f7) hm7 hn8 (by omega) (by omega) (by omega) rfl rfl
        simp (disch := omega) only [u128_0, u128_1, u128_4, u128_5, u128_6, u128_7, u128_8, u128_11, u128_13, u128_14, u128_15, u128_16, u128_17, u128_18, u128_19, u128_21, u128_22, u128_25, u128_26, u128_27, u128_30, u128_31, u128_34, u128_35, u128_36, u128_39, u128_40, u128_41, u128_42, u128_43, u128_44, u128_45, u128_48, u128_49, u128_51, u128_52, u128_53, u128_54, u128_55, u128_58, u128_59, u128_61, u128_62, u128_63, u128_64, u128_65, u128_68, u128_69, u128_71, u128_72, u128_73, u128_74, u128_75, u128_78, u128_79, u128_81, u128_82, u128_83, u128_84, u128_85, u128_88, u128_89, u128_90, u128_91, u128_92, u128_95, u128_96, u128_98, u128_99, u128_100, u128_101, u128_102, u128_104, u128_105, u128_108, u128_109, u128_112, u128_113, u128_115, u128_116, u128_117, u128_118, u128_119, u128_122, u128_123, u128_125, u128_126, u128_127, u128_128, u128_129, u128_130, u128_133, u128_136, u128_137, u128_140, u128_141, u128_142, u128_145, u128_146, u128_147, u128_148, u128_151, u128_152, u128_153, u128_156, u128_157, u128_158, u128_159, u128_162, u128_163, u128_164, u128_167, u128_168, u128_169, u128_170, u128_173, u128_174, u128_175, u128_178, u128_179, u128_180, u128_181, u128_184, u128_185, u128_187, u128_188, u128_189, u128_192, u128_193, u128_194, u128_195, u128_198, u128_199, u128_200, u128_203, u128_204, u128_206, u128_207, u128_208, u128_209, u128_210, u128_213, u128_216, u128_219, u128_222, u128_223, u128_226, u128_227, u128_228, k6, k7, k8, kd_sI, gR_sI, gI_sI_ne, m_rowAt, l26, q, wr_id, rng, rngp, if_pos, if_neg, if_true, if_false, reduceCtorEq, true_and, and_true, and_self, Option.toList_some, Option.toList_none, List.cons_append, List.nil_append, Int.toNat_natCast]
        rw [idx.1, idx.2.1, idx.2.2.1, idx.2.2.2, show (2 : Int) - 1 = 1 from rfl, hw8]
        simp only [u128_0, u128_1, u128_4, u128_5, u128_6, u128_7, u128_8, u128_11, u128_13, u128_14, u128_15, u128_16, u128_17, u128_18, u128_19, u128_21, u128_22, u128_25, u128_26, u128_27, u128_30, u128_31, u128_34, u128_35, u128_36, u128_39, u128_40, u128_41, u128_42, u128_43, u128_44, u128_45, u128_48, u128_49, u128_51, u128_52, u128_53, u128_54, u128_55, u128_58, u128_59, u128_61, u128_62, u128_63, u128_64, u128_65, u128_68, u128_69, u128_71, u128_72, u128_73, u128_74, u128_75, u128_78, u128_79, u128_81, u128_82, u128_83, u128_84, u128_85, u128_88, u128_89, u128_90, u128_91, u128_92, u128_95, u128_96, u128_98, u128_99, u128_100, u128_101, u128_102, u128_104, u128_105, u128_108, u128_109, u128_112, u128_113, u128_115, u128_116, u128_117, u128_118, u128_119, u128_122, u128_123, u128_125, u128_126, u128_127, u128_128, u128_129, u128_130, u128_133, u128_136, u128_137, u128_140, u128_141, u128_142, u128_145, u128_146, u128_147, u128_148, u128_151, u128_152, u128_153, u128_156, u128_157, u128_158, u128_159, u128_162, u128_163, u128_164, u128_167, u128_168, u128_169, u128_170, u128_173, u128_174, u128_175, u128_178, u128_179, u128_180, u128_181, u128_184, u128_185, u128_187, u128_188, u128_189, u128_192, u128_193, u128_194, u128_195, u128_198, u128_199, u128_200, u128_203, u128_204, u128_206, u128_207, u128_208, u128_209, u128_210, u128_213, u128_216, u128_219, u128_222, u128_223, u128_226, u128_227, u128_228, wr_id, rng, rngp, if_pos, if_neg, if_true, if_false, reduceCtorEq, true_and, and_true, and_self, Option.toList_some, Option.toList_none, List.cons_append, List.nil_append, Int.toNat_natCast]
        rw [show wr ((n : Int) + 1) = ((n + 1 : Nat) : Int) by unfold wr; omega]
        refine fin _ _ (f7.tr hf8) hm8 (fun _ => rfl) (fun _ _ => rfl) (fun a j => ?_)
        simp only [sr_ur, er6]
        by_cases ca : a = n
        · subst ca
          simp only [q, true_and, fr]
          by_cases c5 : j = 5
          · subst c5; simp
          · by_cases c4 : j = 4
            · subst c4; simp
            · by_cases c1 : j = 1
              · subst c1; simp
              · by_cases c0 : j = 0
                · subst c0; simp
                · simp [c0, c1, c4, c5]
        · simp [ca]
  obtain ⟨k0, ⟨k1, k2⟩, -⟩ := id K
  have g7 := H.g (i := 7) (k := 7) (by omega) rfl
  have big : WP sc (d + 2) 128 0 [(0, .inr (.inl x))] [] h (fun r h' => r = some (.inl (sg σ 3)) ∧ MR h' x (sFails σ) ∧ MF h h' x) := by
    simp (disch := omega) only [u128_0, u128_1, u128_4, u128_5, u128_6, u128_7, u128_8, u128_11, u128_13, u128_14, u128_15, u128_16, u128_17, u128_18, u128_19, u128_21, u128_22, u128_25, u128_26, u128_27, u128_30, u128_31, u128_34, u128_35, u128_36, u128_39, u128_40, u128_41, u128_42, u128_43, u128_44, u128_45, u128_48, u128_49, u128_51, u128_52, u128_53, u128_54, u128_55, u128_58, u128_59, u128_61, u128_62, u128_63, u128_64, u128_65, u128_68, u128_69, u128_71, u128_72, u128_73, u128_74, u128_75, u128_78, u128_79, u128_81, u128_82, u128_83, u128_84, u128_85, u128_88, u128_89, u128_90, u128_91, u128_92, u128_95, u128_96, u128_98, u128_99, u128_100, u128_101, u128_102, u128_104, u128_105, u128_108, u128_109, u128_112, u128_113, u128_115, u128_116, u128_117, u128_118, u128_119, u128_122, u128_123, u128_125, u128_126, u128_127, u128_128, u128_129, u128_130, u128_133, u128_136, u128_137, u128_140, u128_141, u128_142, u128_145, u128_146, u128_147, u128_148, u128_151, u128_152, u128_153, u128_156, u128_157, u128_158, u128_159, u128_162, u128_163, u128_164, u128_167, u128_168, u128_169, u128_170, u128_173, u128_174, u128_175, u128_178, u128_179, u128_180, u128_181, u128_184, u128_185, u128_187, u128_188, u128_189, u128_192, u128_193, u128_194, u128_195, u128_198, u128_199, u128_200, u128_203, u128_204, u128_206, u128_207, u128_208, u128_209, u128_210, u128_213, u128_216, u128_219, u128_222, u128_223, u128_226, u128_227, u128_228, k0, k1, k2, g7, kd_sI, gR_sI, gI_sI_ne, wr_id, rng, rngp, if_pos, if_neg, if_true, if_false, reduceCtorEq, true_and, and_true, and_self, Option.toList_some, Option.toList_none, List.cons_append, List.nil_append, Int.toNat_natCast]
    rw [show (0 : Int) = ((0 : Nat) : Int) from rfl]
    refine loop _ 0 _ rfl (by omega) (MF.sI.tr MF.sI) ?_
    refine ((H.setg (k := 4) (v := 0) (by omega) (by omega)).setg (k := 7) (v := sg σ 7 + 1) (by omega) (by omega)).cg (fun k hk => ?_) (fun a ha k hk _ => ?_) (fun a ha r hr => ?_)
    · rw [sg_sFl, sg_ug, sg_ug]
      by_cases c4 : k = 4
      · subst c4; simp
      · simp [c4]
    · rw [sf_sFl, if_neg (by omega)]; rfl
    · rw [sr_sFl, if_neg (by omega)]; rfl
  obtain ⟨r, h', hw, rfl, hm, hf⟩ := big.evE
  exact ⟨h', hw, hm, hf⟩
