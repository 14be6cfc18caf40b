/-! the reference's digest -/
def mxr (f : Nat → Int) (w : Int64) : Nat → Int64
  | 0 => w
  | k + 1 => mx (mxr f w k) (f k)
def dgR (σ : sS) (n : Nat) (w : Int64) : Int64 := if nin (sf σ n 0) = 0 then w else if nin (sf σ n 0) = 1 then mxs w (sr σ n 0) else mxs (mxs w (sr σ n 0)) (sr σ n 1)
def dgT (σ : sS) (n : Nat) (w : Int64) : Int64 := if sf σ n 0 = 3 then mxr (fun j => sf σ n (10 + j)) w 4 else w
def dgS (σ : sS) (n : Nat) (w : Int64) : Int64 := if sf σ n 0 = 5 then mxs (mxs (mxs w (sr σ n 4)) (sr σ n 5)) (sr σ n 6) else w
def dgN (σ : sS) (n : Nat) (w : Int64) : Int64 := dgS σ n (dgT σ n (dgR σ n (mxr (sFact σ n) w 10)))
def dgA (σ : sS) (w : Int64) : Nat → Int64
  | 0 => w
  | k + 1 => dgN σ k (dgA σ w k)
def xDig (s : SS) : Int64 := dgA s.1 (mxr (sCount s.1) (mxr (sToldF s.2.1 s.2.2.1 s.2.2.2) (Int64.ofNat 2545) 5) 10) (sN s.1)
theorem nin_c (k : Int) : nin k = 0 ∨ nin k = 1 ∨ nin k = 2 := by
  unfold nin; split
  · omega
  · split <;> omega
theorem c_digest {sc : av_S} {d : Nat} {h : av_H} {x : Nat} {s : SS} (S : MSS h x s) (ok : okW s.1) (Q : Option av_V → av_H → Prop) : WP sc (d + 12) 156 0 [(0, .inr (.inl x))] [] h Q ↔ Q (some (.inr (.inr (xDig s)))) h := by
  obtain ⟨σ, ps, rf, tx⟩ := s
  obtain ⟨o1, o2, o3, o4, o5, o6, -⟩ := id ok
  obtain ⟨K, H, -⟩ := id S
  change MK h x at K
  change MR h x σ at H
  change 0 ≤ sg σ 0 ∧ sg σ 0 ≤ 8 at o1
  change ∀ n, n < sN σ → (0 ≤ sf σ n 7 ∧ sf σ n 7 ≤ 2) ∧ (0 ≤ sf σ n 8 ∧ sf σ n 8 ≤ 2) at o6
  have hsN : (sN σ : Int) = sg σ 0 := by unfold sN; omega
  obtain ⟨k0, ⟨k1, k2⟩, -⟩ := id K
  have g0 := H.g (i := 0) (k := 0) (by omega) rfl
  have e1 : ∀ (j : Nat), j < 5 → ∀ Q, WP sc (d + 11) 155 0 [(0, .inr (.inl x)), (1, .inl (j : Int))] [] h Q ↔ Q (some (.inl (sToldF ps rf tx j))) h := fun j hj Q => m_toldOf (d := d + 10) S hj Q
  have e2 : ∀ (j : Nat), j < 10 → ∀ Q, WP sc (d + 11) 144 0 [(0, .inr (.inl x)), (1, .inl (j : Int))] [] h Q ↔ Q (some (.inl (sCount σ j))) h := fun j hj Q => m_countOf (d := d + 9) K H o1 hj Q
  have l1 : ∀ (w : Int64) (t j : Nat), t = 5 - j → j ≤ 5 → (WP sc (d + 12) 156 6 [(0, .inr (.inl x)), (1, .inr (.inr (mxr (sToldF ps rf tx) w j))), (3, .inl (j : Int))] [] h Q ↔ WP sc (d + 12) 156 32 [(0, .inr (.inl x)), (1, .inr (.inr (mxr (sToldF ps rf tx) w 5))), (3, .inl 0)] [] h Q) := by
    intro w t
    induction t with
    | zero =>
      intro j ht hj
      have e : j = 5 := by omega
      subst e
      rw [u156_6]
      simp (disch := omega) only [u156_0, u156_3, u156_4, u156_5, u156_7, u156_8, u156_11, u156_14, u156_15, u156_16, u156_17, u156_18, u156_21, u156_22, u156_23, u156_24, u156_27, u156_30, u156_31, u156_33, u156_35, u156_38, u156_41, u156_42, u156_43, u156_44, u156_45, u156_48, u156_49, u156_50, u156_51, u156_54, u156_57, u156_58, u156_60, u156_61, u156_64, u156_65, u156_66, u156_69, u156_70, u156_74, u156_76, u156_79, u156_82, u156_83, u156_84, u156_85, u156_86, u156_88, u156_91, u156_92, u156_93, u156_94, u156_97, u156_100, u156_101, u156_105, u156_106, u156_107, u156_110, u156_113, u156_114, u156_115, u156_116, u156_118, u156_121, u156_124, u156_125, u156_128, u156_131, u156_132, u156_136, u156_137, u156_140, u156_141, u156_142, u156_145, u156_146, u156_149, u156_152, u156_153, u156_154, u156_155, u156_158, u156_159, u156_162, u156_164, u156_165, u156_167, u156_168, u156_169, u156_170, u156_171, u156_172, u156_175, u156_178, u156_179, u156_183, u156_185, u156_188, u156_189, u156_190, u156_193, u156_194, u156_197, u156_198, u156_199, u156_200, u156_202, u156_205, u156_208, u156_209, u156_212, u156_215, u156_218, u156_221, u156_222, wr_id, rng, rngp, if_pos, if_neg, if_true, if_false, reduceCtorEq, true_and, and_true, and_self, Option.toList_some, Option.toList_none, List.cons_append, List.nil_append, Int.toNat_natCast]
    | succ t ih =>
      intro j ht hj
      rw [← ih (j + 1) (by omega) (by omega), u156_6]
      simp (disch := omega) only [u156_0, u156_3, u156_4, u156_5, u156_7, u156_8, u156_11, u156_14, u156_15, u156_16, u156_17, u156_18, u156_21, u156_22, u156_23, u156_24, u156_27, u156_30, u156_31, u156_33, u156_35, u156_38, u156_41, u156_42, u156_43, u156_44, u156_45, u156_48, u156_49, u156_50, u156_51, u156_54, u156_57, u156_58, u156_60, u156_61, u156_64, u156_65, u156_66, u156_69, u156_70, u156_74, u156_76, u156_79, u156_82, u156_83, u156_84, u156_85, u156_86, u156_88, u156_91, u156_92, u156_93, u156_94, u156_97, u156_100, u156_101, u156_105, u156_106, u156_107, u156_110, u156_113, u156_114, u156_115, u156_116, u156_118, u156_121, u156_124, u156_125, u156_128, u156_131, u156_132, u156_136, u156_137, u156_140, u156_141, u156_142, u156_145, u156_146, u156_149, u156_152, u156_153, u156_154, u156_155, u156_158, u156_159, u156_162, u156_164, u156_165, u156_167, u156_168, u156_169, u156_170, u156_171, u156_172, u156_175, u156_178, u156_179, u156_183, u156_185, u156_188, u156_189, u156_190, u156_193, u156_194, u156_197, u156_198, u156_199, u156_200, u156_202, u156_205, u156_208, u156_209, u156_212, u156_215, u156_218, u156_221, u156_222, k0, e1, wr_id, rng, rngp, if_pos, if_neg, if_true, if_false, reduceCtorEq, true_and, and_true, and_self, Option.toList_some, Option.toList_none, List.cons_append, List.nil_append, Int.toNat_natCast]
      rw [show (j : Int) + 1 = ((j + 1 : Nat) : Int) by omega]
      rfl
  have l2 : ∀ (w : Int64) (t j : Nat), t = 10 - j → j ≤ 10 → (WP sc (d + 12) 156 32 [(0, .inr (.inl x)), (1, .inr (.inr (mxr (sCount σ) w j))), (3, .inl (j : Int))] [] h Q ↔ WP sc (d + 12) 156 59 [(0, .inr (.inl x)), (1, .inr (.inr (mxr (sCount σ) w 10))), (3, .inl 0)] [] h Q) := by
    intro w t
    induction t with
    | zero =>
      intro j ht hj
      have e : j = 10 := by omega
      subst e
      rw [u156_32]
      simp (disch := omega) only [u156_0, u156_3, u156_4, u156_5, u156_7, u156_8, u156_11, u156_14, u156_15, u156_16, u156_17, u156_18, u156_21, u156_22, u156_23, u156_24, u156_27, u156_30, u156_31, u156_33, u156_35, u156_38, u156_41, u156_42, u156_43, u156_44, u156_45, u156_48, u156_49, u156_50, u156_51, u156_54, u156_57, u156_58, u156_60, u156_61, u156_64, u156_65, u156_66, u156_69, u156_70, u156_74, u156_76, u156_79, u156_82, u156_83, u156_84, u156_85, u156_86, u156_88, u156_91, u156_92, u156_93, u156_94, u156_97, u156_100, u156_101, u156_105, u156_106, u156_107, u156_110, u156_113, u156_114, u156_115, u156_116, u156_118, u156_121, u156_124, u156_125, u156_128, u156_131, u156_132, u156_136, u156_137, u156_140, u156_141, u156_142, u156_145, u156_146, u156_149, u156_152, u156_153, u156_154, u156_155, u156_158, u156_159, u156_162, u156_164, u156_165, u156_167, u156_168, u156_169, u156_170, u156_171, u156_172, u156_175, u156_178, u156_179, u156_183, u156_185, u156_188, u156_189, u156_190, u156_193, u156_194, u156_197, u156_198, u156_199, u156_200, u156_202, u156_205, u156_208, u156_209, u156_212, u156_215, u156_218, u156_221, u156_222, wr_id, rng, rngp, if_pos, if_neg, if_true, if_false, reduceCtorEq, true_and, and_true, and_self, Option.toList_some, Option.toList_none, List.cons_append, List.nil_append, Int.toNat_natCast]
    | succ t ih =>
      intro j ht hj
      rw [← ih (j + 1) (by omega) (by omega), u156_32]
      simp (disch := omega) only [u156_0, u156_3, u156_4, u156_5, u156_7, u156_8, u156_11, u156_14, u156_15, u156_16, u156_17, u156_18, u156_21, u156_22, u156_23, u156_24, u156_27, u156_30, u156_31, u156_33, u156_35, u156_38, u156_41, u156_42, u156_43, u156_44, u156_45, u156_48, u156_49, u156_50, u156_51, u156_54, u156_57, u156_58, u156_60, u156_61, u156_64, u156_65, u156_66, u156_69, u156_70, u156_74, u156_76, u156_79, u156_82, u156_83, u156_84, u156_85, u156_86, u156_88, u156_91, u156_92, u156_93, u156_94, u156_97, u156_100, u156_101, u156_105, u156_106, u156_107, u156_110, u156_113, u156_114, u156_115, u156_116, u156_118, u156_121, u156_124, u156_125, u156_128, u156_131, u156_132, u156_136, u156_137, u156_140, u156_141, u156_142, u156_145, u156_146, u156_149, u156_152, u156_153, u156_154, u156_155, u156_158, u156_159, u156_162, u156_164, u156_165, u156_167, u156_168, u156_169, u156_170, u156_171, u156_172, u156_175, u156_178, u156_179, u156_183, u156_185, u156_188, u156_189, u156_190, u156_193, u156_194, u156_197, u156_198, u156_199, u156_200, u156_202, u156_205, u156_208, u156_209, u156_212, u156_215, u156_218, u156_221, u156_222, k0, e2, wr_id, rng, rngp, if_pos, if_neg, if_true, if_false, reduceCtorEq, true_and, and_true, and_self, Option.toList_some, Option.toList_none, List.cons_append, List.nil_append, Int.toNat_natCast]
      rw [show (j : Int) + 1 = ((j + 1 : Nat) : Int) by omega]
      rfl
  have one : ∀ (n : Nat) (w : Int64), n < sN σ → (WP sc (d + 12) 156 59 [(0, .inr (.inl x)), (1, .inr (.inr w)), (3, .inl (n : Int))] [] h Q ↔ WP sc (d + 12) 156 59 [(0, .inr (.inl x)), (1, .inr (.inr (dgN σ n w))), (3, .inl ((n + 1 : Nat) : Int))] [] h Q) := by
    intro n w hn
    have hn8 : n < 8 := by omega
    have e3 : ∀ (j : Nat), j < 10 → ∀ Q, WP sc (d + 11) 138 0 [(0, .inr (.inl x)), (1, .inl (n : Int)), (2, .inl (j : Int))] [] h Q ↔ Q (some (.inl (sFact σ n j))) h := fun j hj Q => m_ofNode (d := d + 8) K H hn8 hj (o6 n hn).1 (o6 n hn).2 Q
    have e4 : ∀ Q, WP sc (d + 11) 103 0 [(0, .inr (.inl x)), (1, .inl (n : Int))] [] h Q ↔ Q (some (.inl (nin (sf σ n 0) : Int))) h := fun Q => m_ins (d := d + 8) K H hn8 Q
    have e5 : ∀ Q, WP sc (d + 11) 102 0 [(0, .inr (.inl x)), (1, .inl (n : Int))] [] h Q ↔ Q (some (.inl (sf σ n 0))) h := fun Q => m_kind (d := d + 9) K H hn8 Q
    have e6 : ∀ (r : Int), 0 ≤ r ∧ r < 1000 → ∀ Q, WP sc (d + 11) 100 0 [(0, .inl (n : Int)), (1, .inl r)] [] h Q ↔ Q (some (.inl (250 + 129 * (7 * (n : Int) + r)))) h := fun r hr Q => m_rowAt (d := d + 10) (by omega) hr Q
    have e7 : ∀ (v : Int64) (r : Nat), r < 7 → ∀ Q, WP sc (d + 11) 157 0 [(0, .inr (.inl x)), (1, .inr (.inr v)), (3, .inl (250 + 129 * (7 * (n : Int) + (r : Int))))] [] h Q ↔ Q (some (.inr (.inr (mxs v (sr σ n r))))) h := fun v r hr Q => m_rowInto (d := d + 10) (n := n) (r := r) K H hn8 hr rfl Q
    have e8 : ∀ Q, WP sc (d + 11) 99 0 [(0, .inl (n : Int))] [] h Q ↔ Q (some (.inl (10 + 30 * (n : Int)))) h := fun Q => m_at (d := d + 10) (by omega) Q
    have l3 : ∀ (t j : Nat), t = 10 - j → j ≤ 10 → (WP sc (d + 12) 156 72 [(0, .inr (.inl x)), (1, .inr (.inr (mxr (sFact σ n) w j))), (3, .inl (n : Int)), (4, .inl (j : Int))] [] h Q ↔ WP sc (d + 12) 156 103 [(0, .inr (.inl x)), (1, .inr (.inr (mxr (sFact σ n) w 10))), (3, .inl (n : Int)), (4, .inl 0)] [] h Q) := by
      intro t
      induction t with
      | zero =>
        intro j ht hj
        have e : j = 10 := by omega
        subst e
        rw [u156_72]
        simp (disch := omega) only [u156_0, u156_3, u156_4, u156_5, u156_7, u156_8, u156_11, u156_14, u156_15, u156_16, u156_17, u156_18, u156_21, u156_22, u156_23, u156_24, u156_27, u156_30, u156_31, u156_33, u156_35, u156_38, u156_41, u156_42, u156_43, u156_44, u156_45, u156_48, u156_49, u156_50, u156_51, u156_54, u156_57, u156_58, u156_60, u156_61, u156_64, u156_65, u156_66, u156_69, u156_70, u156_74, u156_76, u156_79, u156_82, u156_83, u156_84, u156_85, u156_86, u156_88, u156_91, u156_92, u156_93, u156_94, u156_97, u156_100, u156_101, u156_105, u156_106, u156_107, u156_110, u156_113, u156_114, u156_115, u156_116, u156_118, u156_121, u156_124, u156_125, u156_128, u156_131, u156_132, u156_136, u156_137, u156_140, u156_141, u156_142, u156_145, u156_146, u156_149, u156_152, u156_153, u156_154, u156_155, u156_158, u156_159, u156_162, u156_164, u156_165, u156_167, u156_168, u156_169, u156_170, u156_171, u156_172, u156_175, u156_178, u156_179, u156_183, u156_185, u156_188, u156_189, u156_190, u156_193, u156_194, u156_197, u156_198, u156_199, u156_200, u156_202, u156_205, u156_208, u156_209, u156_212, u156_215, u156_218, u156_221, u156_222, wr_id, rng, rngp, if_pos, if_neg, if_true, if_false, reduceCtorEq, true_and, and_true, and_self, Option.toList_some, Option.toList_none, List.cons_append, List.nil_append, Int.toNat_natCast]
      | succ t ih =>
        intro j ht hj
        rw [← ih (j + 1) (by omega) (by omega), u156_72]
        simp (disch := omega) only [u156_0, u156_3, u156_4, u156_5, u156_7, u156_8, u156_11, u156_14, u156_15, u156_16, u156_17, u156_18, u156_21, u156_22, u156_23, u156_24, u156_27, u156_30, u156_31, u156_33, u156_35, u156_38, u156_41, u156_42, u156_43, u156_44, u156_45, u156_48, u156_49, u156_50, u156_51, u156_54, u156_57, u156_58, u156_60, u156_61, u156_64, u156_65, u156_66, u156_69, u156_70, u156_74, u156_76, u156_79, u156_82, u156_83, u156_84, u156_85, u156_86, u156_88, u156_91, u156_92, u156_93, u156_94, u156_97, u156_100, u156_101, u156_105, u156_106, u156_107, u156_110, u156_113, u156_114, u156_115, u156_116, u156_118, u156_121, u156_124, u156_125, u156_128, u156_131, u156_132, u156_136, u156_137, u156_140, u156_141, u156_142, u156_145, u156_146, u156_149, u156_152, u156_153, u156_154, u156_155, u156_158, u156_159, u156_162, u156_164, u156_165, u156_167, u156_168, u156_169, u156_170, u156_171, u156_172, u156_175, u156_178, u156_179, u156_183, u156_185, u156_188, u156_189, u156_190, u156_193, u156_194, u156_197, u156_198, u156_199, u156_200, u156_202, u156_205, u156_208, u156_209, u156_212, u156_215, u156_218, u156_221, u156_222, k0, e3, wr_id, rng, rngp, if_pos, if_neg, if_true, if_false, reduceCtorEq, true_and, and_true, and_self, Option.toList_some, Option.toList_none, List.cons_append, List.nil_append, Int.toNat_natCast]
        rw [show (j : Int) + 1 = ((j + 1 : Nat) : Int) by omega]
        rfl
    have b1 : ∀ (i : Nat) (v : Int64), i < nin (sf σ n 0) → (WP sc (d + 12) 156 103 [(0, .inr (.inl x)), (1, .inr (.inr v)), (3, .inl (n : Int)), (4, .inl (i : Int))] [] h Q ↔ WP sc (d + 12) 156 103 [(0, .inr (.inl x)), (1, .inr (.inr (mxs v (sr σ n i)))), (3, .inl (n : Int)), (4, .inl ((i + 1 : Nat) : Int))] [] h Q) := by
      intro i v hi
      have := nin_c (sf σ n 0)
      rw [u156_103]
      simp (disch := omega) only [u156_0, u156_3, u156_4, u156_5, u156_7, u156_8, u156_11, u156_14, u156_15, u156_16, u156_17, u156_18, u156_21, u156_22, u156_23, u156_24, u156_27, u156_30, u156_31, u156_33, u156_35, u156_38, u156_41, u156_42, u156_43, u156_44, u156_45, u156_48, u156_49, u156_50, u156_51, u156_54, u156_57, u156_58, u156_60, u156_61, u156_64, u156_65, u156_66, u156_69, u156_70, u156_74, u156_76, u156_79, u156_82, u156_83, u156_84, u156_85, u156_86, u156_88, u156_91, u156_92, u156_93, u156_94, u156_97, u156_100, u156_101, u156_105, u156_106, u156_107, u156_110, u156_113, u156_114, u156_115, u156_116, u156_118, u156_121, u156_124, u156_125, u156_128, u156_131, u156_132, u156_136, u156_137, u156_140, u156_141, u156_142, u156_145, u156_146, u156_149, u156_152, u156_153, u156_154, u156_155, u156_158, u156_159, u156_162, u156_164, u156_165, u156_167, u156_168, u156_169, u156_170, u156_171, u156_172, u156_175, u156_178, u156_179, u156_183, u156_185, u156_188, u156_189, u156_190, u156_193, u156_194, u156_197, u156_198, u156_199, u156_200, u156_202, u156_205, u156_208, u156_209, u156_212, u156_215, u156_218, u156_221, u156_222, k0, e4, e6, e7, wr_id, rng, rngp, if_pos, if_neg, if_true, if_false, reduceCtorEq, true_and, and_true, and_self, Option.toList_some, Option.toList_none, List.cons_append, List.nil_append, Int.toNat_natCast]
      rw [show (i : Int) + 1 = ((i + 1 : Nat) : Int) by omega]
    have b2 : ∀ (v : Int64), (WP sc (d + 12) 156 103 [(0, .inr (.inl x)), (1, .inr (.inr v)), (3, .inl (n : Int)), (4, .inl ((nin (sf σ n 0) : Nat) : Int))] [] h Q ↔ WP sc (d + 12) 156 134 [(0, .inr (.inl x)), (1, .inr (.inr v)), (3, .inl (n : Int)), (4, .inl 0)] [] h Q) := by
      intro v
      rw [u156_103]
      simp (disch := omega) only [u156_0, u156_3, u156_4, u156_5, u156_7, u156_8, u156_11, u156_14, u156_15, u156_16, u156_17, u156_18, u156_21, u156_22, u156_23, u156_24, u156_27, u156_30, u156_31, u156_33, u156_35, u156_38, u156_41, u156_42, u156_43, u156_44, u156_45, u156_48, u156_49, u156_50, u156_51, u156_54, u156_57, u156_58, u156_60, u156_61, u156_64, u156_65, u156_66, u156_69, u156_70, u156_74, u156_76, u156_79, u156_82, u156_83, u156_84, u156_85, u156_86, u156_88, u156_91, u156_92, u156_93, u156_94, u156_97, u156_100, u156_101, u156_105, u156_106, u156_107, u156_110, u156_113, u156_114, u156_115, u156_116, u156_118, u156_121, u156_124, u156_125, u156_128, u156_131, u156_132, u156_136, u156_137, u156_140, u156_141, u156_142, u156_145, u156_146, u156_149, u156_152, u156_153, u156_154, u156_155, u156_158, u156_159, u156_162, u156_164, u156_165, u156_167, u156_168, u156_169, u156_170, u156_171, u156_172, u156_175, u156_178, u156_179, u156_183, u156_185, u156_188, u156_189, u156_190, u156_193, u156_194, u156_197, u156_198, u156_199, u156_200, u156_202, u156_205, u156_208, u156_209, u156_212, u156_215, u156_218, u156_221, u156_222, k0, e4, wr_id, rng, rngp, if_pos, if_neg, if_true, if_false, reduceCtorEq, true_and, and_true, and_self, Option.toList_some, Option.toList_none, List.cons_append, List.nil_append, Int.toNat_natCast]
    have l4 : ∀ (v : Int64), (WP sc (d + 12) 156 103 [(0, .inr (.inl x)), (1, .inr (.inr v)), (3, .inl (n : Int)), (4, .inl 0)] [] h Q ↔ WP sc (d + 12) 156 134 [(0, .inr (.inl x)), (1, .inr (.inr (dgR σ n v))), (3, .inl (n : Int)), (4, .inl 0)] [] h Q) := by
      intro v
      unfold dgR
      rcases nin_c (sf σ n 0) with c | c | c
      · rw [if_pos c, ← b2, c]; rfl
      · rw [if_neg (by omega), if_pos c, ← b2, c]
        exact b1 0 v (by omega)
      · rw [if_neg (by omega), if_neg (by omega), ← b2, c]
        exact (b1 0 v (by omega)).trans (b1 1 _ (by omega))
    have l5 : ∀ (v : Int64), (WP sc (d + 12) 156 134 [(0, .inr (.inl x)), (1, .inr (.inr v)), (3, .inl (n : Int)), (4, .inl 0)] [] h Q ↔ WP sc (d + 12) 156 181 [(0, .inr (.inl x)), (1, .inr (.inr (dgT σ n v))), (3, .inl (n : Int)), (4, .inl 4)] [] h Q) := by
      intro v
      unfold dgT
      by_cases c : sf σ n 0 = 3
      · rw [if_pos c]
        have lp : ∀ (t j : Nat), t = 4 - j → j ≤ 4 → (WP sc (d + 12) 156 134 [(0, .inr (.inl x)), (1, .inr (.inr (mxr (fun j => sf σ n (10 + j)) v j))), (3, .inl (n : Int)), (4, .inl (j : Int))] [] h Q ↔ WP sc (d + 12) 156 181 [(0, .inr (.inl x)), (1, .inr (.inr (mxr (fun j => sf σ n (10 + j)) v 4))), (3, .inl (n : Int)), (4, .inl 4)] [] h Q) := by
          intro t
          induction t with
          | zero =>
            intro j ht hj
            have e : j = 4 := by omega
            subst e
            rw [u156_134]
            simp (disch := omega) only [u156_0, u156_3, u156_4, u156_5, u156_7, u156_8, u156_11, u156_14, u156_15, u156_16, u156_17, u156_18, u156_21, u156_22, u156_23, u156_24, u156_27, u156_30, u156_31, u156_33, u156_35, u156_38, u156_41, u156_42, u156_43, u156_44, u156_45, u156_48, u156_49, u156_50, u156_51, u156_54, u156_57, u156_58, u156_60, u156_61, u156_64, u156_65, u156_66, u156_69, u156_70, u156_74, u156_76, u156_79, u156_82, u156_83, u156_84, u156_85, u156_86, u156_88, u156_91, u156_92, u156_93, u156_94, u156_97, u156_100, u156_101, u156_105, u156_106, u156_107, u156_110, u156_113, u156_114, u156_115, u156_116, u156_118, u156_121, u156_124, u156_125, u156_128, u156_131, u156_132, u156_136, u156_137, u156_140, u156_141, u156_142, u156_145, u156_146, u156_149, u156_152, u156_153, u156_154, u156_155, u156_158, u156_159, u156_162, u156_164, u156_165, u156_167, u156_168, u156_169, u156_170, u156_171, u156_172, u156_175, u156_178, u156_179, u156_183, u156_185, u156_188, u156_189, u156_190, u156_193, u156_194, u156_197, u156_198, u156_199, u156_200, u156_202, u156_205, u156_208, u156_209, u156_212, u156_215, u156_218, u156_221, u156_222, wr_id, rng, rngp, if_pos, if_neg, if_true, if_false, reduceCtorEq, true_and, and_true, and_self, Option.toList_some, Option.toList_none, List.cons_append, List.nil_append, Int.toNat_natCast]
          | succ t ih =>
            intro j ht hj
            have fk := H.f (i := 10 + 30 * (n : Int) + 10 + (j : Int)) (n := n) (k := 10 + j) hn8 (by omega) (by omega) (by omega)
            rw [← ih (j + 1) (by omega) (by omega), u156_134]
            simp (disch := omega) only [u156_0, u156_3, u156_4, u156_5, u156_7, u156_8, u156_11, u156_14, u156_15, u156_16, u156_17, u156_18, u156_21, u156_22, u156_23, u156_24, u156_27, u156_30, u156_31, u156_33, u156_35, u156_38, u156_41, u156_42, u156_43, u156_44, u156_45, u156_48, u156_49, u156_50, u156_51, u156_54, u156_57, u156_58, u156_60, u156_61, u156_64, u156_65, u156_66, u156_69, u156_70, u156_74, u156_76, u156_79, u156_82, u156_83, u156_84, u156_85, u156_86, u156_88, u156_91, u156_92, u156_93, u156_94, u156_97, u156_100, u156_101, u156_105, u156_106, u156_107, u156_110, u156_113, u156_114, u156_115, u156_116, u156_118, u156_121, u156_124, u156_125, u156_128, u156_131, u156_132, u156_136, u156_137, u156_140, u156_141, u156_142, u156_145, u156_146, u156_149, u156_152, u156_153, u156_154, u156_155, u156_158, u156_159, u156_162, u156_164, u156_165, u156_167, u156_168, u156_169, u156_170, u156_171, u156_172, u156_175, u156_178, u156_179, u156_183, u156_185, u156_188, u156_189, u156_190, u156_193, u156_194, u156_197, u156_198, u156_199, u156_200, u156_202, u156_205, u156_208, u156_209, u156_212, u156_215, u156_218, u156_221, u156_222, k0, k1, k2, e5, e8, c, fk, wr_id, rng, rngp, if_pos, if_neg, if_true, if_false, reduceCtorEq, true_and, and_true, and_self, Option.toList_some, Option.toList_none, List.cons_append, List.nil_append, Int.toNat_natCast]
            rw [show (j : Int) + 1 = ((j + 1 : Nat) : Int) by omega]
            rfl
        exact lp _ 0 rfl (by omega)
      · rw [if_neg c, u156_134]
        simp (disch := omega) only [u156_0, u156_3, u156_4, u156_5, u156_7, u156_8, u156_11, u156_14, u156_15, u156_16, u156_17, u156_18, u156_21, u156_22, u156_23, u156_24, u156_27, u156_30, u156_31, u156_33, u156_35, u156_38, u156_41, u156_42, u156_43, u156_44, u156_45, u156_48, u156_49, u156_50, u156_51, u156_54, u156_57, u156_58, u156_60, u156_61, u156_64, u156_65, u156_66, u156_69, u156_70, u156_74, u156_76, u156_79, u156_82, u156_83, u156_84, u156_85, u156_86, u156_88, u156_91, u156_92, u156_93, u156_94, u156_97, u156_100, u156_101, u156_105, u156_106, u156_107, u156_110, u156_113, u156_114, u156_115, u156_116, u156_118, u156_121, u156_124, u156_125, u156_128, u156_131, u156_132, u156_136, u156_137, u156_140, u156_141, u156_142, u156_145, u156_146, u156_149, u156_152, u156_153, u156_154, u156_155, u156_158, u156_159, u156_162, u156_164, u156_165, u156_167, u156_168, u156_169, u156_170, u156_171, u156_172, u156_175, u156_178, u156_179, u156_183, u156_185, u156_188, u156_189, u156_190, u156_193, u156_194, u156_197, u156_198, u156_199, u156_200, u156_202, u156_205, u156_208, u156_209, u156_212, u156_215, u156_218, u156_221, u156_222, k0, e5, c, wr_id, rng, rngp, if_pos, if_neg, if_true, if_false, reduceCtorEq, true_and, and_true, and_self, Option.toList_some, Option.toList_none, List.cons_append, List.nil_append, Int.toNat_natCast]
    have l6 : ∀ (v : Int64), (WP sc (d + 12) 156 181 [(0, .inr (.inl x)), (1, .inr (.inr v)), (3, .inl (n : Int)), (4, .inl 4)] [] h Q ↔ WP sc (d + 12) 156 59 [(0, .inr (.inl x)), (1, .inr (.inr (dgS σ n v))), (3, .inl ((n + 1 : Nat) : Int))] [] h Q) := by
      intro v
      unfold dgS
      by_cases c : sf σ n 0 = 5
      · rw [if_pos c]
        have st : ∀ (r : Nat) (v : Int64), 4 ≤ r → r < 7 → (WP sc (d + 12) 156 181 [(0, .inr (.inl x)), (1, .inr (.inr v)), (3, .inl (n : Int)), (4, .inl (r : Int))] [] h Q ↔ WP sc (d + 12) 156 181 [(0, .inr (.inl x)), (1, .inr (.inr (mxs v (sr σ n r)))), (3, .inl (n : Int)), (4, .inl ((r + 1 : Nat) : Int))] [] h Q) := by
          intro r v h4 h7
          rw [u156_181]
          simp (disch := omega) only [u156_0, u156_3, u156_4, u156_5, u156_7, u156_8, u156_11, u156_14, u156_15, u156_16, u156_17, u156_18, u156_21, u156_22, u156_23, u156_24, u156_27, u156_30, u156_31, u156_33, u156_35, u156_38, u156_41, u156_42, u156_43, u156_44, u156_45, u156_48, u156_49, u156_50, u156_51, u156_54, u156_57, u156_58, u156_60, u156_61, u156_64, u156_65, u156_66, u156_69, u156_70, u156_74, u156_76, u156_79, u156_82, u156_83, u156_84, u156_85, u156_86, u156_88, u156_91, u156_92, u156_93, u156_94, u156_97, u156_100, u156_101, u156_105, u156_106, u156_107, u156_110, u156_113, u156_114, u156_115, u156_116, u156_118, u156_121, u156_124, u156_125, u156_128, u156_131, u156_132, u156_136, u156_137, u156_140, u156_141, u156_142, u156_145, u156_146, u156_149, u156_152, u156_153, u156_154, u156_155, u156_158, u156_159, u156_162, u156_164, u156_165, u156_167, u156_168, u156_169, u156_170, u156_171, u156_172, u156_175, u156_178, u156_179, u156_183, u156_185, u156_188, u156_189, u156_190, u156_193, u156_194, u156_197, u156_198, u156_199, u156_200, u156_202, u156_205, u156_208, u156_209, u156_212, u156_215, u156_218, u156_221, u156_222, k0, e5, e6, e7, c, wr_id, rng, rngp, if_pos, if_neg, if_true, if_false, reduceCtorEq, true_and, and_true, and_self, Option.toList_some, Option.toList_none, List.cons_append, List.nil_append, Int.toNat_natCast]
          rw [show (r : Int) + 1 = ((r + 1 : Nat) : Int) by omega]
        have en : ∀ (v : Int64), (WP sc (d + 12) 156 181 [(0, .inr (.inl x)), (1, .inr (.inr v)), (3, .inl (n : Int)), (4, .inl 7)] [] h Q ↔ WP sc (d + 12) 156 59 [(0, .inr (.inl x)), (1, .inr (.inr v)), (3, .inl ((n + 1 : Nat) : Int))] [] h Q) := by
          intro v
          rw [u156_181]
          simp (disch := omega) only [u156_0, u156_3, u156_4, u156_5, u156_7, u156_8, u156_11, u156_14, u156_15, u156_16, u156_17, u156_18, u156_21, u156_22, u156_23, u156_24, u156_27, u156_30, u156_31, u156_33, u156_35, u156_38, u156_41, u156_42, u156_43, u156_44, u156_45, u156_48, u156_49, u156_50, u156_51, u156_54, u156_57, u156_58, u156_60, u156_61, u156_64, u156_65, u156_66, u156_69, u156_70, u156_74, u156_76, u156_79, u156_82, u156_83, u156_84, u156_85, u156_86, u156_88, u156_91, u156_92, u156_93, u156_94, u156_97, u156_100, u156_101, u156_105, u156_106, u156_107, u156_110, u156_113, u156_114, u156_115, u156_116, u156_118, u156_121, u156_124, u156_125, u156_128, u156_131, u156_132, u156_136, u156_137, u156_140, u156_141, u156_142, u156_145, u156_146, u156_149, u156_152, u156_153, u156_154, u156_155, u156_158, u156_159, u156_162, u156_164, u156_165, u156_167, u156_168, u156_169, u156_170, u156_171, u156_172, u156_175, u156_178, u156_179, u156_183, u156_185, u156_188, u156_189, u156_190, u156_193, u156_194, u156_197, u156_198, u156_199, u156_200, u156_202, u156_205, u156_208, u156_209, u156_212, u156_215, u156_218, u156_221, u156_222, k0, e5, c, wr_id, rng, rngp, if_pos, if_neg, if_true, if_false, reduceCtorEq, true_and, and_true, and_self, Option.toList_some, Option.toList_none, List.cons_append, List.nil_append, Int.toNat_natCast]
          rw [show (n : Int) + 1 = ((n + 1 : Nat) : Int) by omega]
        exact (((st 4 v (by omega) (by omega)).trans (st 5 _ (by omega) (by omega))).trans (st 6 _ (by omega) (by omega))).trans (en _)
      · rw [if_neg c, u156_181]
        simp (disch := omega) only [u156_0, u156_3, u156_4, u156_5, u156_7, u156_8, u156_11, u156_14, u156_15, u156_16, u156_17, u156_18, u156_21, u156_22, u156_23, u156_24, u156_27, u156_30, u156_31, u156_33, u156_35, u156_38, u156_41, u156_42, u156_43, u156_44, u156_45, u156_48, u156_49, u156_50, u156_51, u156_54, u156_57, u156_58, u156_60, u156_61, u156_64, u156_65, u156_66, u156_69, u156_70, u156_74, u156_76, u156_79, u156_82, u156_83, u156_84, u156_85, u156_86, u156_88, u156_91, u156_92, u156_93, u156_94, u156_97, u156_100, u156_101, u156_105, u156_106, u156_107, u156_110, u156_113, u156_114, u156_115, u156_116, u156_118, u156_121, u156_124, u156_125, u156_128, u156_131, u156_132, u156_136, u156_137, u156_140, u156_141, u156_142, u156_145, u156_146, u156_149, u156_152, u156_153, u156_154, u156_155, u156_158, u156_159, u156_162, u156_164, u156_165, u156_167, u156_168, u156_169, u156_170, u156_171, u156_172, u156_175, u156_178, u156_179, u156_183, u156_185, u156_188, u156_189, u156_190, u156_193, u156_194, u156_197, u156_198, u156_199, u156_200, u156_202, u156_205, u156_208, u156_209, u156_212, u156_215, u156_218, u156_221, u156_222, k0, e5, c, wr_id, rng, rngp, if_pos, if_neg, if_true, if_false, reduceCtorEq, true_and, and_true, and_self, Option.toList_some, Option.toList_none, List.cons_append, List.nil_append, Int.toNat_natCast]
        rw [show (n : Int) + 1 = ((n + 1 : Nat) : Int) by omega]
    rw [u156_59]
    simp (disch := omega) only [u156_0, u156_3, u156_4, u156_5, u156_7, u156_8, u156_11, u156_14, u156_15, u156_16, u156_17, u156_18, u156_21, u156_22, u156_23, u156_24, u156_27, u156_30, u156_31, u156_33, u156_35, u156_38, u156_41, u156_42, u156_43, u156_44, u156_45, u156_48, u156_49, u156_50, u156_51, u156_54, u156_57, u156_58, u156_60, u156_61, u156_64, u156_65, u156_66, u156_69, u156_70, u156_74, u156_76, u156_79, u156_82, u156_83, u156_84, u156_85, u156_86, u156_88, u156_91, u156_92, u156_93, u156_94, u156_97, u156_100, u156_101, u156_105, u156_106, u156_107, u156_110, u156_113, u156_114, u156_115, u156_116, u156_118, u156_121, u156_124, u156_125, u156_128, u156_131, u156_132, u156_136, u156_137, u156_140, u156_141, u156_142, u156_145, u156_146, u156_149, u156_152, u156_153, u156_154, u156_155, u156_158, u156_159, u156_162, u156_164, u156_165, u156_167, u156_168, u156_169, u156_170, u156_171, u156_172, u156_175, u156_178, u156_179, u156_183, u156_185, u156_188, u156_189, u156_190, u156_193, u156_194, u156_197, u156_198, u156_199, u156_200, u156_202, u156_205, u156_208, u156_209, u156_212, u156_215, u156_218, u156_221, u156_222, k0, k1, k2, g0, wr_id, rng, rngp, if_pos, if_neg, if_true, if_false, reduceCtorEq, true_and, and_true, and_self, Option.toList_some, Option.toList_none, List.cons_append, List.nil_append, Int.toNat_natCast]
    exact (((l3 _ 0 rfl (by omega)).trans (l4 _)).trans (l5 _)).trans (l6 _)
  have l7 : ∀ (w : Int64) (t n : Nat), t = sN σ - n → n ≤ sN σ → (WP sc (d + 12) 156 59 [(0, .inr (.inl x)), (1, .inr (.inr (dgA σ w n))), (3, .inl (n : Int))] [] h Q ↔ Q (some (.inr (.inr (dgA σ w (sN σ))))) h) := by
    intro w t
    induction t with
    | zero =>
      intro n ht hn
      have e : n = sN σ := by omega
      subst e
      rw [u156_59]
      simp (disch := omega) only [u156_0, u156_3, u156_4, u156_5, u156_7, u156_8, u156_11, u156_14, u156_15, u156_16, u156_17, u156_18, u156_21, u156_22, u156_23, u156_24, u156_27, u156_30, u156_31, u156_33, u156_35, u156_38, u156_41, u156_42, u156_43, u156_44, u156_45, u156_48, u156_49, u156_50, u156_51, u156_54, u156_57, u156_58, u156_60, u156_61, u156_64, u156_65, u156_66, u156_69, u156_70, u156_74, u156_76, u156_79, u156_82, u156_83, u156_84, u156_85, u156_86, u156_88, u156_91, u156_92, u156_93, u156_94, u156_97, u156_100, u156_101, u156_105, u156_106, u156_107, u156_110, u156_113, u156_114, u156_115, u156_116, u156_118, u156_121, u156_124, u156_125, u156_128, u156_131, u156_132, u156_136, u156_137, u156_140, u156_141, u156_142, u156_145, u156_146, u156_149, u156_152, u156_153, u156_154, u156_155, u156_158, u156_159, u156_162, u156_164, u156_165, u156_167, u156_168, u156_169, u156_170, u156_171, u156_172, u156_175, u156_178, u156_179, u156_183, u156_185, u156_188, u156_189, u156_190, u156_193, u156_194, u156_197, u156_198, u156_199, u156_200, u156_202, u156_205, u156_208, u156_209, u156_212, u156_215, u156_218, u156_221, u156_222, k0, k1, k2, g0, wr_id, rng, rngp, if_pos, if_neg, if_true, if_false, reduceCtorEq, true_and, and_true, and_self, Option.toList_some, Option.toList_none, List.cons_append, List.nil_append, Int.toNat_natCast]
    | succ t ih =>
      intro n ht hn
      rw [← ih (n + 1) (by omega) (by omega)]
      exact one n _ (by omega)
  have a1 := l1 (Int64.ofNat 2545) _ 0 rfl (by omega)
  have a2 := l2 (mxr (sToldF ps rf tx) (Int64.ofNat 2545) 5) _ 0 rfl (by omega)
  have a3 := l7 (mxr (sCount σ) (mxr (sToldF ps rf tx) (Int64.ofNat 2545) 5) 10) _ 0 rfl (by omega)
  refine Iff.trans ?_ ((a1.trans a2).trans a3)
  simp (disch := omega) only [u156_0, u156_3, u156_4, u156_5, u156_7, u156_8, u156_11, u156_14, u156_15, u156_16, u156_17, u156_18, u156_21, u156_22, u156_23, u156_24, u156_27, u156_30, u156_31, u156_33, u156_35, u156_38, u156_41, u156_42, u156_43, u156_44, u156_45, u156_48, u156_49, u156_50, u156_51, u156_54, u156_57, u156_58, u156_60, u156_61, u156_64, u156_65, u156_66, u156_69, u156_70, u156_74, u156_76, u156_79, u156_82, u156_83, u156_84, u156_85, u156_86, u156_88, u156_91, u156_92, u156_93, u156_94, u156_97, u156_100, u156_101, u156_105, u156_106, u156_107, u156_110, u156_113, u156_114, u156_115, u156_116, u156_118, u156_121, u156_124, u156_125, u156_128, u156_131, u156_132, u156_136, u156_137, u156_140, u156_141, u156_142, u156_145, u156_146, u156_149, u156_152, u156_153, u156_154, u156_155, u156_158, u156_159, u156_162, u156_164, u156_165, u156_167, u156_168, u156_169, u156_170, u156_171, u156_172, u156_175, u156_178, u156_179, u156_183, u156_185, u156_188, u156_189, u156_190, u156_193, u156_194, u156_197, u156_198, u156_199, u156_200, u156_202, u156_205, u156_208, u156_209, u156_212, u156_215, u156_218, u156_221, u156_222, wr_id, rng, rngp, if_pos, if_neg, if_true, if_false, reduceCtorEq, true_and, and_true, and_self, Option.toList_some, Option.toList_none, List.cons_append, List.nil_append, Int.toNat_natCast]
  rfl
