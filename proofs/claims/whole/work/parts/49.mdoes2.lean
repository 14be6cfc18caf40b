/-! orders are done -/
def ex1 (σ : sS) (o : Int × List Int) : Bool × sS :=
  if o.1 = 110 then (if whyN σ (o.2.getD 0 0) (o.2.getD 1 0) (o.2.getD 2 0) (o.2.getD 3 0) = 0 then (true, sNode σ (o.2.getD 0 0) (o.2.getD 1 0) (o.2.getD 2 0) (o.2.getD 3 0)) else (false, σ))
  else if o.1 = 115 then (if 1 ≤ o.2.getD 0 0 ∧ o.2.getD 0 0 ≤ 60 then (true, sSteps (o.2.getD 0 0).toNat σ) else (false, σ))
  else if o.1 = 109 then (if sg σ 4 = 1 then (false, σ) else (true, sMarks σ))
  else if o.1 = 102 then (true, sFails σ)
  else if o.1 = 97 then (if 0 ≤ o.2.getD 0 0 ∧ o.2.getD 0 0 ≤ 1 then (if sg σ 4 = 1 then (false, σ) else (true, ug σ 5 (o.2.getD 0 0))) else (false, σ))
  else (if 0 ≤ o.2.getD 0 0 ∧ o.2.getD 0 0 ≤ 30 then (true, ug σ 2 (o.2.getD 0 0)) else (false, σ))
def exe : List (Int × List Int) → sS → Int × sS
  | [], σ => (0, σ)
  | o :: os, σ => (bI (ex1 σ o).1 + (exe os (ex1 σ o).2).1, (exe os (ex1 σ o).2).2)
def pAll : Nat → List Int → Nat → Nat ⊕ List (Int × List Int)
  | 0, _, _ => .inr []
  | k + 1, tx, p => if skp tx p < tx.length then (if (pOrd tx (skp tx p)).1 = true then (match pAll k tx (pOrd tx (skp tx p)).2.1 with
    | .inl e => .inl e
    | .inr os => .inr ((tb tx (skp tx p), (pOrd tx (skp tx p)).2.2) :: os)) else .inl (pOrd tx (skp tx p)).2.1) else .inr []
def xDoes (s : SS) : Int × SS := if skp s.2.2.2 0 < s.2.2.2.length then (match pAll 121 s.2.2.2 0 with
  | .inl e => (-10 - (e : Int), s)
  | .inr os => ((exe os s.1).1, ((exe os s.1).2, sKp s.2.1 s.1, s.2.2.1, s.2.2.2))) else (-10 - (skp s.2.2.2 0 : Int), s)
theorem m_isDone {sc : av_S} {d : Nat} {h : av_H} {x : Nat} {σ : sS} {w : Int} {vs : List Int} {ms : List Bool} (K : MK h x) (H : MR h x σ) (ok : okW σ) (ha : arN w = some ms) (hl : vs.length = ms.length) (hv : ∀ j, j < vs.length → gI h (x + 5) j = vs.getD j 0) : ∃ h', (∀ Q, WP sc (d + 10) 151 0 [(0, .inr (.inl x)), (1, .inl w)] [] h Q ↔ Q (some (.inl (bI (ex1 σ (w, vs)).1))) h') ∧ MR h' x (ex1 σ (w, vs)).2 ∧ MF h h' x := by
  obtain ⟨o1, o2, o3, o4, o5, o6, o7⟩ := id ok
  obtain ⟨k0, ⟨k1, k2⟩, -, -, -, k7, k8⟩ := id K
  have g4 := H.g (i := 4) (k := 4) (by omega) rfl
  unfold ex1
  dsimp only
  by_cases c1 : w = 110
  · subst c1
    have ml : vs.length = 4 := by
      have : ms = [false, true, true, true] := by simp [arN] at ha; exact ha.symm
      rw [hl, this]; rfl
    rw [if_pos rfl]
    have v0 : gI h (x + 5) (Int.toNat 0) = vs.getD 0 0 := hv 0 (by omega)
    have v1 : gI h (x + 5) (Int.toNat 1) = vs.getD 1 0 := hv 1 (by omega)
    have v2 : gI h (x + 5) (Int.toNat 2) = vs.getD 2 0 := hv 2 (by omega)
    have v3 : gI h (x + 5) (Int.toNat 3) = vs.getD 3 0 := hv 3 (by omega)
    generalize vs.getD 0 0 = a0 at *
    generalize vs.getD 1 0 = a1 at *
    generalize vs.getD 2 0 = a2 at *
    generalize vs.getD 3 0 = a3 at *
    have wy : ∀ Q, WP sc (d + 9) 124 0 [(0, .inr (.inl x)), (1, .inl a0), (2, .inl a1), (3, .inl a2), (4, .inl a3)] [] h Q ↔ Q (some (.inl (whyN σ a0 a1 a2 a3))) h := fun Q => m_whyNode (d := d + 4) K H o1 Q
    by_cases c : whyN σ a0 a1 a2 a3 = 0
    · obtain ⟨h2, w2, H2, F2⟩ := m_comes (sc := sc) (d := d + 7) (kind := a0) (a := a1) (b := a2) (k := a3) K H ⟨o1.1, whyN_8 c o1.2⟩
      have w2' : ∀ Q, WP sc (d + 9) 125 0 [(0, .inr (.inl x)), (1, .inl a0), (2, .inl a1), (3, .inl a2), (4, .inl a3)] [] h Q ↔ Q (some (.inl (sg σ 0))) h2 := w2
      rw [if_pos c]
      rw [c] at wy
      refine ⟨h2, fun Q => ?_, H2, F2⟩
      simp (disch := omega) only [u151_0, u151_1, u151_4, u151_5, u151_6, u151_7, u151_8, u151_60, u151_61, u151_62, u151_63, u151_66, u151_67, u151_68, u151_69, u151_72, u151_73, u151_74, u151_75, u151_78, u151_79, u151_80, u151_83, u151_86, u151_87, u151_88, u151_89, u151_90, u151_91, u151_94, u151_95, u151_96, u151_97, u151_100, u151_101, u151_102, u151_103, u151_106, u151_107, u151_108, u151_111, u151_112, u151_113, u151_114, u151_115, u151_116, u151_118, u151_121, u151_124, u151_125, u151_126, u151_127, u151_128, u151_131, u151_132, u151_133, u151_134, u151_135, u151_138, u151_139, u151_140, u151_141, u151_144, u151_145, u151_146, u151_147, u151_150, u151_151, u151_152, u151_153, u151_154, u151_157, u151_158, u151_159, u151_160, u151_161, u151_162, u151_163, u151_166, u151_169, u151_170, u151_173, u151_174, u151_175, u151_176, u151_179, u151_180, u151_181, u151_182, u151_183, u151_184, u151_187, u151_188, u151_189, u151_190, u151_191, u151_192, u151_194, u151_197, u151_200, u151_201, u151_202, u151_203, u151_204, u151_205, u151_208, u151_209, u151_210, k0, k7, k8, v0, v1, v2, v3, wy, w2', bI_t, or_true, wr_id, rng, rngp, if_pos, if_neg, if_true, if_false, reduceCtorEq, true_and, and_true, and_self, Option.toList_some, Option.toList_none, List.cons_append, List.nil_append, Int.toNat_natCast]
    · rw [if_neg c]
      refine ⟨h, fun Q => ?_, H, MF.rf⟩
      simp (disch := omega) only [u151_0, u151_1, u151_4, u151_5, u151_6, u151_7, u151_8, u151_60, u151_61, u151_62, u151_63, u151_66, u151_67, u151_68, u151_69, u151_72, u151_73, u151_74, u151_75, u151_78, u151_79, u151_80, u151_83, u151_86, u151_87, u151_88, u151_89, u151_90, u151_91, u151_94, u151_95, u151_96, u151_97, u151_100, u151_101, u151_102, u151_103, u151_106, u151_107, u151_108, u151_111, u151_112, u151_113, u151_114, u151_115, u151_116, u151_118, u151_121, u151_124, u151_125, u151_126, u151_127, u151_128, u151_131, u151_132, u151_133, u151_134, u151_135, u151_138, u151_139, u151_140, u151_141, u151_144, u151_145, u151_146, u151_147, u151_150, u151_151, u151_152, u151_153, u151_154, u151_157, u151_158, u151_159, u151_160, u151_161, u151_162, u151_163, u151_166, u151_169, u151_170, u151_173, u151_174, u151_175, u151_176, u151_179, u151_180, u151_181, u151_182, u151_183, u151_184, u151_187, u151_188, u151_189, u151_190, u151_191, u151_192, u151_194, u151_197, u151_200, u151_201, u151_202, u151_203, u151_204, u151_205, u151_208, u151_209, u151_210, k0, k7, k8, v0, v1, v2, v3, wy, c, bI_f, true_or, wr_id, rng, rngp, if_pos, if_neg, if_true, if_false, reduceCtorEq, true_and, and_true, and_self, Option.toList_some, Option.toList_none, List.cons_append, List.nil_append, Int.toNat_natCast]
  · rw [if_neg c1]
    by_cases c9 : w = 109
    · subst c9
      rw [if_neg (by omega), if_pos rfl]
      by_cases c4 : sg σ 4 = 1
      · rw [if_pos c4]
        refine ⟨h, fun Q => ?_, H, MF.rf⟩
        simp (disch := omega) only [u151_0, u151_1, u151_4, u151_5, u151_6, u151_7, u151_8, u151_60, u151_61, u151_62, u151_63, u151_66, u151_67, u151_68, u151_69, u151_72, u151_73, u151_74, u151_75, u151_78, u151_79, u151_80, u151_83, u151_86, u151_87, u151_88, u151_89, u151_90, u151_91, u151_94, u151_95, u151_96, u151_97, u151_100, u151_101, u151_102, u151_103, u151_106, u151_107, u151_108, u151_111, u151_112, u151_113, u151_114, u151_115, u151_116, u151_118, u151_121, u151_124, u151_125, u151_126, u151_127, u151_128, u151_131, u151_132, u151_133, u151_134, u151_135, u151_138, u151_139, u151_140, u151_141, u151_144, u151_145, u151_146, u151_147, u151_150, u151_151, u151_152, u151_153, u151_154, u151_157, u151_158, u151_159, u151_160, u151_161, u151_162, u151_163, u151_166, u151_169, u151_170, u151_173, u151_174, u151_175, u151_176, u151_179, u151_180, u151_181, u151_182, u151_183, u151_184, u151_187, u151_188, u151_189, u151_190, u151_191, u151_192, u151_194, u151_197, u151_200, u151_201, u151_202, u151_203, u151_204, u151_205, u151_208, u151_209, u151_210, k0, k1, k2, k7, k8, g4, c4, bI_f, true_or, wr_id, rng, rngp, if_pos, if_neg, if_true, if_false, reduceCtorEq, true_and, and_true, and_self, Option.toList_some, Option.toList_none, List.cons_append, List.nil_append, Int.toNat_natCast]
      · rw [if_neg c4]
        obtain ⟨h2, w2, H2, F2⟩ := m_beginsOne (sc := sc) (d := d + 6) K H o1 o2 (by omega)
        have w2' : ∀ Q, WP sc (d + 9) 127 0 [(0, .inr (.inl x))] [] h Q ↔ Q (some (.inl (sg σ 3 + 1))) h2 := w2
        refine ⟨h2, fun Q => ?_, H2, F2⟩
        simp (disch := omega) only [u151_0, u151_1, u151_4, u151_5, u151_6, u151_7, u151_8, u151_60, u151_61, u151_62, u151_63, u151_66, u151_67, u151_68, u151_69, u151_72, u151_73, u151_74, u151_75, u151_78, u151_79, u151_80, u151_83, u151_86, u151_87, u151_88, u151_89, u151_90, u151_91, u151_94, u151_95, u151_96, u151_97, u151_100, u151_101, u151_102, u151_103, u151_106, u151_107, u151_108, u151_111, u151_112, u151_113, u151_114, u151_115, u151_116, u151_118, u151_121, u151_124, u151_125, u151_126, u151_127, u151_128, u151_131, u151_132, u151_133, u151_134, u151_135, u151_138, u151_139, u151_140, u151_141, u151_144, u151_145, u151_146, u151_147, u151_150, u151_151, u151_152, u151_153, u151_154, u151_157, u151_158, u151_159, u151_160, u151_161, u151_162, u151_163, u151_166, u151_169, u151_170, u151_173, u151_174, u151_175, u151_176, u151_179, u151_180, u151_181, u151_182, u151_183, u151_184, u151_187, u151_188, u151_189, u151_190, u151_191, u151_192, u151_194, u151_197, u151_200, u151_201, u151_202, u151_203, u151_204, u151_205, u151_208, u151_209, u151_210, k0, k1, k2, k7, k8, g4, c4, w2', bI_t, or_true, wr_id, rng, rngp, if_pos, if_neg, if_true, if_false, reduceCtorEq, true_and, and_true, and_self, Option.toList_some, Option.toList_none, List.cons_append, List.nil_append, Int.toNat_natCast]
    · by_cases c2 : w = 102
      · subst c2
        rw [if_neg (by omega), if_neg (by omega), if_pos rfl]
        obtain ⟨h2, w2, H2, F2⟩ := m_failsOnce (sc := sc) (d := d + 7) K H o1 o4 o5
        have w2' : ∀ Q, WP sc (d + 9) 128 0 [(0, .inr (.inl x))] [] h Q ↔ Q (some (.inl (sg σ 3))) h2 := w2
        refine ⟨h2, fun Q => ?_, H2, F2⟩
        simp (disch := omega) only [u151_0, u151_1, u151_4, u151_5, u151_6, u151_7, u151_8, u151_60, u151_61, u151_62, u151_63, u151_66, u151_67, u151_68, u151_69, u151_72, u151_73, u151_74, u151_75, u151_78, u151_79, u151_80, u151_83, u151_86, u151_87, u151_88, u151_89, u151_90, u151_91, u151_94, u151_95, u151_96, u151_97, u151_100, u151_101, u151_102, u151_103, u151_106, u151_107, u151_108, u151_111, u151_112, u151_113, u151_114, u151_115, u151_116, u151_118, u151_121, u151_124, u151_125, u151_126, u151_127, u151_128, u151_131, u151_132, u151_133, u151_134, u151_135, u151_138, u151_139, u151_140, u151_141, u151_144, u151_145, u151_146, u151_147, u151_150, u151_151, u151_152, u151_153, u151_154, u151_157, u151_158, u151_159, u151_160, u151_161, u151_162, u151_163, u151_166, u151_169, u151_170, u151_173, u151_174, u151_175, u151_176, u151_179, u151_180, u151_181, u151_182, u151_183, u151_184, u151_187, u151_188, u151_189, u151_190, u151_191, u151_192, u151_194, u151_197, u151_200, u151_201, u151_202, u151_203, u151_204, u151_205, u151_208, u151_209, u151_210, k0, k7, k8, w2', bI_t, or_true, wr_id, rng, rngp, if_pos, if_neg, if_true, if_false, reduceCtorEq, true_and, and_true, and_self, Option.toList_some, Option.toList_none, List.cons_append, List.nil_append, Int.toNat_natCast]
      · have cw : w = 115 ∨ w = 97 ∨ w = 108 := by
          unfold arN at ha
          rw [if_neg c1] at ha
          split at ha
          · next q => exact q
          · rw [if_neg (by omega)] at ha; simp at ha
        have ml : vs.length = 1 := by
          have : ms = [false] := by
            simp [arN, c1, cw] at ha
            exact ha.symm
          rw [hl, this]; rfl
        have v0 : gI h (x + 5) (Int.toNat 0) = vs.getD 0 0 := hv 0 (by omega)
        generalize vs.getD 0 0 = a0 at *
        by_cases c5 : w = 115
        · subst c5
          rw [if_pos rfl]
          by_cases c : 1 ≤ a0 ∧ a0 ≤ 60
          · rw [if_pos c]
            obtain ⟨h2, w2, H2, F2⟩ := m_goes (sc := sc) (d := d) (k := a0.toNat) K H (by omega) (fun j hj => o7 j (by omega))
            have w2' : ∀ Q, WP sc (d + 9) 126 0 [(0, .inr (.inl x)), (1, .inl a0)] [] h Q ↔ Q (some (.inl (sg (sSteps a0.toNat σ) 1))) h2 := by
              rw [show a0 = ((a0.toNat : Nat) : Int) by omega]; exact w2
            refine ⟨h2, fun Q => ?_, H2, F2⟩
            simp (disch := omega) only [u151_0, u151_1, u151_4, u151_5, u151_6, u151_7, u151_8, u151_60, u151_61, u151_62, u151_63, u151_66, u151_67, u151_68, u151_69, u151_72, u151_73, u151_74, u151_75, u151_78, u151_79, u151_80, u151_83, u151_86, u151_87, u151_88, u151_89, u151_90, u151_91, u151_94, u151_95, u151_96, u151_97, u151_100, u151_101, u151_102, u151_103, u151_106, u151_107, u151_108, u151_111, u151_112, u151_113, u151_114, u151_115, u151_116, u151_118, u151_121, u151_124, u151_125, u151_126, u151_127, u151_128, u151_131, u151_132, u151_133, u151_134, u151_135, u151_138, u151_139, u151_140, u151_141, u151_144, u151_145, u151_146, u151_147, u151_150, u151_151, u151_152, u151_153, u151_154, u151_157, u151_158, u151_159, u151_160, u151_161, u151_162, u151_163, u151_166, u151_169, u151_170, u151_173, u151_174, u151_175, u151_176, u151_179, u151_180, u151_181, u151_182, u151_183, u151_184, u151_187, u151_188, u151_189, u151_190, u151_191, u151_192, u151_194, u151_197, u151_200, u151_201, u151_202, u151_203, u151_204, u151_205, u151_208, u151_209, u151_210, k0, k7, k8, v0, m_in, c, w2', bI_t, or_true, wr_id, rng, rngp, if_pos, if_neg, if_true, if_false, reduceCtorEq, true_and, and_true, and_self, Option.toList_some, Option.toList_none, List.cons_append, List.nil_append, Int.toNat_natCast]
          · rw [if_neg c]
            refine ⟨h, fun Q => ?_, H, MF.rf⟩
            simp (disch := omega) only [u151_0, u151_1, u151_4, u151_5, u151_6, u151_7, u151_8, u151_60, u151_61, u151_62, u151_63, u151_66, u151_67, u151_68, u151_69, u151_72, u151_73, u151_74, u151_75, u151_78, u151_79, u151_80, u151_83, u151_86, u151_87, u151_88, u151_89, u151_90, u151_91, u151_94, u151_95, u151_96, u151_97, u151_100, u151_101, u151_102, u151_103, u151_106, u151_107, u151_108, u151_111, u151_112, u151_113, u151_114, u151_115, u151_116, u151_118, u151_121, u151_124, u151_125, u151_126, u151_127, u151_128, u151_131, u151_132, u151_133, u151_134, u151_135, u151_138, u151_139, u151_140, u151_141, u151_144, u151_145, u151_146, u151_147, u151_150, u151_151, u151_152, u151_153, u151_154, u151_157, u151_158, u151_159, u151_160, u151_161, u151_162, u151_163, u151_166, u151_169, u151_170, u151_173, u151_174, u151_175, u151_176, u151_179, u151_180, u151_181, u151_182, u151_183, u151_184, u151_187, u151_188, u151_189, u151_190, u151_191, u151_192, u151_194, u151_197, u151_200, u151_201, u151_202, u151_203, u151_204, u151_205, u151_208, u151_209, u151_210, k0, k7, k8, v0, m_in, c, bI_f, true_or, wr_id, rng, rngp, if_pos, if_neg, if_true, if_false, reduceCtorEq, true_and, and_true, and_self, Option.toList_some, Option.toList_none, List.cons_append, List.nil_append, Int.toNat_natCast]
        · rw [if_neg c5, if_neg c9, if_neg c2]
          by_cases c7 : w = 97
          · subst c7
            rw [if_pos rfl]
            by_cases c : 0 ≤ a0 ∧ a0 ≤ 1
            · rw [if_pos c]
              by_cases c4 : sg σ 4 = 1
              · rw [if_pos c4]
                refine ⟨h, fun Q => ?_, H, MF.rf⟩
                simp (disch := omega) only [u151_0, u151_1, u151_4, u151_5, u151_6, u151_7, u151_8, u151_60, u151_61, u151_62, u151_63, u151_66, u151_67, u151_68, u151_69, u151_72, u151_73, u151_74, u151_75, u151_78, u151_79, u151_80, u151_83, u151_86, u151_87, u151_88, u151_89, u151_90, u151_91, u151_94, u151_95, u151_96, u151_97, u151_100, u151_101, u151_102, u151_103, u151_106, u151_107, u151_108, u151_111, u151_112, u151_113, u151_114, u151_115, u151_116, u151_118, u151_121, u151_124, u151_125, u151_126, u151_127, u151_128, u151_131, u151_132, u151_133, u151_134, u151_135, u151_138, u151_139, u151_140, u151_141, u151_144, u151_145, u151_146, u151_147, u151_150, u151_151, u151_152, u151_153, u151_154, u151_157, u151_158, u151_159, u151_160, u151_161, u151_162, u151_163, u151_166, u151_169, u151_170, u151_173, u151_174, u151_175, u151_176, u151_179, u151_180, u151_181, u151_182, u151_183, u151_184, u151_187, u151_188, u151_189, u151_190, u151_191, u151_192, u151_194, u151_197, u151_200, u151_201, u151_202, u151_203, u151_204, u151_205, u151_208, u151_209, u151_210, k0, k1, k2, k7, k8, v0, m_in, c, g4, c4, bI_f, true_or, wr_id, rng, rngp, if_pos, if_neg, if_true, if_false, reduceCtorEq, true_and, and_true, and_self, Option.toList_some, Option.toList_none, List.cons_append, List.nil_append, Int.toNat_natCast]
              · rw [if_neg c4]
                obtain ⟨h2, w2, H2, F2⟩ := m_become (sc := sc) (d := d + 8) (k := 5) (v := a0) K H (by omega)
                have w2' : ∀ Q, WP sc (d + 9) 129 0 [(0, .inr (.inl x)), (1, .inl 5), (2, .inl a0)] [] h Q ↔ Q (some (.inl (sg σ 5))) h2 := w2
                refine ⟨h2, fun Q => ?_, H2, F2⟩
                simp (disch := omega) only [u151_0, u151_1, u151_4, u151_5, u151_6, u151_7, u151_8, u151_60, u151_61, u151_62, u151_63, u151_66, u151_67, u151_68, u151_69, u151_72, u151_73, u151_74, u151_75, u151_78, u151_79, u151_80, u151_83, u151_86, u151_87, u151_88, u151_89, u151_90, u151_91, u151_94, u151_95, u151_96, u151_97, u151_100, u151_101, u151_102, u151_103, u151_106, u151_107, u151_108, u151_111, u151_112, u151_113, u151_114, u151_115, u151_116, u151_118, u151_121, u151_124, u151_125, u151_126, u151_127, u151_128, u151_131, u151_132, u151_133, u151_134, u151_135, u151_138, u151_139, u151_140, u151_141, u151_144, u151_145, u151_146, u151_147, u151_150, u151_151, u151_152, u151_153, u151_154, u151_157, u151_158, u151_159, u151_160, u151_161, u151_162, u151_163, u151_166, u151_169, u151_170, u151_173, u151_174, u151_175, u151_176, u151_179, u151_180, u151_181, u151_182, u151_183, u151_184, u151_187, u151_188, u151_189, u151_190, u151_191, u151_192, u151_194, u151_197, u151_200, u151_201, u151_202, u151_203, u151_204, u151_205, u151_208, u151_209, u151_210, k0, k1, k2, k7, k8, v0, m_in, c, g4, c4, w2', bI_t, or_true, wr_id, rng, rngp, if_pos, if_neg, if_true, if_false, reduceCtorEq, true_and, and_true, and_self, Option.toList_some, Option.toList_none, List.cons_append, List.nil_append, Int.toNat_natCast]
            · rw [if_neg c]
              refine ⟨h, fun Q => ?_, H, MF.rf⟩
              simp (disch := omega) only [u151_0, u151_1, u151_4, u151_5, u151_6, u151_7, u151_8, u151_60, u151_61, u151_62, u151_63, u151_66, u151_67, u151_68, u151_69, u151_72, u151_73, u151_74, u151_75, u151_78, u151_79, u151_80, u151_83, u151_86, u151_87, u151_88, u151_89, u151_90, u151_91, u151_94, u151_95, u151_96, u151_97, u151_100, u151_101, u151_102, u151_103, u151_106, u151_107, u151_108, u151_111, u151_112, u151_113, u151_114, u151_115, u151_116, u151_118, u151_121, u151_124, u151_125, u151_126, u151_127, u151_128, u151_131, u151_132, u151_133, u151_134, u151_135, u151_138, u151_139, u151_140, u151_141, u151_144, u151_145, u151_146, u151_147, u151_150, u151_151, u151_152, u151_153, u151_154, u151_157, u151_158, u151_159, u151_160, u151_161, u151_162, u151_163, u151_166, u151_169, u151_170, u151_173, u151_174, u151_175, u151_176, u151_179, u151_180, u151_181, u151_182, u151_183, u151_184, u151_187, u151_188, u151_189, u151_190, u151_191, u151_192, u151_194, u151_197, u151_200, u151_201, u151_202, u151_203, u151_204, u151_205, u151_208, u151_209, u151_210, k0, k1, k2, k7, k8, v0, m_in, c, bI_f, true_or, wr_id, rng, rngp, if_pos, if_neg, if_true, if_false, reduceCtorEq, true_and, and_true, and_self, Option.toList_some, Option.toList_none, List.cons_append, List.nil_append, Int.toNat_natCast]
          · rw [if_neg c7]
            have c8 : w = 108 := by omega
            subst c8
            by_cases c : 0 ≤ a0 ∧ a0 ≤ 30
            · rw [if_pos c]
              obtain ⟨h2, w2, H2, F2⟩ := m_become (sc := sc) (d := d + 8) (k := 2) (v := a0) K H (by omega)
              have w2' : ∀ Q, WP sc (d + 9) 129 0 [(0, .inr (.inl x)), (1, .inl 2), (2, .inl a0)] [] h Q ↔ Q (some (.inl (sg σ 2))) h2 := w2
              refine ⟨h2, fun Q => ?_, H2, F2⟩
              simp (disch := omega) only [u151_0, u151_1, u151_4, u151_5, u151_6, u151_7, u151_8, u151_60, u151_61, u151_62, u151_63, u151_66, u151_67, u151_68, u151_69, u151_72, u151_73, u151_74, u151_75, u151_78, u151_79, u151_80, u151_83, u151_86, u151_87, u151_88, u151_89, u151_90, u151_91, u151_94, u151_95, u151_96, u151_97, u151_100, u151_101, u151_102, u151_103, u151_106, u151_107, u151_108, u151_111, u151_112, u151_113, u151_114, u151_115, u151_116, u151_118, u151_121, u151_124, u151_125, u151_126, u151_127, u151_128, u151_131, u151_132, u151_133, u151_134, u151_135, u151_138, u151_139, u151_140, u151_141, u151_144, u151_145, u151_146, u151_147, u151_150, u151_151, u151_152, u151_153, u151_154, u151_157, u151_158, u151_159, u151_160, u151_161, u151_162, u151_163, u151_166, u151_169, u151_170, u151_173, u151_174, u151_175, u151_176, u151_179, u151_180, u151_181, u151_182, u151_183, u151_184, u151_187, u151_188, u151_189, u151_190, u151_191, u151_192, u151_194, u151_197, u151_200, u151_201, u151_202, u151_203, u151_204, u151_205, u151_208, u151_209, u151_210, k0, k7, k8, v0, m_in, c, w2', bI_t, or_true, wr_id, rng, rngp, if_pos, if_neg, if_true, if_false, reduceCtorEq, true_and, and_true, and_self, Option.toList_some, Option.toList_none, List.cons_append, List.nil_append, Int.toNat_natCast]
            · rw [if_neg c]
              refine ⟨h, fun Q => ?_, H, MF.rf⟩
              simp (disch := omega) only [u151_0, u151_1, u151_4, u151_5, u151_6, u151_7, u151_8, u151_60, u151_61, u151_62, u151_63, u151_66, u151_67, u151_68, u151_69, u151_72, u151_73, u151_74, u151_75, u151_78, u151_79, u151_80, u151_83, u151_86, u151_87, u151_88, u151_89, u151_90, u151_91, u151_94, u151_95, u151_96, u151_97, u151_100, u151_101, u151_102, u151_103, u151_106, u151_107, u151_108, u151_111, u151_112, u151_113, u151_114, u151_115, u151_116, u151_118, u151_121, u151_124, u151_125, u151_126, u151_127, u151_128, u151_131, u151_132, u151_133, u151_134, u151_135, u151_138, u151_139, u151_140, u151_141, u151_144, u151_145, u151_146, u151_147, u151_150, u151_151, u151_152, u151_153, u151_154, u151_157, u151_158, u151_159, u151_160, u151_161, u151_162, u151_163, u151_166, u151_169, u151_170, u151_173, u151_174, u151_175, u151_176, u151_179, u151_180, u151_181, u151_182, u151_183, u151_184, u151_187, u151_188, u151_189, u151_190, u151_191, u151_192, u151_194, u151_197, u151_200, u151_201, u151_202, u151_203, u151_204, u151_205, u151_208, u151_209, u151_210, k0, k7, k8, v0, m_in, c, bI_f, true_or, wr_id, rng, rngp, if_pos, if_neg, if_true, if_false, reduceCtorEq, true_and, and_true, and_self, Option.toList_some, Option.toList_none, List.cons_append, List.nil_append, Int.toNat_natCast]
/-- also the works have changed -/
def MZ (h h' : av_H) (x : Nat) : Prop := h'.1 = h.1 ∧ h'.2.1 = h.2.1 ∧ h'.2.2.2 = h.2.2.2 ∧ ∀ a i, a ≠ x + 5 → a ≠ x + 1 → ¬ (a = x ∧ i = 6) → gI h' a i = gI h a i
theorem MZ.rf {h : av_H} {x : Nat} : MZ h h x := ⟨rfl, rfl, rfl, fun _ _ _ _ _ => rfl⟩
theorem MZ.tr {h h1 h2 : av_H} {x : Nat} (a : MZ h h1 x) (b : MZ h1 h2 x) : MZ h h2 x := ⟨b.1.trans a.1, b.2.1.trans a.2.1, b.2.2.1.trans a.2.2.1, fun q i e1 e2 e3 => (b.2.2.2 q i e1 e2 e3).trans (a.2.2.2 q i e1 e2 e3)⟩
theorem MX.mz {h h' : av_H} {x : Nat} (a : MX h h' x) : MZ h h' x := ⟨a.1, a.2.1, a.2.2.1, fun q i e1 _ e3 => a.2.2.2 q i e1 e3⟩
theorem MF.mz {h h' : av_H} {x : Nat} (a : MF h h' x) : MZ h h' x := ⟨a.1, a.2.1, a.2.2.1, fun q i _ e2 _ => a.gI e2 i⟩
theorem MZ.mg {h h' : av_H} {x : Nat} (a : MZ h h' x) : MG h h' x := ⟨a.1, a.2.1, a.2.2.1, fun q hq => by funext i; exact a.2.2.2 q i (by omega) (by omega) (by omega)⟩
theorem MT.mf {h h' : av_H} {x : Nat} {tx : List Int} {p : Nat} (T : MT h x tx p) (F : MF h h' x) : MT h' x tx p := by
  obtain ⟨K, a, b, c, e⟩ := T
  exact ⟨K.mf F, by rw [F.gI (by omega)]; exact a, b, fun i hi => by rw [F.gI (by omega)]; exact c i hi, by rw [F.gI (by omega)]; exact e⟩
theorem MR.mx {h h' : av_H} {x : Nat} {σ : sS} (H : MR h x σ) (X : MX h h' x) : MR h' x σ := MR_MV.mpr ((MR_MV.mp H).cg (fun k _ => X.2.2.2 _ _ (by omega) (by omega)))
theorem MS.mz {h h' : av_H} {x : Nat} {σ ρ : sS} {ps : List sS} {rf : Nat → Int} {tx : List Int} (S : MS h x σ ps rf tx) (F : MZ h h' x) (H : MR h' x ρ) : MS h' x ρ ps rf tx := by
  obtain ⟨K, _, ⟨s1, s2, s3⟩, r1, t1, t2, t3⟩ := S
  refine ⟨K.mg F.mg, H, ⟨by rw [F.2.2.2 _ _ (by omega) (by omega) (by omega)]; exact s1, s2, fun j hj => ?_⟩, fun k hk => by rw [F.2.2.2 _ _ (by omega) (by omega) (by omega)]; exact r1 k hk, by rw [F.2.2.2 _ _ (by omega) (by omega) (by omega)]; exact t1, t2, fun i hi => by rw [F.2.2.2 _ _ (by omega) (by omega) (by omega)]; exact t3 i hi⟩
  exact (s3 j hj).cg (fun k hk => F.2.2.2 _ _ (by omega) (by omega) (by omega))
theorem MS.mt {h : av_H} {x : Nat} {σ : sS} {ps : List sS} {rf : Nat → Int} {tx : List Int} (S : MS h x σ ps rf tx) : MT (sI h x 6 0) x tx 0 := by
  obtain ⟨K, _, _, _, t1, t2, t3⟩ := S
  exact ⟨K.mg (MX.p (z := 0)).mg, by rw [gI_sI_ne (by omega)]; exact t1, t2, fun i hi => by rw [gI_sI_nb (by omega)]; exact t3 i hi, gI_sI_eq rfl⟩
theorem pOrd_ar {tx : List Int} {p : Nat} (h : (pOrd tx p).1 = true) : ∃ ms, arN (tb tx p) = some ms ∧ (pOrd tx p).2.2.length = ms.length := by
  unfold pOrd at h ⊢
  split at h
  · simp at h
  · next ms e =>
    refine ⟨ms, e, ?_⟩
    split at h
    · next c =>
      split at h
      · next c2 =>
        simp only [e, c, c2, if_true]
        exact pNums_len ms _ c
      · simp at h
    · simp at h
