/-! the works of the class carry out (2) -/
def cry (σ : sS) (s p a b k : Int) : Int × sS := if s = 110 then (sg σ 0, sNode σ p a b k) else if s = 108 then (sg σ 2, ug σ 2 p) else if s = 115 then (sg (sSteps p.toNat σ) 1, sSteps p.toNat σ) else if s = 97 then (sg σ 5, ug σ 5 p) else if s = 109 then (sg σ 3 + 1, sMarks σ) else if s = 102 then (sg σ 3, sFails σ) else (-2, σ)
/-- what the class needs of the works -/
def okY (σ : sS) : Prop := okW σ ∧ (∀ j, j < 60 → okD (sSteps j σ)) ∧ (sg σ 5 = 0 ∨ sg σ 5 = 1) ∧ (∀ n, n < sN σ → (sf σ n 5 = 0 ∨ sf σ n 5 = 1) ∧ (sf σ n 9 = 0 ∨ sf σ n 9 = 1) ∧ (sg σ 4 ≠ 1 → sf σ n 9 = 0) ∧ (0 ≤ sf σ n 27 ∧ sf σ n 27 ≤ 1000)) ∧ sg σ 6 = sumN (fun n => sf σ n 27) (sN σ) ∧ sJoins σ ≤ 2 ∧ ∀ n, sN σ ≤ n → (∀ j, sf σ n j = 0) ∧ ∀ j, sr σ n j = []
theorem joins_nn (σ : sS) : 0 ≤ sJoins σ := (sumN_b (B := 1) (fun k _ => by show 0 ≤ (if sf σ k 0 = 4 then (1 : Int) else 0) ∧ (if sf σ k 0 = 4 then (1 : Int) else 0) ≤ 1; split <;> omega)).1
theorem w_carry {sc : av_S} {d : Nat} {h : av_H} {w : Nat} {σ : sS} {s p a b k : Int} (C : CW h w σ) (ok : okY σ) (hr : rfs σ s p a b k = 0) : ∃ h', (∀ Q, WP sc (d + 6) 57 0 [(0, .inr (.inl w)), (1, .inl s), (2, .inl p), (3, .inl a), (4, .inl b), (5, .inl k)] [] h Q ↔ Q (some (.inl (cry σ s p a b k).1)) h') ∧ CW h' w (cry σ s p a b k).2 ∧ Fr h h' w (w + 162) := by
  obtain ⟨⟨w0, w3, w4, w7, w26, w78, wt⟩, od, o5, on, o6, oj, of⟩ := id ok
  obtain ⟨⟨k0, -⟩, ⟨i1, i2, i3, i4, i5, i6, i7, i8, i9⟩, -⟩ := id C
  unfold rfs at hr
  unfold cry
  by_cases c1 : s = 110
  · rw [if_pos c1] at hr ⊢
    obtain ⟨h1, w1, C1, F1⟩ := w_addNode (sc := sc) (d := d + 1) (kind := p) (a := a) (b := b) (k := k) C (whyN_8 hr w0.2) ⟨joins_nn σ, by omega⟩ ⟨fun j _ => (of _ (Nat.le_refl _)).1 j, (of _ (Nat.le_refl _)).2⟩
    have w1' : ∀ Q, WP sc (d + 5) 58 0 [(0, .inr (.inl w)), (1, .inl p), (2, .inl a), (3, .inl b), (4, .inl k)] [] h Q ↔ Q (some (.inl (sg σ 0))) h1 := w1
    refine ⟨h1, fun Q => ?_, C1, F1⟩
    simp (disch := omega) only [u57_0, u57_1, u57_92, u57_93, u57_94, u57_95, u57_97, u57_99, u57_102, u57_103, u57_104, u57_105, u57_108, u57_109, u57_110, u57_111, u57_114, u57_115, u57_116, u57_117, u57_118, u57_121, u57_122, u57_125, u57_126, u57_129, u57_130, u57_131, u57_134, u57_135, u57_136, u57_139, u57_140, u57_142, c1, k0, w1', wr_id, rng, rngp, if_pos, if_neg, if_true, if_false, reduceCtorEq, true_and, and_true, and_self, Option.toList_some, Option.toList_none, List.cons_append, List.nil_append, Int.toNat_natCast]
  rw [if_neg c1] at hr ⊢
  by_cases c2 : s = 108
  · rw [if_pos c2] at hr ⊢
    have w59 : ∀ Q, WP sc (d + 5) 59 0 [(0, .inr (.inl w)), (1, .inl p)] [] h Q ↔ Q (some (.inl (sg σ 2))) (sI h w 4 p) := by
      intro Q
      simp (disch := omega) only [u59_0, u59_1, u59_4, u59_5, u59_6, u59_7, u59_10, u59_11, k0, i4, wr_id, rng, rngp, if_pos, if_neg, if_true, if_false, reduceCtorEq, true_and, and_true, and_self, Option.toList_some, Option.toList_none, List.cons_append, List.nil_append, Int.toNat_natCast]
    refine ⟨sI h w 4 p, fun Q => ?_, C.set (by omega), fr1.wd (Nat.le_refl _) (by omega)⟩
    simp (disch := omega) only [u57_0, u57_1, u57_92, u57_93, u57_94, u57_95, u57_97, u57_99, u57_102, u57_103, u57_104, u57_105, u57_108, u57_109, u57_110, u57_111, u57_114, u57_115, u57_116, u57_117, u57_118, u57_121, u57_122, u57_125, u57_126, u57_129, u57_130, u57_131, u57_134, u57_135, u57_136, u57_139, u57_140, u57_142, c2, k0, w59, wr_id, rng, rngp, if_pos, if_neg, if_true, if_false, reduceCtorEq, true_and, and_true, and_self, Option.toList_some, Option.toList_none, List.cons_append, List.nil_append, Int.toNat_natCast]
  rw [if_neg c2] at hr ⊢
  by_cases c3 : s = 115
  · rw [if_pos c3] at hr ⊢
    have hp : 1 ≤ p ∧ p ≤ 60 := by
      by_cases q : 1 ≤ p ∧ p ≤ 60
      · exact q
      · rw [if_neg q] at hr; omega
    obtain ⟨h1, w1, C1, F1⟩ := w_goOn (sc := sc) (d := d) (k := p.toNat) C (by omega) (fun j hj => ⟨wt j (by omega), od j (by omega)⟩)
    rw [show ((p.toNat : Nat) : Int) = p by omega] at w1
    refine ⟨h1, fun Q => ?_, C1, F1⟩
    simp (disch := omega) only [u57_0, u57_1, u57_92, u57_93, u57_94, u57_95, u57_97, u57_99, u57_102, u57_103, u57_104, u57_105, u57_108, u57_109, u57_110, u57_111, u57_114, u57_115, u57_116, u57_117, u57_118, u57_121, u57_122, u57_125, u57_126, u57_129, u57_130, u57_131, u57_134, u57_135, u57_136, u57_139, u57_140, u57_142, c3, k0, w1, wr_id, rng, rngp, if_pos, if_neg, if_true, if_false, reduceCtorEq, true_and, and_true, and_self, Option.toList_some, Option.toList_none, List.cons_append, List.nil_append, Int.toNat_natCast]
  rw [if_neg c3] at hr ⊢
  by_cases c4 : s = 97
  · rw [if_pos c4] at hr ⊢
    have hp : p = 0 ∨ p = 1 := by
      by_cases q : 0 ≤ p ∧ p ≤ 1
      · omega
      · rw [if_neg q] at hr; omega
    have w60 : ∀ Q, WP sc (d + 5) 60 0 [(0, .inr (.inl w)), (1, .inl p)] [] h Q ↔ Q (some (.inl (sg σ 5))) (sI h w 7 p) := by
      intro Q
      rcases o5 with o | o <;> rcases hp with q | q <;> simp (disch := omega) only [u60_0, u60_1, u60_4, u60_7, u60_8, u60_11, u60_12, u60_13, u60_14, u60_15, u60_18, u60_19, k0, i7, o, q, true_or, or_true, wr_id, rng, rngp, if_pos, if_neg, if_true, if_false, reduceCtorEq, true_and, and_true, and_self, Option.toList_some, Option.toList_none, List.cons_append, List.nil_append, Int.toNat_natCast]
    refine ⟨sI h w 7 p, fun Q => ?_, C.set (by omega), fr1.wd (Nat.le_refl _) (by omega)⟩
    rcases hp with q | q
    · rw [q] at w60
      rw [q]
      simp (disch := omega) only [u57_0, u57_1, u57_92, u57_93, u57_94, u57_95, u57_97, u57_99, u57_102, u57_103, u57_104, u57_105, u57_108, u57_109, u57_110, u57_111, u57_114, u57_115, u57_116, u57_117, u57_118, u57_121, u57_122, u57_125, u57_126, u57_129, u57_130, u57_131, u57_134, u57_135, u57_136, u57_139, u57_140, u57_142, c4, k0, w60, wr_id, rng, rngp, if_pos, if_neg, if_true, if_false, reduceCtorEq, true_and, and_true, and_self, Option.toList_some, Option.toList_none, List.cons_append, List.nil_append, Int.toNat_natCast]
    · rw [q] at w60
      rw [q]
      simp (disch := omega) only [u57_0, u57_1, u57_92, u57_93, u57_94, u57_95, u57_97, u57_99, u57_102, u57_103, u57_104, u57_105, u57_108, u57_109, u57_110, u57_111, u57_114, u57_115, u57_116, u57_117, u57_118, u57_121, u57_122, u57_125, u57_126, u57_129, u57_130, u57_131, u57_134, u57_135, u57_136, u57_139, u57_140, u57_142, c4, k0, w60, wr_id, rng, rngp, if_pos, if_neg, if_true, if_false, reduceCtorEq, true_and, and_true, and_self, Option.toList_some, Option.toList_none, List.cons_append, List.nil_append, Int.toNat_natCast]
  rw [if_neg c4] at hr ⊢
  by_cases c5 : s = 109
  · rw [if_pos c5] at hr ⊢
    obtain ⟨h1, w1, C1, F1⟩ := w_marks (sc := sc) (d := d + 4) C w3
    have w1' : ∀ Q, WP sc (d + 5) 61 0 [(0, .inr (.inl w))] [] h Q ↔ Q (some (.inl (sg σ 3 + 1))) h1 := w1
    refine ⟨h1, fun Q => ?_, C1, F1⟩
    simp (disch := omega) only [u57_0, u57_1, u57_92, u57_93, u57_94, u57_95, u57_97, u57_99, u57_102, u57_103, u57_104, u57_105, u57_108, u57_109, u57_110, u57_111, u57_114, u57_115, u57_116, u57_117, u57_118, u57_121, u57_122, u57_125, u57_126, u57_129, u57_130, u57_131, u57_134, u57_135, u57_136, u57_139, u57_140, u57_142, c5, k0, w1', wr_id, rng, rngp, if_pos, if_neg, if_true, if_false, reduceCtorEq, true_and, and_true, and_self, Option.toList_some, Option.toList_none, List.cons_append, List.nil_append, Int.toNat_natCast]
  rw [if_neg c5] at hr ⊢
  by_cases c6 : s = 102
  · rw [if_pos c6] at hr ⊢
    obtain ⟨h1, w1, C1, F1⟩ := w_fails (sc := sc) (d := d + 2) C w7 w26
    have w1' : ∀ Q, WP sc (d + 5) 62 0 [(0, .inr (.inl w))] [] h Q ↔ Q (some (.inl (sg σ 3))) h1 := w1
    refine ⟨h1, fun Q => ?_, C1, F1⟩
    simp (disch := omega) only [u57_0, u57_1, u57_92, u57_93, u57_94, u57_95, u57_97, u57_99, u57_102, u57_103, u57_104, u57_105, u57_108, u57_109, u57_110, u57_111, u57_114, u57_115, u57_116, u57_117, u57_118, u57_121, u57_122, u57_125, u57_126, u57_129, u57_130, u57_131, u57_134, u57_135, u57_136, u57_139, u57_140, u57_142, c6, k0, w1', wr_id, rng, rngp, if_pos, if_neg, if_true, if_false, reduceCtorEq, true_and, and_true, and_self, Option.toList_some, Option.toList_none, List.cons_append, List.nil_append, Int.toNat_natCast]
  rw [if_neg c6] at hr
  omega
