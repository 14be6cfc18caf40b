/-! the text of the class: orders -/
def flg (w : Int) (j : Nat) : Bool := decide (w = 110 ∧ 1 ≤ j)
theorem XF.wk {h h' : av_H} {t c e : Nat} (a : XF h h' t e) (hc : c ≤ e) : XF h h' t c := ⟨a.1, a.2.1, a.2.2.1, a.2.2.2.1, fun k hk => a.2.2.2.2 k (by omega)⟩
theorem arN_fl {w : Int} {ms : List Bool} (h : arN w = some ms) : ms.length ≤ 4 ∧ ∀ j, j < ms.length → ms.getD j false = flg w j := by
  unfold arN at h
  split at h
  · next c =>
    cases h
    refine ⟨by decide, fun j hj => ?_⟩
    have hj : j < 4 := hj
    have e : j = 0 ∨ j = 1 ∨ j = 2 ∨ j = 3 := by omega
    rcases e with rfl | rfl | rfl | rfl <;> simp [flg, c]
  · next c =>
    split at h
    · cases h
      refine ⟨by decide, fun j hj => ?_⟩
      have hj : j < 1 := hj
      have e : j = 0 := by omega
      subst e
      simp [flg]
    · split at h
      · cases h
        exact ⟨by decide, fun j hj => absurd hj (Nat.not_lt_zero j)⟩
      · cases h
theorem x_arity {sc : av_S} {d : Nat} {h : av_H} {t : Nat} {w : Int} (Q : Option av_V → av_H → Prop) : WP sc (d + 1) 41 0 [(0, .inr (.inl t)), (1, .inl w)] [] h Q ↔ Q (some (.inl (match arN w with | none => -1 | some ms => (ms.length : Int)))) h := by
  unfold arN
  by_cases c1 : w = 110
  · rw [if_pos c1]
    simp (disch := omega) only [u41_0, u41_1, u41_92, u41_93, u41_94, u41_95, u41_96, u41_97, u41_98, u41_99, c1, wr_id, rng, rngp, if_pos, if_neg, if_true, if_false, reduceCtorEq, true_and, and_true, and_self, Option.toList_some, Option.toList_none, List.cons_append, List.nil_append, Int.toNat_natCast]
    rfl
  rw [if_neg c1]
  by_cases c2 : w = 115 ∨ w = 97 ∨ w = 108
  · rw [if_pos c2]
    rcases c2 with c | c | c <;> (simp (disch := omega) only [u41_0, u41_1, u41_92, u41_93, u41_94, u41_95, u41_96, u41_97, u41_98, u41_99, c, wr_id, rng, rngp, if_pos, if_neg, if_true, if_false, reduceCtorEq, true_and, and_true, and_self, Option.toList_some, Option.toList_none, List.cons_append, List.nil_append, Int.toNat_natCast]; rfl)
  rw [if_neg c2]
  by_cases c3 : w = 109 ∨ w = 102
  · rw [if_pos c3]
    rcases c3 with c | c <;> (simp (disch := omega) only [u41_0, u41_1, u41_92, u41_93, u41_94, u41_95, u41_96, u41_97, u41_98, u41_99, c, wr_id, rng, rngp, if_pos, if_neg, if_true, if_false, reduceCtorEq, true_and, and_true, and_self, Option.toList_some, Option.toList_none, List.cons_append, List.nil_append, Int.toNat_natCast]; rfl)
  rw [if_neg c3]
  rw [u41_0, u41_1, if_neg (show ¬ w = 97 by omega), if_neg (show ¬ w = 102 by omega), if_neg (show ¬ w = 108 by omega), if_neg (show ¬ w = 109 by omega), if_neg (show ¬ w = 110 by omega), if_neg (show ¬ w = 115 by omega), u41_98, u41_99]
  simp only [ite_self]
theorem x_nums {sc : av_S} {d : Nat} {t o M : Nat} {tx : List Int} {w : Int} (hM : M ≤ 4) (ho : o < 60) : ∀ (rs : List Bool) (j p : Nat) (h : av_H), (∀ i, i < rs.length → rs.getD i false = flg w (j + i)) → j + rs.length = M → XT h t tx p o → p ≤ tx.length → ∃ h', XT h' t tx (pNums rs tx p).2.1 o ∧ XF h h' t (5 * o + 1 + j) ∧ ((pNums rs tx p).1 = true → ((∀ i, i < (pNums rs tx p).2.2.length → gI h' (t + 2) (5 * o + 1 + j + i) = (pNums rs tx p).2.2.getD i 0) ∧ (pNums rs tx p).2.2.length = rs.length) ∧ ∀ Q, WP sc (d + 4) 40 44 [(0, .inr (.inl t)), (1, .inl w), (2, .inl (M : Int)), (3, .inl ((5 * o : Nat) : Int)), (4, .inl ((j + 1 : Nat) : Int))] [] h Q ↔ WP sc (d + 4) 40 90 [(0, .inr (.inl t)), (1, .inl w), (2, .inl (M : Int)), (3, .inl ((5 * o : Nat) : Int)), (4, .inl ((M + 1 : Nat) : Int))] [] h' Q) ∧ ((pNums rs tx p).1 = false → ∀ Q, WP sc (d + 4) 40 44 [(0, .inr (.inl t)), (1, .inl w), (2, .inl (M : Int)), (3, .inl ((5 * o : Nat) : Int)), (4, .inl ((j + 1 : Nat) : Int))] [] h Q ↔ Q (some (.inl 0)) h') := by
  intro rs
  induction rs with
  | nil =>
    intro j p h hf hj T hp
    have e : j = M := by simpa using hj
    subst e
    refine ⟨h, T, XF.rf, fun _ => ⟨⟨fun i hi => absurd hi (Nat.not_lt_zero i), rfl⟩, fun Q => ?_⟩, (fun q => nomatch q)⟩
    rw [u40_44]
    simp (disch := omega) only [u40_0, u40_1, u40_4, u40_5, u40_6, u40_7, u40_10, u40_11, u40_12, u40_13, u40_16, u40_17, u40_18, u40_19, u40_22, u40_23, u40_24, u40_25, u40_26, u40_27, u40_28, u40_31, u40_32, u40_33, u40_36, u40_37, u40_38, u40_41, u40_42, u40_46, u40_47, u40_50, u40_51, u40_54, u40_55, u40_56, u40_58, u40_59, u40_60, u40_62, u40_65, u40_67, u40_68, u40_71, u40_72, u40_75, u40_76, u40_79, u40_82, u40_83, u40_84, u40_87, u40_91, u40_94, u40_95, u40_98, u40_100, u40_103, u40_104, u40_105, u40_106, u40_107, u40_110, u40_111, u40_112, u40_115, u40_116, u40_117, u40_120, u40_121, u40_122, u40_125, u40_126, wr_id, rng, rngp, if_pos, if_neg, if_true, if_false, reduceCtorEq, true_and, and_true, and_self, Option.toList_some, Option.toList_none, List.cons_append, List.nil_append, Int.toNat_natCast]
  | cons m ms ih =>
    intro j p h hf hj T hp
    have hjM : j + 1 ≤ M := by simp at hj; omega
    have em : m = flg w j := hf 0 (by simp)
    have k0 := T.1.1
    obtain ⟨h1, w1, T1, F1⟩ := x_skip (sc := sc) (d := d + 1) T hp
    have w1' : ∀ Q, WP sc (d + 3) 45 0 [(0, .inr (.inl t))] [] h Q ↔ Q none h1 := w1
    have hp1 := skp_le hp
    obtain ⟨h2, w2, T2, V2, F2⟩ := x_number (sc := sc) (d := d) (k := 5 * o + 1 + j) (may := m) T1 hp1 (by omega)
    have hp2 := pNum_le (may := m) hp1
    have j0 := T1.1.1
    have go : ∀ Q, WP sc (d + 4) 40 44 [(0, .inr (.inl t)), (1, .inl w), (2, .inl (M : Int)), (3, .inl ((5 * o : Nat) : Int)), (4, .inl ((j + 1 : Nat) : Int))] [] h Q ↔ WP sc (d + 4) 40 79 [(0, .inr (.inl t)), (1, .inl w), (2, .inl (M : Int)), (3, .inl ((5 * o : Nat) : Int)), (4, .inl ((j + 1 : Nat) : Int))] [.inl (bI (pNum tx m (skp tx p)).1)] h2 Q := by
      intro Q
      have w2' : ∀ Q, WP sc (d + 3) 42 0 [(0, .inr (.inl t)), (1, .inl (((5 * o : Nat) : Int) + ((j + 1 : Nat) : Int))), (2, .inl (bI m))] [] h1 Q ↔ Q (some (.inl (bI (pNum tx m (skp tx p)).1))) h2 := by
        intro Q
        rw [show ((5 * o : Nat) : Int) + ((j + 1 : Nat) : Int) = ((5 * o + 1 + j : Nat) : Int) by omega]
        exact w2 Q
      clear V2 T2 F2 w2
      by_cases cw : w = 110
      · by_cases cj : 1 ≤ j
        · rw [show m = true by rw [em]; exact decide_eq_true ⟨cw, cj⟩, bI_t] at w2'
          rw [u40_44]
          simp (disch := omega) only [u40_0, u40_1, u40_4, u40_5, u40_6, u40_7, u40_10, u40_11, u40_12, u40_13, u40_16, u40_17, u40_18, u40_19, u40_22, u40_23, u40_24, u40_25, u40_26, u40_27, u40_28, u40_31, u40_32, u40_33, u40_36, u40_37, u40_38, u40_41, u40_42, u40_46, u40_47, u40_50, u40_51, u40_54, u40_55, u40_56, u40_58, u40_59, u40_60, u40_62, u40_65, u40_67, u40_68, u40_71, u40_72, u40_75, u40_76, u40_82, u40_83, u40_84, u40_87, u40_90, u40_91, u40_94, u40_95, u40_98, u40_100, u40_103, u40_104, u40_105, u40_106, u40_107, u40_110, u40_111, u40_112, u40_115, u40_116, u40_117, u40_120, u40_121, u40_122, u40_125, u40_126, k0, w1', j0, cw, w2', wr_id, rng, rngp, if_pos, if_neg, if_true, if_false, reduceCtorEq, true_and, and_true, and_self, Option.toList_some, Option.toList_none, List.cons_append, List.nil_append, Int.toNat_natCast]
          rw [show m = true by rw [em]; exact decide_eq_true ⟨cw, cj⟩]
        · rw [show m = false by rw [em]; exact decide_eq_false (fun q => cj q.2), bI_f] at w2'
          rw [u40_44]
          simp (disch := omega) only [u40_0, u40_1, u40_4, u40_5, u40_6, u40_7, u40_10, u40_11, u40_12, u40_13, u40_16, u40_17, u40_18, u40_19, u40_22, u40_23, u40_24, u40_25, u40_26, u40_27, u40_28, u40_31, u40_32, u40_33, u40_36, u40_37, u40_38, u40_41, u40_42, u40_46, u40_47, u40_50, u40_51, u40_54, u40_55, u40_56, u40_58, u40_59, u40_60, u40_62, u40_65, u40_67, u40_68, u40_71, u40_72, u40_75, u40_76, u40_82, u40_83, u40_84, u40_87, u40_90, u40_91, u40_94, u40_95, u40_98, u40_100, u40_103, u40_104, u40_105, u40_106, u40_107, u40_110, u40_111, u40_112, u40_115, u40_116, u40_117, u40_120, u40_121, u40_122, u40_125, u40_126, k0, w1', j0, cw, w2', wr_id, rng, rngp, if_pos, if_neg, if_true, if_false, reduceCtorEq, true_and, and_true, and_self, Option.toList_some, Option.toList_none, List.cons_append, List.nil_append, Int.toNat_natCast]
          rw [show m = false by rw [em]; exact decide_eq_false (fun q => cj q.2)]
      · rw [show m = false by rw [em]; exact decide_eq_false (fun q => cw q.1), bI_f] at w2'
        rw [u40_44]
        simp (disch := omega) only [u40_0, u40_1, u40_4, u40_5, u40_6, u40_7, u40_10, u40_11, u40_12, u40_13, u40_16, u40_17, u40_18, u40_19, u40_22, u40_23, u40_24, u40_25, u40_26, u40_27, u40_28, u40_31, u40_32, u40_33, u40_36, u40_37, u40_38, u40_41, u40_42, u40_46, u40_47, u40_50, u40_51, u40_54, u40_55, u40_56, u40_58, u40_59, u40_60, u40_62, u40_65, u40_67, u40_68, u40_71, u40_72, u40_75, u40_76, u40_82, u40_83, u40_84, u40_87, u40_90, u40_91, u40_94, u40_95, u40_98, u40_100, u40_103, u40_104, u40_105, u40_106, u40_107, u40_110, u40_111, u40_112, u40_115, u40_116, u40_117, u40_120, u40_121, u40_122, u40_125, u40_126, k0, w1', j0, cw, w2', wr_id, rng, rngp, if_pos, if_neg, if_true, if_false, reduceCtorEq, true_and, and_true, and_self, Option.toList_some, Option.toList_none, List.cons_append, List.nil_append, Int.toNat_natCast]
        rw [show m = false by rw [em]; exact decide_eq_false (fun q => cw q.1)]
    by_cases c : (pNum tx m (skp tx p)).1 = true
    · obtain ⟨h3, T3, F3, A3, B3⟩ := ih (j + 1) (pNum tx m (skp tx p)).2.1 h2 (fun i hi => by
        have := hf (i + 1) (by simp; omega)
        rw [show j + 1 + i = j + (i + 1) by omega]
        exact this) (by simp at hj; omega) T2 hp2.2
      have ep : pNums (m :: ms) tx p = ((pNums ms tx (pNum tx m (skp tx p)).2.1).1, (pNums ms tx (pNum tx m (skp tx p)).2.1).2.1, (pNum tx m (skp tx p)).2.2 :: (pNums ms tx (pNum tx m (skp tx p)).2.1).2.2) := if_pos c
      rw [ep]
      rw [c] at go
      have go2 : ∀ Q, WP sc (d + 4) 40 44 [(0, .inr (.inl t)), (1, .inl w), (2, .inl (M : Int)), (3, .inl ((5 * o : Nat) : Int)), (4, .inl ((j + 1 : Nat) : Int))] [] h Q ↔ WP sc (d + 4) 40 44 [(0, .inr (.inl t)), (1, .inl w), (2, .inl (M : Int)), (3, .inl ((5 * o : Nat) : Int)), (4, .inl ((j + 1 + 1 : Nat) : Int))] [] h2 Q := by
        intro Q
        rw [go Q]
        clear A3 B3 V2
        simp (disch := omega) only [u40_0, u40_1, u40_4, u40_5, u40_6, u40_7, u40_10, u40_11, u40_12, u40_13, u40_16, u40_17, u40_18, u40_19, u40_22, u40_23, u40_24, u40_25, u40_26, u40_27, u40_28, u40_31, u40_32, u40_33, u40_36, u40_37, u40_38, u40_41, u40_42, u40_46, u40_47, u40_50, u40_51, u40_54, u40_55, u40_56, u40_58, u40_59, u40_60, u40_62, u40_65, u40_67, u40_68, u40_71, u40_72, u40_75, u40_76, u40_79, u40_82, u40_83, u40_84, u40_87, u40_90, u40_91, u40_94, u40_95, u40_98, u40_100, u40_103, u40_104, u40_105, u40_106, u40_107, u40_110, u40_111, u40_112, u40_115, u40_116, u40_117, u40_120, u40_121, u40_122, u40_125, u40_126, bI_t, wr_id, rng, rngp, if_pos, if_neg, if_true, if_false, reduceCtorEq, true_and, and_true, and_self, Option.toList_some, Option.toList_none, List.cons_append, List.nil_append, Int.toNat_natCast]
        rw [show ((j + 1 : Nat) : Int) + 1 = ((j + 1 + 1 : Nat) : Int) by omega]
      have F12 : XF h h2 t (5 * o + 1 + j) := (F1.wk (by omega)).tr F2 (Nat.le_refl _)
      refine ⟨h3, T3, F12.tr F3 (by omega), fun q => ?_, fun q Q => ?_⟩
      · obtain ⟨⟨a1, a2⟩, a3⟩ := A3 q
        refine ⟨⟨fun i hi => ?_, by show _ + 1 = _ + 1; rw [a2]⟩, fun Q => by rw [go2 Q]; exact a3 Q⟩
        cases i with
        | zero =>
          show gI h3 (t + 2) (5 * o + 1 + j) = (pNum tx m (skp tx p)).2.2
          rw [F3.2.2.2.2 _ (by omega)]
          exact V2 c
        | succ i =>
          have := a1 i (by simpa using hi)
          rw [show 5 * o + 1 + (j + 1) + i = 5 * o + 1 + j + (i + 1) by omega] at this
          exact this
      · rw [go2 Q]; exact B3 q Q
    · have ep : pNums (m :: ms) tx p = (false, (pNum tx m (skp tx p)).2.1, []) := if_neg c
      rw [ep]
      rw [Bool.eq_false_iff.mpr c] at go
      refine ⟨h2, T2, (F1.wk (by omega)).tr F2 (Nat.le_refl _), (fun q => nomatch q), fun _ Q => ?_⟩
      rw [go Q]
      clear V2
      simp (disch := omega) only [u40_0, u40_1, u40_4, u40_5, u40_6, u40_7, u40_10, u40_11, u40_12, u40_13, u40_16, u40_17, u40_18, u40_19, u40_22, u40_23, u40_24, u40_25, u40_26, u40_27, u40_28, u40_31, u40_32, u40_33, u40_36, u40_37, u40_38, u40_41, u40_42, u40_46, u40_47, u40_50, u40_51, u40_54, u40_55, u40_56, u40_58, u40_59, u40_60, u40_62, u40_65, u40_67, u40_68, u40_71, u40_72, u40_75, u40_76, u40_79, u40_82, u40_83, u40_84, u40_87, u40_90, u40_91, u40_94, u40_95, u40_98, u40_100, u40_103, u40_104, u40_105, u40_106, u40_107, u40_110, u40_111, u40_112, u40_115, u40_116, u40_117, u40_120, u40_121, u40_122, u40_125, u40_126, bI_f, true_or, or_true, wr_id, rng, rngp, if_pos, if_neg, if_true, if_false, reduceCtorEq, true_and, and_true, and_self, Option.toList_some, Option.toList_none, List.cons_append, List.nil_append, Int.toNat_natCast]
theorem x_order {sc : av_S} {d : Nat} {h : av_H} {t p o : Nat} {tx : List Int} (T : XT h t tx p o) (hp : p ≤ tx.length) (ho : o < 60) : ∃ h', (∀ Q, WP sc (d + 4) 40 0 [(0, .inr (.inl t))] [] h Q ↔ Q (some (.inl (bI (pOrd tx p).1))) h') ∧ XT h' t tx (pOrd tx p).2.1 (if (pOrd tx p).1 = true then o + 1 else o) ∧ XF h h' t (5 * o) ∧ ((pOrd tx p).1 = true → gI h' (t + 2) (5 * o) = tb tx p ∧ ∀ i, i < (pOrd tx p).2.2.length → gI h' (t + 2) (5 * o + 1 + i) = (pOrd tx p).2.2.getD i 0) := by
  have tl := T.2.2.1
  have k0 := T.1.1
  have f3 := T.2.2.2.2.2
  have wb : ∀ Q, WP sc (d + 3) 43 0 [(0, .inr (.inl t))] [] h Q ↔ Q (some (.inl (tb tx p))) h := fun Q => x_byte (d := d + 2) T Q
  have wa : ∀ w Q, WP sc (d + 3) 41 0 [(0, .inr (.inl t)), (1, .inl w)] [] h Q ↔ Q (some (.inl (match arN w with | none => -1 | some ms => (ms.length : Int)))) h := fun w Q => x_arity (d := d + 2) Q
  cases ea : arN (tb tx p) with
  | none =>
    have ep : pOrd tx p = (false, p, []) := by unfold pOrd; rw [ea]
    rw [ep]
    refine ⟨h, fun Q => ?_, T, XF.rf, (fun q => nomatch q)⟩
    have wa' : ∀ Q, WP sc (d + 3) 41 0 [(0, .inr (.inl t)), (1, .inl (tb tx p))] [] h Q ↔ Q (some (.inl (-1))) h := fun Q => by rw [wa, ea]
    simp (disch := omega) only [u40_0, u40_1, u40_4, u40_5, u40_6, u40_7, u40_10, u40_11, u40_12, u40_13, u40_16, u40_17, u40_18, u40_19, u40_22, u40_23, u40_24, u40_25, u40_26, u40_27, u40_28, u40_31, u40_32, u40_33, u40_36, u40_37, u40_38, u40_41, u40_42, u40_46, u40_47, u40_50, u40_51, u40_54, u40_55, u40_56, u40_58, u40_59, u40_60, u40_62, u40_65, u40_67, u40_68, u40_71, u40_72, u40_75, u40_76, u40_79, u40_82, u40_83, u40_84, u40_87, u40_90, u40_91, u40_94, u40_95, u40_98, u40_100, u40_103, u40_104, u40_105, u40_106, u40_107, u40_110, u40_111, u40_112, u40_115, u40_116, u40_117, u40_120, u40_121, u40_122, u40_125, u40_126, k0, wb, wa', bI_f, true_or, or_true, wr_id, rng, rngp, if_pos, if_neg, if_true, if_false, reduceCtorEq, true_and, and_true, and_self, Option.toList_some, Option.toList_none, List.cons_append, List.nil_append, Int.toNat_natCast]
  | some ms =>
    have ep0 : pOrd tx p = (if (pNums ms tx (p + 1)).1 = true then (if tb tx (skp tx (pNums ms tx (p + 1)).2.1) = 59 then (true, skp tx (pNums ms tx (p + 1)).2.1 + 1, (pNums ms tx (p + 1)).2.2) else (false, skp tx (pNums ms tx (p + 1)).2.1, [])) else (false, (pNums ms tx (p + 1)).2.1, [])) := by unfold pOrd; rw [ea]
    obtain ⟨a1, a2⟩ := arN_fl ea
    have wa' : ∀ Q, WP sc (d + 3) 41 0 [(0, .inr (.inl t)), (1, .inl (tb tx p))] [] h Q ↔ Q (some (.inl (ms.length : Int))) h := fun Q => by rw [wa, ea]
    have pin : p < tx.length := by
      refine tb_in (fun q => ?_)
      rw [q] at ea
      cases ea
    have wc : ∀ Q, WP sc (d + 3) 38 0 [(0, .inr (.inl t)), (1, .inl ((5 * o : Nat) : Int)), (2, .inl (tb tx p))] [] h Q ↔ Q none (sI h (t + 2) (5 * o) (tb tx p)) := fun Q => x_setCell (d := d + 2) T.1 (by omega) Q
    have T1 : XT (sI h (t + 2) (5 * o) (tb tx p)) t tx p o := T.c
    have T2 : XT (sI (sI h (t + 2) (5 * o) (tb tx p)) t 4 ((p : Int) + 1)) t tx (p + 1) o := T1.p rfl
    have g4 := T1.2.2.2.2.1
    have F2 : XF h (sI (sI h (t + 2) (5 * o) (tb tx p)) t 4 ((p : Int) + 1)) t (5 * o) := (XF.ce (Nat.le_refl _)).tr (XF.pl (Or.inr rfl)) (Nat.le_refl _)
    have G2 : gI (sI (sI h (t + 2) (5 * o) (tb tx p)) t 4 ((p : Int) + 1)) (t + 2) (5 * o) = tb tx p := by rw [gI_sI_nb (by omega), gI_sI_eq rfl]
    obtain ⟨X, eX⟩ : ∃ X, X = sI (sI h (t + 2) (5 * o) (tb tx p)) t 4 ((p : Int) + 1) := ⟨_, rfl⟩
    rw [← eX] at T2 F2 G2
    have start : ∀ Q, WP sc (d + 4) 40 0 [(0, .inr (.inl t))] [] h Q ↔ WP sc (d + 4) 40 44 [(0, .inr (.inl t)), (1, .inl (tb tx p)), (2, .inl (ms.length : Int)), (3, .inl ((5 * o : Nat) : Int)), (4, .inl ((0 + 1 : Nat) : Int))] [] X Q := by
      intro Q
      have e5 : (o : Int) * 5 = ((5 * o : Nat) : Int) := by omega
      clear T1 T2 G2
      simp (disch := omega) only [u40_0, u40_1, u40_4, u40_5, u40_6, u40_7, u40_10, u40_11, u40_12, u40_13, u40_16, u40_17, u40_18, u40_19, u40_22, u40_23, u40_24, u40_25, u40_26, u40_27, u40_28, u40_31, u40_32, u40_33, u40_36, u40_37, u40_38, u40_41, u40_42, u40_46, u40_47, u40_50, u40_51, u40_54, u40_55, u40_56, u40_58, u40_59, u40_60, u40_62, u40_65, u40_67, u40_68, u40_71, u40_72, u40_75, u40_76, u40_79, u40_82, u40_83, u40_84, u40_87, u40_90, u40_91, u40_94, u40_95, u40_98, u40_100, u40_103, u40_104, u40_105, u40_106, u40_107, u40_110, u40_111, u40_112, u40_115, u40_116, u40_117, u40_120, u40_121, u40_122, u40_125, u40_126, k0, wb, wa', f3, e5, wc, g4, kd_sI, wr_id, rng, rngp, if_pos, if_neg, if_true, if_false, reduceCtorEq, true_and, and_true, and_self, Option.toList_some, Option.toList_none, List.cons_append, List.nil_append, Int.toNat_natCast]
      rw [← eX]
      rfl
    obtain ⟨h3, T3, F3, A3, B3⟩ := x_nums (sc := sc) (d := d) (w := tb tx p) a1 ho ms 0 (p + 1) X (fun i hi => by rw [Nat.zero_add]; exact a2 i hi) (by omega) T2 (by omega)
    have np := pNums_le (tx := tx) ms (p + 1) (by omega)
    have F13 : XF h h3 t (5 * o) := F2.tr F3 (by omega)
    have G3 : gI h3 (t + 2) (5 * o) = tb tx p := by rw [F3.2.2.2.2 _ (by omega)]; exact G2
    by_cases c : (pNums ms tx (p + 1)).1 = true
    · obtain ⟨⟨b1, b2⟩, b3⟩ := A3 c
      obtain ⟨h4, w4, T4, F4⟩ := x_skip (sc := sc) (d := d + 1) T3 np.2
      have w4' : ∀ Q, WP sc (d + 3) 45 0 [(0, .inr (.inl t))] [] h3 Q ↔ Q none h4 := w4
      have wb4 : ∀ Q, WP sc (d + 3) 43 0 [(0, .inr (.inl t))] [] h4 Q ↔ Q (some (.inl (tb tx (skp tx (pNums ms tx (p + 1)).2.1)))) h4 := fun Q => x_byte (d := d + 2) T4 Q
      have l0 := T3.1.1
      have m0 := T4.1.1
      have m4 := T4.2.2.2.2.1
      have m3 := T4.2.2.2.2.2
      have sl := skp_le np.2
      by_cases c2 : tb tx (skp tx (pNums ms tx (p + 1)).2.1) = 59
      · have ep := ep0.trans ((if_pos c).trans (if_pos c2))
        rw [ep]
        rw [c2] at wb4
        have T5 : XT (sI h4 t 4 ((skp tx (pNums ms tx (p + 1)).2.1 : Int) + 1)) t tx (skp tx (pNums ms tx (p + 1)).2.1 + 1) o := T4.p rfl
        have T6 : XT (sI (sI h4 t 4 ((skp tx (pNums ms tx (p + 1)).2.1 : Int) + 1)) t 3 ((o : Int) + 1)) t tx (skp tx (pNums ms tx (p + 1)).2.1 + 1) (o + 1) := T5.o rfl
        have n3 := T5.2.2.2.2.2
        have F6 : XF h (sI (sI h4 t 4 ((skp tx (pNums ms tx (p + 1)).2.1 : Int) + 1)) t 3 ((o : Int) + 1)) t (5 * o) := ((F13.tr F4 (by omega)).tr (XF.pl (Or.inr rfl)) (Nat.le_refl _)).tr (XF.pl (Or.inl rfl)) (Nat.le_refl _)
        have ne : t + 2 ≠ t := by omega
        refine ⟨_, fun Q => ?_, T6, F6, fun _ => ⟨?_, fun i hi => ?_⟩⟩
        · rw [start Q, b3 Q]
          clear b1 T5 T6 A3 G3 G2
          simp (disch := omega) only [u40_0, u40_1, u40_4, u40_5, u40_6, u40_7, u40_10, u40_11, u40_12, u40_13, u40_16, u40_17, u40_18, u40_19, u40_22, u40_23, u40_24, u40_25, u40_26, u40_27, u40_28, u40_31, u40_32, u40_33, u40_36, u40_37, u40_38, u40_41, u40_42, u40_46, u40_47, u40_50, u40_51, u40_54, u40_55, u40_56, u40_58, u40_59, u40_60, u40_62, u40_65, u40_67, u40_68, u40_71, u40_72, u40_75, u40_76, u40_79, u40_82, u40_83, u40_84, u40_87, u40_90, u40_91, u40_94, u40_95, u40_98, u40_100, u40_103, u40_104, u40_105, u40_106, u40_107, u40_110, u40_111, u40_112, u40_115, u40_116, u40_117, u40_120, u40_121, u40_122, u40_125, u40_126, l0, w4', m0, wb4, m4, n3, kd_sI, bI_t, true_or, or_true, wr_id, rng, rngp, if_pos, if_neg, if_true, if_false, reduceCtorEq, true_and, and_true, and_self, Option.toList_some, Option.toList_none, List.cons_append, List.nil_append, Int.toNat_natCast]
        · rw [gI_sI_nb ne, gI_sI_nb ne, F4.2.2.2.2 _ (by omega)]; exact G3
        · have b1i := b1 i hi
          rw [gI_sI_nb ne, gI_sI_nb ne, F4.2.2.2.2 _ (by rw [b2] at hi; clear b1i b1; omega)]
          exact b1i
      · have ep := ep0.trans ((if_pos c).trans (if_neg c2))
        rw [ep]
        refine ⟨h4, fun Q => ?_, T4, F13.tr F4 (by omega), (fun q => nomatch q)⟩
        rw [start Q, b3 Q]
        clear b1 A3 G3 G2
        simp (disch := omega) only [u40_0, u40_1, u40_4, u40_5, u40_6, u40_7, u40_10, u40_11, u40_12, u40_13, u40_16, u40_17, u40_18, u40_19, u40_22, u40_23, u40_24, u40_25, u40_26, u40_27, u40_28, u40_31, u40_32, u40_33, u40_36, u40_37, u40_38, u40_41, u40_42, u40_46, u40_47, u40_50, u40_51, u40_54, u40_55, u40_56, u40_58, u40_59, u40_60, u40_62, u40_65, u40_67, u40_68, u40_71, u40_72, u40_75, u40_76, u40_79, u40_82, u40_83, u40_84, u40_87, u40_90, u40_91, u40_94, u40_95, u40_98, u40_100, u40_103, u40_104, u40_105, u40_106, u40_107, u40_110, u40_111, u40_112, u40_115, u40_116, u40_117, u40_120, u40_121, u40_122, u40_125, u40_126, l0, w4', m0, wb4, c2, bI_f, true_or, or_true, wr_id, rng, rngp, if_pos, if_neg, if_true, if_false, reduceCtorEq, true_and, and_true, and_self, Option.toList_some, Option.toList_none, List.cons_append, List.nil_append, Int.toNat_natCast]
    · have ep := ep0.trans (if_neg c)
      rw [ep]
      exact ⟨h3, fun Q => by rw [start Q]; exact B3 (Bool.eq_false_iff.mpr c) Q, T3, F13, (fun q => nomatch q)⟩
