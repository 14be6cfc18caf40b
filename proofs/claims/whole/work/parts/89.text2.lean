/-! the text of the class: numbers -/
theorem x_number {sc : av_S} {d : Nat} {h : av_H} {t p o k : Nat} {tx : List Int} {may : Bool} (T : XT h t tx p o) (hp : p ≤ tx.length) (hk : k < 300) : ∃ h', (∀ Q, WP sc (d + 3) 42 0 [(0, .inr (.inl t)), (1, .inl (k : Int)), (2, .inl (bI may))] [] h Q ↔ Q (some (.inl (bI (pNum tx may p).1))) h') ∧ XT h' t tx (pNum tx may p).2.1 o ∧ ((pNum tx may p).1 = true → gI h' (t + 2) k = (pNum tx may p).2.2) ∧ XF h h' t k := by
  have tl := T.2.2.1
  have k0 := T.1.1
  have f4 := T.2.2.2.2.1
  have wb : ∀ Q, WP sc (d + 2) 43 0 [(0, .inr (.inl t))] [] h Q ↔ Q (some (.inl (tb tx p))) h := fun Q => x_byte (d := d + 1) T Q
  have wf : ∀ Q, WP sc (d + 2) 44 0 [(0, .inr (.inl t))] [] h Q ↔ Q (some (.inl (bI (fig tx p)))) h := fun Q => x_fig (d := d) T Q
  unfold pNum
  by_cases c1 : tb tx p = 45 ∧ may = true
  · rw [if_pos c1]
    obtain ⟨c1, c2⟩ := c1
    have wc : ∀ Q, WP sc (d + 2) 38 0 [(0, .inr (.inl t)), (1, .inl (k : Int)), (2, .inl (-1))] [] h Q ↔ Q none (sI h (t + 2) k (-1)) := fun Q => x_setCell (d := d + 1) T.1 hk Q
    have T1 : XT (sI h (t + 2) k (-1)) t tx p o := T.c
    have g4 := T1.2.2.2.2.1
    have T2 : XT (sI (sI h (t + 2) k (-1)) t 4 ((p : Int) + 1)) t tx (p + 1) o := T1.p rfl
    have G : gI (sI (sI h (t + 2) k (-1)) t 4 ((p : Int) + 1)) (t + 2) k = -1 := by rw [gI_sI_nb (by omega), gI_sI_eq rfl]
    refine ⟨sI (sI h (t + 2) k (-1)) t 4 ((p : Int) + 1), fun Q => ?_, T2, fun _ => G, (XF.ce (Nat.le_refl _)).tr (XF.pl (Or.inr rfl)) (Nat.le_refl _)⟩
    rw [c1] at wb
    rw [c2]
    clear T2 G
    simp (disch := omega) only [u42_0, u42_1, u42_4, u42_5, u42_8, u42_10, u42_13, u42_14, u42_15, u42_16, u42_19, u42_20, u42_21, u42_24, u42_25, u42_26, u42_29, u42_30, u42_31, u42_32, u42_35, u42_38, u42_39, u42_40, u42_41, u42_44, u42_46, u42_47, u42_48, u42_49, u42_50, u42_53, u42_54, u42_55, u42_58, u42_59, u42_62, u42_65, u42_66, u42_68, u42_69, u42_70, u42_73, u42_74, u42_76, u42_77, u42_78, u42_79, u42_80, u42_83, u42_84, u42_85, u42_88, u42_89, u42_90, u42_91, u42_94, u42_95, u42_98, u42_101, u42_102, u42_105, u42_106, k0, wb, wc, g4, kd_sI, bI_t, true_or, or_true, wr_id, rng, rngp, if_pos, if_neg, if_true, if_false, reduceCtorEq, true_and, and_true, and_self, Option.toList_some, Option.toList_none, List.cons_append, List.nil_append, Int.toNat_natCast]
  rw [if_neg c1]
  have start : ∀ Q, WP sc (d + 3) 42 0 [(0, .inr (.inl t)), (1, .inl (k : Int)), (2, .inl (bI may))] [] h Q ↔ WP sc (d + 3) 42 31 [(0, .inr (.inl t)), (1, .inl (k : Int)), (2, .inl (bI may))] [] h Q := by
    intro Q
    cases may
    · simp (disch := omega) only [u42_0, u42_1, u42_4, u42_5, u42_8, u42_10, u42_13, u42_14, u42_15, u42_16, u42_19, u42_20, u42_21, u42_24, u42_25, u42_26, u42_29, u42_30, u42_32, u42_35, u42_38, u42_39, u42_40, u42_41, u42_44, u42_46, u42_47, u42_48, u42_49, u42_50, u42_53, u42_54, u42_55, u42_58, u42_59, u42_62, u42_65, u42_66, u42_68, u42_69, u42_70, u42_73, u42_74, u42_76, u42_77, u42_78, u42_79, u42_80, u42_83, u42_84, u42_85, u42_88, u42_89, u42_90, u42_91, u42_94, u42_95, u42_98, u42_101, u42_102, u42_105, u42_106, bI_f, wr_id, rng, rngp, if_pos, if_neg, if_true, if_false, reduceCtorEq, true_and, and_true, and_self, Option.toList_some, Option.toList_none, List.cons_append, List.nil_append, Int.toNat_natCast]
    · have c2 : ¬ tb tx p = 45 := fun q => c1 ⟨q, rfl⟩
      simp (disch := omega) only [u42_0, u42_1, u42_4, u42_5, u42_8, u42_10, u42_13, u42_14, u42_15, u42_16, u42_19, u42_20, u42_21, u42_24, u42_25, u42_26, u42_29, u42_30, u42_32, u42_35, u42_38, u42_39, u42_40, u42_41, u42_44, u42_46, u42_47, u42_48, u42_49, u42_50, u42_53, u42_54, u42_55, u42_58, u42_59, u42_62, u42_65, u42_66, u42_68, u42_69, u42_70, u42_73, u42_74, u42_76, u42_77, u42_78, u42_79, u42_80, u42_83, u42_84, u42_85, u42_88, u42_89, u42_90, u42_91, u42_94, u42_95, u42_98, u42_101, u42_102, u42_105, u42_106, k0, wb, c2, bI_t, wr_id, rng, rngp, if_pos, if_neg, if_true, if_false, reduceCtorEq, true_and, and_true, and_self, Option.toList_some, Option.toList_none, List.cons_append, List.nil_append, Int.toNat_natCast]
  by_cases cf : fig tx p = true
  · rw [if_pos cf]
    have ft := fig_t cf
    rw [cf] at wf
    have T1 : XT (sI h t 4 ((p : Int) + 1)) t tx (p + 1) o := T.p rfl
    have g0 := T1.1.1
    have g4 := T1.2.2.2.2.1
    have wf1 : ∀ Q, WP sc (d + 2) 44 0 [(0, .inr (.inl t))] [] (sI h t 4 ((p : Int) + 1)) Q ↔ Q (some (.inl (bI (fig tx (p + 1))))) (sI h t 4 ((p : Int) + 1)) := fun Q => x_fig (d := d) T1 Q
    have wb1 : ∀ Q, WP sc (d + 2) 43 0 [(0, .inr (.inl t))] [] (sI h t 4 ((p : Int) + 1)) Q ↔ Q (some (.inl (tb tx (p + 1)))) (sI h t 4 ((p : Int) + 1)) := fun Q => x_byte (d := d + 1) T1 Q
    by_cases cg : fig tx (p + 1) = true
    · rw [if_pos cg]
      have ft1 := fig_t cg
      rw [cg] at wf1
      have T2 : XT (sI (sI h t 4 ((p : Int) + 1)) t 4 (((p + 1 : Nat) : Int) + 1)) t tx (p + 2) o := T1.p rfl
      obtain ⟨X, eX⟩ : ∃ X, X = sI (sI h t 4 ((p : Int) + 1)) t 4 (((p + 1 : Nat) : Int) + 1) := ⟨_, rfl⟩
      rw [← eX] at T2
      have FX : XF h X t k := by rw [eX]; exact (XF.pl (Or.inr rfl)).tr (XF.pl (Or.inr rfl)) (Nat.le_refl _)
      obtain ⟨v, hv⟩ : ∃ v, v = 10 * (tb tx p - 48) + tb tx (p + 1) - 48 := ⟨_, rfl⟩
      have wc : ∀ Q, WP sc (d + 2) 38 0 [(0, .inr (.inl t)), (1, .inl (k : Int)), (2, .inl v)] [] X Q ↔ Q none (sI X (t + 2) k v) := fun Q => x_setCell (d := d + 1) T2.1 hk Q
      have T3 : XT (sI X (t + 2) k v) t tx (p + 2) o := T2.c
      have wf2 : ∀ Q, WP sc (d + 2) 44 0 [(0, .inr (.inl t))] [] (sI X (t + 2) k v) Q ↔ Q (some (.inl (bI (fig tx (p + 2))))) (sI X (t + 2) k v) := fun Q => x_fig (d := d) T3 Q
      have x0 := T2.1.1
      refine ⟨sI X (t + 2) k v, fun Q => ?_, T3, fun _ => by rw [gI_sI_eq rfl]; exact hv, FX.tr (XF.ce (Nat.le_refl _)) (Nat.le_refl _)⟩
      rw [start Q]
      have ev : (tb tx p - 48) * 10 + tb tx (p + 1) - 48 = v := by rw [hv]; omega
      clear T1 T2 T3 FX
      simp (disch := omega) only [u42_0, u42_1, u42_4, u42_5, u42_8, u42_10, u42_13, u42_14, u42_15, u42_16, u42_19, u42_20, u42_21, u42_24, u42_25, u42_26, u42_29, u42_30, u42_31, u42_32, u42_35, u42_38, u42_39, u42_40, u42_41, u42_44, u42_46, u42_47, u42_48, u42_49, u42_50, u42_53, u42_54, u42_55, u42_58, u42_59, u42_62, u42_65, u42_66, u42_68, u42_69, u42_70, u42_73, u42_74, u42_76, u42_77, u42_78, u42_79, u42_80, u42_83, u42_84, u42_85, u42_89, u42_90, u42_91, u42_94, u42_95, u42_98, u42_101, u42_102, u42_105, u42_106, k0, wf, wb, f4, bI_t, wf1, wb1, g0, g4, kd_sI, ev, wr_id, rng, rngp, if_pos, if_neg, if_true, if_false, reduceCtorEq, true_and, and_true, and_self, Option.toList_some, Option.toList_none, List.cons_append, List.nil_append, Int.toNat_natCast]
      rw [← eX]
      cases e2 : fig tx (p + 2) <;> rw [e2] at wf2 <;> simp (disch := omega) only [u42_0, u42_1, u42_4, u42_5, u42_8, u42_10, u42_13, u42_14, u42_15, u42_16, u42_19, u42_20, u42_21, u42_24, u42_25, u42_26, u42_29, u42_30, u42_31, u42_32, u42_35, u42_38, u42_39, u42_40, u42_41, u42_44, u42_46, u42_47, u42_48, u42_49, u42_50, u42_53, u42_54, u42_55, u42_58, u42_59, u42_62, u42_65, u42_66, u42_68, u42_69, u42_70, u42_73, u42_74, u42_76, u42_77, u42_78, u42_79, u42_80, u42_83, u42_84, u42_85, u42_88, u42_89, u42_90, u42_91, u42_94, u42_95, u42_98, u42_101, u42_102, u42_105, u42_106, x0, wc, wf2, kd_sI, bI_t, bI_f, Bool.not_true, Bool.not_false, true_or, or_true, wr_id, rng, rngp, if_pos, if_neg, if_true, if_false, reduceCtorEq, true_and, and_true, and_self, Option.toList_some, Option.toList_none, List.cons_append, List.nil_append, Int.toNat_natCast]
    · rw [if_neg cg]
      rw [Bool.eq_false_iff.mpr cg] at wf1
      obtain ⟨X, eX⟩ : ∃ X, X = sI h t 4 ((p : Int) + 1) := ⟨_, rfl⟩
      rw [← eX] at T1 wf1 g0
      have FX : XF h X t k := by rw [eX]; exact XF.pl (Or.inr rfl)
      have wc : ∀ Q, WP sc (d + 2) 38 0 [(0, .inr (.inl t)), (1, .inl (k : Int)), (2, .inl (tb tx p - 48))] [] X Q ↔ Q none (sI X (t + 2) k (tb tx p - 48)) := fun Q => x_setCell (d := d + 1) T1.1 hk Q
      have T3 : XT (sI X (t + 2) k (tb tx p - 48)) t tx (p + 1) o := T1.c
      have wf2 : ∀ Q, WP sc (d + 2) 44 0 [(0, .inr (.inl t))] [] (sI X (t + 2) k (tb tx p - 48)) Q ↔ Q (some (.inl (bI (fig tx (p + 1))))) (sI X (t + 2) k (tb tx p - 48)) := fun Q => x_fig (d := d) T3 Q
      rw [Bool.eq_false_iff.mpr cg] at wf2
      refine ⟨sI X (t + 2) k (tb tx p - 48), fun Q => ?_, T3, fun _ => gI_sI_eq rfl, FX.tr (XF.ce (Nat.le_refl _)) (Nat.le_refl _)⟩
      rw [start Q]
      clear T1 T3 FX
      simp (disch := omega) only [u42_0, u42_1, u42_4, u42_5, u42_8, u42_10, u42_13, u42_14, u42_15, u42_16, u42_19, u42_20, u42_21, u42_24, u42_25, u42_26, u42_29, u42_30, u42_31, u42_32, u42_35, u42_38, u42_39, u42_40, u42_41, u42_44, u42_46, u42_47, u42_48, u42_49, u42_50, u42_53, u42_54, u42_55, u42_59, u42_62, u42_65, u42_66, u42_68, u42_69, u42_70, u42_73, u42_74, u42_76, u42_77, u42_78, u42_79, u42_80, u42_83, u42_84, u42_85, u42_89, u42_90, u42_91, u42_94, u42_95, u42_98, u42_101, u42_102, u42_105, u42_106, k0, wf, wb, f4, bI_t, wr_id, rng, rngp, if_pos, if_neg, if_true, if_false, reduceCtorEq, true_and, and_true, and_self, Option.toList_some, Option.toList_none, List.cons_append, List.nil_append, Int.toNat_natCast]
      rw [← eX]
      simp (disch := omega) only [u42_0, u42_1, u42_4, u42_5, u42_8, u42_10, u42_13, u42_14, u42_15, u42_16, u42_19, u42_20, u42_21, u42_24, u42_25, u42_26, u42_29, u42_30, u42_31, u42_32, u42_35, u42_38, u42_39, u42_40, u42_41, u42_44, u42_46, u42_47, u42_48, u42_49, u42_50, u42_53, u42_54, u42_55, u42_58, u42_59, u42_62, u42_65, u42_66, u42_68, u42_69, u42_70, u42_73, u42_74, u42_76, u42_77, u42_78, u42_79, u42_80, u42_83, u42_84, u42_85, u42_88, u42_89, u42_90, u42_91, u42_94, u42_95, u42_98, u42_101, u42_102, u42_105, u42_106, g0, wf1, wc, wf2, kd_sI, bI_t, bI_f, true_or, or_true, wr_id, rng, rngp, if_pos, if_neg, if_true, if_false, reduceCtorEq, true_and, and_true, and_self, Option.toList_some, Option.toList_none, List.cons_append, List.nil_append, Int.toNat_natCast]
  · rw [if_neg cf]
    rw [Bool.eq_false_iff.mpr cf] at wf
    refine ⟨h, fun Q => ?_, T, (fun q => nomatch q), XF.rf⟩
    rw [start Q]
    simp (disch := omega) only [u42_0, u42_1, u42_4, u42_5, u42_8, u42_10, u42_13, u42_14, u42_15, u42_16, u42_19, u42_20, u42_21, u42_24, u42_25, u42_26, u42_29, u42_30, u42_31, u42_32, u42_35, u42_38, u42_39, u42_40, u42_41, u42_44, u42_46, u42_47, u42_48, u42_49, u42_50, u42_53, u42_54, u42_55, u42_58, u42_59, u42_62, u42_65, u42_66, u42_68, u42_69, u42_70, u42_73, u42_74, u42_76, u42_77, u42_78, u42_79, u42_80, u42_83, u42_84, u42_85, u42_88, u42_89, u42_90, u42_91, u42_94, u42_95, u42_98, u42_101, u42_102, u42_105, u42_106, k0, wf, bI_f, true_or, or_true, wr_id, rng, rngp, if_pos, if_neg, if_true, if_false, reduceCtorEq, true_and, and_true, and_self, Option.toList_some, Option.toList_none, List.cons_append, List.nil_append, Int.toNat_natCast]
