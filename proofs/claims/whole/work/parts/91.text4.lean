/-! the text of the class is read -/
theorem pOrd_2 {tx : List Int} {q : Nat} (hq : q ≤ tx.length) (h : (pOrd tx q).1 = true) : q + 2 ≤ (pOrd tx q).2.1 ∧ (pOrd tx q).2.1 ≤ tx.length ∧ ∃ ms, arN (tb tx q) = some ms ∧ (pOrd tx q).2.2.length = ms.length := ⟨(pOrd_le hq).2.2 h, (pOrd_le hq).2.1, pOrd_ar h⟩
theorem x_loop {sc : av_S} {d : Nat} {t : Nat} {tx : List Int} : ∀ (k p o : Nat) (h : av_H), tx.length < p + k → p ≤ tx.length → 2 * o ≤ p → XT h t tx (skp tx p) o → (o = 0 → skp tx p < tx.length) → ∃ h', (∃ p' o', XT h' t tx p' o') ∧ XF h h' t (5 * o) ∧ (∀ e, pAll k tx p = .inl e → ∀ Q, WP sc (d + 5) 39 16 [(0, .inr (.inl t)), (1, .inl (o : Int))] [] h Q ↔ Q (some (.inl (e : Int))) h') ∧ ∀ os, pAll k tx p = .inr os → (∀ Q, WP sc (d + 5) 39 16 [(0, .inr (.inl t)), (1, .inl (o : Int))] [] h Q ↔ Q (some (.inl (-1))) h') ∧ gI h' t 3 = ((o + os.length : Nat) : Int) ∧ o + os.length ≤ 60 ∧ ∀ j, j < os.length → gI h' (t + 2) (5 * (o + j)) = (os.getD j (0, [])).1 ∧ (∀ i, i < (os.getD j (0, [])).2.length → gI h' (t + 2) (5 * (o + j) + 1 + i) = (os.getD j (0, [])).2.getD i 0) ∧ ∃ ms, arN (os.getD j (0, [])).1 = some ms ∧ (os.getD j (0, [])).2.length = ms.length := by
  intro k
  induction k with
  | zero => intro p o h hk hp; omega
  | succ k ih =>
    intro p o h hk hp h2 T h0
    have tl := T.2.2.1
    have k0 := T.1.1
    have f1 := T.2.1
    have f3 := T.2.2.2.2.2
    have f4 := T.2.2.2.2.1
    have sg1 := skp_ge hp
    have sl := skp_le hp
    have pe : pAll (k + 1) tx p = if skp tx p < tx.length then (if (pOrd tx (skp tx p)).1 = true then (match pAll k tx (pOrd tx (skp tx p)).2.1 with
      | .inl e => .inl e
      | .inr os => .inr ((tb tx (skp tx p), (pOrd tx (skp tx p)).2.2) :: os)) else .inl (pOrd tx (skp tx p)).2.1) else .inr [] := rfl
    rw [pe]
    by_cases c : skp tx p < tx.length
    · rw [if_pos c]
      have ho : o < 60 := by omega
      obtain ⟨h1, w1, T1, F1, G1⟩ := x_order (sc := sc) (d := d) T sl ho
      have go : ∀ Q, WP sc (d + 5) 39 16 [(0, .inr (.inl t)), (1, .inl (o : Int))] [] h Q ↔ WP sc (d + 5) 39 44 [(0, .inr (.inl t)), (1, .inl (o : Int))] [.inl (bI (pOrd tx (skp tx p)).1)] h1 Q := by
        intro Q
        clear G1 T1
        rw [u39_16]
        by_cases o0 : o = 0
        · have o0' : (o : Int) = 0 := by omega
          simp (disch := omega) only [u39_0, u39_1, u39_2, u39_5, u39_6, u39_7, u39_10, u39_11, u39_14, u39_15, u39_17, u39_19, u39_22, u39_23, u39_26, u39_29, u39_30, u39_33, u39_34, u39_37, u39_40, u39_41, u39_47, u39_48, u39_51, u39_52, u39_53, u39_56, u39_59, u39_62, u39_63, k0, f3, o0', w1, wr_id, rng, rngp, if_pos, if_neg, if_true, if_false, reduceCtorEq, true_and, and_true, and_self, Option.toList_some, Option.toList_none, List.cons_append, List.nil_append, Int.toNat_natCast]
        · simp (disch := omega) only [u39_0, u39_1, u39_2, u39_5, u39_6, u39_7, u39_10, u39_11, u39_14, u39_15, u39_17, u39_19, u39_22, u39_23, u39_26, u39_29, u39_30, u39_33, u39_34, u39_37, u39_40, u39_41, u39_47, u39_48, u39_51, u39_52, u39_53, u39_56, u39_59, u39_62, u39_63, k0, f3, f4, f1, w1, wr_id, rng, rngp, if_pos, if_neg, if_true, if_false, reduceCtorEq, true_and, and_true, and_self, Option.toList_some, Option.toList_none, List.cons_append, List.nil_append, Int.toNat_natCast]
      by_cases c2 : (pOrd tx (skp tx p)).1 = true
      · rw [if_pos c2]
        obtain ⟨q1, q2, ms, q3, q4⟩ := pOrd_2 sl c2
        rw [if_pos c2] at T1
        rw [c2] at go
        obtain ⟨h2', w2, T2, F2⟩ := x_skip (sc := sc) (d := d + 2) T1 q2
        have w2' : ∀ Q, WP sc (d + 4) 45 0 [(0, .inr (.inl t))] [] h1 Q ↔ Q none h2' := w2
        have j0 := T1.1.1
        obtain ⟨h3, X3, F3, A3, B3⟩ := ih (pOrd tx (skp tx p)).2.1 (o + 1) h2' (by omega) q2 (by omega) T2 (by omega)
        have go2 : ∀ Q, WP sc (d + 5) 39 16 [(0, .inr (.inl t)), (1, .inl (o : Int))] [] h Q ↔ WP sc (d + 5) 39 16 [(0, .inr (.inl t)), (1, .inl ((o + 1 : Nat) : Int))] [] h2' Q := by
          intro Q
          rw [go Q]
          clear A3 B3 G1
          simp (disch := omega) only [u39_0, u39_1, u39_2, u39_5, u39_6, u39_7, u39_10, u39_11, u39_14, u39_15, u39_17, u39_19, u39_22, u39_23, u39_26, u39_29, u39_30, u39_33, u39_34, u39_37, u39_40, u39_41, u39_44, u39_47, u39_48, u39_51, u39_52, u39_53, u39_56, u39_59, u39_62, u39_63, j0, w2', bI_t, wr_id, rng, rngp, if_pos, if_neg, if_true, if_false, reduceCtorEq, true_and, and_true, and_self, Option.toList_some, Option.toList_none, List.cons_append, List.nil_append, Int.toNat_natCast]
          rw [show (o : Int) + 1 = ((o + 1 : Nat) : Int) by omega]
        refine ⟨h3, X3, ((F1.tr F2 (by omega)).tr F3 (by omega)), fun e he Q => ?_, fun os hos => ?_⟩
        · cases er : pAll k tx (pOrd tx (skp tx p)).2.1 with
          | inl e' =>
            rw [er] at he
            cases he
            rw [go2 Q]
            exact A3 _ er Q
          | inr os' => rw [er] at he; cases he
        · cases er : pAll k tx (pOrd tx (skp tx p)).2.1 with
          | inl e' => rw [er] at hos; cases hos
          | inr os' =>
            rw [er] at hos
            cases hos
            obtain ⟨b1, b2, b3, b4⟩ := B3 os' er
            obtain ⟨g1, g2⟩ := G1 c2
            refine ⟨fun Q => by rw [go2 Q]; exact b1 Q, ?_, ?_, fun j hj => ?_⟩
            · rw [b2]; show ((o + 1 + os'.length : Nat) : Int) = ((o + (os'.length + 1) : Nat) : Int); clear b4 g1 g2; omega
            · show o + (os'.length + 1) ≤ 60; clear b4 g1 g2; omega
            · cases j with
              | zero =>
                show gI h3 (t + 2) (5 * o) = tb tx (skp tx p) ∧ (∀ i, i < (pOrd tx (skp tx p)).2.2.length → gI h3 (t + 2) (5 * o + 1 + i) = (pOrd tx (skp tx p)).2.2.getD i 0) ∧ ∃ ms, arN (tb tx (skp tx p)) = some ms ∧ (pOrd tx (skp tx p)).2.2.length = ms.length
                have m4 := (arN_fl q3).1
                refine ⟨?_, fun i hi => ?_, ms, q3, q4⟩
                · rw [F3.2.2.2.2 _ (by clear b4 g1 g2; omega), F2.2.2.2.2 _ (by clear b4 g1 g2; omega)]; exact g1
                · rw [F3.2.2.2.2 _ (by clear b4 g1 g2; omega), F2.2.2.2.2 _ (by clear b4 g1 g2; omega)]; exact g2 i hi
              | succ j =>
                have := b4 j (by simpa using hj)
                rw [show o + 1 + j = o + (j + 1) by omega] at this
                exact this
      · rw [if_neg c2]
        rw [if_neg c2] at T1
        rw [Bool.eq_false_iff.mpr c2] at go
        refine ⟨h1, ⟨_, _, T1⟩, F1, fun e he Q => ?_, fun os hos => by cases hos⟩
        cases he
        rw [go Q]
        have j0 := T1.1.1
        have j4 := T1.2.2.2.2.1
        clear G1 T1
        simp (disch := omega) only [u39_0, u39_1, u39_2, u39_5, u39_6, u39_7, u39_10, u39_11, u39_14, u39_15, u39_17, u39_19, u39_22, u39_23, u39_26, u39_29, u39_30, u39_33, u39_34, u39_37, u39_40, u39_41, u39_44, u39_47, u39_48, u39_51, u39_52, u39_53, u39_56, u39_59, u39_62, u39_63, j0, j4, bI_f, wr_id, rng, rngp, if_pos, if_neg, if_true, if_false, reduceCtorEq, true_and, and_true, and_self, Option.toList_some, Option.toList_none, List.cons_append, List.nil_append, Int.toNat_natCast]
    · rw [if_neg c]
      refine ⟨h, ⟨_, _, T⟩, XF.rf, fun e he => (by cases he), fun os hos => ?_⟩
      cases hos
      refine ⟨fun Q => ?_, f3, by show o ≤ 60; omega, fun j hj => absurd hj (Nat.not_lt_zero j)⟩
      have : ¬ o = 0 := fun q => c (h0 q)
      rw [u39_16]
      by_cases ci : o ≤ 60
      · simp (disch := omega) only [u39_0, u39_1, u39_2, u39_5, u39_6, u39_7, u39_10, u39_11, u39_14, u39_15, u39_17, u39_19, u39_22, u39_23, u39_26, u39_29, u39_30, u39_33, u39_34, u39_37, u39_40, u39_41, u39_44, u39_47, u39_48, u39_51, u39_52, u39_53, u39_56, u39_59, u39_62, u39_63, k0, f3, f4, f1, wr_id, rng, rngp, if_pos, if_neg, if_true, if_false, reduceCtorEq, true_and, and_true, and_self, Option.toList_some, Option.toList_none, List.cons_append, List.nil_append, Int.toNat_natCast]
      · simp (disch := omega) only [u39_0, u39_1, u39_2, u39_5, u39_6, u39_7, u39_10, u39_11, u39_14, u39_15, u39_17, u39_19, u39_22, u39_23, u39_26, u39_29, u39_30, u39_33, u39_34, u39_37, u39_40, u39_41, u39_44, u39_47, u39_48, u39_51, u39_52, u39_53, u39_56, u39_59, u39_62, u39_63, wr_id, rng, rngp, if_pos, if_neg, if_true, if_false, reduceCtorEq, true_and, and_true, and_self, Option.toList_some, Option.toList_none, List.cons_append, List.nil_append, Int.toNat_natCast]
