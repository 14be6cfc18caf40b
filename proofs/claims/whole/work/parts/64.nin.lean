/-! what a node of the class takes -/
def cnF (f : Nat → Int) (r : Nat → List Int) (i : Int) : Bool := decide ((r i.toNat).length ≠ 0 ∧ f 7 ≠ i + 1)
def inF (f : Nat → Int) (r : Nat → List Int) : Int := if f 0 = 4 then (if cnF f r (f 6) = true then f 6 else if cnF f r (1 - f 6) = true then 1 - f 6 else -1) else if (r 0).length = 0 then -1 else 0
theorem sIn_F (σ : sS) (n : Nat) : sIn σ n = inF (sf σ n) (sr σ n) := rfl
theorem n_inToTake {sc : av_S} {d : Nat} {h : av_H} {a : Nat} {f : Nat → Int} {r : Nat → List Int} (N : CN h a f r) (h6 : f 6 = 0 ∨ f 6 = 1) (Q : Option av_V → av_H → Prop) : WP sc (d + 3) 10 0 [(0, .inr (.inl a))] [] h Q ↔ Q (some (.inl (inF f r))) h := by
  have can : ∀ (i : Int), 0 ≤ i ∧ i < 2 → ∀ Q, WP sc (d + 2) 11 0 [(0, .inr (.inl a)), (1, .inl i)] [] h Q ↔ Q (some (.inl (bI (cnF f r i)))) h := by
    intro i hi Q
    have := n_can (sc := sc) (d := d) (i := i.toNat) N (by omega) Q
    rw [show ((i.toNat : Nat) : Int) = i by omega] at this
    exact this
  obtain ⟨pa, la, K, -, -, ⟨i0, i1, i2, i3, i4, i5, i6, i7, i8, i9⟩, -, ⟨r0, r1, -⟩, -⟩ := N
  have k0 := K.1
  have k2 := K.2.2.1
  have s1 : (kd h (a + 2)).1 = 3 := r0.1.1
  have s2 : gI h (a + 2) 1 = ((r 0).length : Int) := r0.2.1
  unfold inF
  by_cases c4 : f 0 = 4
  · rw [if_pos c4]
    have ca := can (f 6) (by omega)
    have cb := can (1 - f 6) (by omega)
    cases q1 : cnF f r (f 6) <;> rw [q1] at ca
    · rw [if_neg (by simp)]
      cases q2 : cnF f r (1 - f 6) <;> rw [q2] at cb
      · rw [if_neg (by simp)]
        simp (disch := omega) only [u10_0, u10_1, u10_4, u10_5, u10_8, u10_9, u10_12, u10_15, u10_18, u10_19, u10_22, u10_23, u10_24, u10_25, u10_26, u10_29, u10_32, u10_35, u10_36, u10_39, u10_40, u10_41, u10_42, u10_43, u10_46, u10_47, u10_50, u10_53, u10_54, u10_55, u10_58, u10_59, u10_62, u10_63, k0, i0, i6, c4, ca, cb, bI_t, bI_f, wr_id, rng, rngp, if_pos, if_neg, if_true, if_false, reduceCtorEq, true_and, and_true, and_self, Option.toList_some, Option.toList_none, List.cons_append, List.nil_append, Int.toNat_natCast]
      · rw [if_pos rfl]
        simp (disch := omega) only [u10_0, u10_1, u10_4, u10_5, u10_8, u10_9, u10_12, u10_15, u10_18, u10_19, u10_22, u10_23, u10_24, u10_25, u10_26, u10_29, u10_32, u10_35, u10_36, u10_39, u10_40, u10_41, u10_42, u10_43, u10_46, u10_47, u10_50, u10_53, u10_54, u10_55, u10_58, u10_59, u10_62, u10_63, k0, i0, i6, c4, ca, cb, bI_t, bI_f, wr_id, rng, rngp, if_pos, if_neg, if_true, if_false, reduceCtorEq, true_and, and_true, and_self, Option.toList_some, Option.toList_none, List.cons_append, List.nil_append, Int.toNat_natCast]
    · rw [if_pos rfl]
      simp (disch := omega) only [u10_0, u10_1, u10_4, u10_5, u10_8, u10_9, u10_12, u10_15, u10_18, u10_19, u10_22, u10_23, u10_24, u10_25, u10_26, u10_29, u10_32, u10_35, u10_36, u10_39, u10_40, u10_41, u10_42, u10_43, u10_46, u10_47, u10_50, u10_53, u10_54, u10_55, u10_58, u10_59, u10_62, u10_63, k0, i0, i6, c4, ca, bI_t, bI_f, wr_id, rng, rngp, if_pos, if_neg, if_true, if_false, reduceCtorEq, true_and, and_true, and_self, Option.toList_some, Option.toList_none, List.cons_append, List.nil_append, Int.toNat_natCast]
  · rw [if_neg c4]
    by_cases cl : (r 0).length = 0
    · rw [if_pos cl]
      simp (disch := omega) only [u10_0, u10_1, u10_4, u10_5, u10_8, u10_9, u10_12, u10_15, u10_18, u10_19, u10_22, u10_23, u10_24, u10_25, u10_26, u10_29, u10_32, u10_35, u10_36, u10_39, u10_40, u10_41, u10_42, u10_43, u10_46, u10_47, u10_50, u10_53, u10_54, u10_55, u10_58, u10_59, u10_62, u10_63, k0, k2, i0, s1, s2, c4, wr_id, rng, rngp, if_pos, if_neg, if_true, if_false, reduceCtorEq, true_and, and_true, and_self, Option.toList_some, Option.toList_none, List.cons_append, List.nil_append, Int.toNat_natCast]
    · rw [if_neg cl]
      simp (disch := omega) only [u10_0, u10_1, u10_4, u10_5, u10_8, u10_9, u10_12, u10_15, u10_18, u10_19, u10_22, u10_23, u10_24, u10_25, u10_26, u10_29, u10_32, u10_35, u10_36, u10_39, u10_40, u10_41, u10_42, u10_43, u10_46, u10_47, u10_50, u10_53, u10_54, u10_55, u10_58, u10_59, u10_62, u10_63, k0, k2, i0, s1, s2, c4, wr_id, rng, rngp, if_pos, if_neg, if_true, if_false, reduceCtorEq, true_and, and_true, and_self, Option.toList_some, Option.toList_none, List.cons_append, List.nil_append, Int.toNat_natCast]
theorem n_itemHere {sc : av_S} {d : Nat} {h : av_H} {a : Nat} {f : Nat → Int} {r : Nat → List Int} (N : CN h a f r) (h0 : f 0 = 0) (h3 : 0 ≤ f 3 ∧ f 3 ≤ 99) (h4 : 0 ≤ f 4 ∧ f 4 ≤ 30) (Q : Option av_V → av_H → Prop) : WP sc (d + 1) 9 0 [(0, .inr (.inl a))] [] h Q ↔ Q (some (.inl ((f 3 * 7 + f 4 * f 4 + f 4 * 3) % 100))) h := by
  obtain ⟨pa, la, K, -, -, ⟨i0, i1, i2, i3, i4, i5, i6, i7, i8, i9⟩, -⟩ := N
  have k0 := K.1
  have i4' := i4 h0
  have sq : 0 ≤ f 4 * f 4 ∧ f 4 * f 4 ≤ 900 := by
    have h1 : f 4 * f 4 ≤ 30 * f 4 := Int.mul_le_mul_of_nonneg_right h4.2 h4.1
    have h2 : 0 ≤ f 4 * f 4 := Int.mul_nonneg h4.1 h4.1
    omega
  simp (disch := omega) only [u9_0, u9_1, u9_4, u9_6, u9_7, u9_8, u9_11, u9_12, u9_15, u9_16, u9_17, u9_18, u9_21, u9_22, u9_23, u9_24, u9_26, u9_27, k0, i3, i4', wr_id, rng, rngp, if_pos, if_neg, if_true, if_false, reduceCtorEq, true_and, and_true, and_self, Option.toList_some, Option.toList_none, List.cons_append, List.nil_append, Int.toNat_natCast]
