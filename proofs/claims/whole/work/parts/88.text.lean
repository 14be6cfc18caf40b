/-! the text of the class -/
def XK (h : av_H) (t : Nat) : Prop := (kd h t).1 = 4 ∧ gR h t 0 = t + 1 ∧ kd h (t + 1) = (10, 120) ∧ gR h t 2 = t + 2 ∧ kd h (t + 2) = (10, 300)
def XT (h : av_H) (t : Nat) (tx : List Int) (p o : Nat) : Prop := XK h t ∧ gI h t 1 = (tx.length : Int) ∧ tx.length ≤ 120 ∧ (∀ i, i < tx.length → gI h (t + 1) i = tx.getD i 0) ∧ gI h t 4 = (p : Int) ∧ gI h t 3 = (o : Int)
/-- only the place has changed, and cells from c on -/
def XF (h h' : av_H) (t c : Nat) : Prop := h'.1 = h.1 ∧ (∀ a, kd h' a = kd h a) ∧ (∀ a k, gR h' a k = gR h a k) ∧ (∀ a k, a ≠ t + 2 → ¬ (a = t ∧ (k = 3 ∨ k = 4)) → gI h' a k = gI h a k) ∧ ∀ k, k < c → gI h' (t + 2) k = gI h (t + 2) k
theorem XF.rf {h : av_H} {t c : Nat} : XF h h t c := ⟨rfl, fun _ => rfl, fun _ _ => rfl, fun _ _ _ _ => rfl, fun _ _ => rfl⟩
theorem XF.tr {h h1 h2 : av_H} {t c e : Nat} (a : XF h h1 t c) (b : XF h1 h2 t e) (hc : c ≤ e) : XF h h2 t c := ⟨b.1.trans a.1, fun q => (b.2.1 q).trans (a.2.1 q), fun q k => (b.2.2.1 q k).trans (a.2.2.1 q k), fun q k e1 e2 => (b.2.2.2.1 q k e1 e2).trans (a.2.2.2.1 q k e1 e2), fun k hk => (b.2.2.2.2 k (by omega)).trans (a.2.2.2.2 k hk)⟩
theorem XF.fr {h h' : av_H} {t c : Nat} (a : XF h h' t c) : Fr h h' t (t + 3) := ⟨a.1, a.2.1, fun q k e => a.2.2.2.1 q k (by omega) (by omega), fun q k _ => a.2.2.1 q k⟩
theorem XF.pl {h : av_H} {t c k : Nat} {z : Int} (hk : k = 3 ∨ k = 4) : XF h (sI h t k z) t c := ⟨rfl, fun _ => rfl, fun _ _ => rfl, fun a j e1 e2 => by rw [gI_sI, if_neg (fun q => e2 ⟨q.1, by omega⟩)], fun j hj => by rw [gI_sI_nb (by omega)]⟩
theorem XF.ce {h : av_H} {t c k : Nat} {z : Int} (hk : c ≤ k) : XF h (sI h (t + 2) k z) t c := ⟨rfl, fun _ => rfl, fun _ _ => rfl, fun a j e1 e2 => by rw [gI_sI_nb e1], fun j hj => by rw [gI_sI_ne (by omega)]⟩
theorem XT.p {h : av_H} {t p q o : Nat} {tx : List Int} {z : Int} (T : XT h t tx p o) (e : z = (q : Int)) : XT (sI h t 4 z) t tx q o := by
  obtain ⟨K, a, b, c, _, f⟩ := T
  exact ⟨K, by rw [gI_sI_ne (by decide)]; exact a, b, fun i hi => by rw [gI_sI_nb (by omega)]; exact c i hi, by rw [gI_sI_eq rfl]; exact e, by rw [gI_sI_ne (by decide)]; exact f⟩
theorem XT.o {h : av_H} {t p q o : Nat} {tx : List Int} {z : Int} (T : XT h t tx p o) (e : z = (q : Int)) : XT (sI h t 3 z) t tx p q := by
  obtain ⟨K, a, b, c, f, _⟩ := T
  exact ⟨K, by rw [gI_sI_ne (by decide)]; exact a, b, fun i hi => by rw [gI_sI_nb (by omega)]; exact c i hi, by rw [gI_sI_ne (by decide)]; exact f, by rw [gI_sI_eq rfl]; exact e⟩
theorem XT.c {h : av_H} {t p o k : Nat} {tx : List Int} {z : Int} (T : XT h t tx p o) : XT (sI h (t + 2) k z) t tx p o := by
  obtain ⟨K, a, b, c, f, g⟩ := T
  exact ⟨K, by rw [gI_sI_nb (by omega)]; exact a, b, fun i hi => by rw [gI_sI_nb (by omega)]; exact c i hi, by rw [gI_sI_nb (by omega)]; exact f, by rw [gI_sI_nb (by omega)]; exact g⟩
theorem x_byte {sc : av_S} {d : Nat} {h : av_H} {t p o : Nat} {tx : List Int} (T : XT h t tx p o) (Q : Option av_V → av_H → Prop) : WP sc (d + 1) 43 0 [(0, .inr (.inl t))] [] h Q ↔ Q (some (.inl (tb tx p))) h := by
  obtain ⟨⟨k0, k1, k2, k3, k4⟩, a, b, c, f, g⟩ := T
  unfold tb
  by_cases e : p < tx.length
  · rw [if_pos e]
    have v := c p e
    simp (disch := omega) only [u43_0, u43_1, u43_4, u43_7, u43_8, u43_11, u43_12, u43_15, u43_18, u43_19, u43_22, u43_24, u43_27, u43_28, u43_31, u43_32, u43_35, u43_36, u43_39, u43_40, k0, k1, k2, a, f, v, wr_id, rng, rngp, if_pos, if_neg, if_true, if_false, reduceCtorEq, true_and, and_true, and_self, Option.toList_some, Option.toList_none, List.cons_append, List.nil_append, Int.toNat_natCast]
  · rw [if_neg e]
    simp (disch := omega) only [u43_0, u43_1, u43_4, u43_7, u43_8, u43_11, u43_12, u43_15, u43_18, u43_19, u43_22, u43_24, u43_27, u43_28, u43_31, u43_32, u43_35, u43_36, u43_39, u43_40, k0, a, f, wr_id, rng, rngp, if_pos, if_neg, if_true, if_false, reduceCtorEq, true_and, and_true, and_self, Option.toList_some, Option.toList_none, List.cons_append, List.nil_append, Int.toNat_natCast]
theorem x_fig {sc : av_S} {d : Nat} {h : av_H} {t p o : Nat} {tx : List Int} (T : XT h t tx p o) (Q : Option av_V → av_H → Prop) : WP sc (d + 2) 44 0 [(0, .inr (.inl t))] [] h Q ↔ Q (some (.inl (bI (fig tx p)))) h := by
  have wb : ∀ Q, WP sc (d + 1) 43 0 [(0, .inr (.inl t))] [] h Q ↔ Q (some (.inl (tb tx p))) h := fun Q => x_byte T Q
  have k0 := T.1.1
  by_cases c1 : 48 ≤ tb tx p
  · by_cases c2 : tb tx p ≤ 57
    · rw [show fig tx p = true from decide_eq_true ⟨c1, c2⟩]
      simp (disch := omega) only [u44_0, u44_1, u44_4, u44_6, u44_9, u44_10, u44_13, u44_15, u44_18, u44_19, u44_22, u44_23, k0, wb, bI_t, true_or, or_true, wr_id, rng, rngp, if_pos, if_neg, if_true, if_false, reduceCtorEq, true_and, and_true, and_self, Option.toList_some, Option.toList_none, List.cons_append, List.nil_append, Int.toNat_natCast]
    · rw [show fig tx p = false from decide_eq_false (fun q => c2 q.2)]
      simp (disch := omega) only [u44_0, u44_1, u44_4, u44_6, u44_9, u44_10, u44_13, u44_15, u44_18, u44_19, u44_22, u44_23, k0, wb, bI_f, true_or, or_true, wr_id, rng, rngp, if_pos, if_neg, if_true, if_false, reduceCtorEq, true_and, and_true, and_self, Option.toList_some, Option.toList_none, List.cons_append, List.nil_append, Int.toNat_natCast]
  · rw [show fig tx p = false from decide_eq_false (fun q => c1 q.1)]
    simp (disch := omega) only [u44_0, u44_1, u44_4, u44_6, u44_9, u44_10, u44_13, u44_15, u44_18, u44_19, u44_22, u44_23, k0, wb, bI_f, true_or, or_true, wr_id, rng, rngp, if_pos, if_neg, if_true, if_false, reduceCtorEq, true_and, and_true, and_self, Option.toList_some, Option.toList_none, List.cons_append, List.nil_append, Int.toNat_natCast]
theorem x_skip {sc : av_S} {d : Nat} {h : av_H} {t p o : Nat} {tx : List Int} (T : XT h t tx p o) (hp : p ≤ tx.length) : ∃ h', (∀ Q, WP sc (d + 2) 45 0 [(0, .inr (.inl t))] [] h Q ↔ Q none h') ∧ XT h' t tx (skp tx p) o ∧ XF h h' t 1000 := by
  have tl := T.2.2.1
  have lp : ∀ (u q i : Nat) (hk : av_H), u = tx.length - q → q ≤ tx.length → i ≤ q → XT hk t tx q o → skp tx q = skp tx p → XF h hk t 1000 → WP sc (d + 2) 45 2 [(0, .inr (.inl t)), (1, .inl (i : Int))] [] hk (fun r h' => r = none ∧ XT h' t tx (skp tx p) o ∧ XF h h' t 1000) := by
    intro u
    induction u with
    | zero =>
      intro q i hk hu hq hi T1 e F1
      have e2 : tb tx q = -1 := tb_out (by omega)
      have wb : ∀ Q, WP sc (d + 1) 43 0 [(0, .inr (.inl t))] [] hk Q ↔ Q (some (.inl (tb tx q))) hk := fun Q => x_byte T1 Q
      rw [e2] at wb
      have k0 := T1.1.1
      rw [skp_n (by omega)] at e
      rw [e] at T1
      rw [u45_2]
      by_cases ci : i < 120
      · simp (disch := omega) only [u45_0, u45_1, u45_3, u45_5, u45_8, u45_9, u45_12, u45_14, u45_17, u45_18, u45_19, u45_22, u45_23, u45_24, u45_27, u45_30, u45_33, k0, wb, wr_id, rng, rngp, if_pos, if_neg, if_true, if_false, reduceCtorEq, true_and, and_true, and_self, Option.toList_some, Option.toList_none, List.cons_append, List.nil_append, Int.toNat_natCast]
        exact ⟨T1, F1⟩
      · simp (disch := omega) only [u45_0, u45_1, u45_3, u45_5, u45_8, u45_9, u45_12, u45_14, u45_17, u45_18, u45_19, u45_22, u45_23, u45_24, u45_27, u45_30, u45_33, wr_id, rng, rngp, if_pos, if_neg, if_true, if_false, reduceCtorEq, true_and, and_true, and_self, Option.toList_some, Option.toList_none, List.cons_append, List.nil_append, Int.toNat_natCast]
        exact ⟨T1, F1⟩
    | succ u ih =>
      intro q i hk hu hq hi T1 e F1
      have wb : ∀ Q, WP sc (d + 1) 43 0 [(0, .inr (.inl t))] [] hk Q ↔ Q (some (.inl (tb tx q))) hk := fun Q => x_byte T1 Q
      have k0 := T1.1.1
      have f4 := T1.2.2.2.2.1
      by_cases c : tb tx q = 32
      · rw [c] at wb
        have T2 : XT (sI hk t 4 ((q : Int) + 1)) t tx (q + 1) o := T1.p rfl
        have nx := ih (q + 1) (i + 1) _ (by omega) (by omega) (by omega) T2 (by rw [← skp_y c]; exact e) (F1.tr (XF.pl (Or.inr rfl)) (Nat.le_refl _))
        clear T2
        rw [u45_2]
        simp (disch := omega) only [u45_0, u45_1, u45_3, u45_5, u45_8, u45_9, u45_12, u45_14, u45_17, u45_18, u45_19, u45_22, u45_23, u45_24, u45_27, u45_30, u45_33, k0, wb, f4, wr_id, rng, rngp, if_pos, if_neg, if_true, if_false, reduceCtorEq, true_and, and_true, and_self, Option.toList_some, Option.toList_none, List.cons_append, List.nil_append, Int.toNat_natCast]
        exact nx
      · rw [skp_n c] at e
        rw [e] at T1
        rw [u45_2]
        simp (disch := omega) only [u45_0, u45_1, u45_3, u45_5, u45_8, u45_9, u45_12, u45_14, u45_17, u45_18, u45_19, u45_22, u45_23, u45_24, u45_27, u45_30, u45_33, k0, wb, c, wr_id, rng, rngp, if_pos, if_neg, if_true, if_false, reduceCtorEq, true_and, and_true, and_self, Option.toList_some, Option.toList_none, List.cons_append, List.nil_append, Int.toNat_natCast]
        exact ⟨T1, F1⟩
  have big : WP sc (d + 2) 45 0 [(0, .inr (.inl t))] [] h (fun r h' => r = none ∧ XT h' t tx (skp tx p) o ∧ XF h h' t 1000) := by
    have := lp _ p 0 h rfl hp (by omega) T rfl XF.rf
    simp (disch := omega) only [u45_0, u45_1, u45_3, u45_5, u45_8, u45_9, u45_12, u45_14, u45_17, u45_18, u45_19, u45_22, u45_23, u45_24, u45_27, u45_30, u45_33, wr_id, rng, rngp, if_pos, if_neg, if_true, if_false, reduceCtorEq, true_and, and_true, and_self, Option.toList_some, Option.toList_none, List.cons_append, List.nil_append, Int.toNat_natCast]
    exact this
  obtain ⟨r, h', hw, rfl, b⟩ := big.evE
  exact ⟨h', hw, b⟩
theorem x_setCell {sc : av_S} {d : Nat} {h : av_H} {t k : Nat} {z : Int} (K : XK h t) (hk : k < 300) (Q : Option av_V → av_H → Prop) : WP sc (d + 1) 38 0 [(0, .inr (.inl t)), (1, .inl (k : Int)), (2, .inl z)] [] h Q ↔ Q none (sI h (t + 2) k z) := by
  obtain ⟨k0, k1, k2, k3, k4⟩ := K
  simp (disch := omega) only [u38_0, u38_1, u38_4, u38_5, u38_6, u38_9, u38_10, u38_13, u38_14, u38_17, u38_18, u38_19, u38_20, k0, k3, k4, wr_id, rng, rngp, if_pos, if_neg, if_true, if_false, reduceCtorEq, true_and, and_true, and_self, Option.toList_some, Option.toList_none, List.cons_append, List.nil_append, Int.toNat_natCast]
theorem x_cell {sc : av_S} {d : Nat} {h : av_H} {t k : Nat} (K : XK h t) (hk : k < 300) (Q : Option av_V → av_H → Prop) : WP sc (d + 1) 37 0 [(0, .inr (.inl t)), (1, .inl (k : Int))] [] h Q ↔ Q (some (.inl (gI h (t + 2) k))) h := by
  obtain ⟨k0, k1, k2, k3, k4⟩ := K
  simp (disch := omega) only [u37_0, u37_1, u37_4, u37_5, u37_6, u37_9, u37_10, u37_13, u37_14, u37_17, u37_18, u37_19, u37_22, u37_23, k0, k3, k4, wr_id, rng, rngp, if_pos, if_neg, if_true, if_false, reduceCtorEq, true_and, and_true, and_self, Option.toList_some, Option.toList_none, List.cons_append, List.nil_append, Int.toNat_natCast]
