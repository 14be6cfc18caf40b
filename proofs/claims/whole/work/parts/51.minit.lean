/-! the reference is made -/
theorem kd_aL (h : av_H) (q n b : Nat) : kd (al h q n) b = if b = h.1.1 + 2 then (q, n) else kd h b := rfl
theorem gI_al (h : av_H) (q n b j : Nat) : gI (al h q n) b j = if b = h.1.1 + 2 then 0 else gI h b j := rfl
theorem gR_al (h : av_H) (q n b j : Nat) : gR (al h q n) b j = if b = h.1.1 + 2 then 0 else gR h b j := rfl
theorem h1_al (h : av_H) (q n : Nat) : (al h q n).1 = (h.1.1 + 1, h.1.2 + n) := rfl
theorem h11_al (h : av_H) (q n : Nat) : (al h q n).1.1 = h.1.1 + 1 := rfl
theorem h11_sR (h : av_H) (a k r : Nat) : (sR h a k r).1.1 = h.1.1 := rfl
theorem h12_al (h : av_H) (q n : Nat) : (al h q n).1.2 = h.1.2 + n := rfl
theorem h12_sR (h : av_H) (a k r : Nat) : (sR h a k r).1.2 = h.1.2 := rfl
theorem gR_sR_eq {h : av_H} {a k r b j : Nat} (e : b = a ∧ j = k) : gR (sR h a k r) b j = r := by rw [gR_sR, if_pos e]
theorem gR_sR_ne {h : av_H} {a k r b j : Nat} (e : ¬ (b = a ∧ j = k)) : gR (sR h a k r) b j = gR h b j := by rw [gR_sR, if_neg e]
theorem c_init {sc : av_S} {d : Nat} {h : av_H} {x : Nat} (hx : h.1.1 + 1 = x) (hx1 : 1 < x) (hk : (kd h x).1 = 7) (h0 : ∀ j, gI h x j = 0) : ∃ h', (∀ Q, WP sc (d + 2) 94 0 [(0, .inr (.inl x))] [] h Q ↔ Q none h') ∧ MSS h' x (sNew, [], fun _ => 0, []) ∧ h'.1 = (h.1.1 + 5, h.1.2 + 44971) ∧ ∀ a, a < x → kd h' a = kd h a ∧ (∀ j, gI h' a j = gI h a j) ∧ ∀ j, gR h' a j = gR h a j := by
  have key : ∀ (E : av_H) (Q : Option av_V → av_H → Prop), MK E x → gI E x 2 = 0 → gI E x 4 = 0 → (∀ k, gI E (x + 3) k = 0) → E.1 = (h.1.1 + 5, h.1.2 + 44971) → (∀ a, a < x → kd E a = kd h a ∧ (∀ j, gI E a j = gI h a j) ∧ ∀ j, gR E a j = gR h a j) → (∀ h', (MSS h' x (sNew, [], fun _ => 0, []) ∧ h'.1 = (h.1.1 + 5, h.1.2 + 44971) ∧ ∀ a, a < x → kd h' a = kd h a ∧ (∀ j, gI h' a j = gI h a j) ∧ ∀ j, gR h' a j = gR h a j) → Q none h') → WP sc (d + 1) 97 0 [(0, .inr (.inl x))] [] E Q := by
    intro E Q K g2 g4 g3 e1 fr fin
    obtain ⟨h', hw, H, F⟩ := m_anew (sc := sc) (d := d) K
    rw [hw]
    refine fin _ ⟨⟨K.mf F, H, ⟨by rw [F.gI (by omega)]; exact g2, by simp, fun j hj => by simp at hj⟩, fun k hk => by rw [F.gI (by omega)]; exact g3 k, by rw [F.gI (by omega)]; exact g4, by simp, fun i hi => by simp at hi⟩, F.1.trans e1, fun a ha => ?_⟩
    obtain ⟨a1, a2, a3⟩ := fr a ha
    exact ⟨(F.kd a).trans a1, fun j => (F.gI (by omega) j).trans (a2 j), fun j => (F.gR a j).trans (a3 j)⟩
  have t1 : Int.toNat 7474 = 7474 := rfl
  have t2 : Int.toNat 37370 = 37370 := rfl
  have t3 : Int.toNat 3 = 3 := rfl
  have t4 : Int.toNat 120 = 120 := rfl
  have t5 : Int.toNat 4 = 4 := rfl
  have big : WP sc (d + 2) 94 0 [(0, .inr (.inl x))] [] h (fun r h' => r = none ∧ MSS h' x (sNew, [], fun _ => 0, []) ∧ h'.1 = (h.1.1 + 5, h.1.2 + 44971) ∧ ∀ a, a < x → kd h' a = kd h a ∧ (∀ j, gI h' a j = gI h a j) ∧ ∀ j, gR h' a j = gR h a j) := by
    simp (disch := omega) only [u94_0, u94_1, u94_4, u94_5, u94_8, u94_10, u94_13, u94_14, u94_16, u94_18, u94_21, u94_22, u94_23, u94_25, u94_28, u94_29, u94_31, u94_33, u94_36, u94_37, u94_38, u94_40, u94_43, u94_44, u94_47, t1, t2, t3, t4, t5, kd_aL, kd_sR, h11_al, h11_sR, hk, wr_id, rng, rngp, if_pos, if_neg, if_true, if_false, reduceCtorEq, true_and, and_true, and_self, Option.toList_some, Option.toList_none, List.cons_append, List.nil_append, Int.toNat_natCast]
    refine ⟨hx1, key _ _ ?_ ?_ ?_ ?_ ?_ ?_ ?_⟩
    · unfold MK
      simp (disch := omega) only [kd_aL, kd_sR, gR_al, gR_sR_eq, gR_sR_ne, h11_al, h11_sR, hk, wr_id, rng, rngp, if_pos, if_neg, if_true, if_false, reduceCtorEq, true_and, and_true, and_self, Option.toList_some, Option.toList_none, List.cons_append, List.nil_append, Int.toNat_natCast]
      omega
    · simp (disch := omega) only [gI_al, gI_sR, h11_al, h11_sR, h0, wr_id, rng, rngp, if_pos, if_neg, if_true, if_false, reduceCtorEq, true_and, and_true, and_self, Option.toList_some, Option.toList_none, List.cons_append, List.nil_append, Int.toNat_natCast]
    · simp (disch := omega) only [gI_al, gI_sR, h11_al, h11_sR, h0, wr_id, rng, rngp, if_pos, if_neg, if_true, if_false, reduceCtorEq, true_and, and_true, and_self, Option.toList_some, Option.toList_none, List.cons_append, List.nil_append, Int.toNat_natCast]
    · intro k
      simp (disch := omega) only [gI_al, gI_sR, h11_al, h11_sR, h0, wr_id, rng, rngp, if_pos, if_neg, if_true, if_false, reduceCtorEq, true_and, and_true, and_self, Option.toList_some, Option.toList_none, List.cons_append, List.nil_append, Int.toNat_natCast]
    · refine Prod.ext ?_ ?_
      · rw [h11_sR, h11_al, h11_sR, h11_al, h11_sR, h11_al, h11_sR, h11_al, h11_sR, h11_al]
      · have q : ∀ n : Nat, n + 7474 + 37370 + 3 + 120 + 4 = n + 44971 := by intro n; omega
        refine Eq.trans (b := h.1.2 + 7474 + 37370 + 3 + 120 + 4) ?_ (q h.1.2)
        rw [h12_sR, h12_al, h12_sR, h12_al, h12_sR, h12_al, h12_sR, h12_al, h12_sR, h12_al]
    · intro a ha
      refine ⟨?_, fun j => ?_, fun j => ?_⟩
      · simp (disch := omega) only [kd_aL, kd_sR, h11_al, h11_sR, wr_id, rng, rngp, if_pos, if_neg, if_true, if_false, reduceCtorEq, true_and, and_true, and_self, Option.toList_some, Option.toList_none, List.cons_append, List.nil_append, Int.toNat_natCast]
      · simp (disch := omega) only [gI_al, gI_sR, h11_al, h11_sR, wr_id, rng, rngp, if_pos, if_neg, if_true, if_false, reduceCtorEq, true_and, and_true, and_self, Option.toList_some, Option.toList_none, List.cons_append, List.nil_append, Int.toNat_natCast]
      · simp (disch := omega) only [gR_al, gR_sR_ne, h11_al, h11_sR, wr_id, rng, rngp, if_pos, if_neg, if_true, if_false, reduceCtorEq, true_and, and_true, and_self, Option.toList_some, Option.toList_none, List.cons_append, List.nil_append, Int.toNat_natCast]
    · intro h' P
      simp only [u94_0, u94_1, u94_4, u94_5, u94_8, u94_10, u94_13, u94_14, u94_16, u94_18, u94_21, u94_22, u94_23, u94_25, u94_28, u94_29, u94_31, u94_33, u94_36, u94_37, u94_38, u94_40, u94_43, u94_44, u94_47, wr_id, rng, rngp, if_pos, if_neg, if_true, if_false, reduceCtorEq, true_and, and_true, and_self, Option.toList_some, Option.toList_none, List.cons_append, List.nil_append, Int.toNat_natCast]
      exact P
  obtain ⟨r, h', hw, rfl, a, b⟩ := big.evE
  exact ⟨h', hw, a, b⟩
