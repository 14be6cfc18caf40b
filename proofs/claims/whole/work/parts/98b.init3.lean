/-! the object of the class is made -/
theorem XT.ga {h h' : av_H} {lo a n s t p o : Nat} {tx : List Int} (T : XT h t tx p o) (G : Ga h h' lo a n s) (e1 : t + 3 ≤ lo) (e2 : a < t ∨ t + 3 ≤ a) : XT h' t tx p o := by
  obtain ⟨⟨t0, t1, t2, t3, t4⟩, u1, u2, u3, u4, u5⟩ := T
  exact ⟨⟨by rw [G.2.2.1 _ (by omega)]; exact t0, by rw [G.2.2.2.2 _ _ (by omega) (by omega)]; exact t1, by rw [G.2.2.1 _ (by omega)]; exact t2, by rw [G.2.2.2.2 _ _ (by omega) (by omega)]; exact t3, by rw [G.2.2.1 _ (by omega)]; exact t4⟩, by rw [G.2.2.2.1 _ _ (by omega) (by omega)]; exact u1, u2, fun i hi => by rw [G.2.2.2.1 _ _ (by omega) (by omega)]; exact u3 i hi, by rw [G.2.2.2.1 _ _ (by omega) (by omega)]; exact u4, by rw [G.2.2.2.1 _ _ (by omega) (by omega)]; exact u5⟩
theorem le3 {p q r n : Nat} (a : p ≤ q + 5090) (b : q ≤ r + 5095 + 5090 * n) : p ≤ r + 5095 + 5090 * (n + 1) := by
  rw [Nat.mul_succ, ← Nat.add_assoc]
  exact Nat.le_trans a (Nat.add_le_add_right b _)
theorem b_init {sc : av_S} {d : Nat} {h : av_H} (hx : h.1.1 = 1) (hk : (kd h 2).1 = 6) (h0 : ∀ j, gI h 2 j = 0) : ∃ h', (∀ Q, WP sc (d + 5) 70 0 [(0, .inr (.inl 2))] [] h Q ↔ Q none h') ∧ CB h' (sNew, [], fun _ => 0, []) ∧ h'.1.1 = 978 ∧ h'.1.2 ≤ h.1.2 + 31000 ∧ ∀ b, b < 2 → kd h' b = kd h b ∧ (∀ j, gI h' b j = gI h b j) ∧ ∀ j, gR h' b j = gR h b j := by
  have ka : (kd (al h 5 10) 3).1 = 5 := by rw [kd_aL, if_pos (by omega)]
  obtain ⟨h1, w1, C1, G1⟩ := i_works (sc := sc) (d := d) (h := al h 5 10) (w := 3) (by rw [h11_al]; omega) (by omega) ka
  have Ga1 : Ga h h1 3 3 162 5090 := (Ga.al.lo (by omega) : Ga h (al h 5 10) 3 3 1 10).tr G1 (Nat.le_refl _)
  obtain ⟨g1, eg1⟩ : ∃ g, g = sR h1 2 0 3 := ⟨_, rfl⟩
  have g1n : g1.1.1 + 2 = 165 := by rw [eg1, h11_sR, Ga1.1]; omega
  obtain ⟨g2, eg2⟩ : ∃ g, g = sR (al g1 15 (Int.toNat 5)) 2 1 165 := ⟨_, rfl⟩
  have G12 : Ga h1 g2 165 2 1 5 := by
    rw [eg2]
    have x1 : Ga h1 g1 165 2 0 0 := by rw [eg1]; exact Ga.sR
    have x2 : Ga g1 (al g1 15 (Int.toNat 5)) 165 2 1 5 := Ga.al.lo (by omega)
    exact (x1.tr x2 (Nat.le_refl _)).tr Ga.sR (Nat.le_refl _)
  have k2 : (kd g2 2).1 = 6 := by rw [G12.2.2.1 2 (by omega), Ga1.2.2.1 2 (by omega)]; exact hk
  have r0 : gR g2 2 0 = 3 := by rw [eg2, gR_sR_ne (fun q => by omega), gR_al, if_neg (by omega), eg1, gR_sR_eq ⟨rfl, rfl⟩]
  have r1 : gR g2 2 1 = 165 := by rw [eg2, gR_sR_eq ⟨rfl, rfl⟩]
  have i2 : ∀ j, gI g2 2 j = 0 := by
    intro j
    rw [eg2, gI_sR, gI_al, if_neg (by omega), eg1, gI_sR, Ga1.2.2.2.1 2 j (by omega) (by omega)]
    exact h0 j
  have k165 : kd g2 165 = (15, 5) := by rw [eg2, kd_sR, kd_aL, if_pos (by omega)]; rfl
  have g2n : g2.1.1 = 164 := by rw [G12.1, Ga1.1]; omega
  have g2s : g2.1.2 ≤ h.1.2 + 5095 := by have := G12.2.1; have := Ga1.2.1; omega
  have C2 := C1.ga G12 (by omega) (by omega)
  have lp : ∀ (u n : Nat) (hk : av_H), u = 5 - n → n ≤ 5 → (kd hk 2).1 = 6 → gR hk 2 0 = 3 → gR hk 2 1 = 165 → (∀ j, gI hk 2 j = 0) → kd hk 165 = (15, 5) → CW hk 3 sNew → (∀ m, m < n → gR hk 165 m = 166 + 162 * m ∧ WW hk (166 + 162 * m)) → hk.1.1 = 164 + 162 * n → hk.1.2 ≤ h.1.2 + 5095 + 5090 * n → (∀ b, b < 2 → kd hk b = kd h b ∧ (∀ j, gI hk b j = gI h b j) ∧ ∀ j, gR hk b j = gR h b j) → WP sc (d + 5) 70 25 [(0, .inr (.inl 2)), (1, .inl (n : Int))] [] hk (fun r h' => r = none ∧ CB h' (sNew, [], fun _ => 0, []) ∧ h'.1.1 = 978 ∧ h'.1.2 ≤ h.1.2 + 31000 ∧ ∀ b, b < 2 → kd h' b = kd h b ∧ (∀ j, gI h' b j = gI h b j) ∧ ∀ j, gR h' b j = gR h b j) := by
    intro u
    induction u with
    | zero =>
      intro n hk hu hn y0 y1 y2 y3 y4 CC c z1 z2 z3
      have e : n = 5 := by omega
      subst e
      have kt : (kd (al hk 4 5) 976).1 = 4 := by rw [kd_aL, if_pos (by omega)]
      obtain ⟨h3, w3, T3, G3⟩ := i_text (sc := sc) (d := d + 3) (h := al hk 4 5) (t := 976) (by rw [h11_al]; omega) (by omega) kt (fun j => by rw [gI_al, if_pos (by omega)])
      have w3' : ∀ Q, WP sc (d + 4) 33 0 [(0, .inr (.inl 976))] [] (al hk 4 5) Q ↔ Q none h3 := w3
      have Ga3 : Ga hk h3 976 976 3 425 := (Ga.al.lo (by omega) : Ga hk (al hk 4 5) 976 976 1 5).tr G3 (Nat.le_refl _)
      obtain ⟨g4, eg4⟩ : ∃ g, g = sR h3 2 3 976 := ⟨_, rfl⟩
      have g4n : g4.1.1 + 2 = 979 := by rw [eg4, h11_sR, Ga3.1]; omega
      obtain ⟨g5, eg5⟩ : ∃ g, g = sR (al g4 10 (Int.toNat 3)) 2 4 979 := ⟨_, rfl⟩
      have G35 : Ga h3 g5 979 2 1 3 := by
        rw [eg5]
        have x1 : Ga h3 g4 979 2 0 0 := by rw [eg4]; exact Ga.sR
        have x2 : Ga g4 (al g4 10 (Int.toNat 3)) 979 2 1 3 := Ga.al.lo (by omega)
        exact (x1.tr x2 (Nat.le_refl _)).tr Ga.sR (Nat.le_refl _)
      have q6 : (kd h3 2).1 = 6 := by rw [Ga3.2.2.1 2 (by omega)]; exact y0
      have f : ∀ b j, b < 976 → b ≠ 2 → gI g5 b j = gI hk b j := fun b j hb hq => (G35.2.2.2.1 b j (by omega) hq).trans (Ga3.2.2.2.1 b j hb (by omega))
      have fr : ∀ b j, b < 976 → b ≠ 2 → gR g5 b j = gR hk b j := fun b j hb hq => (G35.2.2.2.2 b j (by omega) hq).trans (Ga3.2.2.2.2 b j hb (by omega))
      have fk : ∀ b, b < 976 → kd g5 b = kd hk b := fun b hb => (G35.2.2.1 b (by omega)).trans (Ga3.2.2.1 b hb)
      have v2 : ∀ j, gR h3 2 j = gR hk 2 j := fun j => Ga3.2.2.2.2 2 j (by omega) (by omega)
      have S5 : CB g5 (sNew, [], fun _ => 0, []) := by
        refine ⟨⟨?_, ?_, ?_, ?_, ?_, ?_, ?_⟩, (CC.ga Ga3 (by omega) (by omega)).ga G35 (by omega) (by omega), ?_, ⟨by decide, fun i => i, ⟨fun i hi => ⟨hi, ?_, ?_⟩, fun i j _ _ e => e⟩, fun j hj => absurd hj (Nat.not_lt_zero j)⟩, fun k hk' => ?_, 0, 0, T3.ga G35 (by omega) (by omega)⟩
        · rw [fk 2 (by omega)]; exact y0
        · rw [eg5, gR_sR_ne (fun q => by omega), gR_al, if_neg (by omega), eg4, gR_sR_ne (fun q => by omega), v2]; exact y1
        · rw [eg5, gR_sR_ne (fun q => by omega), gR_al, if_neg (by omega), eg4, gR_sR_ne (fun q => by omega), v2]; exact y2
        · rw [fk 165 (by omega)]; exact y4
        · rw [eg5, gR_sR_ne (fun q => by omega), gR_al, if_neg (by omega), eg4, gR_sR_eq ⟨rfl, rfl⟩]
        · rw [eg5, gR_sR_eq ⟨rfl, rfl⟩]
        · rw [eg5, kd_sR, kd_aL, if_pos (by omega)]; rfl
        · rw [eg5, gI_sR, gI_al, if_neg (by omega), eg4, gI_sR, Ga3.2.2.2.1 2 2 (by omega) (by omega), y3]; rfl
        · rw [fr 165 i (by omega) (by omega)]; exact (c i hi).1
        · exact ((c i hi).2.ga Ga3 (by omega) (by omega)).ga G35 (by omega) (by omega)
        · rw [eg5, gI_sR, gI_al, if_pos (by omega)]
      have s5 : g5.1.1 = 978 := by rw [G35.1, Ga3.1]; omega
      have s5' : g5.1.2 ≤ h.1.2 + 31000 := by have := G35.2.1; have := Ga3.2.1; omega
      have z5 : ∀ b, b < 2 → kd g5 b = kd h b ∧ (∀ j, gI g5 b j = gI h b j) ∧ ∀ j, gR g5 b j = gR h b j := by
        intro b hb
        obtain ⟨u1, u2, u3⟩ := z3 b hb
        exact ⟨(fk b (by omega)).trans u1, fun j => (f b j (by omega) (by omega)).trans (u2 j), fun j => (fr b j (by omega) (by omega)).trans (u3 j)⟩
      have en : hk.1.1 + 2 = 976 := by omega
      have t2 : (kd (al g4 10 (Int.toNat 3)) 2).1 = 6 := by rw [kd_aL, if_neg (by omega), eg4]; exact q6
      rw [u70_25]
      clear c f fr y3 z3 CC T3
      simp (disch := omega) only [u70_0, u70_1, u70_4, u70_5, u70_8, u70_9, u70_12, u70_15, u70_16, u70_17, u70_20, u70_23, u70_24, u70_26, u70_27, u70_30, u70_31, u70_34, u70_35, u70_38, u70_39, u70_42, u70_43, u70_46, u70_49, u70_50, u70_53, u70_54, u70_57, u70_61, u70_62, u70_64, u70_67, y0, en, kt, w3', q6, wr_id, rng, rngp, if_pos, if_neg, if_true, if_false, reduceCtorEq, true_and, and_true, and_self, Option.toList_some, Option.toList_none, List.cons_append, List.nil_append, Int.toNat_natCast]
      rw [← eg4]
      simp (disch := omega) only [u70_0, u70_1, u70_4, u70_5, u70_8, u70_9, u70_12, u70_15, u70_16, u70_17, u70_20, u70_23, u70_24, u70_26, u70_27, u70_30, u70_31, u70_34, u70_35, u70_38, u70_39, u70_42, u70_43, u70_46, u70_49, u70_50, u70_53, u70_54, u70_57, u70_60, u70_61, u70_62, u70_64, g4n, t2, wr_id, rng, rngp, if_pos, if_neg, if_true, if_false, reduceCtorEq, true_and, and_true, and_self, Option.toList_some, Option.toList_none, List.cons_append, List.nil_append, Int.toNat_natCast]
      rw [← eg5, u70_67]
      exact ⟨rfl, S5, s5, s5', z5⟩
    | succ u ih =>
      intro n hk hu hn y0 y1 y2 y3 y4 CC c z1 z2 z3
      obtain ⟨W, eW⟩ : ∃ W, W = 166 + 162 * n := ⟨_, rfl⟩
      have en : hk.1.1 + 2 = W := by omega
      have kw : (kd (al hk 5 10) W).1 = 5 := by rw [kd_aL, if_pos (by omega)]
      obtain ⟨h3, w3, C3, G3⟩ := i_works (sc := sc) (d := d) (h := al hk 5 10) (w := W) (by rw [h11_al]; omega) (by omega) kw
      have Ga3 : Ga hk h3 W W 162 5090 := (Ga.al.lo (by omega) : Ga hk (al hk 5 10) W W 1 10).tr G3 (Nat.le_refl _)
      have G4 : Ga h3 (sR h3 165 n W) (W + 162) 165 0 0 := Ga.sR
      have x0 : (kd h3 2).1 = 6 := by rw [Ga3.2.2.1 2 (by omega)]; exact y0
      have x4 : kd h3 165 = (15, 5) := by rw [Ga3.2.2.1 165 (by omega)]; exact y4
      have x1 : gR (sR h3 165 n W) 2 0 = 3 := by rw [gR_sR_ne (fun q => absurd q.1 (by decide)), Ga3.2.2.2.2 2 0 (by omega) (by omega)]; exact y1
      have x2 : gR (sR h3 165 n W) 2 1 = 165 := by rw [gR_sR_ne (fun q => absurd q.1 (by decide)), Ga3.2.2.2.2 2 1 (by omega) (by omega)]; exact y2
      have x3 : ∀ j, gI (sR h3 165 n W) 2 j = 0 := fun j => by rw [gI_sR, Ga3.2.2.2.1 2 j (by omega) (by omega)]; exact y3 j
      have x5 : CW (sR h3 165 n W) 3 sNew := (CC.ga Ga3 (by omega) (by omega)).ga G4 (by omega) (by omega)
      have x6 : ∀ m, m < n + 1 → gR (sR h3 165 n W) 165 m = 166 + 162 * m ∧ WW (sR h3 165 n W) (166 + 162 * m) := by
        intro m hm
        by_cases q : m = n
        · subst q
          rw [← eW]
          exact ⟨gR_sR_eq ⟨rfl, rfl⟩, C3.ww.ga G4 (Nat.le_refl _) (by omega)⟩
        · obtain ⟨c1, c2⟩ := c m (by omega)
          refine ⟨?_, (c2.ga Ga3 (by omega) (by omega)).ga G4 (by omega) (by omega)⟩
          rw [gR_sR_ne (fun z => q z.2), Ga3.2.2.2.2 165 m (by omega) (by omega)]
          exact c1
      have x7 : (sR h3 165 n W).1.1 = 164 + 162 * (n + 1) := by rw [h11_sR, Ga3.1]; omega
      have x8 : (sR h3 165 n W).1.2 ≤ h.1.2 + 5095 + 5090 * (n + 1) := by rw [h12_sR]; exact le3 Ga3.2.1 z2
      have x9 : ∀ b, b < 2 → kd (sR h3 165 n W) b = kd h b ∧ (∀ j, gI (sR h3 165 n W) b j = gI h b j) ∧ ∀ j, gR (sR h3 165 n W) b j = gR h b j := by
        intro b hb
        obtain ⟨u1, u2, u3⟩ := z3 b hb
        have nb : b ≠ 165 := by omega
        exact ⟨(Ga3.2.2.1 b (by omega)).trans u1, fun j => (Ga3.2.2.2.1 b j (by omega) (by omega)).trans (u2 j), fun j => (gR_sR_ne (fun q => nb q.1)).trans ((Ga3.2.2.2.2 b j (by omega) (by omega)).trans (u3 j))⟩
      have nx := ih (n + 1) (sR h3 165 n W) (by omega) (by omega) x0 x1 x2 x3 x4 x5 x6 x7 x8 x9
      have k5 : (kd h3 W).1 = 5 := C3.1.1
      have x4' : gR h3 2 1 = 165 := by rw [Ga3.2.2.2.2 2 1 (by omega) (by omega)]; exact y2
      rw [u70_25]
      clear c y3 z3 CC C3 x5 x6 x3 x9
      simp (disch := omega) only [u70_0, u70_1, u70_4, u70_5, u70_8, u70_9, u70_12, u70_15, u70_16, u70_17, u70_20, u70_23, u70_24, u70_26, u70_27, u70_30, u70_31, u70_34, u70_35, u70_38, u70_39, u70_42, u70_43, u70_46, u70_49, u70_50, u70_53, u70_54, u70_57, u70_60, u70_61, u70_62, u70_64, u70_67, y0, y2, en, kw, w3, x4, k5, or_true, wr_id, rng, rngp, if_pos, if_neg, if_true, if_false, reduceCtorEq, true_and, and_true, and_self, Option.toList_some, Option.toList_none, List.cons_append, List.nil_append, Int.toNat_natCast]
      rw [show (n : Int) + 1 = ((n + 1 : Nat) : Int) by omega]
      exact nx
  have big : WP sc (d + 5) 70 0 [(0, .inr (.inl 2))] [] h (fun r h' => r = none ∧ CB h' (sNew, [], fun _ => 0, []) ∧ h'.1.1 = 978 ∧ h'.1.2 ≤ h.1.2 + 31000 ∧ ∀ b, b < 2 → kd h' b = kd h b ∧ (∀ j, gI h' b j = gI h b j) ∧ ∀ j, gR h' b j = gR h b j) := by
    have := lp 5 0 g2 rfl (by omega) k2 r0 r1 i2 k165 C2 (fun m hm => absurd hm (Nat.not_lt_zero m)) (by omega) (by omega) (fun b hb => ⟨by rw [G12.2.2.1 b (by omega), Ga1.2.2.1 b (by omega)], fun j => by rw [G12.2.2.2.1 b j (by omega) (by omega), Ga1.2.2.2.1 b j (by omega) (by omega)], fun j => by rw [G12.2.2.2.2 b j (by omega) (by omega), Ga1.2.2.2.2 b j (by omega) (by omega)]⟩)
    have e3 : h.1.1 + 2 = 3 := by omega
    have k1 : (kd h1 2).1 = 6 := by rw [Ga1.2.2.1 2 (by omega)]; exact hk
    have kal : (kd (al g1 15 (Int.toNat 5)) 2).1 = 6 := by rw [kd_aL, if_neg (by omega), eg1]; exact k1
    clear lp i2
    have one2 : (1 < 2) = True := eq_true (by decide)
    simp (disch := omega) only [u70_0, u70_1, u70_4, u70_5, u70_8, u70_9, u70_12, u70_16, u70_17, u70_20, u70_23, u70_24, u70_26, u70_27, u70_30, u70_31, u70_34, u70_35, u70_38, u70_39, u70_42, u70_43, u70_46, u70_49, u70_50, u70_53, u70_54, u70_57, u70_60, u70_61, u70_62, u70_64, u70_67, hk, e3, ka, w1, k1, one2, wr_id, rng, rngp, if_pos, if_neg, if_true, if_false, reduceCtorEq, true_and, and_true, and_self, Option.toList_some, Option.toList_none, List.cons_append, List.nil_append, Int.toNat_natCast]
    rw [← eg1]
    simp (disch := omega) only [u70_0, u70_1, u70_4, u70_5, u70_8, u70_9, u70_12, u70_15, u70_16, u70_17, u70_20, u70_23, u70_24, u70_26, u70_27, u70_30, u70_31, u70_34, u70_35, u70_38, u70_39, u70_42, u70_43, u70_46, u70_49, u70_50, u70_53, u70_54, u70_57, u70_60, u70_61, u70_62, u70_64, u70_67, g1n, kal, wr_id, rng, rngp, if_pos, if_neg, if_true, if_false, reduceCtorEq, true_and, and_true, and_self, Option.toList_some, Option.toList_none, List.cons_append, List.nil_append, Int.toNat_natCast]
    rw [← eg2]
    exact this
  obtain ⟨r, h', hw, rfl, b⟩ := big.evE
  exact ⟨h', hw, b⟩
