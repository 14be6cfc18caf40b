/-! a node of the class goes back, and starts -/
def nGf (f : Nat → Int) : Nat → Int := fun k => if k = 5 ∨ k = 6 ∨ k = 7 ∨ k = 8 ∨ k = 9 then 0 else if k = 4 then f 14 else if k = 10 then f 15 else if k = 11 then f 16 else if k = 12 then f 17 else if k = 13 then f 18 else f k
def nGr (f : Nat → Int) (r : Nat → List Int) : Nat → List Int := fun k => if k = 0 then (if f 26 = 1 then r 3 else []) else if k = 1 then (if f 26 = 2 then r 3 else []) else if k = 4 ∨ k = 5 then [] else r k
theorem nGf_s {f : Nat → Int} {k : Nat} (h : k < 4) : nGf f (10 + k) = f (15 + k) := by
  have c : k = 0 ∨ k = 1 ∨ k = 2 ∨ k = 3 := by omega
  rcases c with rfl | rfl | rfl | rfl <;> rfl
theorem nGf_t {f : Nat → Int} {k : Nat} (h : 14 ≤ k) : nGf f k = f k := by
  unfold nGf
  rw [if_neg (by omega), if_neg (by omega), if_neg (by omega), if_neg (by omega), if_neg (by omega), if_neg (by omega)]
theorem NI.cg4 {h : av_H} {a : Nat} {f g : Nat → Int} (N : NI h a f) (e : ∀ k, k < 10 → k ≠ 4 → g k = f k) (e4 : f 0 = 0 → g 4 = f 4) : NI h a g := by
  unfold NI at N ⊢
  rw [e 0 (by decide) (by decide), e 1 (by decide) (by decide), e 2 (by decide) (by decide), e 3 (by decide) (by decide), e 5 (by decide) (by decide), e 6 (by decide) (by decide), e 7 (by decide) (by decide), e 8 (by decide) (by decide), e 9 (by decide) (by decide)]
  exact ⟨N.1, N.2.1, N.2.2.1, N.2.2.2.1, fun q => (N.2.2.2.2.1 q).trans (e4 q).symm, N.2.2.2.2.2⟩
theorem n_goBack {sc : av_S} {d : Nat} {h : av_H} {a : Nat} {f : Nat → Int} {r : Nat → List Int} (N : CN h a f r) (h26 : f 26 = 0 ∨ f 26 = 1 ∨ f 26 = 2) : ∃ h', (∀ Q, WP sc (d + 2) 2 0 [(0, .inr (.inl a))] [] h Q ↔ Q none h') ∧ CN h' a (nGf f) (nGr f r) ∧ Fr h h' a (a + 20) := by
  obtain ⟨pa, la, K, P, L, I, S, R, p, l⟩ := N.to
  have pl := K.pl
  obtain ⟨X1, eX1⟩ : ∃ X, X = sI (sI (sI (sI (sI h a 5 0) a 6 0) a 7 (-1)) a 8 (-1)) a 9 0 := ⟨_, rfl⟩
  have FX : Fr h X1 a (a + 1) := by rw [eX1]; exact (((fr1.tr fr1).tr fr1).tr fr1).tr fr1
  have KX : NK X1 a pa la := by rw [eX1]; exact K
  have IX : NI X1 a (ud (ud (ud (ud (ud f 5 0) 6 0) 7 0) 8 0) 9 0) := by
    rw [eX1]
    exact ((((I.set (k := 5) (z := 0) (w := 0) (by decide) rfl).set (k := 6) (z := 0) (w := 0) (by decide) rfl).set (k := 7) (z := -1) (w := 0) (by decide) rfl).set (k := 8) (z := -1) (w := 0) (by decide) rfl).set (k := 9) (z := 0) (w := 0) (by decide) rfl
  obtain ⟨r0, r1, r4, r5, r6⟩ := R
  obtain ⟨g1, w1, R1, F1⟩ := r_drop (sc := sc) (d := d) (r4.fr FX (by omega)).1
  obtain ⟨g2, w2, R2, F2⟩ := r_drop (sc := sc) (d := d) ((r5.fr FX (by omega)).fr F1 (by omega)).1
  have K1 := KX.fr F1 (by omega)
  have K2 := K1.fr F2 (by omega)
  have I2 := (IX.fr F1 (by omega)).fr F2 (by omega)
  have L2 := ((L.fr FX (by omega)).fr F1 (by omega)).fr F2 (by omega)
  obtain ⟨X2, eX2⟩ : ∃ X, X = cp (sI g2 a 4 (gI g2 la 0)) (la + 1) (Int.toNat 0) (a + 1) (Int.toNat 0) (Int.toNat 4) := ⟨_, rfl⟩
  have FY : Fr g2 X2 a (a + 2) := by rw [eX2]; exact (Fr.sI (by omega)).tr (Fr.cp (by omega))
  have KY : NK X2 a pa la := by rw [eX2]; exact K2
  have IY : NI X2 a (ud (ud (ud (ud (ud (ud f 5 0) 6 0) 7 0) 8 0) 9 0) 4 (gI g2 la 0)) := by
    rw [eX2]
    exact (I2.set (by omega) rfl).fr (Fr.cp (lo := a + 1) (hi := a + 2) (by omega)) (by omega)
  have SY : ∀ k, k < 4 → gI X2 (a + 1) k = gI g2 (la + 1) k := by
    intro k hk
    rw [eX2, gI_cp, if_pos ⟨rfl, by show 0 ≤ k; omega, by show k < 0 + 4; omega⟩, gI_sI_nb (by omega)]
    congr 1
    show 0 + (k - 0) = k
    omega
  obtain ⟨g3, w3, R3, F3⟩ := r_drop (sc := sc) (d := d) ((((r0.fr FX (by omega)).fr F1 (by omega)).fr F2 (by omega)).fr FY (by omega)).1
  obtain ⟨g4, w4, R4, F4⟩ := r_drop (sc := sc) (d := d) (((((r1.fr FX (by omega)).fr F1 (by omega)).fr F2 (by omega)).fr FY (by omega)).fr F3 (by omega)).1
  have K3 := KY.fr F3 (by omega)
  have K4 := K3.fr F4 (by omega)
  have L4 := ((L2.fr FY (by omega)).fr F3 (by omega)).fr F4 (by omega)
  have P4 := (((((P.fr FX (by omega)).fr F1 (by omega)).fr F2 (by omega)).fr FY (by omega)).fr F3 (by omega)).fr F4 (by omega)
  have l2 := ((l.fr FX (by omega)).fr F1 (by omega)).fr F2 (by omega)
  have l4 := ((l2.fr FY (by omega)).fr F3 (by omega)).fr F4 (by omega)
  have p4 := (((((p.fr FX (by omega)).fr F1 (by omega)).fr F2 (by omega)).fr FY (by omega)).fr F3 (by omega)).fr F4 (by omega)
  have R1' := (((R1.fr F2 (by omega)).fr FY (by omega)).fr F3 (by omega)).fr F4 (by omega)
  have R2' := ((R2.fr FY (by omega)).fr F3 (by omega)).fr F4 (by omega)
  have R3' := R3.fr F4 (by omega)
  have R6' := (((((r6.fr FX (by omega)).fr F1 (by omega)).fr F2 (by omega)).fr FY (by omega)).fr F3 (by omega)).fr F4 (by omega)
  have I4 : NI g4 a (nGf f) := by
    refine ((IY.fr F3 (by omega)).fr F4 (by omega)).cg4 (fun k hk h4 => ?_) (fun q => ?_)
    · have c : k = 0 ∨ k = 1 ∨ k = 2 ∨ k = 3 ∨ k = 5 ∨ k = 6 ∨ k = 7 ∨ k = 8 ∨ k = 9 := by clear SY; omega
      rcases c with rfl | rfl | rfl | rfl | rfl | rfl | rfl | rfl | rfl <;> rfl
    · exact (l2.1 q).symm
  have S4 : NS g4 a (nGf f) := by
    intro q k hk
    rw [F4.i (by omega), F3.i (by omega), SY k hk, nGf_s hk]
    exact l2.2.1 q k hk
  have p4' : CPa g4 pa (nGf f) (nGr f r) := ⟨fun q => absurd q (by decide : ¬ (0 : Int) = 1), fun q => q.elim (fun q => absurd q.1 (by decide : ¬ (0 : Int) = 1)) (fun q => absurd rfl q), p4.2.2⟩
  have l4' : CLa g4 la (nGf f) (nGr f r) := l4.cg rfl rfl (fun k hk => nGf_t (by omega)) rfl rfl rfl
  have G4 : Fr h g4 a (a + 20) := (((((FX.wd (by omega) (by omega)).tr (F1.wd (by omega) (by omega))).tr (F2.wd (by omega) (by omega))).tr (FY.wd (by omega) (by omega))).tr (F3.wd (by omega) (by omega))).tr (F4.wd (by omega) (by omega))
  have v3 : gI g4 la 3 = f 26 - 1 := l4.2.2.1
  have road : ∀ Q, WP sc (d + 2) 2 0 [(0, .inr (.inl a))] [] h Q ↔ WP sc (d + 2) 2 81 [(0, .inr (.inl a))] [] g4 Q := by
    intro Q
    have k0 := K.1
    have k4 := KX.2.2.2.2.1
    have m4 : (kd X1 (a + 6)).1 = 3 := (r4.fr FX (by omega)).1.1
    have j0 := K1.1
    have j5 := K1.2.2.2.2.2.1
    have m5 : (kd g1 (a + 8)).1 = 3 := ((r5.fr FX (by omega)).fr F1 (by omega)).1.1
    have i0 := K2.1
    have ks := K2.2.1.1
    have kt := K2.2.1.2
    have i7 := K2.2.2.2.2.2.2.2.2.1
    have q0 := L2.1
    have q1 := L2.2.1
    have q2 := L2.2.2.1
    have y2 := KY.2.2.1
    have m0 : (kd X2 (a + 2)).1 = 3 := ((((r0.fr FX (by omega)).fr F1 (by omega)).fr F2 (by omega)).fr FY (by omega)).1.1
    have x0 := K3.1
    have x3 := K3.2.2.2.1
    have m1 : (kd g3 (a + 4)).1 = 3 := (((((r1.fr FX (by omega)).fr F1 (by omega)).fr F2 (by omega)).fr FY (by omega)).fr F3 (by omega)).1.1
    clear S4 I4 p4' l4' l4 p4 l2 v3 R1 R2 R3 R4 R1' R2' R3' R6' SY IY IX I2
    have z0 : (kd X1 a).1 = 1 := KX.1
    have y0 : (kd X2 a).1 = 1 := KY.1
    simp (disch := omega) only [u2_0, u2_1, u2_2, u2_5, u2_6, u2_7, u2_10, u2_11, u2_12, u2_15, u2_16, u2_17, u2_20, u2_21, u2_22, u2_26, u2_29, u2_32, u2_33, u2_36, u2_39, u2_40, u2_41, u2_44, u2_47, u2_50, u2_51, u2_54, u2_57, u2_58, u2_59, u2_62, u2_63, u2_64, u2_68, u2_71, u2_74, u2_75, u2_78, u2_82, u2_85, u2_88, u2_89, u2_92, u2_93, u2_94, u2_97, u2_100, u2_103, u2_104, u2_107, u2_110, u2_113, k0, kd_sI, true_or, or_true, wr_id, rng, rngp, if_pos, if_neg, if_true, if_false, reduceCtorEq, true_and, and_true, and_self, Option.toList_some, Option.toList_none, List.cons_append, List.nil_append, Int.toNat_natCast]
    rw [← eX1]
    simp (disch := omega) only [u2_0, u2_1, u2_2, u2_5, u2_6, u2_7, u2_10, u2_11, u2_12, u2_15, u2_16, u2_17, u2_20, u2_21, u2_22, u2_25, u2_26, u2_29, u2_32, u2_33, u2_36, u2_39, u2_40, u2_41, u2_44, u2_47, u2_50, u2_51, u2_54, u2_57, u2_58, u2_59, u2_62, u2_63, u2_64, u2_68, u2_71, u2_74, u2_75, u2_78, u2_82, u2_85, u2_88, u2_89, u2_92, u2_93, u2_94, u2_97, u2_100, u2_103, u2_104, u2_107, u2_110, u2_113, z0, k4, m4, w1, j0, j5, m5, w2, i0, ks, kt, i7, q0, q1, q2, kd_sI, gR_sI, le_t, lt_t, wr_id, rng, rngp, if_pos, if_neg, if_true, if_false, reduceCtorEq, true_and, and_true, and_self, Option.toList_some, Option.toList_none, List.cons_append, List.nil_append, Int.toNat_natCast]
    rw [← eX2]
    simp (disch := omega) only [u2_0, u2_1, u2_2, u2_5, u2_6, u2_7, u2_10, u2_11, u2_12, u2_15, u2_16, u2_17, u2_20, u2_21, u2_22, u2_25, u2_26, u2_29, u2_32, u2_33, u2_36, u2_39, u2_40, u2_41, u2_44, u2_47, u2_50, u2_51, u2_54, u2_57, u2_58, u2_59, u2_62, u2_63, u2_64, u2_67, u2_68, u2_71, u2_74, u2_75, u2_78, u2_82, u2_85, u2_88, u2_89, u2_92, u2_93, u2_94, u2_97, u2_100, u2_103, u2_104, u2_107, u2_110, u2_113, y0, y2, m0, w3, x0, x3, m1, w4, wr_id, rng, rngp, if_pos, if_neg, if_true, if_false, reduceCtorEq, true_and, and_true, and_self, Option.toList_some, Option.toList_none, List.cons_append, List.nil_append, Int.toNat_natCast]
  have k0 := K4.1
  have k7 := K4.2.2.2.2.2.2.2.2.1
  have l0 := L4.1
  by_cases c : f 26 = 0
  · refine ⟨g4, fun Q => ?_, CN.mk K4 P4 L4 I4 S4 ⟨?_, ?_, R1', R2', R6'⟩ p4' l4', G4⟩
    · rw [road Q]
      clear S4 I4 p4' l4' l4 p4 l2 R1 R2 R3 R4 R1' R2' R3' R6' SY IY IX I2
      simp (disch := omega) only [u2_0, u2_1, u2_2, u2_5, u2_6, u2_7, u2_10, u2_11, u2_12, u2_15, u2_16, u2_17, u2_20, u2_21, u2_22, u2_25, u2_26, u2_29, u2_32, u2_33, u2_36, u2_39, u2_40, u2_41, u2_44, u2_47, u2_50, u2_51, u2_54, u2_57, u2_58, u2_59, u2_62, u2_63, u2_64, u2_67, u2_68, u2_71, u2_74, u2_75, u2_78, u2_81, u2_82, u2_85, u2_88, u2_89, u2_92, u2_93, u2_94, u2_97, u2_100, u2_103, u2_104, u2_107, u2_110, u2_113, k0, k7, l0, v3, c, wr_id, rng, rngp, if_pos, if_neg, if_true, if_false, reduceCtorEq, true_and, and_true, and_self, Option.toList_some, Option.toList_none, List.cons_append, List.nil_append, Int.toNat_natCast]
    · show RowIs g4 (a + 2) 60 (if f 26 = 1 then r 3 else [])
      rw [if_neg (by rw [c]; decide)]; exact R3'
    · show RowIs g4 (a + 4) 60 (if f 26 = 2 then r 3 else [])
      rw [if_neg (by rw [c]; decide)]; exact R4
  · have rcd := l4.2.2.2.2.1 c
    obtain ⟨j, hj, ej⟩ : ∃ j : Nat, j < 2 ∧ f 26 - 1 = (j : Int) := ⟨(f 26 - 1).toNat, by omega, by omega⟩
    have RK : RowK g4 (a + 2 + 2 * j) 60 := by
      have cj : j = 0 ∨ j = 1 := by omega
      rcases cj with e | e
      · subst e; exact R3'.1
      · subst e; exact R4.1
    obtain ⟨g5, w5, R5, F5⟩ := r_become (sc := sc) (d := d) RK rcd rcd.2.2.1 (by omega) (by omega) (by omega)
    have ch : ∀ Q, WP sc (d + 1) 5 0 [(0, .inr (.inl a)), (1, .inl (j : Int))] [] g4 Q ↔ Q (some (.inr (.inl (a + 2 + 2 * j)))) g4 := by
      intro Q
      refine (n_channel K4 Q).trans ?_
      have e : (if (j : Int) = 1 then a + 4 else a + 2) = a + 2 + 2 * j := by split <;> omega
      rw [e]
    refine ⟨g5, fun Q => ?_, CN.mk (K4.fr F5 (by omega)) (P4.fr F5 (by omega)) (L4.fr F5 (by omega)) (I4.fr F5 (by omega)) (S4.fr F5 (by omega)) ⟨?_, ?_, R1'.fr F5 (by omega), R2'.fr F5 (by omega), R6'.fr F5 (by omega)⟩ (p4'.fr F5 (by omega)) (l4'.fr F5 (by omega)), G4.tr (F5.wd (by omega) (by omega))⟩
    · rw [road Q]
      have m1 : (kd g4 (a + 2 + 2 * j)).1 = 3 := RK.1
      have l2' := L4.2.2.2.1
      rw [ej] at v3
      clear S4 I4 p4' l4' l4 p4 l2 R1 R2 R3 R4 R1' R2' R3' R6' SY IY IX I2
      simp (disch := omega) only [u2_0, u2_1, u2_2, u2_5, u2_6, u2_7, u2_10, u2_11, u2_12, u2_15, u2_16, u2_17, u2_20, u2_21, u2_22, u2_25, u2_26, u2_29, u2_32, u2_33, u2_36, u2_39, u2_40, u2_41, u2_44, u2_47, u2_50, u2_51, u2_54, u2_57, u2_58, u2_59, u2_62, u2_63, u2_64, u2_67, u2_68, u2_71, u2_74, u2_75, u2_78, u2_81, u2_82, u2_85, u2_88, u2_89, u2_92, u2_93, u2_94, u2_97, u2_100, u2_103, u2_104, u2_107, u2_110, u2_113, k0, k7, l0, v3, ch, m1, l2', w5, wr_id, rng, rngp, if_pos, if_neg, if_true, if_false, reduceCtorEq, true_and, and_true, and_self, Option.toList_some, Option.toList_none, List.cons_append, List.nil_append, Int.toNat_natCast]
    · show RowIs g5 (a + 2) 60 (if f 26 = 1 then r 3 else [])
      have cj : j = 0 ∨ j = 1 := by omega
      rcases cj with e | e
      · subst e; rw [if_pos (by omega)]; exact R5
      · subst e; rw [if_neg (by omega)]; exact R3'.fr F5 (by omega)
    · show RowIs g5 (a + 4) 60 (if f 26 = 2 then r 3 else [])
      have cj : j = 0 ∨ j = 1 := by omega
      rcases cj with e | e
      · subst e; rw [if_neg (by omega)]; exact R4.fr F5 (by omega)
      · subst e; rw [if_pos (by omega)]; exact R5
