/-! a node of the class becomes another -/
theorem n_become {sc : av_S} {d : Nat} {h : av_H} {a o : Nat} {f : Nat → Int} {r : Nat → List Int} (N : NW h a) (O : CN h o f r) (e : o + 20 ≤ a ∨ a + 20 ≤ o) (h5 : f 5 = 0 ∨ f 5 = 1) (h9 : f 9 = 0 ∨ f 9 = 1) : ∃ h', (∀ Q, WP sc (d + 3) 3 0 [(0, .inr (.inl a)), (1, .inr (.inl o))] [] h Q ↔ Q none h') ∧ CN h' a f r ∧ Fr h h' a (a + 20) := by
  obtain ⟨pa, la, K, P, L, ⟨l0, r0⟩, ⟨l1, r1⟩, ⟨l4, r4⟩, ⟨l5, r5⟩, ⟨l6, r6⟩⟩ := N
  obtain ⟨po, lo, KO, PO, LO, IJ, SO, ⟨o0, o1, o4, o5, o6⟩, pO, lO⟩ := O.to
  have pl := K.pl
  have ol := KO.pl
  obtain ⟨X1, eX1⟩ : ∃ X, X = sI (sI (sI (sI (sI (sI (sI (sI (sI (sI h a 0 (gI h o 0)) a 1 (gI h o 1)) a 2 (gI h o 2)) a 3 (gI h o 3)) a 4 (gI h o 4)) a 5 (f 5)) a 6 (gI h o 6)) a 7 (gI h o 7)) a 8 (gI h o 8)) a 9 (f 9) := ⟨_, rfl⟩
  have FX0 : Fr h X1 a (a + 1) := by rw [eX1]; exact ((((((((fr1.tr fr1).tr fr1).tr fr1).tr fr1).tr fr1).tr fr1).tr fr1).tr fr1).tr fr1
  have IX : NI X1 a f := by
    obtain ⟨i0, i1, i2, i3, i4, i5, i6, i7, i8, i9⟩ := IJ
    rw [eX1]
    refine ⟨?_, ?_, ?_, ?_, fun q => ?_, ?_, ?_, ?_, ?_, ?_⟩ <;> simp (disch := decide) only [gI_sI_ne, gI_sI_eq]
    · exact i0
    · exact i1
    · exact i2
    · exact i3
    · exact i4 q
    · exact i6
    · exact i7
    · exact i8
  obtain ⟨X2, eX2⟩ : ∃ X, X = cp X1 (o + 1) (Int.toNat 0) (a + 1) (Int.toNat 0) (Int.toNat 4) := ⟨_, rfl⟩
  have FX1 : Fr X1 X2 (a + 1) (a + 2) := by rw [eX2]; exact Fr.cp (by omega)
  have FX : Fr h X2 a (a + 2) := (FX0.wd (by omega) (by omega)).tr (FX1.wd (by omega) (by omega))
  have KX : NK X2 a pa la := by rw [eX2, eX1]; exact K
  have KOX : NK X2 o po lo := KO.fr FX (by omega)
  have SX : NS X2 a f := by
    intro q k hk
    rw [eX2, gI_cp, if_pos ⟨rfl, by show 0 ≤ k; omega, by show k < 0 + 4; omega⟩, FX0.i (by omega)]
    refine Eq.trans ?_ (SO q k hk)
    congr 1
    show 0 + (k - 0) = k
    omega
  have IX2 := IX.fr FX1 (by omega)
  obtain ⟨g0, w0, R0, F0⟩ := r_become (sc := sc) (d := d + 1) (r0.fr FX (by omega)).1 (o0.fr FX (by omega)) o0.2.2.1 (by omega) (by omega) (by omega)
  obtain ⟨g1, w1, R1, F1⟩ := r_become (sc := sc) (d := d + 1) ((r1.fr FX (by omega)).fr F0 (by omega)).1 ((o1.fr FX (by omega)).fr F0 (by omega)) o1.2.2.1 (by omega) (by omega) (by omega)
  obtain ⟨g2, w2, R2, F2⟩ := r_become (sc := sc) (d := d + 1) (((r4.fr FX (by omega)).fr F0 (by omega)).fr F1 (by omega)).1 (((o4.fr FX (by omega)).fr F0 (by omega)).fr F1 (by omega)) o4.2.2.1 (by omega) (by omega) (by omega)
  have A2 : Fr X2 g2 (a + 2) (a + 8) := ((F0.wd (by omega) (by omega)).tr (F1.wd (by omega) (by omega))).tr (F2.wd (by omega) (by omega))
  obtain ⟨g3, w3, R3, F3⟩ := r_become (sc := sc) (d := d + 1) ((r5.fr FX (by omega)).fr A2 (by omega)).1 ((o5.fr FX (by omega)).fr A2 (by omega)) o5.2.2.1 (by omega) (by omega) (by omega)
  have A3 : Fr X2 g3 (a + 2) (a + 10) := (A2.wd (by omega) (by omega)).tr (F3.wd (by omega) (by omega))
  obtain ⟨g4, w4, R4, F4⟩ := r_become (sc := sc) (d := d + 1) ((r6.fr FX (by omega)).fr A3 (by omega)).1 ((o6.fr FX (by omega)).fr A3 (by omega)) o6.2.2.1 (by omega) (by omega) (by omega)
  have A4 : Fr X2 g4 (a + 2) (a + 12) := (A3.wd (by omega) (by omega)).tr (F4.wd (by omega) (by omega))
  have P4 := (P.fr FX (by omega)).fr A4 (by omega)
  have PO4 := (PO.fr FX (by omega)).fr A4 (by omega)
  have pO4 := (pO.fr FX (by omega)).fr A4 (by omega)
  obtain ⟨g5, w5, P5, S5, x50, x51, x53, x54, F5⟩ := p_become (sc := sc) (d := d) P4 PO4 (by omega)
  have L5 := ((L.fr FX (by omega)).fr A4 (by omega)).fr F5 (by omega)
  have LO5 := ((LO.fr FX (by omega)).fr A4 (by omega)).fr F5 (by omega)
  have lO5 := ((lO.fr FX (by omega)).fr A4 (by omega)).fr F5 (by omega)
  obtain ⟨g6, w6, L6, S6, x60, x61, x63, x64, F6⟩ := p_become (sc := sc) (d := d) L5 LO5 (by omega)
  have G : Fr h g6 a (a + 20) := (((FX.wd (by omega) (by omega)).tr (A4.wd (by omega) (by omega))).tr (F5.wd (by omega) (by omega))).tr (F6.wd (by omega) (by omega))
  have p6 : CPa g6 pa f r := by
    refine CPa.fr (lo := la) (hi := la + 4) (h := g5) ?_ F6 (by clear x50 x51 x53 x54 x60 x61 x63 x64; omega)
    obtain ⟨b1, b2, b3⟩ := pO4
    exact ⟨fun q => ⟨fun z => x50.trans ((b1 q).1 z), fun z k hk => (x51 k hk).trans ((b1 q).2.1 z k hk), x54.trans (b1 q).2.2.1, x53.trans (b1 q).2.2.2⟩, fun q => S5 _ (b2 q), fun q => x53.trans (b3 q)⟩
  have l6 : CLa g6 la f r := by
    obtain ⟨b1, b2, b3, b4, b5, b6⟩ := lO5
    exact ⟨fun z => x60.trans (b1 z), fun z k hk => (x61 k hk).trans (b2 z k hk), x63.trans b3, x64.trans b4, fun z => S6 _ (b5 z), fun z => x63.trans (b6 z)⟩
  clear x50 x51 x53 x54 x60 x61 x63 x64
  have K4 := KX.fr A4 (by omega)
  have K5 := K4.fr F5 (by omega)
  have K6 := K5.fr F6 (by omega)
  refine ⟨g6, fun Q => ?_, CN.mk K6 ((P5.fr F6 (by omega))) L6 (((IX2.fr A4 (by omega)).fr F5 (by omega)).fr F6 (by omega)) (((SX.fr A4 (by omega)).fr F5 (by omega)).fr F6 (by omega)) ⟨?_, ?_, ?_, ?_, ?_⟩ p6 l6, G⟩
  · have k0 := K.1
    have c0 := KO.1
    have i5 := IJ.2.2.2.2.2.1
    have i9 := IJ.2.2.2.2.2.2.2.2.2
    have ne : o ≠ a := by omega
    have ne1 : o + 1 ≠ a := by omega
    have ks := K.2.1.1
    have kt := K.2.1.2
    have cs := KO.2.1.1
    have ct := KO.2.1.2
    have k1 : (kd X1 a).1 = 1 := by rw [eX1]; exact k0
    have c1 : (kd X1 o).1 = 1 := by rw [eX1]; exact c0
    have ks1 : gR X1 a 10 = a + 1 := by rw [eX1]; exact ks
    have kt1 : kd X1 (a + 1) = (10, 4) := by rw [eX1]; exact kt
    have cs1 : gR X1 o 10 = o + 1 := by rw [eX1]; exact cs
    have ct1 : kd X1 (o + 1) = (10, 4) := by rw [eX1]; exact ct
    have KOX0 := KOX.fr F0 (by omega)
    have KX0 := KX.fr F0 (by omega)
    have KOX1 := KOX0.fr F1 (by omega)
    have KX1 := KX0.fr F1 (by omega)
    have KOX2 := KOX1.fr F2 (by omega)
    have KX2 := KX1.fr F2 (by omega)
    have KOX3 := KOX2.fr F3 (by omega)
    have KX3 := KX2.fr F3 (by omega)
    have KOX4 := KOX3.fr F4 (by omega)
    have KX4 := KX3.fr F4 (by omega)
    have KOX5 := KOX4.fr F5 (by omega)
    have y0 := KX.1
    have z0 := KOX.1
    have y00 := KX.2.2.1
    have z00 := KOX.2.2.1
    have m0 : (kd X2 (a + 2)).1 = 3 := (r0.fr FX (by omega)).1.1
    have y1 := KX0.1
    have z1 := KOX0.1
    have y11 := KX0.2.2.2.1
    have z11 := KOX0.2.2.2.1
    have m1 : (kd g0 (a + 4)).1 = 3 := ((r1.fr FX (by omega)).fr F0 (by omega)).1.1
    have y2 := KX1.1
    have z2 := KOX1.1
    have y22 := KX1.2.2.2.2.1
    have z22 := KOX1.2.2.2.2.1
    have m2 : (kd g1 (a + 6)).1 = 3 := (((r4.fr FX (by omega)).fr F0 (by omega)).fr F1 (by omega)).1.1
    have y3 := KX2.1
    have z3 := KOX2.1
    have y33 := KX2.2.2.2.2.2.1
    have z33 := KOX2.2.2.2.2.2.1
    have m3 : (kd g2 (a + 8)).1 = 3 := ((r5.fr FX (by omega)).fr A2 (by omega)).1.1
    have y4 := KX3.1
    have z4 := KOX3.1
    have y44 := KX3.2.2.2.2.2.2.1
    have z44 := KOX3.2.2.2.2.2.2.1
    have m4 : (kd g3 (a + 10)).1 = 3 := ((r6.fr FX (by omega)).fr A3 (by omega)).1.1
    have y5 := KX4.1
    have z5 := KOX4.1
    have y55 := KX4.2.2.2.2.2.2.2.1
    have z55 := KOX4.2.2.2.2.2.2.2.1
    have m5 : (kd g4 pa).1 = 2 := P4.1
    have y6 := K5.1
    have z6 := KOX5.1
    have y66 := K5.2.2.2.2.2.2.2.2.1
    have z66 := KOX5.2.2.2.2.2.2.2.2.1
    have m6 : (kd g5 la).1 = 2 := L5.1
    have w0' : ∀ Q, WP sc (d + 2) 31 0 [(0, .inr (.inl (a + 2))), (1, .inr (.inl (o + 2)))] [] X2 Q ↔ Q none g0 := w0
    have w1' : ∀ Q, WP sc (d + 2) 31 0 [(0, .inr (.inl (a + 4))), (1, .inr (.inl (o + 4)))] [] g0 Q ↔ Q none g1 := w1
    have w2' : ∀ Q, WP sc (d + 2) 31 0 [(0, .inr (.inl (a + 6))), (1, .inr (.inl (o + 6)))] [] g1 Q ↔ Q none g2 := w2
    have w3' : ∀ Q, WP sc (d + 2) 31 0 [(0, .inr (.inl (a + 8))), (1, .inr (.inl (o + 8)))] [] g2 Q ↔ Q none g3 := w3
    have w4' : ∀ Q, WP sc (d + 2) 31 0 [(0, .inr (.inl (a + 10))), (1, .inr (.inl (o + 10)))] [] g3 Q ↔ Q none g4 := w4
    clear p6 l6 S5 S6 IX IX2 SX R0 R1 R2 R3 R4 pO4 lO5 IJ SO pO lO O o0 o1 o4 o5 o6 r0 r1 r4 r5 r6 FX0 FX1 FX F0 F1 F2 F3 F4 F5 F6 A2 A3 A4 G w0 w1 w2 w3 w4
    simp (disch := first | assumption | omega) only [u3_0, u3_1, u3_2, u3_5, u3_8, u3_9, u3_10, u3_13, u3_16, u3_17, u3_18, u3_21, u3_24, u3_25, u3_26, u3_29, u3_32, u3_33, u3_34, u3_37, u3_40, u3_41, u3_42, u3_45, u3_48, u3_49, u3_50, u3_53, u3_56, u3_57, u3_58, u3_61, u3_64, u3_65, u3_66, u3_69, u3_72, u3_73, u3_74, u3_77, u3_81, u3_84, u3_85, u3_86, u3_89, u3_90, u3_91, u3_94, u3_95, u3_98, u3_99, u3_102, u3_105, u3_106, u3_109, u3_110, u3_113, u3_116, u3_117, u3_120, u3_121, u3_124, u3_127, u3_128, u3_131, u3_132, u3_135, u3_138, u3_139, u3_142, u3_143, u3_146, u3_149, u3_150, u3_153, u3_154, u3_157, u3_160, u3_161, u3_164, u3_165, u3_168, u3_171, k0, c0, i5, i9, kd_sI, gI_sI_nb, h5, h9, wr_id, rng, rngp, if_pos, if_neg, if_true, if_false, reduceCtorEq, true_and, and_true, and_self, Option.toList_some, Option.toList_none, List.cons_append, List.nil_append, Int.toNat_natCast]
    rw [← eX1]
    simp (disch := omega) only [u3_0, u3_1, u3_2, u3_5, u3_8, u3_9, u3_10, u3_13, u3_16, u3_17, u3_18, u3_21, u3_24, u3_25, u3_26, u3_29, u3_32, u3_33, u3_34, u3_37, u3_40, u3_41, u3_42, u3_45, u3_48, u3_49, u3_50, u3_53, u3_56, u3_57, u3_58, u3_61, u3_64, u3_65, u3_66, u3_69, u3_72, u3_73, u3_74, u3_77, u3_80, u3_81, u3_84, u3_85, u3_86, u3_89, u3_90, u3_91, u3_95, u3_98, u3_99, u3_102, u3_105, u3_106, u3_109, u3_110, u3_113, u3_116, u3_117, u3_120, u3_121, u3_124, u3_127, u3_128, u3_131, u3_132, u3_135, u3_138, u3_139, u3_142, u3_143, u3_146, u3_149, u3_150, u3_153, u3_154, u3_157, u3_160, u3_161, u3_164, u3_165, u3_168, u3_171, k1, c1, ks1, kt1, cs1, ct1, le_t, lt_t, wr_id, rng, rngp, if_pos, if_neg, if_true, if_false, reduceCtorEq, true_and, and_true, and_self, Option.toList_some, Option.toList_none, List.cons_append, List.nil_append, Int.toNat_natCast]
    rw [← eX2]
    simp (disch := omega) only [u3_0, u3_1, u3_2, u3_5, u3_8, u3_9, u3_10, u3_13, u3_16, u3_17, u3_18, u3_21, u3_24, u3_25, u3_26, u3_29, u3_32, u3_33, u3_34, u3_37, u3_40, u3_41, u3_42, u3_45, u3_48, u3_49, u3_50, u3_53, u3_56, u3_57, u3_58, u3_61, u3_64, u3_65, u3_66, u3_69, u3_72, u3_73, u3_74, u3_77, u3_80, u3_81, u3_84, u3_85, u3_86, u3_89, u3_90, u3_91, u3_94, u3_95, u3_98, u3_99, u3_102, u3_105, u3_106, u3_109, u3_110, u3_113, u3_116, u3_117, u3_120, u3_121, u3_124, u3_127, u3_128, u3_131, u3_132, u3_135, u3_138, u3_139, u3_142, u3_143, u3_146, u3_149, u3_150, u3_153, u3_154, u3_157, u3_160, u3_161, u3_164, u3_165, u3_168, u3_171, y0, z0, y00, z00, m0, w0', y1, z1, y11, z11, m1, w1', y2, z2, y22, z22, m2, w2', y3, z3, y33, z33, m3, w3', y4, z4, y44, z44, m4, w4', y5, z5, y55, z55, m5, w5, y6, z6, y66, z66, m6, w6, wr_id, rng, rngp, if_pos, if_neg, if_true, if_false, reduceCtorEq, true_and, and_true, and_self, Option.toList_some, Option.toList_none, List.cons_append, List.nil_append, Int.toNat_natCast]
  · exact (((((R0.fr F1 (by omega)).fr F2 (by omega)).fr F3 (by omega)).fr F4 (by omega)).fr F5 (by omega)).fr F6 (by omega)
  · exact ((((R1.fr F2 (by omega)).fr F3 (by omega)).fr F4 (by omega)).fr F5 (by omega)).fr F6 (by omega)
  · exact (((R2.fr F3 (by omega)).fr F4 (by omega)).fr F5 (by omega)).fr F6 (by omega)
  · exact ((R3.fr F4 (by omega)).fr F5 (by omega)).fr F6 (by omega)
  · exact (R4.fr F5 (by omega)).fr F6 (by omega)
