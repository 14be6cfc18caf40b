/-! the calls of the class (3) -/
theorem CB.text {h h' : av_H} {σ : sS} {ps : List sS} {rf : Nat → Int} {tx ty : List Int} {p o : Nat} (S : CB h (σ, ps, rf, tx)) (T : XT h' 976 ty p o) (F : Fr h h' 976 979) : CB h' (σ, ps, rf, ty) := by
  obtain ⟨K, C, a1, B, R, -⟩ := S
  exact ⟨K.fr F (by omega), C.fr F (by omega), by rw [F.i (by omega)]; exact a1, B.fr F (by omega), fun k hk => by rw [F.i (by omega)]; exact R k hk, p, o, T⟩
theorem b_type {sc : av_S} {d : Nat} {h : av_H} {s : SS} {c : Int} (S : CB h s) (hr : okR s.2.2.1) : Cb sc (d + 12) 83 [(1, .inl c)] h (xType s c) := by
  obtain ⟨σ, ps, rf, tx⟩ := s
  obtain ⟨K, C, a1, B, R, p, o, T⟩ := id S
  change XT h 976 tx p o at T
  obtain ⟨k0, k1, k2, k3, k4, k5, k6⟩ := id K
  have t0 := T.1.1
  have t1 := T.2.1
  have tl := T.2.2.1
  unfold xType
  show Cb sc (d + 12) 83 [(1, .inl c)] h (if 0 ≤ c ∧ c ≤ 127 then (if tx.length = 120 then xRef (σ, ps, rf, tx) (-4) else ((tx.length : Int) + 1, (σ, ps, rf, tx ++ [c]))) else xRef (σ, ps, rf, tx) (-2))
  by_cases c1 : 0 ≤ c ∧ c ≤ 127
  · rw [if_pos c1]
    by_cases c2 : tx.length = 120
    · rw [if_pos c2]
      obtain ⟨h1, w1, S1, F1⟩ := b_ref (sc := sc) (d := d) (how := -4) S hr (by omega)
      refine ⟨h1, fun Q => ?_, S1, F1⟩
      clear S S1 C T
      simp (disch := omega) only [u83_0, u83_1, u83_4, u83_5, u83_7, u83_10, u83_11, u83_13, u83_16, u83_17, u83_18, u83_21, u83_24, u83_26, u83_29, u83_30, u83_32, u83_35, u83_36, u83_37, u83_40, u83_41, u83_44, u83_45, u83_48, u83_51, k0, k4, t0, t1, w1, wr_id, rng, rngp, if_pos, if_neg, if_true, if_false, reduceCtorEq, true_and, and_true, and_self, Option.toList_some, Option.toList_none, List.cons_append, List.nil_append, Int.toNat_natCast]
      rfl
    · rw [if_neg c2]
      obtain ⟨h1, w1, T1, F1⟩ := x_put (sc := sc) (d := d + 10) (v := c) T (by omega)
      have w1' : ∀ Q, WP sc (d + 11) 34 0 [(0, .inr (.inl 976)), (1, .inl c)] [] h Q ↔ Q none h1 := w1
      have K1 := K.fr F1 (by omega)
      obtain ⟨j0, j1, j2, j3, j4, -⟩ := id K1
      have y0 := T1.1.1
      have y1 : gI h1 976 1 = (tx.length : Int) + 1 := by rw [T1.2.1, List.length_append]; rfl
      refine ⟨h1, fun Q => ?_, S.text T1 F1, F1.wd (by omega) (by omega)⟩
      clear S C T T1
      simp (disch := omega) only [u83_0, u83_1, u83_4, u83_5, u83_7, u83_10, u83_11, u83_13, u83_16, u83_17, u83_18, u83_21, u83_24, u83_26, u83_29, u83_30, u83_32, u83_35, u83_36, u83_37, u83_40, u83_41, u83_44, u83_45, u83_48, u83_51, k0, k4, t0, t1, w1', j0, j4, y0, y1, wr_id, rng, rngp, if_pos, if_neg, if_true, if_false, reduceCtorEq, true_and, and_true, and_self, Option.toList_some, Option.toList_none, List.cons_append, List.nil_append, Int.toNat_natCast]
  · rw [if_neg c1]
    obtain ⟨h1, w1, S1, F1⟩ := b_ref (sc := sc) (d := d) (how := -2) S hr (by omega)
    refine ⟨h1, fun Q => ?_, S1, F1⟩
    clear S S1 C T
    by_cases c2 : 0 ≤ c
    · simp (disch := omega) only [u83_0, u83_1, u83_4, u83_5, u83_7, u83_10, u83_11, u83_13, u83_16, u83_17, u83_18, u83_21, u83_24, u83_26, u83_29, u83_30, u83_32, u83_35, u83_36, u83_37, u83_40, u83_41, u83_44, u83_45, u83_48, u83_51, k0, w1, wr_id, rng, rngp, if_pos, if_neg, if_true, if_false, reduceCtorEq, true_and, and_true, and_self, Option.toList_some, Option.toList_none, List.cons_append, List.nil_append, Int.toNat_natCast]
      rfl
    · simp (disch := omega) only [u83_0, u83_1, u83_4, u83_5, u83_7, u83_10, u83_11, u83_13, u83_16, u83_17, u83_18, u83_21, u83_24, u83_26, u83_29, u83_30, u83_32, u83_35, u83_36, u83_37, u83_40, u83_41, u83_44, u83_45, u83_48, u83_51, k0, w1, wr_id, rng, rngp, if_pos, if_neg, if_true, if_false, reduceCtorEq, true_and, and_true, and_self, Option.toList_some, Option.toList_none, List.cons_append, List.nil_append, Int.toNat_natCast]
      rfl
theorem b_clear {sc : av_S} {d : Nat} {h : av_H} {s : SS} (S : CB h s) : Cb sc (d + 12) 84 [] h (xClear s) := by
  obtain ⟨σ, ps, rf, tx⟩ := s
  obtain ⟨K, C, a1, B, R, p, o, T⟩ := id S
  change XT h 976 tx p o at T
  obtain ⟨k0, k1, k2, k3, k4, k5, k6⟩ := id K
  have t0 := T.1.1
  have t1 := T.2.1
  have T1 : XT (sI h 976 1 0) 976 [] p o := by
    obtain ⟨x, -, -, -, f, g⟩ := T
    exact ⟨x, gI_sI_eq rfl, by decide, fun i hi => absurd hi (Nat.not_lt_zero i), by rw [gI_sI_ne (by decide)]; exact f, by rw [gI_sI_ne (by decide)]; exact g⟩
  have F1 : Fr h (sI h 976 1 0) 976 977 := fr1
  refine ⟨sI h 976 1 0, fun Q => ?_, S.text T1 (F1.wd (by omega) (by omega)), F1.wd (by omega) (by omega)⟩
  clear S C T T1
  simp (disch := omega) only [u84_0, u84_1, u84_4, u84_7, u84_8, u84_9, u84_12, u84_13, u84_16, u84_17, k0, k4, t0, t1, wr_id, rng, rngp, if_pos, if_neg, if_true, if_false, reduceCtorEq, true_and, and_true, and_self, Option.toList_some, Option.toList_none, List.cons_append, List.nil_append, Int.toNat_natCast]
  rfl
theorem b_back {sc : av_S} {d : Nat} {h : av_H} {s : SS} (S : CB h s) (hr : okR s.2.2.1) (ok : ∀ j, j < s.2.1.length → okB (s.2.1.getD j sNew)) : Cb sc (d + 12) 86 [] h (xBack s) := by
  obtain ⟨σ, ps, rf, tx⟩ := s
  obtain ⟨K, C, a1, ⟨b1, π, BB, b2⟩, R, p, o, T⟩ := id S
  change gI h 2 2 = (ps.length : Int) at a1
  change ps.length ≤ 5 at b1
  change ∀ j, j < ps.length → CW h (166 + 162 * π j) (ps.getD j sNew) at b2
  change ∀ j, j < ps.length → okB (ps.getD j sNew) at ok
  change XT h 976 tx p o at T
  change ∀ k, k < 3 → gI h 979 k = rf k at R
  obtain ⟨k0, k1, k2, k3, k4, k5, k6⟩ := id K
  unfold xBack
  show Cb sc (d + 12) 86 [] h (if ps = [] then xRef (σ, ps, rf, tx) (-3) else ((ps.length : Int) - 1, (ps.getLastD sNew, ps.dropLast, rf, tx)))
  by_cases c : ps = []
  · rw [if_pos c]
    obtain ⟨h1, w1, S1, F1⟩ := b_ref (sc := sc) (d := d) (how := -3) S hr (by omega)
    refine ⟨h1, fun Q => ?_, S1, F1⟩
    have a1' : gI h 2 2 = 0 := by rw [a1, c]; rfl
    clear S S1 C T b2
    simp (disch := omega) only [u86_0, u86_1, u86_4, u86_7, u86_8, u86_10, u86_13, u86_14, u86_15, u86_16, u86_19, u86_20, u86_21, u86_24, u86_25, u86_28, u86_29, u86_32, u86_33, u86_36, u86_37, u86_40, u86_41, u86_44, k0, a1', w1, wr_id, rng, rngp, if_pos, if_neg, if_true, if_false, reduceCtorEq, true_and, and_true, and_self, Option.toList_some, Option.toList_none, List.cons_append, List.nil_append, Int.toNat_natCast]
    rfl
  · rw [if_neg c]
    have hl : 0 < ps.length := List.length_pos_iff.mpr c
    obtain ⟨L, hL⟩ : ∃ L, ps.length = L + 1 := ⟨ps.length - 1, by omega⟩
    obtain ⟨e1, e2⟩ := id BB
    obtain ⟨x1, x2, x3⟩ := e1 L (by omega)
    have F1 : Fr h (sI h 2 2 (L : Int)) 2 3 := fr1
    have gl : ps.getD L sNew = ps.getLastD sNew := by
      rw [List.getD_eq_getElem?_getD, List.getLastD_eq_getLast?, List.getLast?_eq_getElem?, hL]; rfl
    have CL := b2 L (by omega)
    have okl := ok L (by omega)
    obtain ⟨h2, w2, C2, F2⟩ := w_become (sc := sc) (d := d + 7) (C.ww.fr F1 (by omega)) (CL.fr F1 (by omega)) (by omega) okl.1 okl.2.1 okl.2.2
    have w2' : ∀ Q, WP sc (d + 11) 48 0 [(0, .inr (.inl 3)), (1, .inr (.inl (166 + 162 * π L)))] [] (sI h 2 2 (L : Int)) Q ↔ Q none h2 := w2
    have K1 : BK (sI h 2 2 (L : Int)) := K
    have K2 := K1.fr F2 (by omega)
    have y2 : gI h2 2 2 = (L : Int) := by rw [F2.i (by omega), gI_sI_eq rfl]
    have dl : ps.dropLast.length = L := by rw [List.length_dropLast]; omega
    refine ⟨h2, fun Q => ?_, ⟨K2, by rw [← gl]; exact C2, by show gI h2 2 2 = (ps.dropLast.length : Int); rw [dl]; exact y2, ⟨by show ps.dropLast.length ≤ 5; omega, π, ⟨fun i hi => ?_, e2⟩, fun j hj => ?_⟩, fun k hk => ?_, p, o, (T.fr F1 (by omega)).fr F2 (by omega)⟩, (F1.wd (by omega) (by omega)).tr (F2.wd (by omega) (by omega))⟩
    · have w0 : (kd h 3).1 = 5 := C.1.1
      have x2' : gR h 165 L = 166 + 162 * π L := x2
      have g2 : gI (sI h 2 2 (L : Int)) 2 2 = (L : Int) := gI_sI_eq rfl
      have eL : ((L + 1 : Nat) : Int) - 1 = (L : Int) := by omega
      have m0 := K2.1
      have a1' : gI h 2 2 = ((L + 1 : Nat) : Int) := by rw [a1, hL]
      clear S C T b2 C2 CL
      rw [hL]
      simp (disch := omega) only [u86_0, u86_1, u86_4, u86_7, u86_8, u86_10, u86_13, u86_14, u86_15, u86_16, u86_19, u86_20, u86_21, u86_24, u86_25, u86_28, u86_29, u86_32, u86_33, u86_36, u86_37, u86_40, u86_41, u86_44, k0, k1, k2, k3, a1', eL, g2, x2', w0, kd_sI, gR_sI, w2', m0, y2, true_or, or_true, wr_id, rng, rngp, if_pos, if_neg, if_true, if_false, reduceCtorEq, true_and, and_true, and_self, Option.toList_some, Option.toList_none, List.cons_append, List.nil_append, Int.toNat_natCast]
    · obtain ⟨u1, u2, u3⟩ := e1 i hi
      exact ⟨u1, by rw [F2.r (by omega)]; exact u2, (u3.fr F1 (by omega)).fr F2 (by omega)⟩
    · change j < ps.dropLast.length at hj
      show CW h2 (166 + 162 * π j) (ps.dropLast.getD j sNew)
      have eg : ps.dropLast.getD j sNew = ps.getD j sNew := by
        rw [List.getD_eq_getElem?_getD, List.getD_eq_getElem?_getD, List.getElem?_dropLast, if_pos (by omega)]
      rw [eg]
      exact ((b2 j (by omega)).fr F1 (by omega)).fr F2 (by omega)
    · show gI h2 979 k = rf k
      rw [F2.i (by omega), F1.i (by omega)]; exact R k hk
theorem b_digest {sc : av_S} {d : Nat} {h : av_H} {s : SS} (S : CB h s) (ok : okY s.1) (Q : Option av_V → av_H → Prop) : WP sc (d + 12) 88 0 [(0, .inr (.inl 2))] [] h Q ↔ Q (some (.inr (.inr (xDig s)))) h := by
  obtain ⟨K, C, -⟩ := id S
  obtain ⟨k0, k1, -⟩ := id K
  obtain ⟨z1, z2⟩ := C.sz
  obtain ⟨⟨w0, v1, v2, v3⟩, ⟨i1, -⟩, -, cn, -⟩ := id C
  have e1 : ∀ (j : Nat), j < 5 → ∀ Q, WP sc (d + 11) 91 0 [(0, .inr (.inl 2)), (1, .inl (j : Int))] [] h Q ↔ Q (some (.inl (sToldF s.2.1 s.2.2.1 s.2.2.2 j))) h := fun j hj Q => b_told (d := d + 10) S hj Q
  have e2 : ∀ (j : Nat), j < 10 → ∀ Q, WP sc (d + 11) 50 0 [(0, .inr (.inl 3)), (1, .inl (j : Int))] [] h Q ↔ Q (some (.inl (sCount s.1 j))) h := fun j hj Q => w_tally (d := d + 9) C hj (fun n hn => (ok.2.2.2.1 n hn).2.2.2) ok.2.2.2.2.1 ok.1.2.2.1 ok.2.2.1 Q
  have l1 : ∀ (w : Int64) (t j : Nat), t = 5 - j → j ≤ 5 → (WP sc (d + 12) 88 6 [(0, .inr (.inl 2)), (1, .inr (.inr (mxr (sToldF s.2.1 s.2.2.1 s.2.2.2) w j))), (3, .inl (j : Int))] [] h Q ↔ WP sc (d + 12) 88 32 [(0, .inr (.inl 2)), (1, .inr (.inr (mxr (sToldF s.2.1 s.2.2.1 s.2.2.2) w 5))), (3, .inl 0)] [] h Q) := by
    intro w t
    induction t with
    | zero =>
      intro j ht hj
      have e : j = 5 := by omega
      subst e
      rw [u88_6]
      simp (disch := omega) only [u88_0, u88_3, u88_4, u88_5, u88_7, u88_8, u88_11, u88_14, u88_15, u88_16, u88_17, u88_18, u88_21, u88_22, u88_23, u88_24, u88_27, u88_30, u88_31, u88_33, u88_35, u88_38, u88_41, u88_42, u88_43, u88_44, u88_47, u88_48, u88_51, u88_52, u88_53, u88_54, u88_57, u88_60, u88_61, u88_63, u88_64, u88_67, u88_70, u88_73, u88_74, u88_77, u88_80, u88_81, u88_82, u88_83, u88_86, u88_87, u88_90, u88_93, u88_94, wr_id, rng, rngp, if_pos, if_neg, if_true, if_false, reduceCtorEq, true_and, and_true, and_self, Option.toList_some, Option.toList_none, List.cons_append, List.nil_append, Int.toNat_natCast]
    | succ t ih =>
      intro j ht hj
      rw [← ih (j + 1) (by omega) (by omega), u88_6]
      simp (disch := omega) only [u88_0, u88_3, u88_4, u88_5, u88_7, u88_8, u88_11, u88_14, u88_15, u88_16, u88_17, u88_18, u88_21, u88_22, u88_23, u88_24, u88_27, u88_30, u88_31, u88_33, u88_35, u88_38, u88_41, u88_42, u88_43, u88_44, u88_47, u88_48, u88_51, u88_52, u88_53, u88_54, u88_57, u88_60, u88_61, u88_63, u88_64, u88_67, u88_70, u88_73, u88_74, u88_77, u88_80, u88_81, u88_82, u88_83, u88_86, u88_87, u88_90, u88_93, u88_94, k0, e1, wr_id, rng, rngp, if_pos, if_neg, if_true, if_false, reduceCtorEq, true_and, and_true, and_self, Option.toList_some, Option.toList_none, List.cons_append, List.nil_append, Int.toNat_natCast]
      rw [show (j : Int) + 1 = ((j + 1 : Nat) : Int) by omega]
      rfl
  have l2 : ∀ (w : Int64) (t j : Nat), t = 10 - j → j ≤ 10 → (WP sc (d + 12) 88 32 [(0, .inr (.inl 2)), (1, .inr (.inr (mxr (sCount s.1) w j))), (3, .inl (j : Int))] [] h Q ↔ WP sc (d + 12) 88 62 [(0, .inr (.inl 2)), (1, .inr (.inr (mxr (sCount s.1) w 10))), (3, .inl 0)] [] h Q) := by
    intro w t
    induction t with
    | zero =>
      intro j ht hj
      have e : j = 10 := by omega
      subst e
      rw [u88_32]
      simp (disch := omega) only [u88_0, u88_3, u88_4, u88_5, u88_7, u88_8, u88_11, u88_14, u88_15, u88_16, u88_17, u88_18, u88_21, u88_22, u88_23, u88_24, u88_27, u88_30, u88_31, u88_33, u88_35, u88_38, u88_41, u88_42, u88_43, u88_44, u88_47, u88_48, u88_51, u88_52, u88_53, u88_54, u88_57, u88_60, u88_61, u88_63, u88_64, u88_67, u88_70, u88_73, u88_74, u88_77, u88_80, u88_81, u88_82, u88_83, u88_86, u88_87, u88_90, u88_93, u88_94, wr_id, rng, rngp, if_pos, if_neg, if_true, if_false, reduceCtorEq, true_and, and_true, and_self, Option.toList_some, Option.toList_none, List.cons_append, List.nil_append, Int.toNat_natCast]
    | succ t ih =>
      intro j ht hj
      rw [← ih (j + 1) (by omega) (by omega), u88_32]
      simp (disch := omega) only [u88_0, u88_3, u88_4, u88_5, u88_7, u88_8, u88_11, u88_14, u88_15, u88_16, u88_17, u88_18, u88_21, u88_22, u88_23, u88_24, u88_27, u88_30, u88_31, u88_33, u88_35, u88_38, u88_41, u88_42, u88_43, u88_44, u88_47, u88_48, u88_51, u88_52, u88_53, u88_54, u88_57, u88_60, u88_61, u88_63, u88_64, u88_67, u88_70, u88_73, u88_74, u88_77, u88_80, u88_81, u88_82, u88_83, u88_86, u88_87, u88_90, u88_93, u88_94, k0, k1, w0, e2, wr_id, rng, rngp, if_pos, if_neg, if_true, if_false, reduceCtorEq, true_and, and_true, and_self, Option.toList_some, Option.toList_none, List.cons_append, List.nil_append, Int.toNat_natCast]
      rw [show (j : Int) + 1 = ((j + 1 : Nat) : Int) by omega]
      rfl
  have l3 : ∀ (w : Int64) (t n : Nat), t = sN s.1 - n → n ≤ sN s.1 → (WP sc (d + 12) 88 62 [(0, .inr (.inl 2)), (1, .inr (.inr (dgA s.1 w n))), (3, .inl (n : Int))] [] h Q ↔ Q (some (.inr (.inr (dgA s.1 w (sN s.1))))) h) := by
    intro w t
    induction t with
    | zero =>
      intro n ht hn
      have e : n = sN s.1 := by omega
      subst e
      rw [u88_62]
      simp (disch := omega) only [u88_0, u88_3, u88_4, u88_5, u88_7, u88_8, u88_11, u88_14, u88_15, u88_16, u88_17, u88_18, u88_21, u88_22, u88_23, u88_24, u88_27, u88_30, u88_31, u88_33, u88_35, u88_38, u88_41, u88_42, u88_43, u88_44, u88_47, u88_48, u88_51, u88_52, u88_53, u88_54, u88_57, u88_60, u88_61, u88_63, u88_64, u88_67, u88_70, u88_73, u88_74, u88_77, u88_80, u88_81, u88_82, u88_83, u88_86, u88_87, u88_90, u88_93, u88_94, k0, k1, w0, i1, wr_id, rng, rngp, if_pos, if_neg, if_true, if_false, reduceCtorEq, true_and, and_true, and_self, Option.toList_some, Option.toList_none, List.cons_append, List.nil_append, Int.toNat_natCast]
    | succ t ih =>
      intro n ht hn
      have hn' : n < sN s.1 := by omega
      have N := cn n hn'
      obtain ⟨o5, o9, oU, -⟩ := ok.2.2.2.1 n hn'
      have wd : ∀ v Q, WP sc (d + 11) 21 0 [(0, .inr (.inl (3 + 2 + 20 * n))), (1, .inr (.inr v))] [] h Q ↔ Q (some (.inr (.inr (dgN s.1 n v)))) h := fun v Q => n_digest (d := d + 9) N o5 o9 oU Q
      have kn : (kd h (3 + 2 + 20 * n)).1 = 1 := by obtain ⟨pa, la, K, -⟩ := N.to; exact K.1
      have v3' := v3 n (by omega)
      rw [← ih (n + 1) (by omega) (by omega), u88_62]
      simp (disch := omega) only [u88_0, u88_3, u88_4, u88_5, u88_7, u88_8, u88_11, u88_14, u88_15, u88_16, u88_17, u88_18, u88_21, u88_22, u88_23, u88_24, u88_27, u88_30, u88_31, u88_33, u88_35, u88_38, u88_41, u88_42, u88_43, u88_44, u88_47, u88_48, u88_51, u88_52, u88_53, u88_54, u88_57, u88_60, u88_61, u88_63, u88_64, u88_67, u88_70, u88_73, u88_74, u88_77, u88_80, u88_81, u88_82, u88_83, u88_86, u88_87, u88_90, u88_93, u88_94, k0, k1, w0, i1, v1, v2, v3', kn, wd, true_or, or_true, wr_id, rng, rngp, if_pos, if_neg, if_true, if_false, reduceCtorEq, true_and, and_true, and_self, Option.toList_some, Option.toList_none, List.cons_append, List.nil_append, Int.toNat_natCast]
      rw [show (n : Int) + 1 = ((n + 1 : Nat) : Int) by omega]
      rfl
  unfold xDig
  rw [← l3 _ _ 0 rfl (by omega)]
  show _ ↔ WP sc (d + 12) 88 62 [(0, .inr (.inl 2)), (1, .inr (.inr (mxr (sCount s.1) (mxr (sToldF s.2.1 s.2.2.1 s.2.2.2) (Int64.ofNat 2545) 5) 10))), (3, .inl 0)] [] h Q
  rw [← l2 _ 10 0 rfl (by omega)]
  show _ ↔ WP sc (d + 12) 88 32 [(0, .inr (.inl 2)), (1, .inr (.inr (mxr (sToldF s.2.1 s.2.2.1 s.2.2.2) (Int64.ofNat 2545) 5))), (3, .inl 0)] [] h Q
  rw [← l1 _ 5 0 rfl (by omega)]
  simp (disch := omega) only [u88_0, u88_3, u88_4, u88_5, u88_7, u88_8, u88_11, u88_14, u88_15, u88_16, u88_17, u88_18, u88_21, u88_22, u88_23, u88_24, u88_27, u88_30, u88_31, u88_33, u88_35, u88_38, u88_41, u88_42, u88_43, u88_44, u88_47, u88_48, u88_51, u88_52, u88_53, u88_54, u88_57, u88_60, u88_61, u88_63, u88_64, u88_67, u88_70, u88_73, u88_74, u88_77, u88_80, u88_81, u88_82, u88_83, u88_86, u88_87, u88_90, u88_93, u88_94, wr_id, rng, rngp, if_pos, if_neg, if_true, if_false, reduceCtorEq, true_and, and_true, and_self, Option.toList_some, Option.toList_none, List.cons_append, List.nil_append, Int.toNat_natCast]
  rfl
