/-! how the reference reads and does orders -/
theorem m_order {sc : av_S} {d : Nat} {h : av_H} {x p : Nat} {tx : List Int} (T : MT h x tx p) (hp : p ≤ tx.length) : ∃ h', (∀ Q, WP sc (d + 4) 150 0 [(0, .inr (.inl x))] [] h Q ↔ Q (some (.inl (bI (pOrd tx (skp tx p)).1))) h') ∧ MT h' x tx (pOrd tx (skp tx p)).2.1 ∧ ((pOrd tx (skp tx p)).1 = true → ∀ j, j < (pOrd tx (skp tx p)).2.2.length → gI h' (x + 5) j = (pOrd tx (skp tx p)).2.2.getD j 0) ∧ MX h h' x := by
  obtain ⟨h1, w1, T1, X1, V1⟩ := m_here (sc := sc) (d := d + 2) T hp
  have hle := skp_le hp
  generalize skp tx p = q at *
  have w1' : ∀ Q, WP sc (d + 3) 147 0 [(0, .inr (.inl x))] [] h Q ↔ Q (some (.inl (tb tx q))) h1 := w1
  obtain ⟨K0, -⟩ := id T
  obtain ⟨i0, -⟩ := id K0
  obtain ⟨K1, -, b, -, e1⟩ := id T1
  obtain ⟨k0, -⟩ := id K1
  have T2 : MT (sI h1 x 6 ((q : Int) + 1)) x tx (q + 1) := T1.p (by omega)
  -- the end of an order
  have fin : ∀ (w : Int) (hk : av_H) (z : Nat), MT hk x tx z → z ≤ tx.length → ∃ h', (∀ Q, WP sc (d + 4) 150 120 [(0, .inr (.inl x)), (1, .inl w), (2, .inl 1)] [] hk Q ↔ Q (some (.inl (if tb tx (skp tx z) = 59 then 1 else 0))) h') ∧ MT h' x tx (if tb tx (skp tx z) = 59 then skp tx z + 1 else skp tx z) ∧ (∀ j, gI h' (x + 5) j = gI hk (x + 5) j) ∧ MX hk h' x := by
    intro w hk z Tk hz
    obtain ⟨h3, w3, T3, X3, V3⟩ := m_here (sc := sc) (d := d + 2) Tk hz
    have hl := skp_le hz
    have w3' : ∀ Q, WP sc (d + 3) 147 0 [(0, .inr (.inl x))] [] hk Q ↔ Q (some (.inl (tb tx (skp tx z)))) h3 := w3
    generalize skp tx z = y at *
    have i1 := Tk.1.1
    have i2 := T3.1.1
    obtain ⟨-, -, -, -, e3⟩ := id T3
    by_cases c : tb tx y = 59
    · refine ⟨sI h3 x 6 ((y : Int) + 1), fun Q => ?_, ?_, fun j => by rw [gI_sI_nb (by omega)]; exact V3 j, X3.tr MX.p⟩
      · rw [if_pos c]
        simp (disch := omega) only [u150_0, u150_1, u150_4, u150_5, u150_6, u150_7, u150_10, u150_11, u150_12, u150_15, u150_16, u150_17, u150_18, u150_20, u150_23, u150_24, u150_25, u150_26, u150_29, u150_32, u150_33, u150_34, u150_35, u150_38, u150_41, u150_42, u150_43, u150_44, u150_47, u150_50, u150_51, u150_52, u150_53, u150_56, u150_59, u150_60, u150_63, u150_64, u150_65, u150_68, u150_69, u150_71, u150_74, u150_75, u150_77, u150_80, u150_81, u150_83, u150_86, u150_87, u150_88, u150_89, u150_92, u150_93, u150_96, u150_97, u150_99, u150_102, u150_103, u150_105, u150_108, u150_109, u150_110, u150_113, u150_114, u150_115, u150_118, u150_119, u150_120, u150_121, u150_124, u150_125, u150_128, u150_130, u150_133, u150_134, u150_135, u150_136, u150_137, u150_140, u150_141, u150_142, u150_145, u150_146, i1, i2, w3', e3, c, or_true, wr_id, rng, rngp, if_pos, if_neg, if_true, if_false, reduceCtorEq, true_and, and_true, and_self, Option.toList_some, Option.toList_none, List.cons_append, List.nil_append, Int.toNat_natCast]
      · rw [if_pos c]; exact T3.p (by omega)
    · refine ⟨h3, fun Q => ?_, ?_, V3, X3⟩
      · rw [if_neg c]
        simp (disch := omega) only [u150_0, u150_1, u150_4, u150_5, u150_6, u150_7, u150_10, u150_11, u150_12, u150_15, u150_16, u150_17, u150_18, u150_20, u150_23, u150_24, u150_25, u150_26, u150_29, u150_32, u150_33, u150_34, u150_35, u150_38, u150_41, u150_42, u150_43, u150_44, u150_47, u150_50, u150_51, u150_52, u150_53, u150_56, u150_59, u150_60, u150_63, u150_64, u150_65, u150_68, u150_69, u150_71, u150_74, u150_75, u150_77, u150_80, u150_81, u150_83, u150_86, u150_87, u150_88, u150_89, u150_92, u150_93, u150_96, u150_97, u150_99, u150_102, u150_103, u150_105, u150_108, u150_109, u150_110, u150_113, u150_114, u150_115, u150_118, u150_119, u150_120, u150_121, u150_124, u150_125, u150_128, u150_130, u150_133, u150_134, u150_135, u150_136, u150_137, u150_140, u150_141, u150_142, u150_145, u150_146, i1, i2, w3', e3, c, true_or, wr_id, rng, rngp, if_pos, if_neg, if_true, if_false, reduceCtorEq, true_and, and_true, and_self, Option.toList_some, Option.toList_none, List.cons_append, List.nil_append, Int.toNat_natCast]
      · rw [if_neg c]; exact T3
  have bad : ∀ (w : Int) (hk : av_H) (Q : Option av_V → av_H → Prop), WP sc (d + 4) 150 120 [(0, .inr (.inl x)), (1, .inl w), (2, .inl 0)] [] hk Q ↔ Q (some (.inl 0)) hk := by
    intro w hk Q
    simp (disch := omega) only [u150_0, u150_1, u150_4, u150_5, u150_6, u150_7, u150_10, u150_11, u150_12, u150_15, u150_16, u150_17, u150_18, u150_20, u150_23, u150_24, u150_25, u150_26, u150_29, u150_32, u150_33, u150_34, u150_35, u150_38, u150_41, u150_42, u150_43, u150_44, u150_47, u150_50, u150_51, u150_52, u150_53, u150_56, u150_59, u150_60, u150_63, u150_64, u150_65, u150_68, u150_69, u150_71, u150_74, u150_75, u150_77, u150_80, u150_81, u150_83, u150_86, u150_87, u150_88, u150_89, u150_92, u150_93, u150_96, u150_97, u150_99, u150_102, u150_103, u150_105, u150_108, u150_109, u150_110, u150_113, u150_114, u150_115, u150_118, u150_119, u150_120, u150_121, u150_124, u150_125, u150_128, u150_130, u150_133, u150_134, u150_135, u150_136, u150_137, u150_140, u150_141, u150_142, u150_145, u150_146, true_or, wr_id, rng, rngp, if_pos, if_neg, if_true, if_false, reduceCtorEq, true_and, and_true, and_self, Option.toList_some, Option.toList_none, List.cons_append, List.nil_append, Int.toNat_natCast]
  unfold pOrd
  by_cases c110 : tb tx q = 110
  · have ea : arN (tb tx q) = some [false, true, true, true] := by simp [arN, c110]
    rw [ea]
    dsimp only
    have hq := arN_in ea
    have num : ∀ (k : Nat) (may : Bool) (z : Nat) (hk : av_H), MT hk x tx z → z ≤ tx.length → k < 4 → ∃ h', (∀ Q, WP sc (d + 3) 149 0 [(0, .inr (.inl x)), (1, .inl (k : Int)), (2, .inl (bI may))] [] hk Q ↔ Q (some (.inl (bI (pNum tx may (skp tx z)).1))) h') ∧ MT h' x tx (pNum tx may (skp tx z)).2.1 ∧ ((pNum tx may (skp tx z)).1 = true → gI h' (x + 5) k = (pNum tx may (skp tx z)).2.2) ∧ (∀ j, j ≠ k → gI h' (x + 5) j = gI hk (x + 5) j) ∧ MX hk h' x := fun k may z hk a b c => m_number a b c
    obtain ⟨g0, n0, U0, y0, z0, Y0⟩ := num 0 false (q + 1) _ T2 (by omega) (by omega)
    have l0 := pNum_le (may := false) (skp_le (tx := tx) (p := q + 1) (by omega))
    have n0' : ∀ Q, WP sc (d + 3) 149 0 [(0, .inr (.inl x)), (1, .inl 0), (2, .inl 0)] [] (sI h1 x 6 ((q : Int) + 1)) Q ↔ Q (some (.inl (bI (pNum tx false (skp tx (q + 1))).1))) g0 := n0
    unfold pNums
    generalize pNum tx false (skp tx (q + 1)) = r0 at *
    obtain ⟨v0, p0, u0⟩ := r0
    cases v0 with
    | false =>
      rw [bI_f] at n0'
      refine ⟨g0, fun Q => ?_, U0, (fun q => nomatch q), (X1.tr MX.p).tr Y0⟩
      simp (disch := omega) only [u150_0, u150_1, u150_4, u150_5, u150_6, u150_7, u150_10, u150_11, u150_12, u150_15, u150_16, u150_17, u150_18, u150_20, u150_23, u150_24, u150_25, u150_26, u150_29, u150_32, u150_33, u150_34, u150_35, u150_38, u150_41, u150_42, u150_43, u150_44, u150_47, u150_50, u150_51, u150_52, u150_53, u150_56, u150_59, u150_60, u150_63, u150_64, u150_65, u150_68, u150_69, u150_71, u150_74, u150_75, u150_77, u150_80, u150_81, u150_83, u150_86, u150_87, u150_88, u150_89, u150_92, u150_93, u150_96, u150_97, u150_99, u150_102, u150_103, u150_105, u150_108, u150_109, u150_110, u150_113, u150_114, u150_115, u150_118, u150_119, u150_121, u150_124, u150_125, u150_128, u150_130, u150_133, u150_134, u150_135, u150_136, u150_137, u150_140, u150_141, u150_142, u150_145, u150_146, i0, w1', k0, e1, c110, kd_sI, gR_sI, n0', wr_id, rng, rngp, if_pos, if_neg, if_true, if_false, reduceCtorEq, true_and, and_true, and_self, Option.toList_some, Option.toList_none, List.cons_append, List.nil_append, Int.toNat_natCast]
      exact bad _ _ _
    | true =>
      rw [bI_t] at n0'
      obtain ⟨g1, n1, U1, y1, z1, Y1⟩ := num 1 true p0 _ U0 l0.2 (by omega)
      have l1 := pNum_le (may := true) (skp_le (tx := tx) (p := p0) l0.2)
      have n1' : ∀ Q, WP sc (d + 3) 149 0 [(0, .inr (.inl x)), (1, .inl 1), (2, .inl 1)] [] g0 Q ↔ Q (some (.inl (bI (pNum tx true (skp tx p0)).1))) g1 := n1
      have j0 := U0.1.1
      unfold pNums
      dsimp only at *
      generalize pNum tx true (skp tx p0) = r1 at *
      obtain ⟨v1, p1, u1⟩ := r1
      cases v1 with
      | false =>
        rw [bI_f] at n1'
        refine ⟨g1, fun Q => ?_, U1, (fun q => nomatch q), ((X1.tr MX.p).tr Y0).tr Y1⟩
        simp (disch := omega) only [u150_0, u150_1, u150_4, u150_5, u150_6, u150_7, u150_10, u150_11, u150_12, u150_15, u150_16, u150_17, u150_18, u150_20, u150_23, u150_24, u150_25, u150_26, u150_29, u150_32, u150_33, u150_34, u150_35, u150_38, u150_41, u150_42, u150_43, u150_44, u150_47, u150_50, u150_51, u150_52, u150_53, u150_56, u150_59, u150_60, u150_63, u150_64, u150_65, u150_68, u150_69, u150_71, u150_74, u150_75, u150_77, u150_80, u150_81, u150_83, u150_86, u150_87, u150_88, u150_89, u150_92, u150_93, u150_96, u150_97, u150_99, u150_102, u150_103, u150_105, u150_108, u150_109, u150_110, u150_113, u150_114, u150_115, u150_118, u150_119, u150_121, u150_124, u150_125, u150_128, u150_130, u150_133, u150_134, u150_135, u150_136, u150_137, u150_140, u150_141, u150_142, u150_145, u150_146, i0, w1', k0, e1, c110, kd_sI, gR_sI, n0', n1', j0, wr_id, rng, rngp, if_pos, if_neg, if_true, if_false, reduceCtorEq, true_and, and_true, and_self, Option.toList_some, Option.toList_none, List.cons_append, List.nil_append, Int.toNat_natCast]
        exact bad _ _ _
      | true =>
        rw [bI_t] at n1'
        obtain ⟨g2, n2, U2, y2, z2, Y2⟩ := num 2 true p1 _ U1 l1.2 (by omega)
        have l2 := pNum_le (may := true) (skp_le (tx := tx) (p := p1) l1.2)
        have n2' : ∀ Q, WP sc (d + 3) 149 0 [(0, .inr (.inl x)), (1, .inl 2), (2, .inl 1)] [] g1 Q ↔ Q (some (.inl (bI (pNum tx true (skp tx p1)).1))) g2 := n2
        have j1 := U1.1.1
        unfold pNums
        dsimp only at *
        generalize pNum tx true (skp tx p1) = r2 at *
        obtain ⟨v2, p2, u2⟩ := r2
        cases v2 with
        | false =>
          rw [bI_f] at n2'
          refine ⟨g2, fun Q => ?_, U2, (fun q => nomatch q), (((X1.tr MX.p).tr Y0).tr Y1).tr Y2⟩
          simp (disch := omega) only [u150_0, u150_1, u150_4, u150_5, u150_6, u150_7, u150_10, u150_11, u150_12, u150_15, u150_16, u150_17, u150_18, u150_20, u150_23, u150_24, u150_25, u150_26, u150_29, u150_32, u150_33, u150_34, u150_35, u150_38, u150_41, u150_42, u150_43, u150_44, u150_47, u150_50, u150_51, u150_52, u150_53, u150_56, u150_59, u150_60, u150_63, u150_64, u150_65, u150_68, u150_69, u150_71, u150_74, u150_75, u150_77, u150_80, u150_81, u150_83, u150_86, u150_87, u150_88, u150_89, u150_92, u150_93, u150_96, u150_97, u150_99, u150_102, u150_103, u150_105, u150_108, u150_109, u150_110, u150_113, u150_114, u150_115, u150_118, u150_119, u150_121, u150_124, u150_125, u150_128, u150_130, u150_133, u150_134, u150_135, u150_136, u150_137, u150_140, u150_141, u150_142, u150_145, u150_146, i0, w1', k0, e1, c110, kd_sI, gR_sI, n0', n1', n2', j0, j1, wr_id, rng, rngp, if_pos, if_neg, if_true, if_false, reduceCtorEq, true_and, and_true, and_self, Option.toList_some, Option.toList_none, List.cons_append, List.nil_append, Int.toNat_natCast]
          exact bad _ _ _
        | true =>
          rw [bI_t] at n2'
          obtain ⟨g3, n3, U3, y3, z3, Y3⟩ := num 3 true p2 _ U2 l2.2 (by omega)
          have l3 := pNum_le (may := true) (skp_le (tx := tx) (p := p2) l2.2)
          have n3' : ∀ Q, WP sc (d + 3) 149 0 [(0, .inr (.inl x)), (1, .inl 3), (2, .inl 1)] [] g2 Q ↔ Q (some (.inl (bI (pNum tx true (skp tx p2)).1))) g3 := n3
          have j2 := U2.1.1
          unfold pNums
          dsimp only at *
          generalize pNum tx true (skp tx p2) = r3 at *
          obtain ⟨v3, p3, u3⟩ := r3
          cases v3 with
          | false =>
            rw [bI_f] at n3'
            refine ⟨g3, fun Q => ?_, U3, (fun q => nomatch q), ((((X1.tr MX.p).tr Y0).tr Y1).tr Y2).tr Y3⟩
            simp (disch := omega) only [u150_0, u150_1, u150_4, u150_5, u150_6, u150_7, u150_10, u150_11, u150_12, u150_15, u150_16, u150_17, u150_18, u150_20, u150_23, u150_24, u150_25, u150_26, u150_29, u150_32, u150_33, u150_34, u150_35, u150_38, u150_41, u150_42, u150_43, u150_44, u150_47, u150_50, u150_51, u150_52, u150_53, u150_56, u150_59, u150_60, u150_63, u150_64, u150_65, u150_68, u150_69, u150_71, u150_74, u150_75, u150_77, u150_80, u150_81, u150_83, u150_86, u150_87, u150_88, u150_89, u150_92, u150_93, u150_96, u150_97, u150_99, u150_102, u150_103, u150_105, u150_108, u150_109, u150_110, u150_113, u150_114, u150_115, u150_118, u150_119, u150_121, u150_124, u150_125, u150_128, u150_130, u150_133, u150_134, u150_135, u150_136, u150_137, u150_140, u150_141, u150_142, u150_145, u150_146, i0, w1', k0, e1, c110, kd_sI, gR_sI, n0', n1', n2', n3', j0, j1, j2, wr_id, rng, rngp, if_pos, if_neg, if_true, if_false, reduceCtorEq, true_and, and_true, and_self, Option.toList_some, Option.toList_none, List.cons_append, List.nil_append, Int.toNat_natCast]
            exact bad _ _ _
          | true =>
            rw [bI_t] at n3'
            dsimp only at *
            have vals : ∀ (h' : av_H), (∀ j, gI h' (x + 5) j = gI g3 (x + 5) j) → ∀ j, j < 4 → gI h' (x + 5) j = [u0, u1, u2, u3].getD j 0 := by
              intro h' V j hj
              rw [V]
              have c : j = 0 ∨ j = 1 ∨ j = 2 ∨ j = 3 := by omega
              rcases c with rfl | rfl | rfl | rfl
              · rw [z3 0 (by omega), z2 0 (by omega), z1 0 (by omega)]; exact y0 rfl
              · rw [z3 1 (by omega), z2 1 (by omega)]; exact y1 rfl
              · rw [z3 2 (by omega)]; exact y2 rfl
              · exact y3 rfl
            have go : ∀ Q, WP sc (d + 4) 150 0 [(0, .inr (.inl x))] [] h Q ↔ WP sc (d + 4) 150 120 [(0, .inr (.inl x)), (1, .inl 110), (2, .inl 1)] [] g3 Q := by
              intro Q
              simp (disch := omega) only [u150_0, u150_1, u150_4, u150_5, u150_6, u150_7, u150_10, u150_11, u150_12, u150_15, u150_16, u150_17, u150_18, u150_20, u150_23, u150_24, u150_25, u150_26, u150_29, u150_32, u150_33, u150_34, u150_35, u150_38, u150_41, u150_42, u150_43, u150_44, u150_47, u150_50, u150_51, u150_52, u150_53, u150_56, u150_59, u150_60, u150_63, u150_64, u150_65, u150_68, u150_69, u150_71, u150_74, u150_75, u150_77, u150_80, u150_81, u150_83, u150_86, u150_87, u150_88, u150_89, u150_92, u150_93, u150_96, u150_97, u150_99, u150_102, u150_103, u150_105, u150_108, u150_109, u150_110, u150_113, u150_114, u150_115, u150_118, u150_119, u150_121, u150_124, u150_125, u150_128, u150_130, u150_133, u150_134, u150_135, u150_136, u150_137, u150_140, u150_141, u150_142, u150_145, u150_146, i0, w1', k0, e1, c110, kd_sI, gR_sI, n0', n1', n2', n3', j0, j1, j2, wr_id, rng, rngp, if_pos, if_neg, if_true, if_false, reduceCtorEq, true_and, and_true, and_self, Option.toList_some, Option.toList_none, List.cons_append, List.nil_append, Int.toNat_natCast]
            obtain ⟨h', wq, Tq, Vq, Xq⟩ := fin 110 g3 p3 U3 l3.2
            have X9 := (((((X1.tr MX.p).tr Y0).tr Y1).tr Y2).tr Y3).tr Xq
            by_cases c59 : tb tx (skp tx p3) = 59
            · rw [if_pos c59] at wq Tq
              simp only [pNums, c59, if_true, eq_self]
              exact ⟨h', fun Q => (go Q).trans (wq Q), Tq, fun _ => vals h' Vq, X9⟩
            · rw [if_neg c59] at wq Tq
              simp only [pNums, c59, if_true, if_false, eq_self, reduceCtorEq]
              exact ⟨h', fun Q => (go Q).trans (wq Q), Tq, (fun q => nomatch q), X9⟩
  · by_cases c1 : tb tx q = 115 ∨ tb tx q = 97 ∨ tb tx q = 108
    · have ea : arN (tb tx q) = some [false] := by simp [arN, c110, c1]
      rw [ea]
      dsimp only
      have hq := arN_in ea
      obtain ⟨g0, n0, U0, y0, z0, Y0⟩ := m_number (sc := sc) (d := d) (k := 0) (may := false) T2 (by omega) (by omega)
      have l0 := pNum_le (may := false) (skp_le (tx := tx) (p := q + 1) (by omega))
      have n0' : ∀ Q, WP sc (d + 3) 149 0 [(0, .inr (.inl x)), (1, .inl 0), (2, .inl 0)] [] (sI h1 x 6 ((q : Int) + 1)) Q ↔ Q (some (.inl (bI (pNum tx false (skp tx (q + 1))).1))) g0 := n0
      unfold pNums
      generalize pNum tx false (skp tx (q + 1)) = r0 at *
      obtain ⟨v0, p0, u0⟩ := r0
      have go : ∀ Q, WP sc (d + 4) 150 0 [(0, .inr (.inl x))] [] h Q ↔ WP sc (d + 4) 150 120 [(0, .inr (.inl x)), (1, .inl (tb tx q)), (2, .inl (bI v0))] [] g0 Q := by
        intro Q
        rcases c1 with c1 | c1 | c1
        · simp (disch := omega) only [u150_0, u150_1, u150_4, u150_5, u150_6, u150_7, u150_10, u150_11, u150_12, u150_15, u150_16, u150_17, u150_18, u150_20, u150_23, u150_24, u150_25, u150_26, u150_29, u150_32, u150_33, u150_34, u150_35, u150_38, u150_41, u150_42, u150_43, u150_44, u150_47, u150_50, u150_51, u150_52, u150_53, u150_56, u150_59, u150_60, u150_63, u150_64, u150_65, u150_68, u150_69, u150_71, u150_74, u150_75, u150_77, u150_80, u150_81, u150_83, u150_86, u150_87, u150_88, u150_89, u150_92, u150_93, u150_96, u150_97, u150_99, u150_102, u150_103, u150_105, u150_108, u150_109, u150_110, u150_113, u150_114, u150_115, u150_118, u150_119, u150_121, u150_124, u150_125, u150_128, u150_130, u150_133, u150_134, u150_135, u150_136, u150_137, u150_140, u150_141, u150_142, u150_145, u150_146, i0, w1', k0, e1, c1, kd_sI, gR_sI, n0', wr_id, rng, rngp, if_pos, if_neg, if_true, if_false, reduceCtorEq, true_and, and_true, and_self, Option.toList_some, Option.toList_none, List.cons_append, List.nil_append, Int.toNat_natCast]
        · simp (disch := omega) only [u150_0, u150_1, u150_4, u150_5, u150_6, u150_7, u150_10, u150_11, u150_12, u150_15, u150_16, u150_17, u150_18, u150_20, u150_23, u150_24, u150_25, u150_26, u150_29, u150_32, u150_33, u150_34, u150_35, u150_38, u150_41, u150_42, u150_43, u150_44, u150_47, u150_50, u150_51, u150_52, u150_53, u150_56, u150_59, u150_60, u150_63, u150_64, u150_65, u150_68, u150_69, u150_71, u150_74, u150_75, u150_77, u150_80, u150_81, u150_83, u150_86, u150_87, u150_88, u150_89, u150_92, u150_93, u150_96, u150_97, u150_99, u150_102, u150_103, u150_105, u150_108, u150_109, u150_110, u150_113, u150_114, u150_115, u150_118, u150_119, u150_121, u150_124, u150_125, u150_128, u150_130, u150_133, u150_134, u150_135, u150_136, u150_137, u150_140, u150_141, u150_142, u150_145, u150_146, i0, w1', k0, e1, c1, kd_sI, gR_sI, n0', wr_id, rng, rngp, if_pos, if_neg, if_true, if_false, reduceCtorEq, true_and, and_true, and_self, Option.toList_some, Option.toList_none, List.cons_append, List.nil_append, Int.toNat_natCast]
        · simp (disch := omega) only [u150_0, u150_1, u150_4, u150_5, u150_6, u150_7, u150_10, u150_11, u150_12, u150_15, u150_16, u150_17, u150_18, u150_20, u150_23, u150_24, u150_25, u150_26, u150_29, u150_32, u150_33, u150_34, u150_35, u150_38, u150_41, u150_42, u150_43, u150_44, u150_47, u150_50, u150_51, u150_52, u150_53, u150_56, u150_59, u150_60, u150_63, u150_64, u150_65, u150_68, u150_69, u150_71, u150_74, u150_75, u150_77, u150_80, u150_81, u150_83, u150_86, u150_87, u150_88, u150_89, u150_92, u150_93, u150_96, u150_97, u150_99, u150_102, u150_103, u150_105, u150_108, u150_109, u150_110, u150_113, u150_114, u150_115, u150_118, u150_119, u150_121, u150_124, u150_125, u150_128, u150_130, u150_133, u150_134, u150_135, u150_136, u150_137, u150_140, u150_141, u150_142, u150_145, u150_146, i0, w1', k0, e1, c1, kd_sI, gR_sI, n0', wr_id, rng, rngp, if_pos, if_neg, if_true, if_false, reduceCtorEq, true_and, and_true, and_self, Option.toList_some, Option.toList_none, List.cons_append, List.nil_append, Int.toNat_natCast]
      cases v0 with
      | false =>
        refine ⟨g0, fun Q => ?_, U0, (fun q => nomatch q), (X1.tr MX.p).tr Y0⟩
        exact (go Q).trans (bad _ _ _)
      | true =>
        unfold pNums
        dsimp only at *
        obtain ⟨h', wq, Tq, Vq, Xq⟩ := fin (tb tx q) g0 p0 U0 l0.2
        have X9 := ((X1.tr MX.p).tr Y0).tr Xq
        by_cases c59 : tb tx (skp tx p0) = 59
        · rw [if_pos c59] at wq Tq
          simp only [pNums, c59, if_true, eq_self]
          refine ⟨h', fun Q => (go Q).trans (wq Q), Tq, fun _ j hj => ?_, X9⟩
          have : j = 0 := by change j < 1 at hj; omega
          subst this
          rw [Vq]
          exact y0 rfl
        · rw [if_neg c59] at wq Tq
          simp only [pNums, c59, if_true, if_false, eq_self, reduceCtorEq]
          exact ⟨h', fun Q => (go Q).trans (wq Q), Tq, (fun q => nomatch q), X9⟩
    · by_cases c2 : tb tx q = 109 ∨ tb tx q = 102
      · have ea : arN (tb tx q) = some [] := by simp [arN, c110, c1, c2]
        rw [ea]
        dsimp only
        have hq := arN_in ea
        have go : ∀ Q, WP sc (d + 4) 150 0 [(0, .inr (.inl x))] [] h Q ↔ WP sc (d + 4) 150 120 [(0, .inr (.inl x)), (1, .inl (tb tx q)), (2, .inl 1)] [] (sI h1 x 6 ((q : Int) + 1)) Q := by
          intro Q
          rcases c2 with c2 | c2
          · simp (disch := omega) only [u150_0, u150_1, u150_4, u150_5, u150_6, u150_7, u150_10, u150_11, u150_12, u150_15, u150_16, u150_17, u150_18, u150_20, u150_23, u150_24, u150_25, u150_26, u150_29, u150_32, u150_33, u150_34, u150_35, u150_38, u150_41, u150_42, u150_43, u150_44, u150_47, u150_50, u150_51, u150_52, u150_53, u150_56, u150_59, u150_60, u150_63, u150_64, u150_65, u150_68, u150_69, u150_71, u150_74, u150_75, u150_77, u150_80, u150_81, u150_83, u150_86, u150_87, u150_88, u150_89, u150_92, u150_93, u150_96, u150_97, u150_99, u150_102, u150_103, u150_105, u150_108, u150_109, u150_110, u150_113, u150_114, u150_115, u150_118, u150_119, u150_121, u150_124, u150_125, u150_128, u150_130, u150_133, u150_134, u150_135, u150_136, u150_137, u150_140, u150_141, u150_142, u150_145, u150_146, i0, w1', k0, e1, c2, kd_sI, gR_sI, wr_id, rng, rngp, if_pos, if_neg, if_true, if_false, reduceCtorEq, true_and, and_true, and_self, Option.toList_some, Option.toList_none, List.cons_append, List.nil_append, Int.toNat_natCast]
          · simp (disch := omega) only [u150_0, u150_1, u150_4, u150_5, u150_6, u150_7, u150_10, u150_11, u150_12, u150_15, u150_16, u150_17, u150_18, u150_20, u150_23, u150_24, u150_25, u150_26, u150_29, u150_32, u150_33, u150_34, u150_35, u150_38, u150_41, u150_42, u150_43, u150_44, u150_47, u150_50, u150_51, u150_52, u150_53, u150_56, u150_59, u150_60, u150_63, u150_64, u150_65, u150_68, u150_69, u150_71, u150_74, u150_75, u150_77, u150_80, u150_81, u150_83, u150_86, u150_87, u150_88, u150_89, u150_92, u150_93, u150_96, u150_97, u150_99, u150_102, u150_103, u150_105, u150_108, u150_109, u150_110, u150_113, u150_114, u150_115, u150_118, u150_119, u150_121, u150_124, u150_125, u150_128, u150_130, u150_133, u150_134, u150_135, u150_136, u150_137, u150_140, u150_141, u150_142, u150_145, u150_146, i0, w1', k0, e1, c2, kd_sI, gR_sI, wr_id, rng, rngp, if_pos, if_neg, if_true, if_false, reduceCtorEq, true_and, and_true, and_self, Option.toList_some, Option.toList_none, List.cons_append, List.nil_append, Int.toNat_natCast]
        unfold pNums
        dsimp only
        obtain ⟨h', wq, Tq, Vq, Xq⟩ := fin (tb tx q) _ (q + 1) T2 (by omega)
        have X9 := (X1.tr MX.p).tr Xq
        by_cases c59 : tb tx (skp tx (q + 1)) = 59
        · rw [if_pos c59] at wq Tq
          simp only [pNums, c59, if_true, eq_self]
          exact ⟨h', fun Q => (go Q).trans (wq Q), Tq, fun _ j hj => absurd hj (by simp), X9⟩
        · rw [if_neg c59] at wq Tq
          simp only [pNums, c59, if_true, if_false, eq_self, reduceCtorEq]
          exact ⟨h', fun Q => (go Q).trans (wq Q), Tq, (fun q => nomatch q), X9⟩
      · have ea : arN (tb tx q) = none := by simp [arN, c110, c1, c2]
        rw [ea]
        dsimp only
        refine ⟨sI (sI h1 x 6 ((q : Int) + 1)) x 6 ((q : Int) + 1 - 1), fun Q => ?_, T2.p (by omega), (fun q => nomatch q), (X1.tr MX.p).tr MX.p⟩
        simp (disch := omega) only [u150_0, u150_1, u150_4, u150_5, u150_6, u150_7, u150_10, u150_11, u150_12, u150_15, u150_16, u150_17, u150_18, u150_20, u150_23, u150_24, u150_25, u150_26, u150_29, u150_32, u150_33, u150_34, u150_35, u150_38, u150_41, u150_42, u150_43, u150_44, u150_47, u150_50, u150_51, u150_52, u150_53, u150_56, u150_59, u150_60, u150_63, u150_64, u150_65, u150_68, u150_69, u150_71, u150_74, u150_75, u150_77, u150_80, u150_81, u150_83, u150_86, u150_87, u150_88, u150_89, u150_92, u150_93, u150_96, u150_97, u150_99, u150_102, u150_103, u150_105, u150_108, u150_109, u150_110, u150_113, u150_114, u150_115, u150_118, u150_119, u150_120, u150_121, u150_124, u150_125, u150_128, u150_130, u150_133, u150_134, u150_135, u150_136, u150_137, u150_140, u150_141, u150_142, u150_145, u150_146, i0, w1', k0, e1, kd_sI, gR_sI, gI_sI_eq, true_or, bI_f, wr_id, rng, rngp, if_pos, if_neg, if_true, if_false, reduceCtorEq, true_and, and_true, and_self, Option.toList_some, Option.toList_none, List.cons_append, List.nil_append, Int.toNat_natCast]
