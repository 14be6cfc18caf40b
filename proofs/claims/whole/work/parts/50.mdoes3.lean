/-! the reference does a text -/
theorem tb_nn {tx : List Int} (hb : ∀ i, i < tx.length → 0 ≤ tx.getD i 0) {p : Nat} (h : p < tx.length) : 0 ≤ tb tx p := by
  unfold tb; rw [if_pos h]; exact hb p h
theorem d_one {sc : av_S} {d : Nat} {x : Nat} {tx : List Int} (hb : ∀ i, i < tx.length → 0 ≤ tx.getD i 0) : ∀ (k p : Nat) (h : av_H), tx.length < p + k → p ≤ tx.length → MT h x tx p → ∃ h' p', MT h' x tx p' ∧ MX h h' x ∧ (∀ e, pAll k tx p = .inl e → p' = e ∧ ∀ Q, WP sc (d + 12) 152 18 [(0, .inr (.inl x)), (1, .inl 1)] [] h Q ↔ WP sc (d + 12) 152 37 [(0, .inr (.inl x)), (1, .inl 0)] [] h' Q) ∧ (∀ os, pAll k tx p = .inr os → ∀ Q, WP sc (d + 12) 152 18 [(0, .inr (.inl x)), (1, .inl 1)] [] h Q ↔ WP sc (d + 12) 152 37 [(0, .inr (.inl x)), (1, .inl 1)] [] h' Q) := by
  intro k
  induction k with
  | zero => intro p h a b; omega
  | succ k ih =>
    intro p h a b T
    obtain ⟨h1, w1, T1, X1, -⟩ := m_here (sc := sc) (d := d + 10) T b
    have hle := skp_le b
    have hge := skp_ge b
    have hss := skp_skp b
    have k0 := T.1.1
    have k1 := T1.1.1
    unfold pAll
    generalize skp tx p = q at *
    have w1' : ∀ Q, WP sc (d + 11) 147 0 [(0, .inr (.inl x))] [] h Q ↔ Q (some (.inl (tb tx q))) h1 := w1
    by_cases c : q < tx.length
    · have nn := tb_nn hb c
      obtain ⟨h2, w2, T2, -, X2⟩ := m_order (sc := sc) (d := d + 7) T1 hle
      rw [hss] at w2 T2
      have w2' : ∀ Q, WP sc (d + 11) 150 0 [(0, .inr (.inl x))] [] h1 Q ↔ Q (some (.inl (bI (pOrd tx q).1))) h2 := w2
      have ol := pOrd_le (tx := tx) (p := q) hle
      rw [if_pos c]
      generalize pOrd tx q = r at *
      obtain ⟨v, p2, vs⟩ := r
      have go : ∀ Q, WP sc (d + 12) 152 18 [(0, .inr (.inl x)), (1, .inl 1)] [] h Q ↔ WP sc (d + 12) 152 18 [(0, .inr (.inl x)), (1, .inl (bI v))] [] h2 Q := by
        intro Q
        rw [u152_18]
        simp (disch := omega) only [u152_0, u152_1, u152_2, u152_5, u152_6, u152_9, u152_12, u152_13, u152_16, u152_17, u152_19, u152_22, u152_23, u152_26, u152_29, u152_30, u152_33, u152_34, u152_38, u152_41, u152_43, u152_44, u152_47, u152_48, u152_49, u152_50, u152_53, u152_54, u152_55, u152_58, u152_59, u152_61, u152_64, u152_67, u152_68, u152_71, u152_72, u152_73, u152_76, u152_77, u152_78, u152_79, u152_80, u152_83, u152_86, u152_87, u152_90, u152_91, u152_92, u152_93, u152_96, u152_97, k0, k1, w1', w2', wr_id, rng, rngp, if_pos, if_neg, if_true, if_false, reduceCtorEq, true_and, and_true, and_self, Option.toList_some, Option.toList_none, List.cons_append, List.nil_append, Int.toNat_natCast]
      cases v with
      | false =>
        rw [if_neg (by simp)]
        refine ⟨h2, p2, T2, X1.tr X2, fun e he => ⟨by cases he; rfl, fun Q => (go Q).trans ?_⟩, (fun os ho => nomatch ho)⟩
        rw [bI_f, u152_18]
        simp (disch := omega) only [u152_0, u152_1, u152_2, u152_5, u152_6, u152_9, u152_12, u152_13, u152_16, u152_17, u152_19, u152_22, u152_23, u152_26, u152_29, u152_30, u152_33, u152_34, u152_38, u152_41, u152_43, u152_44, u152_47, u152_48, u152_49, u152_50, u152_53, u152_54, u152_55, u152_58, u152_59, u152_61, u152_64, u152_67, u152_68, u152_71, u152_72, u152_73, u152_76, u152_77, u152_78, u152_79, u152_80, u152_83, u152_86, u152_87, u152_90, u152_91, u152_92, u152_93, u152_96, u152_97, wr_id, rng, rngp, if_pos, if_neg, if_true, if_false, reduceCtorEq, true_and, and_true, and_self, Option.toList_some, Option.toList_none, List.cons_append, List.nil_append, Int.toNat_natCast]
      | true =>
        rw [if_pos rfl]
        dsimp only at *
        obtain ⟨h3, p3, T3, X3, z1, z2⟩ := ih p2 h2 (by have := ol.2.2 rfl; omega) ol.2.1 T2
        refine ⟨h3, p3, T3, (X1.tr X2).tr X3, fun e he => ?_, fun os ho => ?_⟩
        · split at he
          · next e2 q2 =>
            cases he
            obtain ⟨y1, y2⟩ := z1 _ q2
            exact ⟨y1, fun Q => (go Q).trans (y2 Q)⟩
          · simp at he
        · split at ho
          · simp at ho
          · next os2 q2 =>
            exact fun Q => (go Q).trans (z2 _ q2 Q)
    · rw [if_neg c]
      have o := tb_out (tx := tx) (p := q) (by omega)
      refine ⟨h1, q, T1, X1, (fun e he => nomatch he), fun os ho Q => ?_⟩
      rw [u152_18]
      simp (disch := omega) only [u152_0, u152_1, u152_2, u152_5, u152_6, u152_9, u152_12, u152_13, u152_16, u152_17, u152_19, u152_22, u152_23, u152_26, u152_29, u152_30, u152_33, u152_34, u152_38, u152_41, u152_43, u152_44, u152_47, u152_48, u152_49, u152_50, u152_53, u152_54, u152_55, u152_58, u152_59, u152_61, u152_64, u152_67, u152_68, u152_71, u152_72, u152_73, u152_76, u152_77, u152_78, u152_79, u152_80, u152_83, u152_86, u152_87, u152_90, u152_91, u152_92, u152_93, u152_96, u152_97, k0, k1, w1', wr_id, rng, rngp, if_pos, if_neg, if_true, if_false, reduceCtorEq, true_and, and_true, and_self, Option.toList_some, Option.toList_none, List.cons_append, List.nil_append, Int.toNat_natCast]
theorem d_two {sc : av_S} {d : Nat} {x : Nat} {tx : List Int} (hb : ∀ i, i < tx.length → 0 ≤ tx.getD i 0) : ∀ (k p : Nat) (c : Int) (σ : sS) (h : av_H) (os : List (Int × List Int)), tx.length < p + k → p ≤ tx.length → MT h x tx p → MR h x σ → pAll k tx p = .inr os → (∀ j, j ≤ os.length → okW (exe (os.take j) σ).2) → 0 ≤ c → c + k ≤ 500 → ∃ h', MR h' x (exe os σ).2 ∧ MZ h h' x ∧ ∀ Q, WP sc (d + 12) 152 60 [(0, .inr (.inl x)), (1, .inl 1), (2, .inl c)] [] h Q ↔ Q (some (.inl (c + (exe os σ).1))) h' := by
  intro k
  induction k with
  | zero => intro p c σ h os a b; omega
  | succ k ih =>
    intro p c σ h os a b T H hp hok c0 ck
    obtain ⟨h1, w1, T1, X1, -⟩ := m_here (sc := sc) (d := d + 10) T b
    have hle := skp_le b
    have hge := skp_ge b
    have hss := skp_skp b
    have k0 := T.1.1
    have k1 := T1.1.1
    unfold pAll at hp
    generalize skp tx p = q at *
    have w1' : ∀ Q, WP sc (d + 11) 147 0 [(0, .inr (.inl x))] [] h Q ↔ Q (some (.inl (tb tx q))) h1 := w1
    by_cases cq : q < tx.length
    · have nn := tb_nn hb cq
      rw [if_pos cq] at hp
      obtain ⟨h2, w2, T2, X2, -⟩ := m_here (sc := sc) (d := d + 10) T1 hle
      rw [hss] at w2 T2
      have w2' : ∀ Q, WP sc (d + 11) 147 0 [(0, .inr (.inl x))] [] h1 Q ↔ Q (some (.inl (tb tx q))) h2 := w2
      have k2 := T2.1.1
      obtain ⟨h3, w3, T3, V3, X3⟩ := m_order (sc := sc) (d := d + 7) T2 hle
      rw [hss] at w3 T3 V3
      have w3' : ∀ Q, WP sc (d + 11) 150 0 [(0, .inr (.inl x))] [] h2 Q ↔ Q (some (.inl (bI (pOrd tx q).1))) h3 := w3
      have ol := pOrd_le (tx := tx) (p := q) hle
      have oa := pOrd_ar (tx := tx) (p := q)
      have k3 := T3.1.1
      generalize pOrd tx q = r at *
      obtain ⟨v, p2, vs⟩ := r
      cases v with
      | false => rw [if_neg (by simp)] at hp; simp at hp
      | true =>
        rw [if_pos rfl] at hp
        dsimp only at *
        split at hp
        · simp at hp
        · next os2 hp2 =>
          cases hp
          obtain ⟨ms, ea, el⟩ := oa rfl
          have H3 : MR h3 x σ := ((H.mx X1).mx X2).mx X3
          have ok0 : okW σ := hok 0 (by omega)
          obtain ⟨h4, w4, H4, F4⟩ := m_isDone (sc := sc) (d := d + 1) (w := tb tx q) (vs := vs) T3.1 H3 ok0 ea el (V3 rfl)
          have w4' : ∀ Q, WP sc (d + 11) 151 0 [(0, .inr (.inl x)), (1, .inl (tb tx q))] [] h3 Q ↔ Q (some (.inl (bI (ex1 σ (tb tx q, vs)).1))) h4 := w4
          have k4 := (T3.1.mf F4).1
          obtain ⟨h5, H5, Z5, w5⟩ := ih p2 (c + bI (ex1 σ (tb tx q, vs)).1) (ex1 σ (tb tx q, vs)).2 h4 os2 (by have := ol.2.2 rfl; omega) ol.2.1 (T3.mf F4) H4 hp2 (fun j hj => hok (j + 1) (by rw [List.length_cons]; omega)) (by unfold bI; split <;> omega) (by unfold bI; split <;> omega)
          refine ⟨h5, H5, (((X1.mz.tr X2.mz).tr X3.mz).tr F4.mz).tr Z5, fun Q => ?_⟩
          show _ ↔ Q (some (.inl (c + (bI (ex1 σ (tb tx q, vs)).1 + (exe os2 (ex1 σ (tb tx q, vs)).2).1)))) h5
          rw [← Int.add_assoc, ← w5 Q, u152_60]
          generalize ex1 σ (tb tx q, vs) = r4 at *
          obtain ⟨v4, σ4⟩ := r4
          cases v4
          · simp (disch := omega) only [u152_0, u152_1, u152_2, u152_5, u152_6, u152_9, u152_12, u152_13, u152_16, u152_17, u152_19, u152_22, u152_23, u152_26, u152_29, u152_30, u152_33, u152_34, u152_37, u152_38, u152_41, u152_43, u152_44, u152_47, u152_48, u152_49, u152_50, u152_53, u152_54, u152_55, u152_58, u152_59, u152_61, u152_64, u152_67, u152_68, u152_71, u152_72, u152_73, u152_76, u152_77, u152_78, u152_79, u152_80, u152_83, u152_86, u152_87, u152_90, u152_91, u152_92, u152_93, u152_96, u152_97, k0, k1, k2, k3, w1', w2', w3', w4', bI_t, bI_f, wr_id, rng, rngp, if_pos, if_neg, if_true, if_false, reduceCtorEq, true_and, and_true, and_self, Option.toList_some, Option.toList_none, List.cons_append, List.nil_append, Int.toNat_natCast]
          · simp (disch := omega) only [u152_0, u152_1, u152_2, u152_5, u152_6, u152_9, u152_12, u152_13, u152_16, u152_17, u152_19, u152_22, u152_23, u152_26, u152_29, u152_30, u152_33, u152_34, u152_37, u152_38, u152_41, u152_43, u152_44, u152_47, u152_48, u152_49, u152_50, u152_53, u152_54, u152_55, u152_58, u152_59, u152_61, u152_64, u152_67, u152_68, u152_71, u152_72, u152_73, u152_76, u152_77, u152_78, u152_79, u152_80, u152_83, u152_86, u152_87, u152_90, u152_91, u152_92, u152_93, u152_96, u152_97, k0, k1, k2, k3, w1', w2', w3', w4', bI_t, bI_f, wr_id, rng, rngp, if_pos, if_neg, if_true, if_false, reduceCtorEq, true_and, and_true, and_self, Option.toList_some, Option.toList_none, List.cons_append, List.nil_append, Int.toNat_natCast]
    · rw [if_neg cq] at hp
      cases hp
      have o := tb_out (tx := tx) (p := q) (by omega)
      refine ⟨h1, H.mx X1, X1.mz, fun Q => ?_⟩
      show _ ↔ Q (some (.inl (c + 0))) h1
      rw [u152_60, Int.add_zero]
      simp (disch := omega) only [u152_0, u152_1, u152_2, u152_5, u152_6, u152_9, u152_12, u152_13, u152_16, u152_17, u152_19, u152_22, u152_23, u152_26, u152_29, u152_30, u152_33, u152_34, u152_37, u152_38, u152_41, u152_43, u152_44, u152_47, u152_48, u152_49, u152_50, u152_53, u152_54, u152_55, u152_58, u152_59, u152_61, u152_64, u152_67, u152_68, u152_71, u152_72, u152_73, u152_76, u152_77, u152_78, u152_79, u152_80, u152_83, u152_86, u152_87, u152_90, u152_91, u152_92, u152_93, u152_96, u152_97, k0, w1', wr_id, rng, rngp, if_pos, if_neg, if_true, if_false, reduceCtorEq, true_and, and_true, and_self, Option.toList_some, Option.toList_none, List.cons_append, List.nil_append, Int.toNat_natCast]
theorem c_does {sc : av_S} {d : Nat} {h : av_H} {x : Nat} {s : SS} (S : MSS h x s) (hb : ∀ i, i < s.2.2.2.length → 0 ≤ s.2.2.2.getD i 0) (hok : ∀ os, pAll 121 s.2.2.2 0 = .inr os → ∀ j, j ≤ os.length → okW (exe (os.take j) s.1).2) : Cm sc (d + 12) 152 x [] h (xDoes s) := by
  obtain ⟨σ, ps, rf, tx⟩ := s
  change MS h x σ ps rf tx at S
  change ∀ i, i < tx.length → 0 ≤ tx.getD i 0 at hb
  have T0 : MT (sI h x 6 0) x tx 0 := S.mt
  have tl : tx.length ≤ 120 := T0.2.2.1
  obtain ⟨h1, w1, T1, X1, -⟩ := m_here (sc := sc) (d := d + 10) T0 (by omega)
  have hle := skp_le (tx := tx) (p := 0) (by omega)
  have hss := skp_skp (tx := tx) (p := 0) (by omega)
  have w1' : ∀ Q, WP sc (d + 11) 147 0 [(0, .inr (.inl x))] [] (sI h x 6 0) Q ↔ Q (some (.inl (tb tx (skp tx 0)))) h1 := w1
  have k0 := S.1.1
  have X01 : MX h h1 x := MX.p.tr X1
  unfold xDoes
  dsimp only
  by_cases c : skp tx 0 < tx.length
  · rw [if_pos c]
    have nn := tb_nn hb c
    have hp : pAll 121 tx (skp tx 0) = pAll 121 tx 0 := by
      unfold pAll
      rw [hss]
    obtain ⟨h2, p2, T2, X2, z1, z2⟩ := d_one (sc := sc) (d := d) hb 121 (skp tx 0) h1 (by omega) hle T1
    rw [hp] at z1 z2
    have go : ∀ Q, WP sc (d + 12) 152 0 [(0, .inr (.inl x))] [] h Q ↔ WP sc (d + 12) 152 18 [(0, .inr (.inl x)), (1, .inl 1)] [] h1 Q := by
      intro Q
      simp (disch := omega) only [u152_0, u152_1, u152_2, u152_5, u152_6, u152_9, u152_12, u152_13, u152_16, u152_17, u152_19, u152_22, u152_23, u152_26, u152_29, u152_30, u152_33, u152_34, u152_37, u152_38, u152_41, u152_43, u152_44, u152_47, u152_48, u152_49, u152_50, u152_53, u152_54, u152_55, u152_58, u152_59, u152_61, u152_64, u152_67, u152_68, u152_71, u152_72, u152_73, u152_76, u152_77, u152_78, u152_79, u152_80, u152_83, u152_86, u152_87, u152_90, u152_91, u152_92, u152_93, u152_96, u152_97, k0, kd_sI, w1', wr_id, rng, rngp, if_pos, if_neg, if_true, if_false, reduceCtorEq, true_and, and_true, and_self, Option.toList_some, Option.toList_none, List.cons_append, List.nil_append, Int.toNat_natCast]
    have X02 := X01.tr X2
    have S2 : MS h2 x σ ps rf tx := S.mz X02.mz (S.2.1.mx X02)
    have k2 := S2.1.1
    have e2 := T2.2.2.2.2
    cases hr : pAll 121 tx 0 with
    | inl e =>
      obtain ⟨rfl, y2⟩ := z1 e hr
      refine ⟨h2, fun Q => (go Q).trans ((y2 Q).trans ?_), S2, X02.mg⟩
      have pl : p2 ≤ 1000 := by
        have : ∀ (k p : Nat), p ≤ tx.length → ∀ e, pAll k tx p = .inl e → e ≤ tx.length := by
          intro k
          induction k with
          | zero => intro p _ e he; simp [pAll] at he
          | succ k ih =>
            intro p hp e he
            unfold pAll at he
            have q1 := skp_le hp
            have q2 := pOrd_le (tx := tx) q1
            split at he
            · split at he
              · split at he
                · next e3 he3 => cases he; exact ih _ q2.2.1 _ he3
                · simp at he
              · cases he; exact q2.2.1
            · simp at he
        have := this 121 0 (by omega) _ hr
        omega
      simp (disch := omega) only [u152_0, u152_1, u152_2, u152_5, u152_6, u152_9, u152_12, u152_13, u152_16, u152_17, u152_19, u152_22, u152_23, u152_26, u152_29, u152_30, u152_33, u152_34, u152_37, u152_38, u152_41, u152_43, u152_44, u152_47, u152_48, u152_49, u152_50, u152_53, u152_54, u152_55, u152_58, u152_59, u152_61, u152_64, u152_67, u152_68, u152_71, u152_72, u152_73, u152_76, u152_77, u152_78, u152_79, u152_80, u152_83, u152_86, u152_87, u152_90, u152_91, u152_92, u152_93, u152_96, u152_97, k2, e2, wr_id, rng, rngp, if_pos, if_neg, if_true, if_false, reduceCtorEq, true_and, and_true, and_self, Option.toList_some, Option.toList_none, List.cons_append, List.nil_append, Int.toNat_natCast]
    | inr os =>
      have y2 := z2 os hr
      obtain ⟨h3, w3, f3, K3, H3, G3⟩ := k_keep (sc := sc) (d := d) (s := (σ, ps, rf, tx)) S2
      have S3 : MS h3 x σ (sKp ps σ) rf tx := f3 σ h3 MF.rf H3 0
      have T3 : MT (sI h3 x 6 0) x tx 0 := S3.mt
      have H3' : MR (sI h3 x 6 0) x σ := H3.mx MX.p
      obtain ⟨h4, H4, Z4, w4⟩ := d_two (sc := sc) (d := d) hb 121 0 0 σ _ os (by omega) (by omega) T3 H3' hr (hok os hr) (by omega) (by omega)
      have k3 := K3.1
      have Z34 : MZ h3 h4 x := MX.p.mz.tr Z4
      refine ⟨h4, fun Q => (go Q).trans ((y2 Q).trans ?_), S3.mz Z34 H4, (X02.mg.tr G3).tr Z34.mg⟩
      rw [Int.zero_add] at w4
      simp (disch := omega) only [u152_0, u152_1, u152_2, u152_5, u152_6, u152_9, u152_12, u152_13, u152_16, u152_17, u152_19, u152_22, u152_23, u152_26, u152_29, u152_30, u152_33, u152_34, u152_37, u152_38, u152_41, u152_43, u152_44, u152_47, u152_48, u152_49, u152_50, u152_53, u152_54, u152_55, u152_58, u152_59, u152_61, u152_64, u152_67, u152_68, u152_71, u152_72, u152_73, u152_76, u152_77, u152_78, u152_79, u152_80, u152_83, u152_86, u152_87, u152_90, u152_91, u152_92, u152_93, u152_96, u152_97, k2, k3, w3, w4, wr_id, rng, rngp, if_pos, if_neg, if_true, if_false, reduceCtorEq, true_and, and_true, and_self, Option.toList_some, Option.toList_none, List.cons_append, List.nil_append, Int.toNat_natCast]
  · rw [if_neg c]
    have o := tb_out (tx := tx) (p := skp tx 0) (by omega)
    have S1 : MS h1 x σ ps rf tx := S.mz X01.mz (S.2.1.mx X01)
    have k1 := S1.1.1
    have e1 := T1.2.2.2.2
    refine ⟨h1, fun Q => ?_, S1, X01.mg⟩
    simp (disch := omega) only [u152_0, u152_1, u152_2, u152_5, u152_6, u152_9, u152_12, u152_13, u152_16, u152_17, u152_19, u152_22, u152_23, u152_26, u152_29, u152_30, u152_33, u152_34, u152_37, u152_38, u152_41, u152_43, u152_44, u152_47, u152_48, u152_49, u152_50, u152_53, u152_54, u152_55, u152_58, u152_59, u152_61, u152_64, u152_67, u152_68, u152_71, u152_72, u152_73, u152_76, u152_77, u152_78, u152_79, u152_80, u152_83, u152_86, u152_87, u152_90, u152_91, u152_92, u152_93, u152_96, u152_97, k0, kd_sI, w1', wr_id, rng, rngp, if_pos, if_neg, if_true, if_false, reduceCtorEq, true_and, and_true, and_self, Option.toList_some, Option.toList_none, List.cons_append, List.nil_append, Int.toNat_natCast]
    rw [u152_18]
    simp (disch := omega) only [u152_0, u152_1, u152_2, u152_5, u152_6, u152_9, u152_12, u152_13, u152_16, u152_17, u152_19, u152_22, u152_23, u152_26, u152_29, u152_30, u152_33, u152_34, u152_37, u152_38, u152_41, u152_43, u152_44, u152_47, u152_48, u152_49, u152_50, u152_53, u152_54, u152_55, u152_58, u152_59, u152_61, u152_64, u152_67, u152_68, u152_71, u152_72, u152_73, u152_76, u152_77, u152_78, u152_79, u152_80, u152_83, u152_86, u152_87, u152_90, u152_91, u152_92, u152_93, u152_96, u152_97, k1, e1, wr_id, rng, rngp, if_pos, if_neg, if_true, if_false, reduceCtorEq, true_and, and_true, and_self, Option.toList_some, Option.toList_none, List.cons_append, List.nil_append, Int.toNat_natCast]
