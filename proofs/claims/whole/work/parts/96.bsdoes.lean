/-! the call does of the class -/
theorem x_sign {sc : av_S} {d : Nat} {h : av_H} {t j : Nat} (K : XK h t) (hj : j < 60) (Q : Option av_V → av_H → Prop) : WP sc (d + 2) 35 0 [(0, .inr (.inl t)), (1, .inl (j : Int))] [] h Q ↔ Q (some (.inl (gI h (t + 2) (5 * j)))) h := by
  have k0 := K.1
  have wc : ∀ Q, WP sc (d + 1) 37 0 [(0, .inr (.inl t)), (1, .inl ((j : Int) * 5))] [] h Q ↔ Q (some (.inl (gI h (t + 2) (5 * j)))) h := by
    intro Q
    rw [show (j : Int) * 5 = ((5 * j : Nat) : Int) by omega]
    exact x_cell K (by omega) Q
  simp (disch := omega) only [u35_0, u35_1, u35_2, u35_3, u35_4, u35_7, k0, wc, wr_id, rng, rngp, if_pos, if_neg, if_true, if_false, reduceCtorEq, true_and, and_true, and_self, Option.toList_some, Option.toList_none, List.cons_append, List.nil_append, Int.toNat_natCast]
theorem x_numb {sc : av_S} {d : Nat} {h : av_H} {t j : Nat} {i : Int} {q : Nat} (K : XK h t) (hj : j < 60) (hi : i = (q : Int)) (hq : q < 4) (Q : Option av_V → av_H → Prop) : WP sc (d + 2) 36 0 [(0, .inr (.inl t)), (1, .inl (j : Int)), (2, .inl i)] [] h Q ↔ Q (some (.inl (gI h (t + 2) (5 * j + 1 + q)))) h := by
  have k0 := K.1
  subst hi
  have wc : ∀ Q, WP sc (d + 1) 37 0 [(0, .inr (.inl t)), (1, .inl ((j : Int) * 5 + 1 + (q : Int)))] [] h Q ↔ Q (some (.inl (gI h (t + 2) (5 * j + 1 + q)))) h := by
    intro Q
    rw [show (j : Int) * 5 + 1 + (q : Int) = ((5 * j + 1 + q : Nat) : Int) by omega]
    exact x_cell K (by omega) Q
  simp (disch := omega) only [u36_0, u36_1, u36_2, u36_3, u36_4, u36_5, u36_6, u36_7, u36_8, u36_11, k0, wc, wr_id, rng, rngp, if_pos, if_neg, if_true, if_false, reduceCtorEq, true_and, and_true, and_self, Option.toList_some, Option.toList_none, List.cons_append, List.nil_append, Int.toNat_natCast]
theorem ex1_r {σ : sS} {w p a b k : Int} {vs : List Int} {ms : List Bool} (ha : arN w = some ms) (hl : vs.length = ms.length) (h0 : 0 < vs.length → p = vs.getD 0 0) (h1 : 1 < vs.length → a = vs.getD 1 0) (h2 : 2 < vs.length → b = vs.getD 2 0) (h3 : 3 < vs.length → k = vs.getD 3 0) : (rfs σ w p a b k = 0 → ex1 σ (w, vs) = (true, (cry σ w p a b k).2)) ∧ (rfs σ w p a b k ≠ 0 → ex1 σ (w, vs) = (false, σ)) := by
  unfold arN at ha
  by_cases c1 : w = 110
  · rw [if_pos c1] at ha
    cases ha
    have hl : vs.length = 4 := hl
    subst c1
    have e1 : rfs σ 110 p a b k = whyN σ p a b k := rfl
    have e2 : (cry σ 110 p a b k).2 = sNode σ p a b k := rfl
    have e3 : ex1 σ (110, vs) = if whyN σ (vs.getD 0 0) (vs.getD 1 0) (vs.getD 2 0) (vs.getD 3 0) = 0 then (true, sNode σ (vs.getD 0 0) (vs.getD 1 0) (vs.getD 2 0) (vs.getD 3 0)) else (false, σ) := rfl
    rw [e1, e2, e3, ← h0 (by omega), ← h1 (by omega), ← h2 (by omega), ← h3 (by omega)]
    exact ⟨fun q => if_pos q, fun q => if_neg q⟩
  rw [if_neg c1] at ha
  by_cases c2 : w = 115 ∨ w = 97 ∨ w = 108
  · rw [if_pos c2] at ha
    cases ha
    have hl : vs.length = 1 := hl
    have e0 := h0 (by omega)
    rcases c2 with c | c | c
    · subst c
      have e1 : rfs σ 115 p a b k = if 1 ≤ p ∧ p ≤ 60 then 0 else -2 := rfl
      have e2 : (cry σ 115 p a b k).2 = sSteps p.toNat σ := rfl
      have e3 : ex1 σ (115, vs) = if 1 ≤ vs.getD 0 0 ∧ vs.getD 0 0 ≤ 60 then (true, sSteps (vs.getD 0 0).toNat σ) else (false, σ) := rfl
      rw [e1, e2, e3, ← e0]
      by_cases q : 1 ≤ p ∧ p ≤ 60
      · rw [if_pos q, if_pos q]
        exact ⟨fun _ => rfl, fun z => absurd rfl z⟩
      · rw [if_neg q, if_neg q]
        exact ⟨fun z => absurd z (by decide), fun _ => rfl⟩
    · subst c
      have e1 : rfs σ 97 p a b k = if 0 ≤ p ∧ p ≤ 1 then (if sg σ 4 = 1 then -3 else 0) else -2 := rfl
      have e2 : (cry σ 97 p a b k).2 = ug σ 5 p := rfl
      have e3 : ex1 σ (97, vs) = if 0 ≤ vs.getD 0 0 ∧ vs.getD 0 0 ≤ 1 then (if sg σ 4 = 1 then (false, σ) else (true, ug σ 5 (vs.getD 0 0))) else (false, σ) := rfl
      rw [e1, e2, e3, ← e0]
      by_cases q : 0 ≤ p ∧ p ≤ 1
      · rw [if_pos q, if_pos q]
        by_cases q4 : sg σ 4 = 1
        · rw [if_pos q4, if_pos q4]
          exact ⟨fun z => absurd z (by decide), fun _ => rfl⟩
        · rw [if_neg q4, if_neg q4]
          exact ⟨fun _ => rfl, fun z => absurd rfl z⟩
      · rw [if_neg q, if_neg q]
        exact ⟨fun z => absurd z (by decide), fun _ => rfl⟩
    · subst c
      have e1 : rfs σ 108 p a b k = if 0 ≤ p ∧ p ≤ 30 then 0 else -2 := rfl
      have e2 : (cry σ 108 p a b k).2 = ug σ 2 p := rfl
      have e3 : ex1 σ (108, vs) = if 0 ≤ vs.getD 0 0 ∧ vs.getD 0 0 ≤ 30 then (true, ug σ 2 (vs.getD 0 0)) else (false, σ) := rfl
      rw [e1, e2, e3, ← e0]
      by_cases q : 0 ≤ p ∧ p ≤ 30
      · rw [if_pos q, if_pos q]
        exact ⟨fun _ => rfl, fun z => absurd rfl z⟩
      · rw [if_neg q, if_neg q]
        exact ⟨fun z => absurd z (by decide), fun _ => rfl⟩
  rw [if_neg c2] at ha
  have c3 : w = 109 ∨ w = 102 := by
    by_cases c3 : w = 109 ∨ w = 102
    · exact c3
    · rw [if_neg c3] at ha; cases ha
  rcases c3 with c | c
  · subst c
    have e1 : rfs σ 109 p a b k = if sg σ 4 = 1 then -3 else 0 := rfl
    have e2 : (cry σ 109 p a b k).2 = sMarks σ := rfl
    have e3 : ex1 σ (109, vs) = if sg σ 4 = 1 then (false, σ) else (true, sMarks σ) := rfl
    rw [e1, e2, e3]
    by_cases q4 : sg σ 4 = 1
    · rw [if_pos q4, if_pos q4]
      exact ⟨fun z => absurd z (by decide), fun _ => rfl⟩
    · rw [if_neg q4, if_neg q4]
      exact ⟨fun _ => rfl, fun z => absurd rfl z⟩
  · subst c
    exact ⟨fun _ => rfl, fun z => absurd rfl z⟩
/-- what the cells of the text hold of orders -/
def XO (h : av_H) (os : List (Int × List Int)) : Prop := gI h 976 3 = (os.length : Int) ∧ os.length ≤ 60 ∧ ∀ j, j < os.length → gI h 978 (5 * j) = (os.getD j (0, [])).1 ∧ (∀ i, i < (os.getD j (0, [])).2.length → gI h 978 (5 * j + 1 + i) = (os.getD j (0, [])).2.getD i 0) ∧ ∃ ms, arN (os.getD j (0, [])).1 = some ms ∧ (os.getD j (0, [])).2.length = ms.length
theorem XO.fr {h h' : av_H} {lo hi : Nat} {os : List (Int × List Int)} (X : XO h os) (F : Fr h h' lo hi) (e : hi ≤ 976 ∨ 979 ≤ lo) : XO h' os := by
  obtain ⟨a, b, c⟩ := X
  refine ⟨by rw [F.i (by omega)]; exact a, b, fun j hj => ?_⟩
  obtain ⟨c1, c2, c3⟩ := c j hj
  exact ⟨by rw [F.i (by omega)]; exact c1, fun i hi => by rw [F.i (by omega)]; exact c2 i hi, c3⟩
theorem b_does2 {sc : av_S} {d : Nat} {os : List (Int × List Int)} {ps : List sS} {rf : Nat → Int} {tx : List Int} {f : Int} : ∀ (rs : List (Int × List Int)) (i : Nat) (c : Int) (τ : sS) (h : av_H), os.drop i = rs → CB h (τ, ps, rf, tx) → XO h os → (∀ j, j ≤ rs.length → okY (exe (rs.take j) τ).2) → (0 ≤ c ∧ c ≤ (i : Int)) → ∃ h', (∀ Q, WP sc (d + 12) 85 26 [(0, .inr (.inl 2)), (1, .inl f), (2, .inl c), (3, .inl (i : Int))] [] h Q ↔ Q (some (.inl (c + (exe rs τ).1))) h') ∧ CB h' ((exe rs τ).2, ps, rf, tx) ∧ Fr h h' 3 165 := by
  intro rs
  induction rs with
  | nil =>
    intro i c τ h hd S X ok hc
    obtain ⟨K, C, a1, B, R, p, o, T⟩ := id S
    obtain ⟨k0, k1, k2, k3, k4, k5, k6⟩ := id K
    have t0 := T.1.1
    have hi : os.length ≤ i := List.drop_eq_nil_iff.mp hd
    have x1 := X.1
    refine ⟨h, fun Q => ?_, S, Fr.rf⟩
    rw [u85_26]
    show _ ↔ Q (some (.inl (c + 0))) h
    rw [Int.add_zero]
    clear X T C S
    simp (disch := omega) only [u85_0, u85_1, u85_4, u85_7, u85_8, u85_9, u85_10, u85_13, u85_15, u85_16, u85_17, u85_18, u85_19, u85_22, u85_23, u85_24, u85_25, u85_27, u85_28, u85_31, u85_34, u85_37, u85_38, u85_41, u85_42, u85_45, u85_47, u85_48, u85_51, u85_52, u85_53, u85_56, u85_58, u85_59, u85_62, u85_63, u85_64, u85_67, u85_69, u85_70, u85_73, u85_74, u85_75, u85_78, u85_80, u85_81, u85_84, u85_85, u85_86, u85_89, u85_91, u85_92, u85_95, u85_97, u85_99, u85_101, u85_103, u85_105, u85_108, u85_111, u85_112, u85_115, u85_117, u85_119, u85_121, u85_123, u85_125, u85_128, u85_129, u85_132, u85_135, u85_138, u85_139, k0, k4, t0, x1, wr_id, rng, rngp, if_pos, if_neg, if_true, if_false, reduceCtorEq, true_and, and_true, and_self, Option.toList_some, Option.toList_none, List.cons_append, List.nil_append, Int.toNat_natCast]
  | cons o rs ih =>
    intro i c τ h hd S X ok hc
    obtain ⟨K, C, a1, B, R, p, oo, T⟩ := id S
    obtain ⟨k0, k1, k2, k3, k4, k5, k6⟩ := id K
    have t0 := T.1.1
    have w0 : (kd h 3).1 = 5 := C.1.1
    have hil : i < os.length := by
      have := congrArg List.length hd
      rw [List.length_drop] at this
      simp at this
      omega
    have eo : os.getD i (0, []) = o := by
      rw [List.getD_eq_getElem?_getD, show os[i]? = (os.drop i)[0]? by rw [List.getElem?_drop]; rfl, hd]; rfl
    obtain ⟨x1, x2, x3⟩ := id X
    have y := x3 i hil
    rw [eo] at y
    obtain ⟨y1, y2, ms, y3, y4⟩ := y
    have oky : okY τ := ok 0 (by omega)
    have ws : ∀ Q, WP sc (d + 11) 35 0 [(0, .inr (.inl 976)), (1, .inl (i : Int))] [] h Q ↔ Q (some (.inl o.1)) h := fun Q => by rw [← y1]; exact x_sign (d := d + 9) T.1 (by omega) Q
    obtain ⟨v0, e0⟩ : ∃ v, v = gI h 978 (5 * i + 1 + 0) := ⟨_, rfl⟩
    obtain ⟨v1, e1⟩ : ∃ v, v = gI h 978 (5 * i + 1 + 1) := ⟨_, rfl⟩
    obtain ⟨v2, e2⟩ : ∃ v, v = gI h 978 (5 * i + 1 + 2) := ⟨_, rfl⟩
    obtain ⟨v3, e3⟩ : ∃ v, v = gI h 978 (5 * i + 1 + 3) := ⟨_, rfl⟩
    have n0 : ∀ Q, WP sc (d + 11) 36 0 [(0, .inr (.inl 976)), (1, .inl (i : Int)), (2, .inl 0)] [] h Q ↔ Q (some (.inl v0)) h := fun Q => by rw [e0]; exact x_numb (d := d + 9) (q := 0) T.1 (by omega) rfl (by decide) Q
    have n1 : ∀ Q, WP sc (d + 11) 36 0 [(0, .inr (.inl 976)), (1, .inl (i : Int)), (2, .inl 1)] [] h Q ↔ Q (some (.inl v1)) h := fun Q => by rw [e1]; exact x_numb (d := d + 9) (q := 1) T.1 (by omega) rfl (by decide) Q
    have n2 : ∀ Q, WP sc (d + 11) 36 0 [(0, .inr (.inl 976)), (1, .inl (i : Int)), (2, .inl 2)] [] h Q ↔ Q (some (.inl v2)) h := fun Q => by rw [e2]; exact x_numb (d := d + 9) (q := 2) T.1 (by omega) rfl (by decide) Q
    have n3 : ∀ Q, WP sc (d + 11) 36 0 [(0, .inr (.inl 976)), (1, .inl (i : Int)), (2, .inl 3)] [] h Q ↔ Q (some (.inl v3)) h := fun Q => by rw [e3]; exact x_numb (d := d + 9) (q := 3) T.1 (by omega) rfl (by decide) Q
    have wr : ∀ Q, WP sc (d + 11) 53 0 [(0, .inr (.inl 3)), (1, .inl o.1), (2, .inl v0), (3, .inl v1), (4, .inl v2), (5, .inl v3)] [] h Q ↔ Q (some (.inl (rfs τ o.1 v0 v1 v2 v3))) h := fun Q => w_refusal (d := d + 6) C oky.2.2.2.2.2.1 oky.1.2.2.1 Q
    have exr := ex1_r (σ := τ) (w := o.1) (p := v0) (a := v1) (b := v2) (k := v3) (vs := o.2) y3 y4 (fun q => e0.trans (y2 0 q)) (fun q => e1.trans (y2 1 q)) (fun q => e2.trans (y2 2 q)) (fun q => e3.trans (y2 3 q))
    have x1' := x1
    clear x3 y2 e0 e1 e2 e3 y1
    have ed : os.drop (i + 1) = rs := by
      rw [← List.drop_drop, hd]; rfl
    by_cases cr : rfs τ o.1 v0 v1 v2 v3 = 0
    · have ee : ex1 τ o = (true, (cry τ o.1 v0 v1 v2 v3).2) := exr.1 cr
      obtain ⟨h1, w1, C1, F1⟩ := w_carry (sc := sc) (d := d + 5) C oky cr
      have S1 : CB h1 ((ex1 τ o).2, ps, rf, tx) := by rw [ee]; exact S.works C1 F1
      have w1' : ∀ Q, WP sc (d + 11) 57 0 [(0, .inr (.inl 3)), (1, .inl o.1), (2, .inl v0), (3, .inl v1), (4, .inl v2), (5, .inl v3)] [] h Q ↔ Q (some (.inl (cry τ o.1 v0 v1 v2 v3).1)) h1 := w1
      obtain ⟨h2, w2, S2, F2⟩ := ih (i + 1) (c + 1) (ex1 τ o).2 h1 ed S1 (X.fr F1 (by omega)) (fun j hj => ok (j + 1) (by simp; omega)) (by omega)
      refine ⟨h2, fun Q => ?_, S2, F1.tr F2⟩
      have et : c + (exe (o :: rs) τ).1 = c + 1 + (exe rs (ex1 τ o).2).1 := by
        show c + (bI (ex1 τ o).1 + (exe rs (ex1 τ o).2).1) = _
        rw [ee]
        show c + (1 + _) = _
        omega
      rw [et, ← w2 Q, u85_26]
      rw [cr] at wr
      clear S S1 S2 C C1 X T ok ih exr
      simp (disch := omega) only [u85_0, u85_1, u85_4, u85_7, u85_8, u85_9, u85_10, u85_13, u85_15, u85_16, u85_17, u85_18, u85_19, u85_22, u85_23, u85_24, u85_25, u85_27, u85_28, u85_31, u85_34, u85_37, u85_38, u85_41, u85_42, u85_45, u85_47, u85_48, u85_51, u85_52, u85_53, u85_56, u85_58, u85_59, u85_62, u85_63, u85_64, u85_67, u85_69, u85_70, u85_73, u85_74, u85_75, u85_78, u85_80, u85_81, u85_84, u85_85, u85_86, u85_89, u85_91, u85_92, u85_95, u85_97, u85_99, u85_101, u85_103, u85_105, u85_108, u85_111, u85_112, u85_115, u85_117, u85_119, u85_121, u85_123, u85_125, u85_128, u85_129, u85_132, u85_135, u85_138, u85_139, k0, k1, k4, t0, x1', ws, n0, n1, n2, n3, w0, wr, w1', wr_id, rng, rngp, if_pos, if_neg, if_true, if_false, reduceCtorEq, true_and, and_true, and_self, Option.toList_some, Option.toList_none, List.cons_append, List.nil_append, Int.toNat_natCast]
      rfl
    · have ee : ex1 τ o = (false, τ) := exr.2 cr
      obtain ⟨h2, w2, S2, F2⟩ := ih (i + 1) c τ h ed S X (fun j hj => by
        have := ok (j + 1) (by simp; omega)
        rw [show (o :: rs).take (j + 1) = o :: rs.take j from rfl] at this
        have e4 : (exe (o :: rs.take j) τ).2 = (exe (rs.take j) τ).2 := by
          show (exe (rs.take j) (ex1 τ o).2).2 = _
          rw [ee]
        rw [e4] at this
        exact this) (by omega)
      have e4 : exe (o :: rs) τ = (0 + (exe rs τ).1, (exe rs τ).2) := by
        show (bI (ex1 τ o).1 + (exe rs (ex1 τ o).2).1, (exe rs (ex1 τ o).2).2) = _
        rw [ee]; rfl
      rw [e4]
      refine ⟨h2, fun Q => ?_, S2, F2⟩
      show _ ↔ Q (some (.inl (c + (0 + (exe rs τ).1)))) h2
      rw [Int.zero_add, ← w2 Q, u85_26]
      clear S S2 C X T ok ih exr
      simp (disch := omega) only [u85_0, u85_1, u85_4, u85_7, u85_8, u85_9, u85_10, u85_13, u85_15, u85_16, u85_17, u85_18, u85_19, u85_22, u85_23, u85_24, u85_25, u85_27, u85_28, u85_31, u85_34, u85_37, u85_38, u85_41, u85_42, u85_45, u85_47, u85_48, u85_51, u85_52, u85_53, u85_56, u85_58, u85_59, u85_62, u85_63, u85_64, u85_67, u85_69, u85_70, u85_73, u85_74, u85_75, u85_78, u85_80, u85_81, u85_84, u85_85, u85_86, u85_89, u85_91, u85_92, u85_95, u85_97, u85_99, u85_101, u85_103, u85_105, u85_108, u85_111, u85_112, u85_115, u85_117, u85_119, u85_121, u85_123, u85_125, u85_128, u85_129, u85_132, u85_135, u85_138, u85_139, k0, k1, k4, t0, x1', ws, n0, n1, n2, n3, w0, wr, cr, wr_id, rng, rngp, if_pos, if_neg, if_true, if_false, reduceCtorEq, true_and, and_true, and_self, Option.toList_some, Option.toList_none, List.cons_append, List.nil_append, Int.toNat_natCast]
      rfl
theorem pAll_le {tx : List Int} : ∀ (k p e : Nat), p ≤ tx.length → pAll k tx p = .inl e → e ≤ tx.length := by
  intro k
  induction k with
  | zero => intro p e _ h; cases h
  | succ k ih =>
    intro p e hp h
    have sl := skp_le hp
    have pe : pAll (k + 1) tx p = if skp tx p < tx.length then (if (pOrd tx (skp tx p)).1 = true then (match pAll k tx (pOrd tx (skp tx p)).2.1 with
      | .inl e => .inl e
      | .inr os => .inr ((tb tx (skp tx p), (pOrd tx (skp tx p)).2.2) :: os)) else .inl (pOrd tx (skp tx p)).2.1) else .inr [] := rfl
    rw [pe] at h
    split at h
    · split at h
      · cases er : pAll k tx (pOrd tx (skp tx p)).2.1 with
        | inl e' =>
          rw [er] at h
          cases h
          exact ih _ _ (pOrd_le sl).2.1 er
        | inr os => rw [er] at h; cases h
      · cases h
        exact (pOrd_le sl).2.1
    · cases h
theorem b_does {sc : av_S} {d : Nat} {h : av_H} {s : SS} (S : CB h s) (oks : okB s.1) (hok : ∀ os, pAll 121 s.2.2.2 0 = .inr os → ∀ j, j ≤ os.length → okY (exe (os.take j) s.1).2) : Cb sc (d + 12) 85 [] h (xDoes s) := by
  obtain ⟨σ, ps, rf, tx⟩ := s
  obtain ⟨K, C, a1, B, R, p, o, T⟩ := id S
  change XT h 976 tx p o at T
  obtain ⟨k0, k1, k2, k3, k4, k5, k6⟩ := id K
  have t0 := T.1.1
  change ∀ os, pAll 121 tx 0 = .inr os → ∀ j, j ≤ os.length → okY (exe (os.take j) σ).2 at hok
  obtain ⟨h1, ⟨p1, o1, T1⟩, F1, A1, B1⟩ := x_read (sc := sc) (d := d + 5) T
  have S1 : CB h1 (σ, ps, rf, tx) := S.text T1 F1
  unfold xDoes
  show Cb sc (d + 12) 85 [] h (if skp tx 0 < tx.length then (match pAll 121 tx 0 with
    | .inl e => (-10 - (e : Int), (σ, ps, rf, tx))
    | .inr os => ((exe os σ).1, ((exe os σ).2, sKp ps σ, rf, tx))) else (-10 - (skp tx 0 : Int), (σ, ps, rf, tx)))
  have tl := T.2.2.1
  by_cases c : skp tx 0 < tx.length
  · rw [if_pos c]
    obtain ⟨A2, A3⟩ := A1 c
    cases ep : pAll 121 tx 0 with
    | inl e =>
      have w1 := A2 e ep
      have w1' : ∀ Q, WP sc (d + 11) 39 0 [(0, .inr (.inl 976))] [] h Q ↔ Q (some (.inl (e : Int))) h1 := w1
      refine ⟨h1, fun Q => ?_, S1, F1.wd (by omega) (by omega)⟩
      have eb := pAll_le 121 0 e (by omega) ep
      clear S S1 C T T1 A1 A2 A3 B1
      simp (disch := omega) only [u85_0, u85_1, u85_4, u85_7, u85_8, u85_9, u85_10, u85_13, u85_15, u85_16, u85_17, u85_18, u85_19, u85_22, u85_23, u85_24, u85_25, u85_27, u85_28, u85_31, u85_34, u85_37, u85_38, u85_41, u85_42, u85_45, u85_47, u85_48, u85_51, u85_52, u85_53, u85_56, u85_58, u85_59, u85_62, u85_63, u85_64, u85_67, u85_69, u85_70, u85_73, u85_74, u85_75, u85_78, u85_80, u85_81, u85_84, u85_85, u85_86, u85_89, u85_91, u85_92, u85_95, u85_97, u85_99, u85_101, u85_103, u85_105, u85_108, u85_111, u85_112, u85_115, u85_117, u85_119, u85_121, u85_123, u85_125, u85_128, u85_129, u85_132, u85_135, u85_138, u85_139, k0, k4, t0, w1', wr_id, rng, rngp, if_pos, if_neg, if_true, if_false, reduceCtorEq, true_and, and_true, and_self, Option.toList_some, Option.toList_none, List.cons_append, List.nil_append, Int.toNat_natCast]
    | inr os =>
      obtain ⟨w1, X1, X2, X3⟩ := A3 os ep
      have w1' : ∀ Q, WP sc (d + 11) 39 0 [(0, .inr (.inl 976))] [] h Q ↔ Q (some (.inl (-1))) h1 := w1
      have XX : XO h1 os := ⟨X1, X2, X3⟩
      obtain ⟨h2, w2, S2, F2⟩ := b_keep (sc := sc) (d := d + 6) S1 oks
      have w2' : ∀ Q, WP sc (d + 11) 92 0 [(0, .inr (.inl 2))] [] h1 Q ↔ Q none h2 := w2
      have X2' : XO h2 os := XX.fr F2 (by omega)
      obtain ⟨h3, w3, S3, F3⟩ := b_does2 (sc := sc) (d := d) (f := -1) os 0 0 σ h2 rfl S2 X2' (hok os ep) (by decide)
      refine ⟨h3, fun Q => ?_, S3, ((F1.wd (by omega) (by omega)).tr (F2.wd (by omega) (by omega))).tr (F3.wd (by omega) (by omega))⟩
      show _ ↔ Q (some (.inl (exe os σ).1)) h3
      have w3' := w3 Q
      rw [Int.zero_add] at w3'
      rw [← w3']
      have j0 := (K.fr F1 (by omega)).1
      clear S S1 S2 S3 C T T1 A1 A2 A3 B1 XX X1 X2 X3 X2'
      simp (disch := omega) only [u85_0, u85_1, u85_4, u85_7, u85_8, u85_9, u85_10, u85_13, u85_15, u85_16, u85_17, u85_18, u85_19, u85_22, u85_23, u85_24, u85_25, u85_27, u85_28, u85_31, u85_34, u85_37, u85_38, u85_41, u85_42, u85_45, u85_47, u85_48, u85_51, u85_52, u85_53, u85_56, u85_58, u85_59, u85_62, u85_63, u85_64, u85_67, u85_69, u85_70, u85_73, u85_74, u85_75, u85_78, u85_80, u85_81, u85_84, u85_85, u85_86, u85_89, u85_91, u85_92, u85_95, u85_97, u85_99, u85_101, u85_103, u85_105, u85_108, u85_111, u85_112, u85_115, u85_117, u85_119, u85_121, u85_123, u85_125, u85_128, u85_129, u85_132, u85_135, u85_138, u85_139, k0, k4, t0, w1', j0, w2', wr_id, rng, rngp, if_pos, if_neg, if_true, if_false, reduceCtorEq, true_and, and_true, and_self, Option.toList_some, Option.toList_none, List.cons_append, List.nil_append, Int.toNat_natCast]
      rfl
  · rw [if_neg c]
    have w1 := B1 c
    have w1' : ∀ Q, WP sc (d + 11) 39 0 [(0, .inr (.inl 976))] [] h Q ↔ Q (some (.inl (skp tx 0 : Int))) h1 := w1
    have sl := skp_le (tx := tx) (p := 0) (by omega)
    refine ⟨h1, fun Q => ?_, S1, F1.wd (by omega) (by omega)⟩
    clear S S1 C T T1 A1 B1
    simp (disch := omega) only [u85_0, u85_1, u85_4, u85_7, u85_8, u85_9, u85_10, u85_13, u85_15, u85_16, u85_17, u85_18, u85_19, u85_22, u85_23, u85_24, u85_25, u85_27, u85_28, u85_31, u85_34, u85_37, u85_38, u85_41, u85_42, u85_45, u85_47, u85_48, u85_51, u85_52, u85_53, u85_56, u85_58, u85_59, u85_62, u85_63, u85_64, u85_67, u85_69, u85_70, u85_73, u85_74, u85_75, u85_78, u85_80, u85_81, u85_84, u85_85, u85_86, u85_89, u85_91, u85_92, u85_95, u85_97, u85_99, u85_101, u85_103, u85_105, u85_108, u85_111, u85_112, u85_115, u85_117, u85_119, u85_121, u85_123, u85_125, u85_128, u85_129, u85_132, u85_135, u85_138, u85_139, k0, k4, t0, w1', wr_id, rng, rngp, if_pos, if_neg, if_true, if_false, reduceCtorEq, true_and, and_true, and_self, Option.toList_some, Option.toList_none, List.cons_append, List.nil_append, Int.toNat_natCast]
