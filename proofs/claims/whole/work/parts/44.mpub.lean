/-! the calls of the reference -/
abbrev SS : Type := sS × List sS × (Nat → Int) × List Int
def MSS (h : av_H) (x : Nat) (s : SS) : Prop := MS h x s.1 s.2.1 s.2.2.1 s.2.2.2
def xRef (s : SS) (how : Int) : Int × SS := (how, (s.1, s.2.1, rfU s.2.2.1 how, s.2.2.2))
def xGo (s : SS) (v : Int) (ρ : sS) : Int × SS := (v, (ρ, sKp s.2.1 s.1, s.2.2.1, s.2.2.2))
def plc (L : List Int) (i : Int) : Int := if i < (L.length : Int) then L.getD i.toNat 0 else -1
def xBegins (s : SS) : Int × SS := xGo s (sg s.1 0) sNew
def xNode (s : SS) (kind a b k : Int) : Int × SS := if whyN s.1 kind a b k = 0 then xGo s (sg s.1 0) (sNode s.1 kind a b k) else xRef s (whyN s.1 kind a b k)
def xLen (s : SS) (n : Int) : Int × SS := if 0 ≤ n ∧ n ≤ 30 then xGo s (sg s.1 2) (ug s.1 2 n) else xRef s (-2)
def xAli (s : SS) (v : Int) : Int × SS := if 0 ≤ v ∧ v ≤ 1 then (if sg s.1 4 = 1 then xRef s (-3) else xGo s (sg s.1 5) (ug s.1 5 v)) else xRef s (-2)
def xSteps (s : SS) (n : Int) : Int × SS := if 1 ≤ n ∧ n ≤ 60 then xGo s (sg (sSteps n.toNat s.1) 1) (sSteps n.toNat s.1) else xRef s (-2)
def xMarks (s : SS) : Int × SS := if sg s.1 4 = 1 then xRef s (-3) else xGo s (sg s.1 3 + 1) (sMarks s.1)
def xFails (s : SS) : Int × SS := xGo s (sg s.1 3) (sFails s.1)
def xOf (s : SS) (n w : Int) : Int × SS := if isNd s.1 n = true ∧ 0 ≤ w ∧ w ≤ 9 then (sFact s.1 n.toNat w.toNat, s) else xRef s (-2)
def xLetter (s : SS) (n i j : Int) : Int × SS := if isNd s.1 n = true ∧ (0 ≤ i ∧ i < (nin (sf s.1 n.toNat 0) : Int)) ∧ 0 ≤ j then (plc (sr s.1 n.toNat i.toNat) j, s) else xRef s (-2)
def xSum (s : SS) (n j : Int) : Int × SS := if isNd s.1 n = true ∧ sf s.1 n.toNat 0 = 3 ∧ 0 ≤ j ∧ j ≤ 3 then (sf s.1 n.toNat (10 + j.toNat), s) else xRef s (-2)
def xRow (s : SS) (n w j : Int) : Int × SS := if isNd s.1 n = true ∧ sf s.1 n.toNat 0 = 5 ∧ (0 ≤ w ∧ w ≤ 2) ∧ 0 ≤ j then (plc (sr s.1 n.toNat (4 + w.toNat)) j, s) else xRef s (-2)
def xCount (s : SS) (w : Int) : Int × SS := if 0 ≤ w ∧ w ≤ 9 then (sCount s.1 w.toNat, s) else xRef s (-2)
def xType (s : SS) (c : Int) : Int × SS := if 0 ≤ c ∧ c ≤ 127 then (if s.2.2.2.length = 120 then xRef s (-4) else ((s.2.2.2.length : Int) + 1, (s.1, s.2.1, s.2.2.1, s.2.2.2 ++ [c]))) else xRef s (-2)
def xClear (s : SS) : Int × SS := ((s.2.2.2.length : Int), (s.1, s.2.1, s.2.2.1, []))
def xBack (s : SS) : Int × SS := if s.2.1 = [] then xRef s (-3) else ((s.2.1.length : Int) - 1, (s.2.1.getLastD sNew, s.2.1.dropLast, s.2.2.1, s.2.2.2))
def xTold (s : SS) (w : Int) : Int × SS := if 0 ≤ w ∧ w ≤ 4 then (sToldF s.2.1 s.2.2.1 s.2.2.2 w.toNat, s) else xRef s (-2)
/-- what the counts keep to -/
def okR (rf : Nat → Int) : Prop := ∀ k, k < 3 → 0 ≤ rf k ∧ rf k ≤ 1000000000
/-- what the works keep to -/
def okW (σ : sS) : Prop := (0 ≤ sg σ 0 ∧ sg σ 0 ≤ 8) ∧ (0 ≤ sg σ 3 ∧ sg σ 3 ≤ 1000000000) ∧ (sg σ 4 = 0 ∨ sg σ 4 = 1) ∧ (0 ≤ sg σ 7 ∧ sg σ 7 ≤ 1000000000) ∧ (∀ n, n < sN σ → sf σ n 26 = 0 ∨ sf σ n 26 = 1 ∨ sf σ n 26 = 2) ∧ (∀ n, n < sN σ → (0 ≤ sf σ n 7 ∧ sf σ n 7 ≤ 2) ∧ (0 ≤ sf σ n 8 ∧ sf σ n 8 ≤ 2)) ∧ ∀ j, j < 60 → okT (sSteps j σ)
def Cm (sc : av_S) (d m : Nat) (x : Nat) (as : av_L) (h : av_H) (r : Int × SS) : Prop := ∃ h', (∀ Q, WP sc d m 0 ((0, .inr (.inl x)) :: as) [] h Q ↔ Q (some (.inl r.1)) h') ∧ MSS h' x r.2 ∧ MG h h' x
theorem Cm.of {sc : av_S} {d m x : Nat} {as : av_L} {h : av_H} {r : Int × SS} (H : WP sc d m 0 ((0, .inr (.inl x)) :: as) [] h (fun v h' => v = some (.inl r.1) ∧ MSS h' x r.2 ∧ MG h h' x)) : Cm sc d m x as h r := by
  obtain ⟨v, h', hw, rfl, a, b⟩ := H.evE
  exact ⟨h', hw, a, b⟩
theorem k_ref {sc : av_S} {d : Nat} {h : av_H} {x : Nat} {s : SS} {how : Int} (S : MSS h x s) (hr : okR s.2.2.1) : ∃ h', (∀ Q, WP sc (d + 11) 96 0 [(0, .inr (.inl x)), (1, .inl how)] [] h Q ↔ Q (some (.inl how)) h') ∧ MSS h' x (xRef s how).2 ∧ MG h h' x := m_refuse (d := d + 10) S hr
theorem k_keep {sc : av_S} {d : Nat} {h : av_H} {x : Nat} {s : SS} (S : MSS h x s) : ∃ h', (∀ Q, WP sc (d + 11) 98 0 [(0, .inr (.inl x))] [] h Q ↔ Q none h') ∧ (∀ ρ h'', MF h' h'' x → MR h'' x ρ → ∀ v, MSS h'' x (xGo s v ρ).2) ∧ MK h' x ∧ MR h' x s.1 ∧ MG h h' x := by
  obtain ⟨h', hw, S', G⟩ := m_keeps (sc := sc) (d := d + 10) S
  exact ⟨h', hw, fun ρ h'' F H v => S'.mf F H, S'.1, S'.2.1, G⟩
theorem c_begins {sc : av_S} {d : Nat} {h : av_H} {x : Nat} {s : SS} (S : MSS h x s) : Cm sc (d + 12) 130 x [] h (xBegins s) := by
  obtain ⟨h1, w1, f1, K, H, G⟩ := k_keep (sc := sc) (d := d) S
  obtain ⟨h2, w2, H2, F2⟩ := m_anew (sc := sc) (d := d + 10) K
  have w2' : ∀ Q, WP sc (d + 11) 97 0 [(0, .inr (.inl x))] [] h1 Q ↔ Q none h2 := w2
  obtain ⟨k0, -⟩ := id S.1
  obtain ⟨j0, ⟨j1, j2⟩, -⟩ := id K
  have g0 := H.g (i := 0) (k := 0) (by omega) rfl
  refine Cm.of ?_
  simp (disch := omega) only [u130_0, u130_1, u130_4, u130_5, u130_8, u130_9, u130_10, u130_11, u130_12, u130_15, u130_16, k0, w1, j0, j1, j2, g0, w2', wr_id, rng, rngp, if_pos, if_neg, if_true, if_false, reduceCtorEq, true_and, and_true, and_self, Option.toList_some, Option.toList_none, List.cons_append, List.nil_append, Int.toNat_natCast]
  exact ⟨rfl, f1 _ _ F2 H2 (sg s.1 0), G.tr F2.mg⟩
theorem whyN_8 {σ : sS} {kind a b k : Int} (e : whyN σ kind a b k = 0) (h : sg σ 0 ≤ 8) : sg σ 0 < 8 := by
  unfold whyN at e
  split at e
  · split at e
    · split at e
      · simp at e
      · next q => omega
    · simp at e
  · simp at e
theorem c_node {sc : av_S} {d : Nat} {h : av_H} {x : Nat} {s : SS} {kind a b k : Int} (S : MSS h x s) (hr : okR s.2.2.1) (ok : okW s.1) : Cm sc (d + 12) 131 x [(1, .inl kind), (2, .inl a), (3, .inl b), (4, .inl k)] h (xNode s kind a b k) := by
  obtain ⟨k0, -⟩ := id S.1
  have wy : ∀ Q, WP sc (d + 11) 124 0 [(0, .inr (.inl x)), (1, .inl kind), (2, .inl a), (3, .inl b), (4, .inl k)] [] h Q ↔ Q (some (.inl (whyN s.1 kind a b k))) h := fun Q => m_whyNode (d := d + 6) S.1 S.2.1 ok.1 Q
  refine Cm.of ?_
  unfold xNode
  by_cases c : whyN s.1 kind a b k = 0
  · obtain ⟨h1, w1, f1, K, H, G⟩ := k_keep (sc := sc) (d := d) S
    obtain ⟨h2, w2, H2, F2⟩ := m_comes (sc := sc) (d := d + 9) (kind := kind) (a := a) (b := b) (k := k) K H ⟨ok.1.1, whyN_8 c ok.1.2⟩
    have w2' : ∀ Q, WP sc (d + 11) 125 0 [(0, .inr (.inl x)), (1, .inl kind), (2, .inl a), (3, .inl b), (4, .inl k)] [] h1 Q ↔ Q (some (.inl (sg s.1 0))) h2 := w2
    obtain ⟨j0, -⟩ := id K
    rw [if_pos c]
    rw [c] at wy
    simp (disch := omega) only [u131_0, u131_1, u131_2, u131_3, u131_4, u131_6, u131_9, u131_11, u131_13, u131_16, u131_17, u131_19, u131_22, u131_23, u131_24, u131_27, u131_28, u131_29, u131_30, u131_31, u131_33, u131_36, k0, wy, w1, j0, w2', wr_id, rng, rngp, if_pos, if_neg, if_true, if_false, reduceCtorEq, true_and, and_true, and_self, Option.toList_some, Option.toList_none, List.cons_append, List.nil_append, Int.toNat_natCast]
    exact ⟨rfl, f1 _ _ F2 H2 (sg s.1 0), G.tr F2.mg⟩
  · obtain ⟨h1, w1, S1, G⟩ := k_ref (sc := sc) (d := d) (how := whyN s.1 kind a b k) S hr
    rw [if_neg c]
    simp (disch := omega) only [u131_0, u131_1, u131_2, u131_3, u131_4, u131_6, u131_9, u131_11, u131_13, u131_16, u131_17, u131_19, u131_22, u131_23, u131_24, u131_27, u131_28, u131_29, u131_30, u131_31, u131_33, u131_36, k0, wy, w1, c, wr_id, rng, rngp, if_pos, if_neg, if_true, if_false, reduceCtorEq, true_and, and_true, and_self, Option.toList_some, Option.toList_none, List.cons_append, List.nil_append, Int.toNat_natCast]
    exact ⟨rfl, S1, G⟩
theorem c_len {sc : av_S} {d : Nat} {h : av_H} {x : Nat} {s : SS} {n : Int} (S : MSS h x s) (hr : okR s.2.2.1) : Cm sc (d + 12) 132 x [(1, .inl n)] h (xLen s n) := by
  obtain ⟨k0, -⟩ := id S.1
  refine Cm.of ?_
  unfold xLen
  by_cases c : 0 ≤ n ∧ n ≤ 30
  · obtain ⟨h1, w1, f1, K, H, G⟩ := k_keep (sc := sc) (d := d) S
    obtain ⟨h2, w2, H2, F2⟩ := m_become (sc := sc) (d := d + 10) (k := 2) (v := n) K H (by omega)
    have w2' : ∀ Q, WP sc (d + 11) 129 0 [(0, .inr (.inl x)), (1, .inl 2), (2, .inl n)] [] h1 Q ↔ Q (some (.inl (sg s.1 2))) h2 := w2
    obtain ⟨j0, -⟩ := id K
    rw [if_pos c]
    simp (disch := omega) only [u132_0, u132_1, u132_2, u132_4, u132_7, u132_10, u132_11, u132_13, u132_16, u132_17, u132_18, u132_21, u132_22, u132_23, u132_24, u132_27, k0, m_in, c, w1, j0, w2', wr_id, rng, rngp, if_pos, if_neg, if_true, if_false, reduceCtorEq, true_and, and_true, and_self, Option.toList_some, Option.toList_none, List.cons_append, List.nil_append, Int.toNat_natCast]
    exact ⟨rfl, f1 _ _ F2 H2 (sg s.1 2), G.tr F2.mg⟩
  · obtain ⟨h1, w1, S1, G⟩ := k_ref (sc := sc) (d := d) (how := -2) S hr
    rw [if_neg c]
    simp (disch := omega) only [u132_0, u132_1, u132_2, u132_4, u132_7, u132_10, u132_11, u132_13, u132_16, u132_17, u132_18, u132_21, u132_22, u132_23, u132_24, u132_27, k0, m_in, w1, c, wr_id, rng, rngp, if_pos, if_neg, if_true, if_false, reduceCtorEq, true_and, and_true, and_self, Option.toList_some, Option.toList_none, List.cons_append, List.nil_append, Int.toNat_natCast]
    exact ⟨rfl, S1, G⟩
theorem c_ali {sc : av_S} {d : Nat} {h : av_H} {x : Nat} {s : SS} {v : Int} (S : MSS h x s) (hr : okR s.2.2.1) : Cm sc (d + 12) 133 x [(1, .inl v)] h (xAli s v) := by
  obtain ⟨k0, ⟨k1, k2⟩, -⟩ := id S.1
  have g4 := S.2.1.g (i := 4) (k := 4) (by omega) rfl
  refine Cm.of ?_
  unfold xAli
  by_cases c : 0 ≤ v ∧ v ≤ 1
  · rw [if_pos c]
    by_cases c4 : sg s.1 4 = 1
    · obtain ⟨h1, w1, S1, G⟩ := k_ref (sc := sc) (d := d) (how := -3) S hr
      rw [if_pos c4]
      simp (disch := omega) only [u133_0, u133_1, u133_2, u133_3, u133_6, u133_9, u133_10, u133_13, u133_14, u133_15, u133_16, u133_19, u133_20, u133_21, u133_22, u133_23, u133_26, u133_29, u133_31, u133_34, u133_36, u133_39, u133_40, u133_41, u133_44, u133_45, u133_46, u133_47, u133_50, k0, k1, k2, g4, c4, m_in, w1, c, wr_id, rng, rngp, if_pos, if_neg, if_true, if_false, reduceCtorEq, true_and, and_true, and_self, Option.toList_some, Option.toList_none, List.cons_append, List.nil_append, Int.toNat_natCast]
      exact ⟨rfl, S1, G⟩
    · obtain ⟨h1, w1, f1, K, H, G⟩ := k_keep (sc := sc) (d := d) S
      obtain ⟨h2, w2, H2, F2⟩ := m_become (sc := sc) (d := d + 10) (k := 5) (v := v) K H (by omega)
      have w2' : ∀ Q, WP sc (d + 11) 129 0 [(0, .inr (.inl x)), (1, .inl 5), (2, .inl v)] [] h1 Q ↔ Q (some (.inl (sg s.1 5))) h2 := w2
      obtain ⟨j0, -⟩ := id K
      rw [if_neg c4]
      simp (disch := omega) only [u133_0, u133_1, u133_2, u133_3, u133_6, u133_9, u133_10, u133_13, u133_14, u133_15, u133_16, u133_19, u133_20, u133_21, u133_22, u133_23, u133_26, u133_29, u133_31, u133_34, u133_36, u133_39, u133_40, u133_41, u133_44, u133_45, u133_46, u133_47, u133_50, k0, k1, k2, g4, c4, m_in, c, w1, j0, w2', wr_id, rng, rngp, if_pos, if_neg, if_true, if_false, reduceCtorEq, true_and, and_true, and_self, Option.toList_some, Option.toList_none, List.cons_append, List.nil_append, Int.toNat_natCast]
      exact ⟨rfl, f1 _ _ F2 H2 (sg s.1 5), G.tr F2.mg⟩
  · obtain ⟨h1, w1, S1, G⟩ := k_ref (sc := sc) (d := d) (how := -2) S hr
    rw [if_neg c]
    simp (disch := omega) only [u133_0, u133_1, u133_2, u133_3, u133_6, u133_9, u133_10, u133_13, u133_14, u133_15, u133_16, u133_19, u133_20, u133_21, u133_22, u133_23, u133_26, u133_29, u133_31, u133_34, u133_36, u133_39, u133_40, u133_41, u133_44, u133_45, u133_46, u133_47, u133_50, k0, m_in, w1, c, wr_id, rng, rngp, if_pos, if_neg, if_true, if_false, reduceCtorEq, true_and, and_true, and_self, Option.toList_some, Option.toList_none, List.cons_append, List.nil_append, Int.toNat_natCast]
    exact ⟨rfl, S1, G⟩
theorem c_steps {sc : av_S} {d : Nat} {h : av_H} {x : Nat} {s : SS} {n : Int} (S : MSS h x s) (hr : okR s.2.2.1) (ok : okW s.1) : Cm sc (d + 12) 134 x [(1, .inl n)] h (xSteps s n) := by
  obtain ⟨k0, -⟩ := id S.1
  refine Cm.of ?_
  unfold xSteps
  by_cases c : 1 ≤ n ∧ n ≤ 60
  · obtain ⟨h1, w1, f1, K, H, G⟩ := k_keep (sc := sc) (d := d) S
    obtain ⟨h2, w2, H2, F2⟩ := m_goes (sc := sc) (d := d + 2) (k := n.toNat) K H (by omega) (fun j hj => ok.2.2.2.2.2.2 j (by omega))
    have w2' : ∀ Q, WP sc (d + 11) 126 0 [(0, .inr (.inl x)), (1, .inl n)] [] h1 Q ↔ Q (some (.inl (sg (sSteps n.toNat s.1) 1))) h2 := by
      rw [show n = ((n.toNat : Nat) : Int) by omega]; exact w2
    obtain ⟨j0, -⟩ := id K
    rw [if_pos c]
    simp (disch := omega) only [u134_0, u134_1, u134_2, u134_4, u134_7, u134_10, u134_11, u134_13, u134_16, u134_17, u134_18, u134_21, u134_22, u134_23, u134_26, k0, m_in, c, w1, j0, w2', wr_id, rng, rngp, if_pos, if_neg, if_true, if_false, reduceCtorEq, true_and, and_true, and_self, Option.toList_some, Option.toList_none, List.cons_append, List.nil_append, Int.toNat_natCast]
    exact ⟨rfl, f1 _ _ F2 H2 0, G.tr F2.mg⟩
  · obtain ⟨h1, w1, S1, G⟩ := k_ref (sc := sc) (d := d) (how := -2) S hr
    rw [if_neg c]
    simp (disch := omega) only [u134_0, u134_1, u134_2, u134_4, u134_7, u134_10, u134_11, u134_13, u134_16, u134_17, u134_18, u134_21, u134_22, u134_23, u134_26, k0, m_in, w1, c, wr_id, rng, rngp, if_pos, if_neg, if_true, if_false, reduceCtorEq, true_and, and_true, and_self, Option.toList_some, Option.toList_none, List.cons_append, List.nil_append, Int.toNat_natCast]
    exact ⟨rfl, S1, G⟩
theorem c_marks {sc : av_S} {d : Nat} {h : av_H} {x : Nat} {s : SS} (S : MSS h x s) (hr : okR s.2.2.1) (ok : okW s.1) : Cm sc (d + 12) 135 x [] h (xMarks s) := by
  obtain ⟨k0, ⟨k1, k2⟩, -⟩ := id S.1
  have g4 := S.2.1.g (i := 4) (k := 4) (by omega) rfl
  obtain ⟨o1, o2, o3, -⟩ := id ok
  refine Cm.of ?_
  unfold xMarks
  by_cases c : sg s.1 4 = 1
  · obtain ⟨h1, w1, S1, G⟩ := k_ref (sc := sc) (d := d) (how := -3) S hr
    rw [if_pos c]
    simp (disch := omega) only [u135_0, u135_1, u135_4, u135_5, u135_6, u135_7, u135_10, u135_11, u135_13, u135_16, u135_17, u135_18, u135_21, u135_22, u135_25, k0, k1, k2, g4, w1, c, wr_id, rng, rngp, if_pos, if_neg, if_true, if_false, reduceCtorEq, true_and, and_true, and_self, Option.toList_some, Option.toList_none, List.cons_append, List.nil_append, Int.toNat_natCast]
    exact ⟨rfl, S1, G⟩
  · obtain ⟨h1, w1, f1, K, H, G⟩ := k_keep (sc := sc) (d := d) S
    obtain ⟨h2, w2, H2, F2⟩ := m_beginsOne (sc := sc) (d := d + 8) K H o1 o2 (by omega)
    have w2' : ∀ Q, WP sc (d + 11) 127 0 [(0, .inr (.inl x))] [] h1 Q ↔ Q (some (.inl (sg s.1 3 + 1))) h2 := w2
    obtain ⟨j0, -⟩ := id K
    rw [if_neg c]
    simp (disch := omega) only [u135_0, u135_1, u135_4, u135_5, u135_6, u135_7, u135_10, u135_11, u135_13, u135_16, u135_17, u135_18, u135_21, u135_22, u135_25, k0, k1, k2, g4, c, w1, j0, w2', wr_id, rng, rngp, if_pos, if_neg, if_true, if_false, reduceCtorEq, true_and, and_true, and_self, Option.toList_some, Option.toList_none, List.cons_append, List.nil_append, Int.toNat_natCast]
    exact ⟨rfl, f1 _ _ F2 H2 0, G.tr F2.mg⟩
theorem c_fails {sc : av_S} {d : Nat} {h : av_H} {x : Nat} {s : SS} (S : MSS h x s) (ok : okW s.1) : Cm sc (d + 12) 136 x [] h (xFails s) := by
  obtain ⟨k0, -⟩ := id S.1
  obtain ⟨o1, o2, o3, o4, o5, -⟩ := id ok
  obtain ⟨h1, w1, f1, K, H, G⟩ := k_keep (sc := sc) (d := d) S
  obtain ⟨h2, w2, H2, F2⟩ := m_failsOnce (sc := sc) (d := d + 9) K H o1 o4 o5
  have w2' : ∀ Q, WP sc (d + 11) 128 0 [(0, .inr (.inl x))] [] h1 Q ↔ Q (some (.inl (sg s.1 3))) h2 := w2
  obtain ⟨j0, -⟩ := id K
  refine Cm.of ?_
  simp (disch := omega) only [u136_0, u136_1, u136_4, u136_5, u136_8, k0, w1, j0, w2', wr_id, rng, rngp, if_pos, if_neg, if_true, if_false, reduceCtorEq, true_and, and_true, and_self, Option.toList_some, Option.toList_none, List.cons_append, List.nil_append, Int.toNat_natCast]
  exact ⟨rfl, f1 _ _ F2 H2 0, G.tr F2.mg⟩
