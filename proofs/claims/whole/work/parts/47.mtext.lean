/-! texts: what is read in them, and how the reference reads it -/
def tb (tx : List Int) (p : Nat) : Int := if p < tx.length then tx.getD p 0 else -1
def skF : Nat → List Int → Nat → Nat
  | 0, _, p => p
  | k + 1, tx, p => if tb tx p = 32 then skF k tx (p + 1) else p
def skp (tx : List Int) (p : Nat) : Nat := skF (tx.length - p) tx p
theorem tb_out {tx : List Int} {p : Nat} (h : tx.length ≤ p) : tb tx p = -1 := by unfold tb; rw [if_neg (by omega)]
theorem tb_in {tx : List Int} {p : Nat} (h : tb tx p ≠ -1) : p < tx.length := by
  by_cases c : p < tx.length
  · exact c
  · exact absurd (tb_out (by omega)) h
theorem skp_y {tx : List Int} {p : Nat} (h : tb tx p = 32) : skp tx p = skp tx (p + 1) := by
  have q := tb_in (tx := tx) (p := p) (by omega)
  unfold skp
  rw [show tx.length - p = (tx.length - (p + 1)) + 1 by omega]
  show (if tb tx p = 32 then _ else _) = _
  rw [if_pos h]
theorem skp_n {tx : List Int} {p : Nat} (h : tb tx p ≠ 32) : skp tx p = p := by
  unfold skp
  cases tx.length - p with
  | zero => rfl
  | succ k =>
    show (if tb tx p = 32 then _ else _) = _
    rw [if_neg h]
theorem skp_all {tx : List Int} : ∀ (t p : Nat), t = tx.length - p → p ≤ tx.length → p ≤ skp tx p ∧ skp tx p ≤ tx.length ∧ tb tx (skp tx p) ≠ 32 := by
  intro t
  induction t with
  | zero =>
    intro p ht hp
    have e := tb_out (tx := tx) (p := p) (by omega)
    rw [skp_n (by omega)]
    exact ⟨by omega, by omega, by omega⟩
  | succ t ih =>
    intro p ht hp
    by_cases c : tb tx p = 32
    · rw [skp_y c]
      have := ih (p + 1) (by omega) (by omega)
      exact ⟨by omega, this.2⟩
    · rw [skp_n c]
      exact ⟨by omega, by omega, c⟩
theorem skp_ge {tx : List Int} {p : Nat} (h : p ≤ tx.length) : p ≤ skp tx p := (skp_all _ p rfl h).1
theorem skp_le {tx : List Int} {p : Nat} (h : p ≤ tx.length) : skp tx p ≤ tx.length := (skp_all _ p rfl h).2.1
theorem skp_skp {tx : List Int} {p : Nat} (h : p ≤ tx.length) : skp tx (skp tx p) = skp tx p := skp_n (skp_all _ p rfl h).2.2
def fig (tx : List Int) (p : Nat) : Bool := decide (48 ≤ tb tx p ∧ tb tx p ≤ 57)
theorem fig_t {tx : List Int} {p : Nat} (h : fig tx p = true) : 48 ≤ tb tx p ∧ tb tx p ≤ 57 ∧ p < tx.length := by
  have := of_decide_eq_true h
  exact ⟨this.1, this.2, tb_in (by omega)⟩
def pNum (tx : List Int) (may : Bool) (p : Nat) : Bool × Nat × Int :=
  if tb tx p = 45 ∧ may = true then (true, p + 1, -1)
  else if fig tx p = true then (if fig tx (p + 1) = true then (!fig tx (p + 2), p + 2, 10 * (tb tx p - 48) + tb tx (p + 1) - 48) else (true, p + 1, tb tx p - 48))
  else (false, p, 0)
theorem pNum_le {tx : List Int} {may : Bool} {p : Nat} (h : p ≤ tx.length) : p ≤ (pNum tx may p).2.1 ∧ (pNum tx may p).2.1 ≤ tx.length := by
  unfold pNum
  split
  · next c =>
    have := tb_in (tx := tx) (p := p) (by omega)
    exact ⟨by show p ≤ p + 1; omega, by show p + 1 ≤ _; omega⟩
  · split
    · next c =>
      have := fig_t c
      split
      · next c2 =>
        have := fig_t c2
        exact ⟨by show p ≤ p + 2; omega, by show p + 2 ≤ _; omega⟩
      · exact ⟨by show p ≤ p + 1; omega, by show p + 1 ≤ _; omega⟩
    · exact ⟨Nat.le_refl _, h⟩
def pNums : List Bool → List Int → Nat → Bool × Nat × List Int
  | [], _, p => (true, p, [])
  | m :: ms, tx, p => if (pNum tx m (skp tx p)).1 = true then ((pNums ms tx (pNum tx m (skp tx p)).2.1).1, (pNums ms tx (pNum tx m (skp tx p)).2.1).2.1, (pNum tx m (skp tx p)).2.2 :: (pNums ms tx (pNum tx m (skp tx p)).2.1).2.2) else (false, (pNum tx m (skp tx p)).2.1, [])
def arN (w : Int) : Option (List Bool) := if w = 110 then some [false, true, true, true] else if w = 115 ∨ w = 97 ∨ w = 108 then some [false] else if w = 109 ∨ w = 102 then some [] else none
def pOrd (tx : List Int) (p : Nat) : Bool × Nat × List Int := match arN (tb tx p) with
  | none => (false, p, [])
  | some ms => if (pNums ms tx (p + 1)).1 = true then (if tb tx (skp tx (pNums ms tx (p + 1)).2.1) = 59 then (true, skp tx (pNums ms tx (p + 1)).2.1 + 1, (pNums ms tx (p + 1)).2.2) else (false, skp tx (pNums ms tx (p + 1)).2.1, [])) else (false, (pNums ms tx (p + 1)).2.1, [])
theorem pNums_le {tx : List Int} : ∀ (ms : List Bool) (p : Nat), p ≤ tx.length → p ≤ (pNums ms tx p).2.1 ∧ (pNums ms tx p).2.1 ≤ tx.length := by
  intro ms
  induction ms with
  | nil => intro p h; exact ⟨Nat.le_refl _, h⟩
  | cons m ms ih =>
    intro p h
    have a := skp_ge h
    have b := pNum_le (may := m) (skp_le h)
    unfold pNums
    split
    · have := ih _ b.2
      exact ⟨by show p ≤ (pNums ms tx _).2.1; omega, this.2⟩
    · exact ⟨by show p ≤ (pNum tx m _).2.1; omega, b.2⟩
theorem pNums_len {tx : List Int} : ∀ (ms : List Bool) (p : Nat), (pNums ms tx p).1 = true → (pNums ms tx p).2.2.length = ms.length := by
  intro ms
  induction ms with
  | nil => intro p _; rfl
  | cons m ms ih =>
    intro p h
    unfold pNums at h ⊢
    split
    · next c =>
      rw [if_pos c] at h
      show ((pNum tx m (skp tx p)).2.2 :: _).length = _
      rw [List.length_cons, List.length_cons, ih _ h]
    · next c =>
      rw [if_neg c] at h
      simp at h
theorem arN_in {tx : List Int} {p : Nat} {ms : List Bool} (h : arN (tb tx p) = some ms) : p < tx.length := by
  refine tb_in (fun e => ?_)
  rw [e] at h
  simp [arN] at h
theorem pOrd_le {tx : List Int} {p : Nat} (h : p ≤ tx.length) : p ≤ (pOrd tx p).2.1 ∧ (pOrd tx p).2.1 ≤ tx.length ∧ ((pOrd tx p).1 = true → p + 2 ≤ (pOrd tx p).2.1) := by
  unfold pOrd
  split
  · exact ⟨Nat.le_refl _, h, fun q => by simp at q⟩
  · next ms e =>
    have i := arN_in e
    have a := pNums_le (tx := tx) ms (p + 1) (by omega)
    have b := skp_ge a.2
    have c := skp_le a.2
    split
    · split
      · next q =>
        have := tb_in (tx := tx) (p := skp tx (pNums ms tx (p + 1)).2.1) (by omega)
        exact ⟨by show p ≤ skp tx _ + 1; omega, by show skp tx _ + 1 ≤ _; omega, fun _ => by show p + 2 ≤ skp tx _ + 1; omega⟩
      · exact ⟨by show p ≤ skp tx _; omega, c, fun q => by simp at q⟩
    · exact ⟨by show p ≤ (pNums ms tx _).2.1; omega, a.2, fun q => by simp at q⟩
/-- the reference's text and where it stands in it -/
def MT (h : av_H) (x : Nat) (tx : List Int) (p : Nat) : Prop := MK h x ∧ gI h x 4 = (tx.length : Int) ∧ tx.length ≤ 120 ∧ (∀ i, i < tx.length → gI h (x + 4) i = tx.getD i 0) ∧ gI h x 6 = (p : Int)
/-- only where it stands and its values have changed -/
def MX (h h' : av_H) (x : Nat) : Prop := h'.1 = h.1 ∧ h'.2.1 = h.2.1 ∧ h'.2.2.2 = h.2.2.2 ∧ ∀ a i, a ≠ x + 5 → ¬ (a = x ∧ i = 6) → gI h' a i = gI h a i
theorem MX.rf {h : av_H} {x : Nat} : MX h h x := ⟨rfl, rfl, rfl, fun _ _ _ _ => rfl⟩
theorem MX.tr {h h1 h2 : av_H} {x : Nat} (a : MX h h1 x) (b : MX h1 h2 x) : MX h h2 x := ⟨b.1.trans a.1, b.2.1.trans a.2.1, b.2.2.1.trans a.2.2.1, fun q i e1 e2 => (b.2.2.2 q i e1 e2).trans (a.2.2.2 q i e1 e2)⟩
theorem MX.p {h : av_H} {x : Nat} {z : Int} : MX h (sI h x 6 z) x := ⟨rfl, rfl, rfl, fun a i e1 e2 => by rw [gI_sI, if_neg e2]⟩
theorem MX.v {h : av_H} {x k : Nat} {z : Int} : MX h (sI h (x + 5) k z) x := ⟨rfl, rfl, rfl, fun a i e1 e2 => by rw [gI_sI_nb e1]⟩
theorem MX.mg {h h' : av_H} {x : Nat} (a : MX h h' x) : MG h h' x := ⟨a.1, a.2.1, a.2.2.1, fun q hq => by funext i; exact a.2.2.2 q i (by omega) (by omega)⟩
theorem MT.p {h : av_H} {x : Nat} {tx : List Int} {p q : Nat} {z : Int} (T : MT h x tx p) (e : z = (q : Int)) : MT (sI h x 6 z) x tx q := by
  obtain ⟨K, a, b, c, _⟩ := T
  exact ⟨K.mg (MX.p (z := z)).mg, by rw [gI_sI_ne (by omega)]; exact a, b, fun i hi => by rw [gI_sI_nb (by omega)]; exact c i hi, by rw [gI_sI_eq rfl]; exact e⟩
theorem MT.v {h : av_H} {x k : Nat} {tx : List Int} {p : Nat} {z : Int} (T : MT h x tx p) : MT (sI h (x + 5) k z) x tx p := by
  obtain ⟨K, a, b, c, e⟩ := T
  exact ⟨K.mg (MX.v (k := k) (z := z)).mg, by rw [gI_sI_nb (by omega)]; exact a, b, fun i hi => by rw [gI_sI_nb (by omega)]; exact c i hi, by rw [gI_sI_nb (by omega)]; exact e⟩
theorem m_here {sc : av_S} {d : Nat} {h : av_H} {x p : Nat} {tx : List Int} (T : MT h x tx p) (hp : p ≤ tx.length) : ∃ h', (∀ Q, WP sc (d + 1) 147 0 [(0, .inr (.inl x))] [] h Q ↔ Q (some (.inl (tb tx (skp tx p)))) h') ∧ MT h' x tx (skp tx p) ∧ MX h h' x ∧ ∀ j, gI h' (x + 5) j = gI h (x + 5) j := by
  have loop : ∀ (t p : Nat) (hk : av_H), t = tx.length - p → p ≤ tx.length → MT hk x tx p → MX h hk x → (∀ j, gI hk (x + 5) j = gI h (x + 5) j) → WP sc (d + 1) 147 0 [(0, .inr (.inl x))] [] hk (fun r h' => r = some (.inl (tb tx (skp tx p))) ∧ MT h' x tx (skp tx p) ∧ MX h h' x ∧ ∀ j, gI h' (x + 5) j = gI h (x + 5) j) := by
    intro t
    induction t with
    | zero =>
      intro p hk ht hp T X V
      obtain ⟨K, a, b, c, e⟩ := id T
      obtain ⟨k0, -, -, -, ⟨k5, k6⟩, -⟩ := id K
      have o := tb_out (tx := tx) (p := p) (by omega)
      rw [skp_n (by omega), o, u147_0]
      simp (disch := omega) only [u147_1, u147_4, u147_5, u147_8, u147_11, u147_12, u147_15, u147_16, u147_19, u147_20, u147_22, u147_25, u147_26, u147_27, u147_30, u147_31, u147_32, u147_35, u147_38, u147_39, u147_42, u147_43, u147_46, u147_49, u147_50, u147_53, u147_54, u147_57, u147_58, u147_61, u147_62, k0, a, e, wr_id, rng, rngp, if_pos, if_neg, if_true, if_false, reduceCtorEq, true_and, and_true, and_self, Option.toList_some, Option.toList_none, List.cons_append, List.nil_append, Int.toNat_natCast]
      exact ⟨T, X, V⟩
    | succ t ih =>
      intro p hk ht hp T X V
      obtain ⟨K, a, b, c, e⟩ := id T
      obtain ⟨k0, -, -, -, ⟨k5, k6⟩, -⟩ := id K
      have o : gI hk (x + 4) p = tb tx p := by unfold tb; rw [if_pos (by omega)]; exact c p (by omega)
      by_cases c32 : tb tx p = 32
      · rw [c32] at o
        rw [skp_y c32, u147_0]
        simp (disch := omega) only [u147_1, u147_4, u147_5, u147_8, u147_11, u147_12, u147_15, u147_16, u147_19, u147_20, u147_22, u147_25, u147_26, u147_27, u147_30, u147_31, u147_32, u147_35, u147_38, u147_39, u147_42, u147_43, u147_46, u147_49, u147_50, u147_53, u147_54, u147_57, u147_58, u147_61, u147_62, k0, k5, k6, a, e, o, kd_sI, gR_sI, wr_id, rng, rngp, if_pos, if_neg, if_true, if_false, reduceCtorEq, true_and, and_true, and_self, Option.toList_some, Option.toList_none, List.cons_append, List.nil_append, Int.toNat_natCast]
        exact ih (p + 1) _ (by omega) (by omega) (T.p (by omega)) (X.tr MX.p) (fun j => by rw [gI_sI_nb (by omega)]; exact V j)
      · rw [skp_n c32, u147_0]
        simp (disch := omega) only [u147_1, u147_4, u147_5, u147_8, u147_11, u147_12, u147_15, u147_16, u147_19, u147_20, u147_22, u147_25, u147_26, u147_27, u147_30, u147_31, u147_32, u147_35, u147_38, u147_39, u147_42, u147_43, u147_46, u147_49, u147_50, u147_53, u147_54, u147_57, u147_58, u147_61, u147_62, k0, k5, k6, a, e, o, c32, kd_sI, gR_sI, wr_id, rng, rngp, if_pos, if_neg, if_true, if_false, reduceCtorEq, true_and, and_true, and_self, Option.toList_some, Option.toList_none, List.cons_append, List.nil_append, Int.toNat_natCast]
        exact ⟨T, X, V⟩
  obtain ⟨r, h', hw, rfl, a, b, c⟩ := (loop _ p h rfl hp T MX.rf (fun _ => rfl)).evE
  exact ⟨h', hw, a, b, c⟩
theorem m_isFigure {sc : av_S} {d : Nat} {h : av_H} {x p : Nat} {tx : List Int} (T : MT h x tx p) (Q : Option av_V → av_H → Prop) : WP sc (d + 2) 148 0 [(0, .inr (.inl x))] [] h Q ↔ Q (some (.inl (bI (fig tx p)))) h := by
  obtain ⟨K, a, b, c, e⟩ := id T
  obtain ⟨k0, -, -, -, ⟨k5, k6⟩, -⟩ := id K
  by_cases l : p < tx.length
  · have o : gI h (x + 4) p = tb tx p := by unfold tb; rw [if_pos (by omega)]; exact c p (by omega)
    by_cases f : 48 ≤ tb tx p ∧ tb tx p ≤ 57
    · simp (disch := omega) only [u148_0, u148_1, u148_4, u148_5, u148_8, u148_11, u148_12, u148_15, u148_16, u148_19, u148_20, u148_22, u148_24, u148_27, u148_30, u148_31, u148_34, u148_35, k0, k5, k6, a, e, o, m_in, f, wr_id, rng, rngp, if_pos, if_neg, if_true, if_false, reduceCtorEq, true_and, and_true, and_self, Option.toList_some, Option.toList_none, List.cons_append, List.nil_append, Int.toNat_natCast]
      simp [fig, bI, f]
    · simp (disch := omega) only [u148_0, u148_1, u148_4, u148_5, u148_8, u148_11, u148_12, u148_15, u148_16, u148_19, u148_20, u148_22, u148_24, u148_27, u148_30, u148_31, u148_34, u148_35, k0, k5, k6, a, e, o, m_in, f, wr_id, rng, rngp, if_pos, if_neg, if_true, if_false, reduceCtorEq, true_and, and_true, and_self, Option.toList_some, Option.toList_none, List.cons_append, List.nil_append, Int.toNat_natCast]
      simp [fig, bI, f]
  · have o := tb_out (tx := tx) (p := p) (by omega)
    simp (disch := omega) only [u148_0, u148_1, u148_4, u148_5, u148_8, u148_11, u148_12, u148_15, u148_16, u148_19, u148_20, u148_22, u148_24, u148_27, u148_30, u148_31, u148_34, u148_35, k0, a, e, wr_id, rng, rngp, if_pos, if_neg, if_true, if_false, reduceCtorEq, true_and, and_true, and_self, Option.toList_some, Option.toList_none, List.cons_append, List.nil_append, Int.toNat_natCast]
    simp [fig, bI, o]
theorem m_number {sc : av_S} {d : Nat} {h : av_H} {x p k : Nat} {tx : List Int} {may : Bool} (T : MT h x tx p) (hp : p ≤ tx.length) (hk : k < 4) : ∃ h', (∀ Q, WP sc (d + 3) 149 0 [(0, .inr (.inl x)), (1, .inl (k : Int)), (2, .inl (bI may))] [] h Q ↔ Q (some (.inl (bI (pNum tx may (skp tx p)).1))) h') ∧ MT h' x tx (pNum tx may (skp tx p)).2.1 ∧ ((pNum tx may (skp tx p)).1 = true → gI h' (x + 5) k = (pNum tx may (skp tx p)).2.2) ∧ (∀ j, j ≠ k → gI h' (x + 5) j = gI h (x + 5) j) ∧ MX h h' x := by
  obtain ⟨h1, w1, T1, X1, V1⟩ := m_here (sc := sc) (d := d + 1) T hp
  have hle := skp_le hp
  generalize skp tx p = q at *
  have w1' : ∀ Q, WP sc (d + 2) 147 0 [(0, .inr (.inl x))] [] h Q ↔ Q (some (.inl (tb tx q))) h1 := w1
  obtain ⟨K0, -⟩ := id T
  obtain ⟨K, a, b, c, e⟩ := id T1
  obtain ⟨i0, -⟩ := id K0
  obtain ⟨k0, -, -, -, ⟨k5, k6⟩, k7, k8⟩ := id K
  have fg : ∀ Q, WP sc (d + 2) 148 0 [(0, .inr (.inl x))] [] h1 Q ↔ Q (some (.inl (bI (fig tx q)))) h1 := fun Q => m_isFigure T1 Q
  unfold pNum
  by_cases c1 : tb tx q = 45 ∧ may = true
  · rw [if_pos c1]
    obtain ⟨c1, rfl⟩ := c1
    refine ⟨sI (sI h1 x 6 ((q : Int) + 1)) (x + 5) k (-1), fun Q => ?_, (T1.p (q := q + 1) (by omega)).v, fun _ => gI_sI_eq rfl, fun j hj => by rw [gI_sI_ne hj, gI_sI_nb (by omega)]; exact V1 j, (X1.tr MX.p).tr MX.v⟩
    simp (disch := omega) only [u149_0, u149_1, u149_4, u149_6, u149_9, u149_10, u149_13, u149_14, u149_15, u149_18, u149_19, u149_20, u149_23, u149_24, u149_27, u149_28, u149_29, u149_30, u149_31, u149_32, u149_33, u149_36, u149_39, u149_40, u149_41, u149_42, u149_45, u149_46, u149_47, u149_50, u149_51, u149_54, u149_55, u149_57, u149_58, u149_59, u149_60, u149_61, u149_64, u149_65, u149_66, u149_69, u149_70, u149_73, u149_76, u149_77, u149_80, u149_81, u149_83, u149_84, u149_87, u149_88, u149_89, u149_90, u149_91, u149_94, u149_95, u149_98, u149_99, u149_100, u149_102, u149_103, u149_104, u149_105, u149_106, u149_109, u149_110, u149_111, u149_114, u149_115, u149_118, u149_121, u149_122, u149_125, u149_126, i0, w1', k0, k7, k8, e, c1, bI_t, bI_f, kd_sI, gR_sI, or_true, wr_id, rng, rngp, if_pos, if_neg, if_true, if_false, reduceCtorEq, true_and, and_true, and_self, Option.toList_some, Option.toList_none, List.cons_append, List.nil_append, Int.toNat_natCast]
  · rw [if_neg c1]
    have c1' : tb tx q = 45 → bI may = 0 := by
      intro z
      cases may
      · rfl
      · exact absurd ⟨z, rfl⟩ c1
    cases f0 : fig tx q with
    | false =>
      rw [if_neg (by simp)]
      rw [f0] at fg
      refine ⟨h1, fun Q => ?_, T1, (fun q => nomatch q), fun j _ => V1 j, X1⟩
      by_cases c45 : tb tx q = 45
      · have z := c1' c45
        rw [z]
        simp (disch := omega) only [u149_0, u149_1, u149_4, u149_6, u149_9, u149_10, u149_13, u149_14, u149_15, u149_18, u149_19, u149_20, u149_23, u149_24, u149_27, u149_28, u149_29, u149_30, u149_31, u149_32, u149_33, u149_36, u149_39, u149_40, u149_41, u149_42, u149_45, u149_46, u149_47, u149_50, u149_51, u149_54, u149_55, u149_57, u149_58, u149_59, u149_60, u149_61, u149_64, u149_65, u149_66, u149_69, u149_70, u149_73, u149_76, u149_77, u149_80, u149_81, u149_83, u149_84, u149_87, u149_88, u149_89, u149_90, u149_91, u149_94, u149_95, u149_98, u149_99, u149_100, u149_102, u149_103, u149_104, u149_105, u149_106, u149_109, u149_110, u149_111, u149_114, u149_115, u149_118, u149_121, u149_122, u149_125, u149_126, i0, w1', k0, fg, c45, bI_t, bI_f, kd_sI, gR_sI, true_or, wr_id, rng, rngp, if_pos, if_neg, if_true, if_false, reduceCtorEq, true_and, and_true, and_self, Option.toList_some, Option.toList_none, List.cons_append, List.nil_append, Int.toNat_natCast]
      · simp (disch := omega) only [u149_0, u149_1, u149_4, u149_6, u149_9, u149_10, u149_13, u149_14, u149_15, u149_18, u149_19, u149_20, u149_23, u149_24, u149_27, u149_28, u149_29, u149_30, u149_31, u149_32, u149_33, u149_36, u149_39, u149_40, u149_41, u149_42, u149_45, u149_46, u149_47, u149_50, u149_51, u149_54, u149_55, u149_57, u149_58, u149_59, u149_60, u149_61, u149_64, u149_65, u149_66, u149_69, u149_70, u149_73, u149_76, u149_77, u149_80, u149_81, u149_83, u149_84, u149_87, u149_88, u149_89, u149_90, u149_91, u149_94, u149_95, u149_98, u149_99, u149_100, u149_102, u149_103, u149_104, u149_105, u149_106, u149_109, u149_110, u149_111, u149_114, u149_115, u149_118, u149_121, u149_122, u149_125, u149_126, i0, w1', k0, fg, c45, bI_t, bI_f, kd_sI, gR_sI, true_or, wr_id, rng, rngp, if_pos, if_neg, if_true, if_false, reduceCtorEq, true_and, and_true, and_self, Option.toList_some, Option.toList_none, List.cons_append, List.nil_append, Int.toNat_natCast]
    | true =>
      rw [if_pos rfl]
      rw [f0] at fg
      have F := fig_t f0
      have c45 : tb tx q ≠ 45 := by omega
      have o : gI h1 (x + 4) q = tb tx q := by unfold tb; rw [if_pos (by omega)]; exact c q (by omega)
      have T2 : MT (sI (sI h1 (x + 5) k (tb tx q - 48)) x 6 ((q : Int) + 1)) x tx (q + 1) := (T1.v).p (by omega)
      have fg2 : ∀ Q, WP sc (d + 2) 148 0 [(0, .inr (.inl x))] [] (sI (sI h1 (x + 5) k (tb tx q - 48)) x 6 ((q : Int) + 1)) Q ↔ Q (some (.inl (bI (fig tx (q + 1))))) (sI (sI h1 (x + 5) k (tb tx q - 48)) x 6 ((q : Int) + 1)) := fun Q => m_isFigure T2 Q
      cases f1 : fig tx (q + 1) with
      | false =>
        rw [if_neg (by simp)]
        rw [f1] at fg2
        refine ⟨sI (sI h1 (x + 5) k (tb tx q - 48)) x 6 ((q : Int) + 1), fun Q => ?_, T2, fun _ => by rw [gI_sI_nb (by omega)]; exact gI_sI_eq rfl, fun j hj => by rw [gI_sI_nb (by omega), gI_sI_ne hj]; exact V1 j, (X1.tr MX.v).tr MX.p⟩
        simp (disch := omega) only [u149_0, u149_1, u149_4, u149_6, u149_9, u149_10, u149_13, u149_14, u149_15, u149_18, u149_19, u149_20, u149_23, u149_24, u149_27, u149_28, u149_29, u149_30, u149_31, u149_32, u149_33, u149_36, u149_39, u149_40, u149_41, u149_42, u149_45, u149_46, u149_47, u149_50, u149_51, u149_54, u149_55, u149_57, u149_58, u149_59, u149_60, u149_61, u149_64, u149_65, u149_66, u149_69, u149_70, u149_73, u149_76, u149_77, u149_80, u149_81, u149_83, u149_84, u149_87, u149_88, u149_89, u149_90, u149_91, u149_94, u149_95, u149_98, u149_99, u149_100, u149_102, u149_103, u149_104, u149_105, u149_106, u149_109, u149_110, u149_111, u149_114, u149_115, u149_118, u149_121, u149_122, u149_125, u149_126, i0, w1', k0, k5, k6, k7, k8, fg, fg2, c45, e, o, bI_t, bI_f, kd_sI, gR_sI, gI_sI_nb, or_true, wr_id, rng, rngp, if_pos, if_neg, if_true, if_false, reduceCtorEq, true_and, and_true, and_self, Option.toList_some, Option.toList_none, List.cons_append, List.nil_append, Int.toNat_natCast]
      | true =>
        rw [if_pos rfl]
        rw [f1] at fg2
        have F1 := fig_t f1
        have o1 : gI h1 (x + 4) ((q : Int) + 1).toNat = tb tx (q + 1) := by
          rw [show ((q : Int) + 1).toNat = q + 1 by omega]
          unfold tb; rw [if_pos (by omega)]; exact c (q + 1) (by omega)
        have T3 : MT (sI (sI (sI (sI h1 (x + 5) k (tb tx q - 48)) x 6 ((q : Int) + 1)) (x + 5) k (10 * (tb tx q - 48) + tb tx (q + 1) - 48)) x 6 ((q : Int) + 1 + 1)) x tx (q + 2) := (T2.v).p (by omega)
        have fg3 : ∀ Q, WP sc (d + 2) 148 0 [(0, .inr (.inl x))] [] (sI (sI (sI (sI h1 (x + 5) k (tb tx q - 48)) x 6 ((q : Int) + 1)) (x + 5) k (10 * (tb tx q - 48) + tb tx (q + 1) - 48)) x 6 ((q : Int) + 1 + 1)) Q ↔ Q (some (.inl (bI (fig tx (q + 2))))) (sI (sI (sI (sI h1 (x + 5) k (tb tx q - 48)) x 6 ((q : Int) + 1)) (x + 5) k (10 * (tb tx q - 48) + tb tx (q + 1) - 48)) x 6 ((q : Int) + 1 + 1)) := fun Q => m_isFigure T3 Q
        refine ⟨sI (sI (sI (sI h1 (x + 5) k (tb tx q - 48)) x 6 ((q : Int) + 1)) (x + 5) k (10 * (tb tx q - 48) + tb tx (q + 1) - 48)) x 6 ((q : Int) + 1 + 1), fun Q => ?_, T3, fun _ => by rw [gI_sI_nb (by omega)]; exact gI_sI_eq rfl, fun j hj => by rw [gI_sI_nb (by omega), gI_sI_ne hj, gI_sI_nb (by omega), gI_sI_ne hj]; exact V1 j, (((X1.tr MX.v).tr MX.p).tr MX.v).tr MX.p⟩
        cases f2 : fig tx (q + 2) <;> rw [f2] at fg3
        · simp (disch := omega) only [u149_0, u149_1, u149_4, u149_6, u149_9, u149_10, u149_13, u149_14, u149_15, u149_18, u149_19, u149_20, u149_23, u149_24, u149_27, u149_28, u149_29, u149_30, u149_31, u149_32, u149_33, u149_36, u149_39, u149_40, u149_41, u149_42, u149_45, u149_46, u149_47, u149_50, u149_51, u149_54, u149_55, u149_57, u149_58, u149_59, u149_60, u149_61, u149_64, u149_65, u149_66, u149_69, u149_70, u149_73, u149_76, u149_77, u149_80, u149_81, u149_83, u149_84, u149_87, u149_88, u149_89, u149_90, u149_91, u149_94, u149_95, u149_98, u149_99, u149_100, u149_102, u149_103, u149_104, u149_105, u149_106, u149_109, u149_110, u149_111, u149_114, u149_115, u149_118, u149_121, u149_122, u149_125, u149_126, i0, w1', k0, k5, k6, k7, k8, fg, fg2, fg3, c45, e, o, o1, bI_t, bI_f, kd_sI, gR_sI, gI_sI_nb, gI_sI_eq, or_true, Bool.not_false, wr_id, rng, rngp, if_pos, if_neg, if_true, if_false, reduceCtorEq, true_and, and_true, and_self, Option.toList_some, Option.toList_none, List.cons_append, List.nil_append, Int.toNat_natCast]
        · simp (disch := omega) only [u149_0, u149_1, u149_4, u149_6, u149_9, u149_10, u149_13, u149_14, u149_15, u149_18, u149_19, u149_20, u149_23, u149_24, u149_27, u149_28, u149_29, u149_30, u149_31, u149_32, u149_33, u149_36, u149_39, u149_40, u149_41, u149_42, u149_45, u149_46, u149_47, u149_50, u149_51, u149_54, u149_55, u149_57, u149_58, u149_59, u149_60, u149_61, u149_64, u149_65, u149_66, u149_69, u149_70, u149_73, u149_76, u149_77, u149_80, u149_81, u149_83, u149_84, u149_87, u149_88, u149_89, u149_90, u149_91, u149_94, u149_95, u149_98, u149_99, u149_100, u149_102, u149_103, u149_104, u149_105, u149_106, u149_109, u149_110, u149_111, u149_114, u149_115, u149_118, u149_121, u149_122, u149_125, u149_126, i0, w1', k0, k5, k6, k7, k8, fg, fg2, fg3, c45, e, o, o1, bI_t, bI_f, kd_sI, gR_sI, gI_sI_nb, gI_sI_eq, true_or, Bool.not_true, wr_id, rng, rngp, if_pos, if_neg, if_true, if_false, reduceCtorEq, true_and, and_true, and_self, Option.toList_some, Option.toList_none, List.cons_append, List.nil_append, Int.toNat_natCast]
