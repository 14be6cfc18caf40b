/-! nodes of the class: what they are, what they tell -/
def NK (h : av_H) (a pa la : Nat) : Prop := (kd h a).1 = 1 ∧ (gR h a 10 = a + 1 ∧ kd h (a + 1) = (10, 4)) ∧ gR h a 11 = a + 2 ∧ gR h a 12 = a + 4 ∧ gR h a 13 = a + 6 ∧ gR h a 14 = a + 8 ∧ gR h a 15 = a + 10 ∧ gR h a 16 = pa ∧ gR h a 17 = la ∧ (pa = a + 12 ∧ la = a + 16 ∨ pa = a + 16 ∧ la = a + 12)
/-- a node's cells are as they must be, whatever they hold -/
def NW (h : av_H) (a : Nat) : Prop := ∃ pa la, NK h a pa la ∧ PK h pa ∧ PK h la ∧ (∃ L, RowIs h (a + 2) 60 L) ∧ (∃ L, RowIs h (a + 4) 60 L) ∧ (∃ L, RowIs h (a + 6) 120 L) ∧ (∃ L, RowIs h (a + 8) 120 L) ∧ ∃ L, RowIs h (a + 10) 100 L
/-- the part of the snapshot under way -/
def CPa (h : av_H) (p : Nat) (f : Nat → Int) (r : Nat → List Int) : Prop := (f 9 = 1 → (f 0 = 0 → gI h p 0 = f 19) ∧ (f 0 = 3 → ∀ k, k < 4 → gI h (p + 1) k = f (20 + k)) ∧ gI h p 4 = f 24 ∧ gI h p 3 = f 25 - 1) ∧ ((f 9 = 1 ∧ f 25 ≠ 0) ∨ f 8 ≠ 0 → RowIs h (p + 2) 60 (r 2)) ∧ (f 0 ≠ 4 → gI h p 3 = -1)
/-- the part of the last whole snapshot -/
def CLa (h : av_H) (p : Nat) (f : Nat → Int) (r : Nat → List Int) : Prop := (f 0 = 0 → gI h p 0 = f 14) ∧ (f 0 = 3 → ∀ k, k < 4 → gI h (p + 1) k = f (15 + k)) ∧ gI h p 3 = f 26 - 1 ∧ gI h p 4 = f 27 ∧ (f 26 ≠ 0 → RowIs h (p + 2) 60 (r 3)) ∧ (f 0 ≠ 4 → gI h p 3 = -1)
/-- a node of the class is as the numbers f and the rows r tell -/
def CN (h : av_H) (a : Nat) (f : Nat → Int) (r : Nat → List Int) : Prop := ∃ pa la, NK h a pa la ∧ PK h pa ∧ PK h la ∧ (gI h a 0 = f 0 ∧ gI h a 1 = f 1 ∧ gI h a 2 = f 2 ∧ gI h a 3 = f 3 ∧ (f 0 = 0 → gI h a 4 = f 4) ∧ gI h a 5 = f 5 ∧ gI h a 6 = f 6 ∧ gI h a 7 = f 7 - 1 ∧ gI h a 8 = f 8 - 1 ∧ gI h a 9 = f 9) ∧ (f 0 = 3 → ∀ k, k < 4 → gI h (a + 1) k = f (10 + k)) ∧ (RowIs h (a + 2) 60 (r 0) ∧ RowIs h (a + 4) 60 (r 1) ∧ RowIs h (a + 6) 120 (r 4) ∧ RowIs h (a + 8) 120 (r 5) ∧ RowIs h (a + 10) 100 (r 6)) ∧ CPa h pa f r ∧ CLa h la f r
theorem CN.nw {h : av_H} {a : Nat} {f : Nat → Int} {r : Nat → List Int} (N : CN h a f r) : NW h a := by
  obtain ⟨pa, la, K, P, L, -, -, ⟨r0, r1, r4, r5, r6⟩, -⟩ := N
  exact ⟨pa, la, K, P, L, ⟨_, r0⟩, ⟨_, r1⟩, ⟨_, r4⟩, ⟨_, r5⟩, ⟨_, r6⟩⟩
theorem NK.fr {h h' : av_H} {lo hi a pa la : Nat} (K : NK h a pa la) (F : Fr h h' lo hi) (e : a + 2 ≤ lo ∨ hi ≤ a) : NK h' a pa la := by
  unfold NK at K ⊢
  rw [F.k, F.k, F.r (by omega), F.r (by omega), F.r (by omega), F.r (by omega), F.r (by omega), F.r (by omega), F.r (by omega), F.r (by omega)]
  exact K
theorem CPa.fr {h h' : av_H} {lo hi p : Nat} {f : Nat → Int} {r : Nat → List Int} (K : CPa h p f r) (F : Fr h h' lo hi) (e : p + 4 ≤ lo ∨ hi ≤ p) : CPa h' p f r := by
  obtain ⟨a, b, c⟩ := K
  refine ⟨fun q => ?_, fun q => (b q).fr F (by omega), fun q => by rw [F.i (by omega)]; exact c q⟩
  obtain ⟨a1, a2, a3, a4⟩ := a q
  exact ⟨fun z => by rw [F.i (by omega)]; exact a1 z, fun z k hk => by rw [F.i (by omega)]; exact a2 z k hk, by rw [F.i (by omega)]; exact a3, by rw [F.i (by omega)]; exact a4⟩
theorem CLa.fr {h h' : av_H} {lo hi p : Nat} {f : Nat → Int} {r : Nat → List Int} (K : CLa h p f r) (F : Fr h h' lo hi) (e : p + 4 ≤ lo ∨ hi ≤ p) : CLa h' p f r := by
  obtain ⟨a1, a2, a3, a4, a5, a6⟩ := K
  exact ⟨fun z => by rw [F.i (by omega)]; exact a1 z, fun z k hk => by rw [F.i (by omega)]; exact a2 z k hk, by rw [F.i (by omega)]; exact a3, by rw [F.i (by omega)]; exact a4, fun z => (a5 z).fr F (by omega), fun z => by rw [F.i (by omega)]; exact a6 z⟩
theorem CN.fr {h h' : av_H} {lo hi a : Nat} {f : Nat → Int} {r : Nat → List Int} (N : CN h a f r) (F : Fr h h' lo hi) (e : a + 20 ≤ lo ∨ hi ≤ a) : CN h' a f r := by
  obtain ⟨pa, la, K, P, L, ⟨i0, i1, i2, i3, i4, i5, i6, i7, i8, i9⟩, s, ⟨r0, r1, r4, r5, r6⟩, p, l⟩ := N
  have pl := K.2.2.2.2.2.2.2.2.2
  refine ⟨pa, la, K.fr F (by omega), P.fr F (by omega), L.fr F (by omega), ⟨?_, ?_, ?_, ?_, fun z => ?_, ?_, ?_, ?_, ?_, ?_⟩, fun z k hk => ?_, ⟨r0.fr F (by omega), r1.fr F (by omega), r4.fr F (by omega), r5.fr F (by omega), r6.fr F (by omega)⟩, p.fr F (by omega), l.fr F (by omega)⟩ <;> rw [F.i (by omega)]
  · exact i0
  · exact i1
  · exact i2
  · exact i3
  · exact i4 z
  · exact i5
  · exact i6
  · exact i7
  · exact i8
  · exact i9
  · exact s z k hk
theorem NW.fr {h h' : av_H} {lo hi a : Nat} (N : NW h a) (F : Fr h h' lo hi) (e : a + 20 ≤ lo ∨ hi ≤ a) : NW h' a := by
  obtain ⟨pa, la, K, P, L, ⟨_, r0⟩, ⟨_, r1⟩, ⟨_, r4⟩, ⟨_, r5⟩, ⟨_, r6⟩⟩ := N
  have pl := K.2.2.2.2.2.2.2.2.2
  exact ⟨pa, la, K.fr F (by omega), P.fr F (by omega), L.fr F (by omega), ⟨_, r0.fr F (by omega)⟩, ⟨_, r1.fr F (by omega)⟩, ⟨_, r4.fr F (by omega)⟩, ⟨_, r5.fr F (by omega)⟩, ⟨_, r6.fr F (by omega)⟩⟩
theorem n_hasIn {sc : av_S} {d : Nat} {h : av_H} {a : Nat} {f : Nat → Int} {r : Nat → List Int} {i : Int} (N : CN h a f r) (Q : Option av_V → av_H → Prop) : WP sc (d + 1) 4 0 [(0, .inr (.inl a)), (1, .inl i)] [] h Q ↔ Q (some (.inl (if 0 ≤ i ∧ i < (nin (f 0) : Int) then 1 else 0))) h := by
  obtain ⟨pa, la, ⟨k0, -⟩, -, -, ⟨i0, -⟩, -⟩ := N
  by_cases c0 : f 0 = 0
  · have e : nin (f 0) = 0 := by simp [nin, c0]
    rw [e, if_neg (by omega)]
    by_cases c1 : i = 0
    · simp (disch := omega) only [u4_0, u4_1, u4_4, u4_5, u4_8, u4_11, u4_12, u4_13, u4_16, u4_17, u4_20, u4_21, u4_24, u4_25, u4_28, u4_29, k0, i0, c0, c1, true_or, or_true, wr_id, rng, rngp, if_pos, if_neg, if_true, if_false, reduceCtorEq, true_and, and_true, and_self, Option.toList_some, Option.toList_none, List.cons_append, List.nil_append, Int.toNat_natCast]
    · by_cases c2 : i = 1
      · simp (disch := omega) only [u4_0, u4_1, u4_4, u4_5, u4_8, u4_11, u4_12, u4_13, u4_16, u4_17, u4_20, u4_21, u4_24, u4_25, u4_28, u4_29, k0, i0, c0, c2, true_or, or_true, wr_id, rng, rngp, if_pos, if_neg, if_true, if_false, reduceCtorEq, true_and, and_true, and_self, Option.toList_some, Option.toList_none, List.cons_append, List.nil_append, Int.toNat_natCast]
      · simp (disch := omega) only [u4_0, u4_1, u4_4, u4_5, u4_8, u4_11, u4_12, u4_13, u4_16, u4_17, u4_20, u4_21, u4_24, u4_25, u4_28, u4_29, k0, i0, c0, c1, c2, true_or, or_true, wr_id, rng, rngp, if_pos, if_neg, if_true, if_false, reduceCtorEq, true_and, and_true, and_self, Option.toList_some, Option.toList_none, List.cons_append, List.nil_append, Int.toNat_natCast]
  · by_cases c4 : f 0 = 4
    · have e : nin (f 0) = 2 := by simp [nin, c4]
      rw [e]
      by_cases c1 : i = 0
      · rw [if_pos (by omega)]
        simp (disch := omega) only [u4_0, u4_1, u4_4, u4_5, u4_8, u4_11, u4_12, u4_13, u4_16, u4_17, u4_20, u4_21, u4_24, u4_25, u4_28, u4_29, k0, i0, c4, c1, true_or, or_true, wr_id, rng, rngp, if_pos, if_neg, if_true, if_false, reduceCtorEq, true_and, and_true, and_self, Option.toList_some, Option.toList_none, List.cons_append, List.nil_append, Int.toNat_natCast]
      · by_cases c2 : i = 1
        · rw [if_pos (by omega)]
          simp (disch := omega) only [u4_0, u4_1, u4_4, u4_5, u4_8, u4_11, u4_12, u4_13, u4_16, u4_17, u4_20, u4_21, u4_24, u4_25, u4_28, u4_29, k0, i0, c4, c2, true_or, or_true, wr_id, rng, rngp, if_pos, if_neg, if_true, if_false, reduceCtorEq, true_and, and_true, and_self, Option.toList_some, Option.toList_none, List.cons_append, List.nil_append, Int.toNat_natCast]
        · rw [if_neg (by omega)]
          simp (disch := omega) only [u4_0, u4_1, u4_4, u4_5, u4_8, u4_11, u4_12, u4_13, u4_16, u4_17, u4_20, u4_21, u4_24, u4_25, u4_28, u4_29, k0, i0, c4, c1, c2, true_or, or_true, wr_id, rng, rngp, if_pos, if_neg, if_true, if_false, reduceCtorEq, true_and, and_true, and_self, Option.toList_some, Option.toList_none, List.cons_append, List.nil_append, Int.toNat_natCast]
    · have e : nin (f 0) = 1 := by simp [nin, c0, c4]
      rw [e]
      by_cases c1 : i = 0
      · rw [if_pos (by omega)]
        simp (disch := omega) only [u4_0, u4_1, u4_4, u4_5, u4_8, u4_11, u4_12, u4_13, u4_16, u4_17, u4_20, u4_21, u4_24, u4_25, u4_28, u4_29, k0, i0, c0, c1, true_or, or_true, wr_id, rng, rngp, if_pos, if_neg, if_true, if_false, reduceCtorEq, true_and, and_true, and_self, Option.toList_some, Option.toList_none, List.cons_append, List.nil_append, Int.toNat_natCast]
      · rw [if_neg (by omega)]
        by_cases c2 : i = 1
        · simp (disch := omega) only [u4_0, u4_1, u4_4, u4_5, u4_8, u4_11, u4_12, u4_13, u4_16, u4_17, u4_20, u4_21, u4_24, u4_25, u4_28, u4_29, k0, i0, c0, c4, c2, true_or, or_true, wr_id, rng, rngp, if_pos, if_neg, if_true, if_false, reduceCtorEq, true_and, and_true, and_self, Option.toList_some, Option.toList_none, List.cons_append, List.nil_append, Int.toNat_natCast]
        · simp (disch := omega) only [u4_0, u4_1, u4_4, u4_5, u4_8, u4_11, u4_12, u4_13, u4_16, u4_17, u4_20, u4_21, u4_24, u4_25, u4_28, u4_29, k0, i0, c0, c4, c1, c2, true_or, or_true, wr_id, rng, rngp, if_pos, if_neg, if_true, if_false, reduceCtorEq, true_and, and_true, and_self, Option.toList_some, Option.toList_none, List.cons_append, List.nil_append, Int.toNat_natCast]
