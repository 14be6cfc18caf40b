/-! a node of the class meets an item -/
/-- the numbers of a node -/
def NI (h : av_H) (a : Nat) (f : Nat → Int) : Prop := gI h a 0 = f 0 ∧ gI h a 1 = f 1 ∧ gI h a 2 = f 2 ∧ gI h a 3 = f 3 ∧ (f 0 = 0 → gI h a 4 = f 4) ∧ gI h a 5 = f 5 ∧ gI h a 6 = f 6 ∧ gI h a 7 = f 7 - 1 ∧ gI h a 8 = f 8 - 1 ∧ gI h a 9 = f 9
def NS (h : av_H) (a : Nat) (f : Nat → Int) : Prop := f 0 = 3 → ∀ k, k < 4 → gI h (a + 1) k = f (10 + k)
def NR (h : av_H) (a : Nat) (r : Nat → List Int) : Prop := RowIs h (a + 2) 60 (r 0) ∧ RowIs h (a + 4) 60 (r 1) ∧ RowIs h (a + 6) 120 (r 4) ∧ RowIs h (a + 8) 120 (r 5) ∧ RowIs h (a + 10) 100 (r 6)
theorem CN.to {h : av_H} {a : Nat} {f : Nat → Int} {r : Nat → List Int} (N : CN h a f r) : ∃ pa la, NK h a pa la ∧ PK h pa ∧ PK h la ∧ NI h a f ∧ NS h a f ∧ NR h a r ∧ CPa h pa f r ∧ CLa h la f r := N
theorem CN.mk {h : av_H} {a pa la : Nat} {f : Nat → Int} {r : Nat → List Int} (K : NK h a pa la) (P : PK h pa) (L : PK h la) (i : NI h a f) (s : NS h a f) (rr : NR h a r) (p : CPa h pa f r) (l : CLa h la f r) : CN h a f r := ⟨pa, la, K, P, L, i, s, rr, p, l⟩
theorem NI.cg {h : av_H} {a : Nat} {f g : Nat → Int} (N : NI h a f) (e : ∀ k, k < 10 → g k = f k) : NI h a g := by
  unfold NI at N ⊢
  rw [e 0 (by decide), e 1 (by decide), e 2 (by decide), e 3 (by decide), e 4 (by decide), e 5 (by decide), e 6 (by decide), e 7 (by decide), e 8 (by decide), e 9 (by decide)]
  exact N
theorem NI.fr {h h' : av_H} {lo hi a : Nat} {f : Nat → Int} (N : NI h a f) (F : Fr h h' lo hi) (e : a + 1 ≤ lo ∨ hi ≤ a) : NI h' a f := by
  have e' : a < lo ∨ hi ≤ a := e
  unfold NI at N ⊢
  rw [F.i e', F.i e', F.i e', F.i e', F.i e', F.i e', F.i e', F.i e', F.i e', F.i e']
  exact N
theorem NS.cg {h : av_H} {a : Nat} {f g : Nat → Int} (N : NS h a f) (e0 : g 0 = f 0) (e : ∀ k, k < 4 → g (10 + k) = f (10 + k)) : NS h a g := fun q k hk => (N (e0.symm.trans q) k hk).trans (e k hk).symm
theorem NS.fr {h h' : av_H} {lo hi a : Nat} {f : Nat → Int} (N : NS h a f) (F : Fr h h' lo hi) (e : a + 2 ≤ lo ∨ hi ≤ a + 1) : NS h' a f := fun q k hk => (F.i (show a + 1 < lo ∨ hi ≤ a + 1 from e)).trans (N q k hk)
theorem NR.cg {h : av_H} {a : Nat} {r s : Nat → List Int} (N : NR h a r) (e0 : s 0 = r 0) (e1 : s 1 = r 1) (e4 : s 4 = r 4) (e5 : s 5 = r 5) (e6 : s 6 = r 6) : NR h a s := by
  unfold NR at N ⊢
  rw [e0, e1, e4, e5, e6]
  exact N
theorem NR.fr {h h' : av_H} {lo hi a : Nat} {r : Nat → List Int} (N : NR h a r) (F : Fr h h' lo hi) (e : a + 12 ≤ lo ∨ hi ≤ a + 2) : NR h' a r := ⟨N.1.fr F (by omega), N.2.1.fr F (by omega), N.2.2.1.fr F (by omega), N.2.2.2.1.fr F (by omega), N.2.2.2.2.fr F (by omega)⟩
theorem CPa.cg {h : av_H} {p : Nat} {f g : Nat → Int} {r s : Nat → List Int} (N : CPa h p f r) (e0 : g 0 = f 0) (e8 : g 8 = f 8) (e9 : g 9 = f 9) (e19 : g 19 = f 19) (e20 : ∀ k, k < 4 → g (20 + k) = f (20 + k)) (e24 : g 24 = f 24) (e25 : g 25 = f 25) (r2 : s 2 = r 2) : CPa h p g s := by
  unfold CPa at N ⊢
  rw [e0, e8, e9, e19, e24, e25, r2]
  exact ⟨fun q => ⟨(N.1 q).1, fun z k hk => ((N.1 q).2.1 z k hk).trans (e20 k hk).symm, (N.1 q).2.2⟩, N.2⟩
theorem CLa.cg {h : av_H} {p : Nat} {f g : Nat → Int} {r s : Nat → List Int} (N : CLa h p f r) (e0 : g 0 = f 0) (e14 : g 14 = f 14) (e15 : ∀ k, k < 4 → g (15 + k) = f (15 + k)) (e26 : g 26 = f 26) (e27 : g 27 = f 27) (r3 : s 3 = r 3) : CLa h p g s := by
  unfold CLa at N ⊢
  rw [e0, e14, e26, e27, r3]
  exact ⟨N.1, fun z k hk => (N.2.1 z k hk).trans (e15 k hk).symm, N.2.2⟩
theorem ne_of {a k : Nat} (h : a ≠ k) : ¬ a = k := h
theorem x_floor {sc : av_S} {d : Nat} {h : av_H} {v : Int} (hv : 0 ≤ v ∧ v < 100) (Q : Option av_V → av_H → Prop) : WP sc (d + 1) 158 0 [(0, .inl v), (1, .inl 4)] [] h Q ↔ Q (some (.inl (v % 4))) h := by
  have x : ¬ (Int32.ofInt v ^^^ Int32.ofInt 4).toInt < 0 := by
    obtain ⟨n, rfl⟩ : ∃ n : Nat, v = (n : Int) := ⟨v.toNat, by omega⟩
    have key : ∀ n, n < 100 → ¬ (Int32.ofInt ((n : Nat) : Int) ^^^ Int32.ofInt 4).toInt < 0 := by decide +kernel
    exact key n (by omega)
  simp (disch := omega) only [u158_0, u158_1, u158_2, u158_3, u158_4, u158_5, u158_6, u158_7, u158_10, u158_11, u158_14, u158_15, u158_16, u158_17, u158_18, u158_19, x, wr_id, rng, rngp, if_pos, if_neg, if_true, if_false, reduceCtorEq, true_and, and_true, and_self, Option.toList_some, Option.toList_none, List.cons_append, List.nil_append, Int.toNat_natCast]
