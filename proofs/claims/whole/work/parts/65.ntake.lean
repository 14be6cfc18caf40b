/-! a node of the class takes a letter -/
/-- a number of a node is another: what else must hold then -/
theorem CN.num {h : av_H} {a k : Nat} {f g : Nat → Int} {r : Nat → List Int} {z : Int} (N : CN h a f r) (hk : k = 4 ∨ k = 5 ∨ k = 6 ∨ k = 7) (hz : z = if k = 7 then g 7 - 1 else g k) (hg : ∀ j, j ≠ k → g j = f j) : CN (sI h a k z) a g r := by
  obtain ⟨pa, la, K, P, L, ii, s, rr, p, l⟩ := N
  have pl := K.2.2.2.2.2.2.2.2.2
  have w1 : pa + 4 ≤ a ∨ a + 1 ≤ pa := by omega
  have w2 : la + 4 ≤ a ∨ a + 1 ≤ la := by omega
  have F : Fr h (sI h a k z) a (a + 1) := Fr.sI ⟨Nat.le_refl _, Nat.lt_succ_self _⟩
  have ne : ∀ j, (j < 4 ∨ 8 ≤ j) → j ≠ k := by intro j hj; omega
  have G : ∀ j, (j < 4 ∨ 8 ≤ j) → g j = f j := fun j hj => hg j (ne j hj)
  have ex : ∀ j, j ≠ k → gI (sI h a k z) a j = gI h a j := fun j hj => gI_sI_ne hj
  have eq : gI (sI h a k z) a k = z := gI_sI_eq rfl
  have g0 := G 0 (Or.inl (by decide))
  have g8 := G 8 (Or.inr (by decide))
  have g9 := G 9 (Or.inr (by decide))
  have g25 := G 25 (Or.inr (by decide))
  have g26 := G 26 (Or.inr (by decide))
  have P' := P.fr F w1
  have L' := L.fr F w2
  have p' := p.fr F w1
  have l' := l.fr F w2
  have sx : ∀ j, gI (sI h a k z) (a + 1) j = gI h (a + 1) j := fun j => gI_sI_nb (Nat.succ_ne_self a)
  have r0 : RowIs (sI h a k z) (a + 2) 60 (r 0) := rr.1.fr F (by clear ex eq sx; omega)
  have r1 : RowIs (sI h a k z) (a + 4) 60 (r 1) := rr.2.1.fr F (by clear ex eq sx; omega)
  have r4 : RowIs (sI h a k z) (a + 6) 120 (r 4) := rr.2.2.1.fr F (by clear ex eq sx; omega)
  have r5 : RowIs (sI h a k z) (a + 8) 120 (r 5) := rr.2.2.2.1.fr F (by clear ex eq sx; omega)
  have r6 : RowIs (sI h a k z) (a + 10) 100 (r 6) := rr.2.2.2.2.fr F (by clear ex eq sx; omega)
  obtain ⟨i0, i1, i2, i3, i4, i5, i6, i7, i8, i9⟩ := ii
  refine ⟨pa, la, K, P', L', ⟨?_, ?_, ?_, ?_, fun q => ?_, ?_, ?_, ?_, ?_, ?_⟩, fun q j hj => ?_, ⟨r0, r1, r4, r5, r6⟩, ?_, ?_⟩
  · rw [ex 0 (ne 0 (Or.inl (by decide))), g0]; exact i0
  · rw [ex 1 (ne 1 (Or.inl (by decide))), G 1 (Or.inl (by decide))]; exact i1
  · rw [ex 2 (ne 2 (Or.inl (by decide))), G 2 (Or.inl (by decide))]; exact i2
  · rw [ex 3 (ne 3 (Or.inl (by decide))), G 3 (Or.inl (by decide))]; exact i3
  · by_cases c : k = 4
    · subst c; rw [eq, hz, if_neg (by decide)]
    · rw [ex 4 (fun e => c e.symm), hg 4 (fun e => c e.symm)]
      rw [g0] at q
      exact i4 q
  · by_cases c : k = 5
    · subst c; rw [eq, hz, if_neg (by decide)]
    · rw [ex 5 (fun e => c e.symm), hg 5 (fun e => c e.symm)]; exact i5
  · by_cases c : k = 6
    · subst c; rw [eq, hz, if_neg (by decide)]
    · rw [ex 6 (fun e => c e.symm), hg 6 (fun e => c e.symm)]; exact i6
  · by_cases c : k = 7
    · subst c; rw [eq, hz, if_pos rfl]
    · rw [ex 7 (fun e => c e.symm), hg 7 (fun e => c e.symm)]; exact i7
  · rw [ex 8 (ne 8 (Or.inr (by decide))), g8]; exact i8
  · rw [ex 9 (ne 9 (Or.inr (by decide))), g9]; exact i9
  · rw [g0] at q
    rw [sx, G (10 + j) (Or.inr (Nat.le_trans (by decide) (Nat.le_add_right 10 j)))]; exact s q j hj
  · obtain ⟨b1, b2, b3⟩ := p'
    refine ⟨fun q => ?_, fun q => b2 ?_, fun q => b3 ?_⟩
    · rw [g9] at q
      obtain ⟨c1, c2, c3, c4⟩ := b1 q
      exact ⟨fun z => by rw [G 19 (Or.inr (by decide))]; rw [g0] at z; exact c1 z, fun z j hj => by rw [G (20 + j) (Or.inr (Nat.le_trans (by decide) (Nat.le_add_right 20 j)))]; rw [g0] at z; exact c2 z j hj, by rw [G 24 (Or.inr (by decide))]; exact c3, by rw [g25]; exact c4⟩
    · rw [g9, g25, g8] at q; exact q
    · rw [g0] at q; exact q
  · obtain ⟨c1, c2, c3, c4, c5, c6⟩ := l'
    exact ⟨fun z => by rw [G 14 (Or.inr (by decide))]; rw [g0] at z; exact c1 z, fun z j hj => by rw [G (15 + j) (Or.inr (Nat.le_trans (by decide) (Nat.le_add_right 15 j)))]; rw [g0] at z; exact c2 z j hj, by rw [g26]; exact c3, by rw [G 27 (Or.inr (by decide))]; exact c4, fun z => by rw [g26] at z; exact c5 z, fun z => by rw [g0] at z; exact c6 z⟩
/-- a channel of a node is another -/
theorem CN.chan {h h' : av_H} {a i : Nat} {f : Nat → Int} {r : Nat → List Int} {L : List Int} (N : CN h a f r) (hi : i < 2) (F : Fr h h' (a + 2 + 2 * i) (a + 4 + 2 * i)) (H : RowIs h' (a + 2 + 2 * i) 60 L) : CN h' a f (fun k => if k = i then L else r k) := by
  obtain ⟨pa, la, K, P, Q, ⟨i0, i1, i2, i3, i4, i5, i6, i7, i8, i9⟩, s, ⟨r0, r1, r4, r5, r6⟩, p, l⟩ := N
  have pl := K.2.2.2.2.2.2.2.2.2
  refine ⟨pa, la, K.fr F (by omega), P.fr F (by omega), Q.fr F (by omega), ⟨?_, ?_, ?_, ?_, fun q => ?_, ?_, ?_, ?_, ?_, ?_⟩, fun q j hj => ?_, ⟨?_, ?_, ?_, ?_, ?_⟩, ?_, ?_⟩
  · rw [F.i (by omega)]; exact i0
  · rw [F.i (by omega)]; exact i1
  · rw [F.i (by omega)]; exact i2
  · rw [F.i (by omega)]; exact i3
  · rw [F.i (by omega)]; exact i4 q
  · rw [F.i (by omega)]; exact i5
  · rw [F.i (by omega)]; exact i6
  · rw [F.i (by omega)]; exact i7
  · rw [F.i (by omega)]; exact i8
  · rw [F.i (by omega)]; exact i9
  · rw [F.i (by omega)]; exact s q j hj
  · by_cases c : i = 0
    · subst c; exact H
    · show RowIs h' (a + 2) 60 (if 0 = i then L else r 0)
      rw [if_neg (by omega)]; exact r0.fr F (by omega)
  · by_cases c : i = 1
    · subst c; exact H
    · show RowIs h' (a + 4) 60 (if 1 = i then L else r 1)
      rw [if_neg (by omega)]; exact r1.fr F (by omega)
  · show RowIs h' (a + 6) 120 (if 4 = i then L else r 4)
    rw [if_neg (by omega)]; exact r4.fr F (by omega)
  · show RowIs h' (a + 8) 120 (if 5 = i then L else r 5)
    rw [if_neg (by omega)]; exact r5.fr F (by omega)
  · show RowIs h' (a + 10) 100 (if 6 = i then L else r 6)
    rw [if_neg (by omega)]; exact r6.fr F (by omega)
  · obtain ⟨b1, b2, b3⟩ := p.fr F (by omega)
    refine ⟨b1, fun q => ?_, b3⟩
    show RowIs h' (pa + 2) 60 (if 2 = i then L else r 2)
    rw [if_neg (by omega)]; exact b2 q
  · obtain ⟨c1, c2, c3, c4, c5, c6⟩ := l.fr F (by omega)
    refine ⟨c1, c2, c3, c4, fun q => ?_, c6⟩
    show RowIs h' (la + 2) 60 (if 3 = i then L else r 3)
    rw [if_neg (by omega)]; exact c5 q
