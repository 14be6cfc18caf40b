/-! a node of the class takes a letter -/
/-- a number of a node is another: what else must hold then -/
theorem CN.num {h : av_H} {a k : Nat} {f g : Nat → Int} {r : Nat → List Int} {z : Int} (N : CN h a f r) (hk : k = 4 ∨ k = 5 ∨ k = 6 ∨ k = 7) (hz : z = if k = 7 then g 7 - 1 else g k) (hg : ∀ j, j ≠ k → g j = f j) : CN (sI h a k z) a g r := by
  obtain ⟨pa, la, K, P, L, ⟨i0, i1, i2, i3, i4, i5, i6, i7, i8, i9⟩, s, ⟨r0, r1, r4, r5, r6⟩, p, l⟩ := N
  have pl := K.2.2.2.2.2.2.2.2.2
  have F : Fr h (sI h a k z) a (a + 1) := Fr.sI (by omega)
  have ex : ∀ j, j ≠ k → gI (sI h a k z) a j = gI h a j := fun j hj => gI_sI_ne hj
  have eq : gI (sI h a k z) a k = z := gI_sI_eq rfl
  refine ⟨pa, la, K, P.fr F (by omega), L.fr F (by omega), ⟨?_, ?_, ?_, ?_, fun q => ?_, ?_, ?_, ?_, ?_, ?_⟩, fun q j hj => ?_, ⟨r0.fr F (by omega), r1.fr F (by omega), r4.fr F (by omega), r5.fr F (by omega), r6.fr F (by omega)⟩, ?_, ?_⟩
  · rw [ex 0 (by omega), hg 0 (by omega)]; exact i0
  · rw [ex 1 (by omega), hg 1 (by omega)]; exact i1
  · rw [ex 2 (by omega), hg 2 (by omega)]; exact i2
  · rw [ex 3 (by omega), hg 3 (by omega)]; exact i3
  · by_cases c : k = 4
    · subst c; rw [eq, hz, if_neg (by omega)]
    · rw [ex 4 (by omega), hg 4 (by omega)]
      rw [hg 0 (by omega)] at q
      exact i4 q
  · by_cases c : k = 5
    · subst c; rw [eq, hz, if_neg (by omega)]
    · rw [ex 5 (by omega), hg 5 (by omega)]; exact i5
  · by_cases c : k = 6
    · subst c; rw [eq, hz, if_neg (by omega)]
    · rw [ex 6 (by omega), hg 6 (by omega)]; exact i6
  · by_cases c : k = 7
    · subst c; rw [eq, hz, if_pos rfl]
    · rw [ex 7 (by omega), hg 7 (by omega)]; exact i7
  · rw [ex 8 (by omega), hg 8 (by omega)]; exact i8
  · rw [ex 9 (by omega), hg 9 (by omega)]; exact i9
  · rw [hg 0 (by omega)] at q
    rw [F.i (by omega), hg (10 + j) (by omega)]; exact s q j hj
  · obtain ⟨b1, b2, b3⟩ := p.fr F (by omega)
    refine ⟨fun q => ?_, fun q => b2 ?_, fun q => b3 ?_⟩
    · rw [hg 9 (by omega)] at q
      obtain ⟨c1, c2, c3, c4⟩ := b1 q
      exact ⟨fun z => by rw [hg 19 (by omega)]; rw [hg 0 (by omega)] at z; exact c1 z, fun z j hj => by rw [hg (20 + j) (by omega)]; rw [hg 0 (by omega)] at z; exact c2 z j hj, by rw [hg 24 (by omega)]; exact c3, by rw [hg 25 (by omega)]; exact c4⟩
    · rw [hg 9 (by omega), hg 25 (by omega), hg 8 (by omega)] at q; exact q
    · rw [hg 0 (by omega)] at q; exact q
  · obtain ⟨c1, c2, c3, c4, c5, c6⟩ := l.fr F (by omega)
    exact ⟨fun z => by rw [hg 14 (by omega)]; rw [hg 0 (by omega)] at z; exact c1 z, fun z j hj => by rw [hg (15 + j) (by omega)]; rw [hg 0 (by omega)] at z; exact c2 z j hj, by rw [hg 26 (by omega)]; exact c3, by rw [hg 27 (by omega)]; exact c4, fun z => by rw [hg 26 (by omega)] at z; exact c5 z, fun z => by rw [hg 0 (by omega)] at z; exact c6 z⟩
/-- a channel of a node is another -/
theorem CN.chan {h h' : av_H} {a i : Nat} {f : Nat → Int} {r : Nat → List Int} {L : List Int} (N : CN h a f r) (hi : i < 2) (F : Fr h h' (a + 2 + 2 * i) (a + 4 + 2 * i)) (H : RowIs h' (a + 2 + 2 * i) 60 L) : CN h' a f (fun k => if k = i then L else r k) := by
  obtain ⟨pa, la, K, P, Q, ⟨i0, i1, i2, i3, i4, i5, i6, i7, i8, i9⟩, s, ⟨r0, r1, r4, r5, r6⟩, p, l⟩ := N
  have pl := K.2.2.2.2.2.2.2.2.2
  refine ⟨pa, la, K.fr F (by omega), P.fr F (by omega), Q.fr F (by omega), ⟨?_, ?_, ?_, ?_, fun q => ?_, ?_, ?_, ?_, ?_, ?_⟩, fun q j hj => ?_, ⟨?_, ?_, ?_, ?_, ?_⟩, ?_, ?_⟩
  · rw [F.i (by omega)]; exact i0
  · rw [F.i (by omega)]; exact i1
  · rw [F.i (by omega)]; exact i2
  · rw [F.i (by omega)]; exact i3
  · rw [F.i (by omega)]; exact i4 q
  · rw [F.i (by omega)]; exact i5
  · rw [F.i (by omega)]; exact i6
  · rw [F.i (by omega)]; exact i7
  · rw [F.i (by omega)]; exact i8
  · rw [F.i (by omega)]; exact i9
  · rw [F.i (by omega)]; exact s q j hj
  · by_cases c : i = 0
    · subst c; exact H
    · show RowIs h' (a + 2) 60 (if 0 = i then L else r 0)
      rw [if_neg (by omega)]; exact r0.fr F (by omega)
  · by_cases c : i = 1
    · subst c; exact H
    · show RowIs h' (a + 4) 60 (if 1 = i then L else r 1)
      rw [if_neg (by omega)]; exact r1.fr F (by omega)
  · show RowIs h' (a + 6) 120 (if 4 = i then L else r 4)
    rw [if_neg (by omega)]; exact r4.fr F (by omega)
  · show RowIs h' (a + 8) 120 (if 5 = i then L else r 5)
    rw [if_neg (by omega)]; exact r5.fr F (by omega)
  · show RowIs h' (a + 10) 100 (if 6 = i then L else r 6)
    rw [if_neg (by omega)]; exact r6.fr F (by omega)
  · obtain ⟨b1, b2, b3⟩ := p.fr F (by omega)
    refine ⟨b1, fun q => ?_, b3⟩
    show RowIs h' (pa + 2) 60 (if 2 = i then L else r 2)
    rw [if_neg (by omega)]; exact b2 q
  · obtain ⟨c1, c2, c3, c4, c5, c6⟩ := l.fr F (by omega)
    refine ⟨c1, c2, c3, c4, fun q => ?_, c6⟩
    show RowIs h' (la + 2) 60 (if 3 = i then L else r 3)
    rw [if_neg (by omega)]; exact c5 q
