/-! a node of the class meets the barrier (2) -/
theorem CN.done {g : av_H} {a pa la : Nat} {f : Nat → Int} {r : Nat → List Int} {num : Int} (K : NK g a pa la) (P : PK g pa) (L : PK g la) (I : NI g a f) (S : NS g a f) (R : NR g a r) (l : CLa g la f r) (h4 : f 0 ≠ 4) (h0 : f 0 ≠ 0) (p3 : gI g pa 3 = -1) (ps : f 0 = 3 → ∀ k, k < 4 → gI g (pa + 1) k = f (20 + k)) (pr : f 8 ≠ 0 → RowIs g (pa + 2) 60 (r 2)) : CN (sI (sI g pa 4 num) a 9 1) a (ud (ud (ud f 9 1) 24 num) 25 0) r ∧ Fr g (sI (sI g pa 4 num) a 9 1) a (a + 20) := by
  have pl := K.pl
  have x1 : pa ≠ a := by omega
  have x2 : pa + 1 ≠ a := by omega
  have x3 : pa + 1 ≠ pa := by omega
  have wa : pa + 4 ≤ a ∨ a + 1 ≤ pa := by omega
  have F1 : Fr g (sI g pa 4 num) pa (pa + 1) := fr1
  have F2 : Fr (sI g pa 4 num) (sI (sI g pa 4 num) a 9 1) a (a + 1) := fr1
  have P' := (P.si (k := 4) (z := num)).fr F2 wa
  have L' := (L.fr F1 (by omega)).fr F2 (by omega)
  have S' := (S.fr F1 (by omega)).fr F2 (by omega)
  have R' := (R.fr F1 (by omega)).fr F2 (by omega)
  have l' := (l.fr F1 (by omega)).fr F2 (by omega)
  have pr' : f 8 ≠ 0 → RowIs (sI (sI g pa 4 num) a 9 1) (pa + 2) 60 (r 2) := fun q => ((pr q).fr F1 (by omega)).fr F2 (by omega)
  have I' := (I.fr F1 (by omega)).set (k := 9) (z := 1) (w := 1) (by omega) rfl
  have G : Fr g (sI (sI g pa 4 num) a 9 1) a (a + 20) := (F1.wd (by omega) (by omega)).tr (F2.wd (by omega) (by omega))
  have q3 : gI (sI (sI g pa 4 num) a 9 1) pa 3 = -1 := by
    rw [gI_sI_nb x1, gI_sI_ne (by decide)]
    exact p3
  refine ⟨CN.mk K P' L' (I'.cg ?_) (S'.cg rfl ?_) R' ⟨fun q => ⟨fun z => absurd z h0, fun z k hk => ?_, ?_, ?_⟩, fun q => ?_, fun q => q3⟩ (l'.cg rfl rfl ?_ rfl rfl rfl), G⟩
  · intro k hk
    rw [ud_ne (n0 hk (by decide)), ud_ne (n0 hk (by decide))]
  · intro k hk
    rw [ud_ne (n10 hk (by decide)), ud_ne (n10 hk (by decide)), ud_ne (n10 hk (by decide))]
  · rw [ud_ne (n20 hk (by decide)), ud_ne (n20 hk (by decide)), ud_ne (n20 hk (by decide)), gI_sI_nb x2, gI_sI_nb x3]
    exact ps z k hk
  · rw [gI_sI_nb x1, gI_sI_eq rfl]; rfl
  · rw [q3]; rfl
  · rcases q with q | q
    · exact absurd rfl q.2
    · exact pr' q
  · intro k hk
    rw [ud_ne (n15 hk (by decide)), ud_ne (n15 hk (by decide)), ud_ne (n15 hk (by decide))]
theorem ud4 {f : Nat → Int} {j : Nat} (h : j < 20 ∨ 24 ≤ j) : ud (ud (ud (ud f 20 (f 10)) 21 (f 11)) 22 (f 12)) 23 (f 13) j = f j := by
  rw [ud_ne (by omega), ud_ne (by omega), ud_ne (by omega), ud_ne (by omega)]
theorem ud4s {f : Nat → Int} {k : Nat} (h : k < 4) : ud (ud (ud (ud f 20 (f 10)) 21 (f 11)) 22 (f 12)) 23 (f 13) (20 + k) = f (10 + k) := by
  have c : k = 0 ∨ k = 1 ∨ k = 2 ∨ k = 3 := by omega
  rcases c with rfl | rfl | rfl | rfl <;> rfl
theorem n_meetBarrier {sc : av_S} {d : Nat} {h : av_H} {a i : Nat} {al : Int} {f : Nat → Int} {r : Nat → List Int} (N : CN h a f r) (hal : al = 0 ∨ al = 1) (hi : i < 2) (h0 : f 0 = 1 ∨ f 0 = 2 ∨ f 0 = 3 ∨ f 0 = 4 ∨ f 0 = 5) (ho : f 0 ≠ 3 → oth f = 0) (c5 : f 0 = 5 → (r 5).length + (r 4).length ≤ 120) : ∃ h', (∀ Q, WP sc (d + 3) 14 0 [(0, .inr (.inl a)), (1, .inl (i : Int)), (2, .inl al)] [] h Q ↔ Q (some (.inl (nBv al f))) h') ∧ CN h' a (nBf al f r i) (nBr al f r) ∧ Fr h h' a (a + 20) := by
  by_cases c4 : f 0 = 4
  · rcases hal with e | e
    · subst e
      obtain ⟨g, w, N2, F2⟩ := n_meetRecording (sc := sc) (d := d) (i := i) N c4 hi
      refine ⟨g, fun Q => ?_, N2, F2⟩
      obtain ⟨pa, la, K, P, L, I, S, R, p, l⟩ := N.to
      have k0 := K.1
      have i0 := I.1
      simp (disch := omega) only [u14_0, u14_1, u14_4, u14_5, u14_8, u14_9, u14_12, u14_13, u14_14, u14_17, u14_20, u14_21, u14_22, u14_25, u14_26, u14_27, u14_30, u14_31, u14_34, u14_35, u14_38, u14_39, u14_42, u14_45, u14_46, u14_47, u14_50, u14_53, u14_54, u14_55, u14_58, u14_59, u14_62, u14_63, u14_66, u14_69, u14_70, u14_73, u14_75, k0, i0, c4, w, wr_id, rng, rngp, if_pos, if_neg, if_true, if_false, reduceCtorEq, true_and, and_true, and_self, Option.toList_some, Option.toList_none, List.cons_append, List.nil_append, Int.toNat_natCast]
    · subst e
      obtain ⟨g, w, N2, F2⟩ := n_meetAligned (sc := sc) (d := d) (i := i) N c4
      refine ⟨g, fun Q => ?_, N2, F2⟩
      obtain ⟨pa, la, K, P, L, I, S, R, p, l⟩ := N.to
      have k0 := K.1
      have i0 := I.1
      simp (disch := omega) only [u14_0, u14_1, u14_4, u14_5, u14_8, u14_9, u14_12, u14_13, u14_14, u14_17, u14_20, u14_21, u14_22, u14_25, u14_26, u14_27, u14_30, u14_31, u14_34, u14_35, u14_38, u14_39, u14_42, u14_45, u14_46, u14_47, u14_50, u14_53, u14_54, u14_55, u14_58, u14_59, u14_62, u14_63, u14_66, u14_69, u14_70, u14_73, u14_75, k0, i0, c4, w, wr_id, rng, rngp, if_pos, if_neg, if_true, if_false, reduceCtorEq, true_and, and_true, and_self, Option.toList_some, Option.toList_none, List.cons_append, List.nil_append, Int.toNat_natCast]
  have e3 : nBv al f = 100 := if_neg c4
  rw [e3]
  obtain ⟨pa, la, K, P, L, I, S, R, p, l⟩ := N.to
  have pl := K.pl
  have k0 := K.1
  have i0 := I.1
  have p3 := p.2.2 c4
  have n0' : f 0 ≠ 0 := by omega
  by_cases c5' : f 0 = 5
  · have e1 : nBf al f r i = ud (ud (ud f 9 1) 24 0) 25 0 := (if_neg c4).trans (if_pos c5')
    have e2 : nBr al f r = ud (ud r 5 (r 5 ++ r 4)) 4 [] := (if_neg c4).trans (if_pos c5')
    rw [e1, e2]
    have c5 := c5 c5'
    obtain ⟨r0, r1, r4, r5, r6⟩ := R
    obtain ⟨g1, w1, R1, F1⟩ := r_append (sc := sc) (d := d + 1) r5 r4 (by omega) (by omega) (by omega)
    rw [List.take_of_length_le (by omega)] at R1
    obtain ⟨g2, w2, R2, F2⟩ := r_drop (sc := sc) (d := d + 1) (r4.fr F1 (by omega)).1
    have w1' : ∀ Q, WP sc (d + 2) 29 0 [(0, .inr (.inl (a + 8))), (1, .inr (.inl (a + 6)))] [] h Q ↔ _ := w1
    have w2' : ∀ Q, WP sc (d + 2) 30 0 [(0, .inr (.inl (a + 6)))] [] g1 Q ↔ Q none g2 := w2
    have K1 := K.fr F1 (by omega)
    have K2 := K1.fr F2 (by omega)
    have P2 := (P.fr F1 (by omega)).fr F2 (by omega)
    have L2 := (L.fr F1 (by omega)).fr F2 (by omega)
    have I2 := (I.fr F1 (by omega)).fr F2 (by omega)
    have S2 := (S.fr F1 (by omega)).fr F2 (by omega)
    have l2 := (l.fr F1 (by omega)).fr F2 (by omega)
    have q3 : gI g2 pa 3 = -1 := by rw [F2.i (by omega), F1.i (by omega)]; exact p3
    have cp : ∀ Q, WP sc (d + 2) 19 0 [(0, .inr (.inl a)), (1, .inl 0)] [] g2 Q ↔ Q none (sI (sI g2 pa 4 0) a 9 1) := fun Q => n_complete (d := d + 1) K2 P2 Q
    have D := CN.done (num := 0) K2 P2 L2 I2 S2 (r := ud (ud r 5 (r 5 ++ r 4)) 4 []) ⟨(r0.fr F1 (by omega)).fr F2 (by omega), (r1.fr F1 (by omega)).fr F2 (by omega), R2, R1.fr F2 (by omega), (r6.fr F1 (by omega)).fr F2 (by omega)⟩ (l2.cg rfl rfl (fun _ _ => rfl) rfl rfl rfl) c4 n0' q3 (fun z => absurd (c5'.symm.trans z) (by decide)) (fun q => ((p.2.1 (Or.inr q)).fr F1 (by omega)).fr F2 (by omega))
    refine ⟨_, fun Q => ?_, D.1, ((F1.wd (by omega) (by omega)).tr (F2.wd (by omega) (by omega))).tr D.2⟩
    have k4 := K.2.2.2.2.1
    have k5 := K.2.2.2.2.2.1
    have m4 : (kd h (a + 6)).1 = 3 := r4.1.1
    have m5 : (kd h (a + 8)).1 = 3 := r5.1.1
    have j0 := K1.1
    have j4 := K1.2.2.2.2.1
    have m4' : (kd g1 (a + 6)).1 = 3 := by rw [F1.k]; exact m4
    have h2 := K2.1
    have i2 := I2.1
    clear D R1 R2 F1 F2 I2 S2 l2 q3
    simp (disch := omega) only [u14_0, u14_1, u14_4, u14_5, u14_8, u14_9, u14_12, u14_13, u14_14, u14_17, u14_20, u14_21, u14_22, u14_25, u14_26, u14_27, u14_30, u14_31, u14_34, u14_35, u14_38, u14_39, u14_42, u14_45, u14_46, u14_47, u14_50, u14_53, u14_54, u14_55, u14_58, u14_59, u14_62, u14_63, u14_66, u14_69, u14_70, u14_73, u14_75, k0, i0, k4, k5, m4, m5, j0, j4, m4', h2, i2, c4, c5', w1', w2', cp, wr_id, rng, rngp, if_pos, if_neg, if_true, if_false, reduceCtorEq, true_and, and_true, and_self, Option.toList_some, Option.toList_none, List.cons_append, List.nil_append, Int.toNat_natCast]
  · have e1 : nBf al f r i = ud (ud (ud (ud (ud (ud (ud f 20 (f 10)) 21 (f 11)) 22 (f 12)) 23 (f 13)) 9 1) 24 (oth f)) 25 0 := (if_neg c4).trans (if_neg c5')
    have e2 : nBr al f r = r := (if_neg c4).trans (if_neg c5')
    rw [e1, e2]
    by_cases c3 : f 0 = 3
    · obtain ⟨g, w, s1, F⟩ := n_storeSums (sc := sc) (d := d + 1) (f := f) K P L (S c3) (l.2.1 c3)
      have w' : ∀ Q, WP sc (d + 2) 18 0 [(0, .inr (.inl a))] [] h Q ↔ Q (some (.inl (oth f))) g := w
      have K2 := K.fr F (by omega)
      obtain ⟨z0, z1, z2, z3, LL, z4⟩ := P
      have P2 : PK g pa := ⟨by rw [F.k]; exact z0, by rw [F.r (by omega)]; exact z1, by rw [F.k]; exact z2, by rw [F.r (by omega)]; exact z3, LL, z4.fr F (by omega)⟩
      have cp : ∀ Q, WP sc (d + 2) 19 0 [(0, .inr (.inl a)), (1, .inl (oth f))] [] g Q ↔ Q none (sI (sI g pa 4 (oth f)) a 9 1) := fun Q => n_complete (d := d + 1) K2 P2 Q
      have q3 : gI g pa 3 = -1 := by rw [F.i (by omega)]; exact p3
      have D := CN.done (num := oth f) (f := ud (ud (ud (ud f 20 (f 10)) 21 (f 11)) 22 (f 12)) 23 (f 13)) K2 P2 (L.fr F (by omega)) ((I.fr F (by omega)).cg (fun k hk => ud4 (by omega))) ((S.fr F (by omega)).cg rfl (fun k hk => ud4 (by omega))) (R.fr F (by omega)) ((l.fr F (by omega)).cg rfl rfl (fun k hk => ud4 (by omega)) rfl rfl rfl) c4 n0' q3 (fun _ k hk => (s1 k hk).trans (ud4s hk).symm) (fun q => (p.2.1 (Or.inr q)).fr F (by omega))
      refine ⟨_, fun Q => ?_, D.1, (F.wd (by omega) (by omega)).tr D.2⟩
      have h2 := K2.1
      clear D F q3 s1
      simp (disch := omega) only [u14_0, u14_1, u14_4, u14_5, u14_8, u14_9, u14_12, u14_13, u14_14, u14_17, u14_20, u14_21, u14_22, u14_25, u14_26, u14_27, u14_30, u14_31, u14_34, u14_35, u14_38, u14_39, u14_42, u14_45, u14_46, u14_47, u14_50, u14_53, u14_54, u14_55, u14_58, u14_59, u14_62, u14_63, u14_66, u14_69, u14_70, u14_73, u14_75, k0, i0, h2, c3, w', cp, wr_id, rng, rngp, if_pos, if_neg, if_true, if_false, reduceCtorEq, true_and, and_true, and_self, Option.toList_some, Option.toList_none, List.cons_append, List.nil_append, Int.toNat_natCast]
    · have o := ho c3
      rw [o]
      have cp : ∀ Q, WP sc (d + 2) 19 0 [(0, .inr (.inl a)), (1, .inl 0)] [] h Q ↔ Q none (sI (sI h pa 4 0) a 9 1) := fun Q => n_complete (d := d + 1) K P Q
      have D := CN.done (num := 0) (f := ud (ud (ud (ud f 20 (f 10)) 21 (f 11)) 22 (f 12)) 23 (f 13)) K P L (I.cg (fun k hk => ud4 (by omega))) (S.cg rfl (fun k hk => ud4 (by omega))) R (l.cg rfl rfl (fun k hk => ud4 (by omega)) rfl rfl rfl) c4 n0' p3 (fun z => absurd z c3) (fun q => p.2.1 (Or.inr q))
      refine ⟨_, fun Q => ?_, D.1, D.2⟩
      clear D
      simp (disch := omega) only [u14_0, u14_1, u14_4, u14_5, u14_8, u14_9, u14_12, u14_13, u14_14, u14_17, u14_20, u14_21, u14_22, u14_25, u14_26, u14_27, u14_30, u14_31, u14_34, u14_35, u14_38, u14_39, u14_42, u14_45, u14_46, u14_47, u14_50, u14_53, u14_54, u14_55, u14_58, u14_59, u14_62, u14_63, u14_66, u14_69, u14_70, u14_73, u14_75, k0, i0, c4, c5', c3, cp, wr_id, rng, rngp, if_pos, if_neg, if_true, if_false, reduceCtorEq, true_and, and_true, and_self, Option.toList_some, Option.toList_none, List.cons_append, List.nil_append, Int.toNat_natCast]
