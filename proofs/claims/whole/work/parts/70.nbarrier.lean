/-! a node of the class meets the barrier -/
def nBf (al : Int) (f : Nat → Int) (r : Nat → List Int) (i : Nat) : Nat → Int :=
  if f 0 = 4 then
    if al = 1 then (if f 7 = 0 then ud f 7 ((i : Int) + 1) else ud (ud (ud (ud f 7 0) 9 1) 24 0) 25 0)
    else if f 8 = 0 then ud f 8 (2 - (i : Int)) else ud (ud (ud (ud f 8 0) 9 1) 24 ((r 2).length : Int)) 25 (f 8)
  else if f 0 = 5 then ud (ud (ud f 9 1) 24 0) 25 0
  else ud (ud (ud (ud (ud (ud (ud f 20 (f 10)) 21 (f 11)) 22 (f 12)) 23 (f 13)) 9 1) 24 (oth f)) 25 0
def nBr (al : Int) (f : Nat → Int) (r : Nat → List Int) : Nat → List Int := if f 0 = 4 then (if al = 1 then r else if f 8 = 0 then ud r 2 [] else r) else if f 0 = 5 then ud (ud r 5 (r 5 ++ r 4)) 4 [] else r
def nBv (al : Int) (f : Nat → Int) : Int := if f 0 = 4 then (if al = 1 then (if f 7 = 0 then -1 else 100) else if f 8 = 0 then 100 else -1) else 100
theorem n0 {k c : Nat} (hk : k < 10) (hc : 10 ≤ c) : k ≠ c := by omega
theorem n10 {k c : Nat} (hk : k < 4) (hc : c < 10 ∨ 14 ≤ c) : 10 + k ≠ c := by omega
theorem n15 {k c : Nat} (hk : k < 4) (hc : c < 15 ∨ 19 ≤ c) : 15 + k ≠ c := by omega
theorem n20 {k c : Nat} (hk : k < 4) (hc : c < 20 ∨ 24 ≤ c) : 20 + k ≠ c := by omega
theorem fr1 {h : av_H} {a k : Nat} {z : Int} : Fr h (sI h a k z) a (a + 1) := Fr.sI ⟨Nat.le_refl _, Nat.lt_succ_self _⟩
theorem n_meetAligned {sc : av_S} {d : Nat} {h : av_H} {a i : Nat} {f : Nat → Int} {r : Nat → List Int} (N : CN h a f r) (c : f 0 = 4) : ∃ h', (∀ Q, WP sc (d + 2) 15 0 [(0, .inr (.inl a)), (1, .inl (i : Int))] [] h Q ↔ Q (some (.inl (nBv 1 f))) h') ∧ CN h' a (nBf 1 f r i) (nBr 1 f r) ∧ Fr h h' a (a + 20) := by
  obtain ⟨pa, la, K, P, L, I, S, R, p, l⟩ := N.to
  have pl := K.pl
  have k0 := K.1
  have k6 := K.2.2.2.2.2.2.2.1
  have p0 := P.1
  have i7 := I.2.2.2.2.2.2.2.1
  have e1 : nBr 1 f r = r := by unfold nBr; rw [if_pos c, if_pos rfl]
  unfold nBf nBv
  rw [e1, if_pos c, if_pos c, if_pos rfl, if_pos rfl]
  by_cases c7 : f 7 = 0
  · rw [if_pos c7, if_pos c7]
    have F : Fr h (sI h a 7 (i : Int)) a (a + 1) := Fr.sI ⟨Nat.le_refl _, Nat.lt_succ_self _⟩
    refine ⟨sI h a 7 (i : Int), fun Q => ?_, N.num (Or.inr (Or.inr (Or.inr rfl))) ?_ (fun j hj => ud_ne hj), F.wd (by omega) (by omega)⟩
    · simp (disch := omega) only [u15_0, u15_1, u15_4, u15_5, u15_8, u15_9, u15_10, u15_13, u15_14, u15_15, u15_16, u15_17, u15_20, u15_21, u15_24, u15_25, u15_28, u15_29, u15_30, u15_33, u15_35, k0, i7, c7, wr_id, rng, rngp, if_pos, if_neg, if_true, if_false, reduceCtorEq, true_and, and_true, and_self, Option.toList_some, Option.toList_none, List.cons_append, List.nil_append, Int.toNat_natCast]
    · rw [if_pos rfl, ud_eq]; omega
  · rw [if_neg c7, if_neg c7]
    have cp : ∀ Q, WP sc (d + 1) 19 0 [(0, .inr (.inl a)), (1, .inl 0)] [] (sI (sI h a 7 (-1)) pa 3 (-1)) Q ↔ Q none (sI (sI (sI (sI h a 7 (-1)) pa 3 (-1)) pa 4 0) a 9 1) := fun Q => n_complete (h := sI (sI h a 7 (-1)) pa 3 (-1)) K (P.fr (Fr.sI (lo := a) (hi := a + 1) ⟨Nat.le_refl _, Nat.lt_succ_self _⟩) (by omega)).si Q
    have F1 : Fr h (sI h a 7 (-1)) a (a + 1) := Fr.sI ⟨Nat.le_refl _, Nat.lt_succ_self _⟩
    have F2 : Fr (sI h a 7 (-1)) (sI (sI (sI h a 7 (-1)) pa 3 (-1)) pa 4 0) pa (pa + 1) := (Fr.sI ⟨Nat.le_refl _, Nat.lt_succ_self _⟩).tr (Fr.sI ⟨Nat.le_refl _, Nat.lt_succ_self _⟩)
    have F3 : Fr (sI (sI (sI h a 7 (-1)) pa 3 (-1)) pa 4 0) (sI (sI (sI (sI h a 7 (-1)) pa 3 (-1)) pa 4 0) a 9 1) a (a + 1) := Fr.sI ⟨Nat.le_refl _, Nat.lt_succ_self _⟩
    have x1 : pa ≠ a := by omega
    have wa : pa + 4 ≤ a ∨ a + 1 ≤ pa := by omega
    have P' := (((P.fr F1 wa).si (k := 3) (z := -1)).si (k := 4) (z := 0)).fr F3 wa
    have L' := ((L.fr F1 (by omega)).fr F2 (by omega)).fr F3 (by omega)
    have S' := ((S.fr F1 (by omega)).fr F2 (by omega)).fr F3 (by omega)
    have R' := ((R.fr F1 (by omega)).fr F2 (by omega)).fr F3 (by omega)
    have l' := ((l.fr F1 (by omega)).fr F2 (by omega)).fr F3 (by omega)
    have I1 : NI (sI h a 7 (-1)) a (ud f 7 0) := I.set (by omega) rfl
    have I' := (I1.fr F2 (by omega)).set (k := 9) (z := 1) (w := 1) (by omega) rfl
    have G : Fr h (sI (sI (sI (sI h a 7 (-1)) pa 3 (-1)) pa 4 0) a 9 1) a (a + 20) := ((F1.wd (by omega) (by omega)).tr (F2.wd (by omega) (by omega))).tr (F3.wd (by omega) (by omega))
    have pr : f 8 ≠ 0 → RowIs (sI (sI (sI (sI h a 7 (-1)) pa 3 (-1)) pa 4 0) a 9 1) (pa + 2) 60 (r 2) := fun q => (((p.2.1 (Or.inr q)).fr F1 (by omega)).fr F2 (by omega)).fr F3 (by omega)
    refine ⟨sI (sI (sI (sI h a 7 (-1)) pa 3 (-1)) pa 4 0) a 9 1, fun Q => ?_, CN.mk K P' L' (I'.cg ?_) (S'.cg rfl ?_) R' ⟨fun q => ⟨fun z => ?_, fun z => ?_, ?_, ?_⟩, fun q => ?_, fun q => absurd c q⟩ (l'.cg rfl rfl ?_ rfl rfl rfl), G⟩
    · clear P' L' S' R' l' I1 I' pr
      simp (disch := omega) only [u15_0, u15_1, u15_4, u15_5, u15_8, u15_9, u15_10, u15_13, u15_14, u15_15, u15_16, u15_17, u15_20, u15_21, u15_24, u15_25, u15_28, u15_29, u15_30, u15_33, u15_35, k0, k6, p0, i7, kd_sI, gR_sI, cp, wr_id, rng, rngp, if_pos, if_neg, if_true, if_false, reduceCtorEq, true_and, and_true, and_self, Option.toList_some, Option.toList_none, List.cons_append, List.nil_append, Int.toNat_natCast]
    · intro k hk
      rw [ud_ne (n0 hk (by decide)), ud_ne (n0 hk (by decide))]
    · intro k hk
      rw [ud_ne (n10 hk (by decide)), ud_ne (n10 hk (by decide)), ud_ne (n10 hk (by decide)), ud_ne (n10 hk (by decide))]
    · exact absurd (c.symm.trans z) (by decide)
    · exact absurd (c.symm.trans z) (by decide)
    · rw [gI_sI_nb x1, gI_sI_eq rfl]; rfl
    · rw [gI_sI_nb x1, gI_sI_ne (by decide), gI_sI_eq rfl]; rfl
    · rcases q with q | q
      · exact absurd rfl q.2
      · exact pr q
    · intro k hk
      rw [ud_ne (n15 hk (by decide)), ud_ne (n15 hk (by decide)), ud_ne (n15 hk (by decide)), ud_ne (n15 hk (by decide))]
theorem n_meetRecording {sc : av_S} {d : Nat} {h : av_H} {a i : Nat} {f : Nat → Int} {r : Nat → List Int} (N : CN h a f r) (c : f 0 = 4) (hi : i < 2) : ∃ h', (∀ Q, WP sc (d + 2) 16 0 [(0, .inr (.inl a)), (1, .inl (i : Int))] [] h Q ↔ Q (some (.inl (nBv 0 f))) h') ∧ CN h' a (nBf 0 f r i) (nBr 0 f r) ∧ Fr h h' a (a + 20) := by
  obtain ⟨pa, la, K, P, L, I, S, R, p, l⟩ := N.to
  have pl := K.pl
  have k0 := K.1
  have k6 := K.2.2.2.2.2.2.2.1
  have p0 := P.1
  have p2 := P.2.2.2.1
  have i8 := I.2.2.2.2.2.2.2.2.1
  have z01 : ¬ (0 : Int) = 1 := by decide
  have x1 : pa ≠ a := by omega
  have wa : pa + 4 ≤ a ∨ a + 1 ≤ pa := by omega
  by_cases c8 : f 8 = 0
  · have e1 : nBf 0 f r i = ud f 8 (2 - (i : Int)) := (if_pos c).trans ((if_neg z01).trans (if_pos c8))
    have e2 : nBr 0 f r = ud r 2 [] := (if_pos c).trans ((if_neg z01).trans (if_pos c8))
    have e3 : nBv 0 f = 100 := (if_pos c).trans ((if_neg z01).trans (if_pos c8))
    rw [e1, e2, e3]
    obtain ⟨LL, pk⟩ := P.2.2.2.2
    have F1 : Fr h (sI h a 8 (1 - (i : Int))) a (a + 1) := fr1
    obtain ⟨g, w, R2, F2⟩ := r_drop (sc := sc) (d := d) (pk.fr F1 (by omega)).1
    have m1 : (kd h (pa + 2)).1 = 3 := pk.1.1
    have I1 : NI (sI h a 8 (1 - (i : Int))) a (ud f 8 (2 - (i : Int))) := I.set (by omega) (by rw [if_pos (by decide)]; omega)
    have P1 := P.fr F1 wa
    have K1 : NK (sI h a 8 (1 - (i : Int))) a pa la := K
    have P2 : PK g pa := ⟨by rw [F2.k]; exact P1.1, by rw [F2.r (by omega)]; exact P1.2.1, by rw [F2.k]; exact P1.2.2.1, by rw [F2.r (by omega)]; exact P1.2.2.2.1, _, R2⟩
    have p' := p.fr F1 (by omega)
    have g4 : gI g pa 4 = gI (sI h a 8 (1 - (i : Int))) pa 4 := F2.i (by omega)
    have g3 : gI g pa 3 = gI (sI h a 8 (1 - (i : Int))) pa 3 := F2.i (by omega)
    refine ⟨g, fun Q => ?_, CN.mk (K1.fr F2 (by omega)) P2 ((L.fr F1 (by omega)).fr F2 (by omega)) (I1.fr F2 (by omega)) (((S.fr F1 (by omega)).fr F2 (by omega)).cg rfl (fun k hk => ud_ne (n10 hk (by decide)))) (((R.fr F1 (by omega)).fr F2 (by omega)).cg rfl rfl rfl rfl rfl) ⟨fun q => ⟨fun z => absurd (c.symm.trans z) (by decide), fun z => absurd (c.symm.trans z) (by decide), g4.trans (p'.1 q).2.2.1, g3.trans (p'.1 q).2.2.2⟩, fun q => R2, fun q => absurd c q⟩ (((l.fr F1 (by omega)).fr F2 (by omega)).cg rfl rfl (fun k hk => ud_ne (n15 hk (by decide))) rfl rfl rfl), (F1.wd (by omega) (by omega)).tr (F2.wd (by omega) (by omega))⟩
    clear I1 P1 P2 p' g4 g3 F1 F2
    simp (disch := omega) only [u16_0, u16_1, u16_4, u16_5, u16_8, u16_9, u16_10, u16_11, u16_12, u16_15, u16_16, u16_19, u16_22, u16_25, u16_27, u16_28, u16_29, u16_32, u16_33, u16_36, u16_39, u16_40, u16_41, u16_44, u16_45, u16_46, u16_49, u16_52, u16_55, u16_58, u16_59, k0, k6, p0, p2, i8, m1, c8, kd_sI, gR_sI, w, wr_id, rng, rngp, if_pos, if_neg, if_true, if_false, reduceCtorEq, true_and, and_true, and_self, Option.toList_some, Option.toList_none, List.cons_append, List.nil_append, Int.toNat_natCast]
  · have e1 : nBf 0 f r i = ud (ud (ud (ud f 8 0) 9 1) 24 ((r 2).length : Int)) 25 (f 8) := (if_pos c).trans ((if_neg z01).trans (if_neg c8))
    have e2 : nBr 0 f r = r := (if_pos c).trans ((if_neg z01).trans (if_neg c8))
    have e3 : nBv 0 f = -1 := (if_pos c).trans ((if_neg z01).trans (if_neg c8))
    rw [e1, e2, e3]
    have pr := p.2.1 (Or.inr c8)
    have m1 : (kd h (pa + 2)).1 = 3 := pr.1.1
    have m2 : gI h (pa + 2) 1 = ((r 2).length : Int) := pr.2.1
    have F1 : Fr h (sI h pa 3 (f 8 - 1)) pa (pa + 1) := fr1
    have F2 : Fr (sI h pa 3 (f 8 - 1)) (sI (sI h pa 3 (f 8 - 1)) a 8 (-1)) a (a + 1) := fr1
    have m3 : gI (sI (sI h pa 3 (f 8 - 1)) a 8 (-1)) (pa + 2) 1 = ((r 2).length : Int) := by rw [F2.i (by omega), F1.i (by omega)]; exact m2
    have cp : ∀ Q, WP sc (d + 1) 19 0 [(0, .inr (.inl a)), (1, .inl ((r 2).length : Int))] [] (sI (sI h pa 3 (f 8 - 1)) a 8 (-1)) Q ↔ Q none (sI (sI (sI (sI h pa 3 (f 8 - 1)) a 8 (-1)) pa 4 ((r 2).length : Int)) a 9 1) := fun Q => n_complete (h := sI (sI h pa 3 (f 8 - 1)) a 8 (-1)) K (P.si.fr F2 wa) Q
    have F3 : Fr (sI (sI h pa 3 (f 8 - 1)) a 8 (-1)) (sI (sI (sI h pa 3 (f 8 - 1)) a 8 (-1)) pa 4 ((r 2).length : Int)) pa (pa + 1) := fr1
    have F4 : Fr (sI (sI (sI h pa 3 (f 8 - 1)) a 8 (-1)) pa 4 ((r 2).length : Int)) (sI (sI (sI (sI h pa 3 (f 8 - 1)) a 8 (-1)) pa 4 ((r 2).length : Int)) a 9 1) a (a + 1) := fr1
    have P' := ((P.si (k := 3) (z := f 8 - 1)).fr F2 wa).si (k := 4) (z := ((r 2).length : Int)) |>.fr F4 wa
    have L' := (((L.fr F1 (by omega)).fr F2 (by omega)).fr F3 (by omega)).fr F4 (by omega)
    have S' := (((S.fr F1 (by omega)).fr F2 (by omega)).fr F3 (by omega)).fr F4 (by omega)
    have R' := (((R.fr F1 (by omega)).fr F2 (by omega)).fr F3 (by omega)).fr F4 (by omega)
    have l' := (((l.fr F1 (by omega)).fr F2 (by omega)).fr F3 (by omega)).fr F4 (by omega)
    have pr' := (((pr.fr F1 (by omega)).fr F2 (by omega)).fr F3 (by omega)).fr F4 (by omega)
    have I2 : NI (sI (sI h pa 3 (f 8 - 1)) a 8 (-1)) a (ud f 8 0) := (I.fr F1 (by omega)).set (by omega) rfl
    have I' := (I2.fr F3 (by omega)).set (k := 9) (z := 1) (w := 1) (by omega) rfl
    have G : Fr h (sI (sI (sI (sI h pa 3 (f 8 - 1)) a 8 (-1)) pa 4 ((r 2).length : Int)) a 9 1) a (a + 20) := (((F1.wd (by omega) (by omega)).tr (F2.wd (by omega) (by omega))).tr (F3.wd (by omega) (by omega))).tr (F4.wd (by omega) (by omega))
    refine ⟨sI (sI (sI (sI h pa 3 (f 8 - 1)) a 8 (-1)) pa 4 ((r 2).length : Int)) a 9 1, fun Q => ?_, CN.mk K P' L' (I'.cg ?_) (S'.cg rfl ?_) R' ⟨fun q => ⟨fun z => absurd (c.symm.trans z) (by decide), fun z => absurd (c.symm.trans z) (by decide), ?_, ?_⟩, fun q => pr', fun q => absurd c q⟩ (l'.cg rfl rfl ?_ rfl rfl rfl), G⟩
    · clear P' L' S' R' l' I2 I' pr'
      simp (disch := omega) only [u16_0, u16_1, u16_4, u16_5, u16_8, u16_9, u16_10, u16_11, u16_12, u16_15, u16_16, u16_19, u16_22, u16_25, u16_27, u16_28, u16_29, u16_32, u16_33, u16_36, u16_39, u16_40, u16_41, u16_44, u16_45, u16_46, u16_49, u16_52, u16_55, u16_58, u16_59, k0, k6, p0, p2, i8, m1, m3, kd_sI, gR_sI, cp, wr_id, rng, rngp, if_pos, if_neg, if_true, if_false, reduceCtorEq, true_and, and_true, and_self, Option.toList_some, Option.toList_none, List.cons_append, List.nil_append, Int.toNat_natCast]
    · intro k hk
      rw [ud_ne (n0 hk (by decide)), ud_ne (n0 hk (by decide))]
    · intro k hk
      rw [ud_ne (n10 hk (by decide)), ud_ne (n10 hk (by decide)), ud_ne (n10 hk (by decide)), ud_ne (n10 hk (by decide))]
    · rw [gI_sI_nb x1, gI_sI_eq rfl]; rfl
    · rw [gI_sI_nb x1, gI_sI_ne (by decide), gI_sI_nb x1, gI_sI_eq rfl]; rfl
    · intro k hk
      rw [ud_ne (n15 hk (by decide)), ud_ne (n15 hk (by decide)), ud_ne (n15 hk (by decide)), ud_ne (n15 hk (by decide))]
theorem n_markPosition {sc : av_S} {d : Nat} {h : av_H} {a : Nat} {f : Nat → Int} {r : Nat → List Int} (N : CN h a f r) (c : f 0 = 0) (h25 : f 25 = 0) : ∃ h', (∀ Q, WP sc (d + 2) 17 0 [(0, .inr (.inl a))] [] h Q ↔ Q none h') ∧ CN h' a (ud (ud (ud (ud f 5 0) 19 (f 4)) 24 1) 9 1) r ∧ Fr h h' a (a + 20) := by
  obtain ⟨pa, la, K, P, L, I, S, R, p, l⟩ := N.to
  have pl := K.pl
  have k0 := K.1
  have k6 := K.2.2.2.2.2.2.2.1
  have p0 := P.1
  have i4 := I.2.2.2.2.1 c
  have x1 : pa ≠ a := by omega
  have wa : pa + 4 ≤ a ∨ a + 1 ≤ pa := by omega
  have F1 : Fr h (sI h a 5 0) a (a + 1) := fr1
  have F2 : Fr (sI h a 5 0) (sI (sI h a 5 0) pa 0 (f 4)) pa (pa + 1) := fr1
  have F3 : Fr (sI (sI h a 5 0) pa 0 (f 4)) (sI (sI (sI h a 5 0) pa 0 (f 4)) pa 4 1) pa (pa + 1) := fr1
  have F4 : Fr (sI (sI (sI h a 5 0) pa 0 (f 4)) pa 4 1) (sI (sI (sI (sI h a 5 0) pa 0 (f 4)) pa 4 1) a 9 1) a (a + 1) := fr1
  have m3 : gI (sI h a 5 0) a 4 = f 4 := by rw [gI_sI_ne (by decide)]; exact i4
  have cp : ∀ Q, WP sc (d + 1) 19 0 [(0, .inr (.inl a)), (1, .inl 1)] [] (sI (sI h a 5 0) pa 0 (f 4)) Q ↔ Q none (sI (sI (sI (sI h a 5 0) pa 0 (f 4)) pa 4 1) a 9 1) := fun Q => n_complete (h := sI (sI h a 5 0) pa 0 (f 4)) K (P.fr F1 wa).si Q
  have P' := (((P.fr F1 wa).si (k := 0) (z := f 4)).si (k := 4) (z := 1)).fr F4 wa
  have L' := (((L.fr F1 (by omega)).fr F2 (by omega)).fr F3 (by omega)).fr F4 (by omega)
  have S' := (((S.fr F1 (by omega)).fr F2 (by omega)).fr F3 (by omega)).fr F4 (by omega)
  have R' := (((R.fr F1 (by omega)).fr F2 (by omega)).fr F3 (by omega)).fr F4 (by omega)
  have l' := (((l.fr F1 (by omega)).fr F2 (by omega)).fr F3 (by omega)).fr F4 (by omega)
  have pr' : f 8 ≠ 0 → RowIs (sI (sI (sI (sI h a 5 0) pa 0 (f 4)) pa 4 1) a 9 1) (pa + 2) 60 (r 2) := fun q => ((((p.2.1 (Or.inr q)).fr F1 (by omega)).fr F2 (by omega)).fr F3 (by omega)).fr F4 (by omega)
  have I2 : NI (sI h a 5 0) a (ud f 5 0) := I.set (by omega) rfl
  have I' := ((I2.fr F2 (by omega)).fr F3 (by omega)).set (k := 9) (z := 1) (w := 1) (by omega) rfl
  have G : Fr h (sI (sI (sI (sI h a 5 0) pa 0 (f 4)) pa 4 1) a 9 1) a (a + 20) := (((F1.wd (by omega) (by omega)).tr (F2.wd (by omega) (by omega))).tr (F3.wd (by omega) (by omega))).tr (F4.wd (by omega) (by omega))
  have p3 : gI (sI (sI (sI (sI h a 5 0) pa 0 (f 4)) pa 4 1) a 9 1) pa 3 = -1 := by
    rw [gI_sI_nb x1, gI_sI_ne (by decide), gI_sI_ne (by decide), gI_sI_nb x1]
    exact p.2.2 (by rw [c]; decide)
  refine ⟨sI (sI (sI (sI h a 5 0) pa 0 (f 4)) pa 4 1) a 9 1, fun Q => ?_, CN.mk K P' L' (I'.cg ?_) (S'.cg rfl ?_) R' ⟨fun q => ⟨fun z => ?_, fun z => absurd (c.symm.trans z) (by decide), ?_, ?_⟩, fun q => ?_, fun q => p3⟩ (l'.cg rfl rfl ?_ rfl rfl rfl), G⟩
  · clear P' L' S' R' l' I2 I' pr' p3
    simp (disch := omega) only [u17_0, u17_1, u17_2, u17_5, u17_6, u17_9, u17_10, u17_13, u17_16, u17_17, u17_18, u17_21, k0, k6, p0, m3, kd_sI, gR_sI, cp, true_or, or_true, wr_id, rng, rngp, if_pos, if_neg, if_true, if_false, reduceCtorEq, true_and, and_true, and_self, Option.toList_some, Option.toList_none, List.cons_append, List.nil_append, Int.toNat_natCast]
  · intro k hk
    by_cases e : k = 9
    · rw [e]; rfl
    · rw [ud_ne e, ud_ne e, ud_ne (n0 hk (by decide)), ud_ne (n0 hk (by decide))]
  · intro k hk
    rw [ud_ne (n10 hk (by decide)), ud_ne (n10 hk (by decide)), ud_ne (n10 hk (by decide)), ud_ne (n10 hk (by decide))]
  · rw [gI_sI_nb x1, gI_sI_ne (by decide), gI_sI_eq rfl]; rfl
  · rw [gI_sI_nb x1, gI_sI_eq rfl]; rfl
  · rw [p3]
    show -1 = f 25 - 1
    rw [h25]; rfl
  · rcases q with q | q
    · exact absurd h25 q.2
    · exact pr' q
  · intro k hk
    rw [ud_ne (n15 hk (by decide)), ud_ne (n15 hk (by decide)), ud_ne (n15 hk (by decide)), ud_ne (n15 hk (by decide))]
