/-! a node of the class starts, or becomes another -/
def fF (kind x y z : Int) : Nat → Int := fun j => if j = 0 then kind else if j = 1 then x else if j = 2 then y else if j = 3 then z else 0
def fQ (g : av_H) (a : Nat) (kind x y z : Int) : Nat → Int := fun j => if j = 0 then kind else if j = 1 then x else if j = 2 then y else if j = 3 then z else if j = 7 ∨ j = 8 then gI g a j + 1 else if j < 10 then gI g a j else if j < 14 then gI g (a + 1) (j - 10) else 0
theorem fQ_hi {g : av_H} {a : Nat} {kind x y z : Int} {j : Nat} (h : 14 ≤ j) : fQ g a kind x y z j = 0 := by
  unfold fQ
  rw [if_neg (by omega), if_neg (by omega), if_neg (by omega), if_neg (by omega), if_neg (by omega), if_neg (by omega), if_neg (by omega)]
theorem fF_hi {kind x y z : Int} {j : Nat} (h : 4 ≤ j) : fF kind x y z j = 0 := by
  unfold fF
  rw [if_neg (by omega), if_neg (by omega), if_neg (by omega), if_neg (by omega)]
theorem fQ_s {g : av_H} {a : Nat} {kind x y z : Int} {k : Nat} (h : k < 4) : fQ g a kind x y z (10 + k) = gI g (a + 1) k := by
  unfold fQ
  rw [if_neg (by omega), if_neg (by omega), if_neg (by omega), if_neg (by omega), if_neg (by omega), if_neg (by omega), if_pos (by omega), show 10 + k - 10 = k by omega]
theorem nGf_Q {g : av_H} {a : Nat} {kind x y z : Int} : nGf (fQ g a kind x y z) = fF kind x y z := by
  funext k
  by_cases c : 14 ≤ k
  · rw [nGf_t c, fQ_hi c, fF_hi (by omega)]
  · have e : k = 0 ∨ k = 1 ∨ k = 2 ∨ k = 3 ∨ k = 4 ∨ k = 5 ∨ k = 6 ∨ k = 7 ∨ k = 8 ∨ k = 9 ∨ k = 10 ∨ k = 11 ∨ k = 12 ∨ k = 13 := by omega
    rcases e with rfl | rfl | rfl | rfl | rfl | rfl | rfl | rfl | rfl | rfl | rfl | rfl | rfl | rfl <;> rfl
theorem n_start {sc : av_S} {d : Nat} {h : av_H} {a : Nat} {kind x y z : Int} (N : NW h a) : ∃ h', (∀ Q, WP sc (d + 3) 1 0 [(0, .inr (.inl a)), (1, .inl kind), (2, .inl x), (3, .inl y), (4, .inl z)] [] h Q ↔ Q none h') ∧ CN h' a (fF kind x y z) (fun _ => []) ∧ Fr h h' a (a + 20) := by
  obtain ⟨pa, la, K, P, L, ⟨l0, r0⟩, ⟨l1, r1⟩, ⟨l4, r4⟩, ⟨l5, r5⟩, ⟨l6, r6⟩⟩ := N
  have pl := K.pl
  obtain ⟨X1, eX1⟩ : ∃ X, X = sI (sI (sI (sI h a 0 kind) a 1 x) a 2 y) a 3 z := ⟨_, rfl⟩
  have FX : Fr h X1 a (a + 1) := by rw [eX1]; exact ((fr1.tr fr1).tr fr1).tr fr1
  have KX : NK X1 a pa la := by rw [eX1]; exact K
  have b0 : gI X1 a 0 = kind := by rw [eX1]; simp (disch := decide) only [gI_sI_ne, gI_sI_eq]
  have b1 : gI X1 a 1 = x := by rw [eX1]; simp (disch := decide) only [gI_sI_ne, gI_sI_eq]
  have b2 : gI X1 a 2 = y := by rw [eX1]; simp (disch := decide) only [gI_sI_ne, gI_sI_eq]
  have b3 : gI X1 a 3 = z := by rw [eX1]; simp (disch := decide) only [gI_sI_ne, gI_sI_eq]
  obtain ⟨g1, w1, P1, S1, x10, x11, x13, x14, F1⟩ := p_startAnew (sc := sc) (d := d) (P.fr FX (by omega))
  obtain ⟨g2, w2, L2, S2, x20, x21, x23, x24, F2⟩ := p_startAnew (sc := sc) (d := d) ((L.fr FX (by omega)).fr F1 (by omega))
  obtain ⟨g3, w3, R3, F3⟩ := r_drop (sc := sc) (d := d + 1) (((r6.fr FX (by omega)).fr F1 (by omega)).fr F2 (by omega)).1
  have K1 := KX.fr F1 (by omega)
  have K2 := K1.fr F2 (by omega)
  have K3 := K2.fr F3 (by omega)
  have P3 := (P1.fr F2 (by omega)).fr F3 (by omega)
  have L3 := L2.fr F3 (by omega)
  have y0 : ∀ k, gI g3 a k = gI X1 a k := fun k => ((F3.i (by omega)).trans (F2.i (by omega))).trans (F1.i (by omega))
  have t0 := (((r0.fr FX (by omega)).fr F1 (by omega)).fr F2 (by omega)).fr F3 (by omega)
  have t1 := (((r1.fr FX (by omega)).fr F1 (by omega)).fr F2 (by omega)).fr F3 (by omega)
  have t4 := (((r4.fr FX (by omega)).fr F1 (by omega)).fr F2 (by omega)).fr F3 (by omega)
  have t5 := (((r5.fr FX (by omega)).fr F1 (by omega)).fr F2 (by omega)).fr F3 (by omega)
  have p0 : gI g3 pa 0 = 0 := ((F3.i (by omega)).trans (F2.i (by omega))).trans x10
  have p1 : ∀ k, k < 4 → gI g3 (pa + 1) k = 0 := fun k hk => ((F3.i (by omega)).trans (F2.i (by omega))).trans (x11 k hk)
  have p3 : gI g3 pa 3 = -1 := ((F3.i (by omega)).trans (F2.i (by omega))).trans x13
  have p4 : gI g3 pa 4 = 0 := ((F3.i (by omega)).trans (F2.i (by omega))).trans x14
  have q0 : gI g3 la 0 = 0 := (F3.i (by omega)).trans x20
  have q1 : ∀ k, k < 4 → gI g3 (la + 1) k = 0 := fun k hk => (F3.i (by omega)).trans (x21 k hk)
  have q3 : gI g3 la 3 = -1 := (F3.i (by omega)).trans x23
  have q4 : gI g3 la 4 = 0 := (F3.i (by omega)).trans x24
  have S1' := (S1.fr F2 (by omega)).fr F3 (by omega)
  have S2' := S2.fr F3 (by omega)
  have G : Fr h g3 a (a + 20) := (((FX.wd (by omega) (by omega)).tr (F1.wd (by omega) (by omega))).tr (F2.wd (by omega) (by omega))).tr (F3.wd (by omega) (by omega))
  have m6 : (kd g2 (a + 10)).1 = 3 := (((r6.fr FX (by omega)).fr F1 (by omega)).fr F2 (by omega)).1.1
  have N3 : CN g3 a (fQ g3 a kind x y z) (fun j => if j = 0 then l0 else if j = 1 then l1 else if j = 4 then l4 else if j = 5 then l5 else []) := by
    refine CN.mk K3 P3 L3 ⟨(y0 0).trans b0, (y0 1).trans b1, (y0 2).trans b2, (y0 3).trans b3, fun _ => rfl, rfl, rfl, ?_, ?_, rfl⟩ (fun _ k hk => (fQ_s hk).symm) ⟨t0, t1, t4, t5, R3⟩ ⟨fun _ => ⟨fun _ => p0, fun _ k hk => (p1 k hk).trans (fQ_hi (Nat.le_trans (by decide) (Nat.le_add_right 20 k))).symm, p4, p3⟩, fun _ => S1', fun _ => p3⟩ ⟨fun _ => q0, fun _ k hk => (q1 k hk).trans (fQ_hi (Nat.le_trans (by decide) (Nat.le_add_right 15 k))).symm, q3, q4, fun _ => S2', fun _ => q3⟩
    · show gI g3 a 7 = gI g3 a 7 + 1 - 1
      rw [Int.add_sub_cancel]
    · show gI g3 a 8 = gI g3 a 8 + 1 - 1
      rw [Int.add_sub_cancel]
  obtain ⟨g4, w4, N4, F4⟩ := n_goBack (sc := sc) (d := d) N3 (Or.inl rfl)
  have e2 : nGr (fQ g3 a kind x y z) (fun j => if j = 0 then l0 else if j = 1 then l1 else if j = 4 then l4 else if j = 5 then l5 else []) = fun _ => [] := by
    clear y0 p0 p1 p3 p4 q0 q1 q3 q4 x10 x11 x13 x14 x20 x21 x23 x24 b0 b1 b2 b3
    have z26 : fQ g3 a kind x y z 26 = 0 := rfl
    funext k
    unfold nGr
    rw [z26]
    by_cases c0 : k = 0
    · rw [if_pos c0, if_neg (by decide)]
    · rw [if_neg c0]
      by_cases c1 : k = 1
      · rw [if_pos c1, if_neg (by decide)]
      · rw [if_neg c1]
        by_cases c2 : k = 4 ∨ k = 5
        · rw [if_pos c2]
        · rw [if_neg c2]
          exact (if_neg c0).trans ((if_neg c1).trans ((if_neg (fun e => c2 (Or.inl e))).trans (if_neg (fun e => c2 (Or.inr e)))))
  rw [nGf_Q, e2] at N4
  refine ⟨g4, fun Q => ?_, N4, G.tr F4⟩
  have k0 := K.1
  have z0 := KX.1
  have z6 := KX.2.2.2.2.2.2.2.1
  have j0 := K1.1
  have j7 := K1.2.2.2.2.2.2.2.2.1
  have i0 := K2.1
  have i5 := K2.2.2.2.2.2.2.1
  have h3 := K3.1
  have u0 : (kd X1 pa).1 = 2 := (P.fr FX (by omega)).1
  have u1 : (kd g1 la).1 = 2 := ((L.fr FX (by omega)).fr F1 (by omega)).1
  have w3' : ∀ Q, WP sc (d + 2) 30 0 [(0, .inr (.inl (a + 10)))] [] g2 Q ↔ Q none g3 := w3
  clear y0 p0 p1 p3 p4 q0 q1 q3 q4 x10 x11 x13 x14 x20 x21 x23 x24 b0 b1 b2 b3 N3 N4 t0 t1 t4 t5 S1 S2 S1' S2'
  simp (disch := omega) only [u1_0, u1_1, u1_2, u1_5, u1_6, u1_7, u1_10, u1_11, u1_12, u1_15, u1_16, u1_18, u1_22, u1_25, u1_28, u1_29, u1_32, u1_35, u1_36, u1_39, u1_42, u1_43, u1_46, k0, kd_sI, wr_id, rng, rngp, if_pos, if_neg, if_true, if_false, reduceCtorEq, true_and, and_true, and_self, Option.toList_some, Option.toList_none, List.cons_append, List.nil_append, Int.toNat_natCast]
  rw [← eX1]
  simp (disch := omega) only [u1_0, u1_1, u1_2, u1_5, u1_6, u1_7, u1_10, u1_11, u1_12, u1_15, u1_16, u1_18, u1_21, u1_22, u1_25, u1_28, u1_29, u1_32, u1_35, u1_36, u1_39, u1_42, u1_43, u1_46, z0, z6, u0, w1, j0, j7, u1, w2, i0, i5, m6, w3', h3, w4, wr_id, rng, rngp, if_pos, if_neg, if_true, if_false, reduceCtorEq, true_and, and_true, and_self, Option.toList_some, Option.toList_none, List.cons_append, List.nil_append, Int.toNat_natCast]
