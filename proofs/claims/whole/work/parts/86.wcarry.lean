/-! the works of the class carry out -/
/-- the cells of works, whatever they hold -/
def WW (h : av_H) (w : Nat) : Prop := WK h w ∧ ∀ n, n < 8 → NW h (w + 2 + 20 * n)
theorem CW.ww {h : av_H} {w : Nat} {σ : sS} (C : CW h w σ) : WW h w := ⟨C.1, C.2.2.2.2⟩
theorem WW.fr {h h' : av_H} {lo hi w : Nat} (C : WW h w) (F : Fr h h' lo hi) (e : w + 162 ≤ lo ∨ hi ≤ w) : WW h' w := ⟨C.1.fr F (by omega), fun n hn => (C.2 n hn).fr F (by omega)⟩
theorem w_startAnew {sc : av_S} {d : Nat} {h : av_H} {w : Nat} (C : WW h w) : ∃ h', (∀ Q, WP sc (d + 1) 47 0 [(0, .inr (.inl w))] [] h Q ↔ Q none h') ∧ CW h' w sNew ∧ Fr h h' w (w + 162) := by
  obtain ⟨K, nw⟩ := C
  have k0 := K.1
  have F1 : Fr h (sI (sI (sI (sI (sI (sI (sI (sI (sI h w 1 0) w 2 0) w 3 0) w 4 20) w 5 0) w 6 0) w 7 1) w 8 0) w 9 0) w (w + 1) := (((((((fr1.tr fr1).tr fr1).tr fr1).tr fr1).tr fr1).tr fr1).tr fr1).tr fr1
  refine ⟨sI (sI (sI (sI (sI (sI (sI (sI (sI h w 1 0) w 2 0) w 3 0) w 4 20) w 5 0) w 6 0) w 7 1) w 8 0) w 9 0, fun Q => ?_, ⟨K, ?_, by decide, fun n hn => absurd hn (Nat.not_lt_zero n), fun n hn => (nw n hn).fr F1 (by omega)⟩, F1.wd (Nat.le_refl _) (by omega)⟩
  · simp (disch := omega) only [u47_0, u47_1, u47_2, u47_5, u47_6, u47_7, u47_10, u47_11, u47_12, u47_15, u47_16, u47_18, u47_21, u47_22, u47_23, u47_26, u47_27, u47_28, u47_31, u47_32, u47_33, u47_36, u47_37, u47_38, u47_41, u47_42, u47_43, u47_46, k0, kd_sI, true_or, or_true, wr_id, rng, rngp, if_pos, if_neg, if_true, if_false, reduceCtorEq, true_and, and_true, and_self, Option.toList_some, Option.toList_none, List.cons_append, List.nil_append, Int.toNat_natCast]
  · refine ⟨?_, ?_, ?_, ?_, ?_, ?_, ?_, ?_, ?_⟩ <;> (simp (disch := decide) only [gI_sI_ne, gI_sI_eq]; rfl)
theorem w_become {sc : av_S} {d : Nat} {h : av_H} {w o : Nat} {σ : sS} (W : WW h w) (O : CW h o σ) (e : o + 162 ≤ w ∨ w + 162 ≤ o) (h4 : sg σ 4 = 0 ∨ sg σ 4 = 1) (h5 : sg σ 5 = 0 ∨ sg σ 5 = 1) (hn : ∀ n, n < sN σ → (sf σ n 5 = 0 ∨ sf σ n 5 = 1) ∧ (sf σ n 9 = 0 ∨ sf σ n 9 = 1)) : ∃ h', (∀ Q, WP sc (d + 4) 48 0 [(0, .inr (.inl w)), (1, .inr (.inl o))] [] h Q ↔ Q none h') ∧ CW h' w σ ∧ Fr h h' w (w + 162) := by
  obtain ⟨z1, z2⟩ := O.sz
  obtain ⟨K, nw⟩ := W
  obtain ⟨KO, IJ, hN, cn, nwo⟩ := id O
  obtain ⟨X, eX⟩ : ∃ X, X = sI (sI (sI (sI (sI (sI (sI (sI (sI h w 1 (sg σ 0)) w 2 (sJoins σ)) w 3 (sg σ 1)) w 4 (sg σ 2)) w 5 (sg σ 3)) w 6 (sg σ 4)) w 7 (sg σ 5)) w 8 (sg σ 7)) w 9 (sg σ 8) := ⟨_, rfl⟩
  have FX0 : Fr h X w (w + 1) := by rw [eX]; exact (((((((fr1.tr fr1).tr fr1).tr fr1).tr fr1).tr fr1).tr fr1).tr fr1).tr fr1
  have KX : WK X w := by rw [eX]; exact K
  have IX : WI X w σ := by
    rw [eX]
    refine ⟨?_, ?_, ?_, ?_, ?_, ?_, ?_, ?_, ?_⟩ <;> simp (disch := decide) only [gI_sI_ne, gI_sI_eq]
  have FX : Fr h X w (w + 162) := FX0.wd (Nat.le_refl _) (by omega)
  have OX := O.fr FX (by omega)
  have nwX : ∀ n, n < 8 → NW X (w + 2 + 20 * n) := fun n hn => (nw n hn).fr FX0 (by omega)
  have lp : ∀ (u n : Nat) (hk : av_H), u = sN σ - n → n ≤ sN σ → WK hk w → WI hk w σ → (∀ t, t < n → CN hk (w + 2 + 20 * t) (sf σ t) (sr σ t)) → (∀ t, t < 8 → NW hk (w + 2 + 20 * t)) → CW hk o σ → Fr h hk w (w + 162) → WP sc (d + 4) 48 74 [(0, .inr (.inl w)), (1, .inr (.inl o)), (2, .inl (n : Int))] [] hk (fun r h' => r = none ∧ CW h' w σ ∧ Fr h h' w (w + 162)) := by
    intro u
    induction u with
    | zero =>
      intro n hk hu hn' K1 I1 c1 c2 O1 F1
      have e : n = sN σ := by omega
      subst e
      have j0 := K1.1
      have y1 := I1.1
      rw [u48_74]
      simp (disch := omega) only [u48_0, u48_1, u48_2, u48_5, u48_8, u48_9, u48_10, u48_13, u48_16, u48_17, u48_18, u48_21, u48_24, u48_25, u48_26, u48_29, u48_32, u48_33, u48_34, u48_37, u48_40, u48_41, u48_42, u48_45, u48_48, u48_49, u48_50, u48_53, u48_56, u48_57, u48_58, u48_61, u48_64, u48_65, u48_66, u48_69, u48_72, u48_73, u48_75, u48_76, u48_79, u48_82, u48_83, u48_86, u48_87, u48_88, u48_89, u48_92, u48_93, u48_94, u48_97, u48_100, u48_103, j0, y1, wr_id, rng, rngp, if_pos, if_neg, if_true, if_false, reduceCtorEq, true_and, and_true, and_self, Option.toList_some, Option.toList_none, List.cons_append, List.nil_append, Int.toNat_natCast]
      exact ⟨⟨K1, I1, hN, c1, c2⟩, F1⟩
    | succ u ih =>
      intro n hk hu hn' K1 I1 c1 c2 O1 F1
      have n8 : n < 8 := by omega
      have hlt : n < sN σ := by omega
      have N := O1.2.2.2.1 n hlt
      obtain ⟨h1, w1, N1, F2⟩ := n_become (sc := sc) (d := d) (c2 n n8) N (by omega) (hn n hlt).1 (hn n hlt).2
      have K2 := K1.fr F2 (by omega)
      have I2 := I1.fr F2 (by omega)
      have nx := ih (n + 1) h1 (by omega) (by omega) K2 I2 (fun t ht => by
        by_cases q : t = n
        · rw [q]; exact N1
        · exact (c1 t (by omega)).fr F2 (by omega)) (fun t ht => by
        by_cases q : t = n
        · rw [q]; exact N1.nw
        · exact (c2 t ht).fr F2 (by omega)) (O1.fr F2 (by omega)) (F1.tr (F2.wd (by omega) (by omega)))
      obtain ⟨j0, j1, j2, j3⟩ := id K1
      have y1 := I1.1
      have j3' := j3 n n8
      obtain ⟨x0, x1, x2, x3⟩ := id O1.1
      have x3' := x3 n n8
      have kn : (kd hk (w + 2 + 20 * n)).1 = 1 := by obtain ⟨pa, la, K, -⟩ := c2 n n8; exact K.1
      rw [u48_74]
      clear N N1 c1 c2 O1 K2 I2
      simp (disch := omega) only [u48_0, u48_1, u48_2, u48_5, u48_8, u48_9, u48_10, u48_13, u48_16, u48_17, u48_18, u48_21, u48_24, u48_25, u48_26, u48_29, u48_32, u48_33, u48_34, u48_37, u48_40, u48_41, u48_42, u48_45, u48_48, u48_49, u48_50, u48_53, u48_56, u48_57, u48_58, u48_61, u48_64, u48_65, u48_66, u48_69, u48_72, u48_73, u48_75, u48_76, u48_79, u48_82, u48_83, u48_86, u48_87, u48_88, u48_89, u48_92, u48_93, u48_94, u48_97, u48_100, u48_103, j0, j1, j2, j3', y1, x0, x1, x2, x3', kn, w1, true_or, or_true, wr_id, rng, rngp, if_pos, if_neg, if_true, if_false, reduceCtorEq, true_and, and_true, and_self, Option.toList_some, Option.toList_none, List.cons_append, List.nil_append, Int.toNat_natCast]
      rw [show (n : Int) + 1 = ((n + 1 : Nat) : Int) by omega]
      exact nx
  have big : WP sc (d + 4) 48 0 [(0, .inr (.inl w)), (1, .inr (.inl o))] [] h (fun r h' => r = none ∧ CW h' w σ ∧ Fr h h' w (w + 162)) := by
    have := lp _ 0 X rfl (by omega) KX IX (fun t ht => absurd ht (Nat.not_lt_zero t)) nwX OX FX
    obtain ⟨i1, i2, i3, i4, i5, i6, i7, i8, i9⟩ := IJ
    have k0 := K.1
    have c0 := KO.1
    have ne : o ≠ w := by omega
    clear lp IX OX FX FX0 nwX
    simp (disch := first | assumption | omega) only [u48_0, u48_1, u48_2, u48_5, u48_8, u48_9, u48_10, u48_13, u48_16, u48_17, u48_18, u48_21, u48_24, u48_25, u48_26, u48_29, u48_32, u48_33, u48_34, u48_37, u48_40, u48_41, u48_42, u48_45, u48_48, u48_49, u48_50, u48_53, u48_56, u48_57, u48_58, u48_61, u48_64, u48_65, u48_66, u48_69, u48_72, u48_73, u48_75, u48_76, u48_79, u48_82, u48_83, u48_86, u48_87, u48_88, u48_89, u48_92, u48_93, u48_94, u48_97, u48_100, u48_103, k0, c0, i1, i2, i3, i4, i5, i6, i7, i8, i9, kd_sI, gI_sI_nb, h4, h5, wr_id, rng, rngp, if_pos, if_neg, if_true, if_false, reduceCtorEq, true_and, and_true, and_self, Option.toList_some, Option.toList_none, List.cons_append, List.nil_append, Int.toNat_natCast]
    rw [← eX]
    exact this
  obtain ⟨r, h', hw, rfl, b⟩ := big.evE
  exact ⟨h', hw, b⟩
theorem w_addNode {sc : av_S} {d : Nat} {h : av_H} {w : Nat} {σ : sS} {kind a b k : Int} (C : CW h w σ) (h8 : sg σ 0 < 8) (hJ : 0 ≤ sJoins σ ∧ sJoins σ ≤ 8) (hF : (∀ j, 4 ≤ j → sf σ (sN σ) j = 0) ∧ ∀ j, sr σ (sN σ) j = []) : ∃ h', (∀ Q, WP sc (d + 4) 58 0 [(0, .inr (.inl w)), (1, .inl kind), (2, .inl a), (3, .inl b), (4, .inl k)] [] h Q ↔ Q (some (.inl (sg σ 0))) h') ∧ CW h' w (sNode σ kind a b k) ∧ Fr h h' w (w + 162) := by
  obtain ⟨z1, z2⟩ := C.sz
  obtain ⟨K, I, hN, cn, nw⟩ := id C
  obtain ⟨k0, k1, k2, k3⟩ := id K
  have hs8 : sN σ < 8 := by omega
  have k3' : gR h (w + 1) (sg σ 0).toNat = w + 2 + 20 * sN σ := by
    rw [show (sg σ 0).toNat = sN σ from rfl]; exact k3 _ hs8
  obtain ⟨h1, ws, N1, F1⟩ := n_start (sc := sc) (d := d) (kind := kind) (x := a) (y := b) (z := k) (nw (sN σ) hs8)
  have kn : (kd h (w + 2 + 20 * sN σ)).1 = 1 := by obtain ⟨pa, la, K, -⟩ := nw _ hs8; exact K.1
  have K1 := K.fr F1 (by omega)
  have I1 := I.fr F1 (by omega)
  obtain ⟨j0, -⟩ := id K1
  obtain ⟨y1, y2, y3, y4, y5, y6, y7, y8, y9⟩ := id I1
  have eN : sN (sNode σ kind a b k) = sN σ + 1 := by
    show (sg σ 0 + 1).toNat = (sg σ 0).toNat + 1
    omega
  have ef : ∀ t, t ≠ sN σ → ∀ j, sf (sNode σ kind a b k) t j = sf σ t j := by
    intro t ht j
    unfold sNode
    simp only [sf_ug, sf_uf, ht, false_and, if_false]
  have efn : sf (sNode σ kind a b k) (sN σ) = fF kind a b k := by
    funext j
    unfold sNode fF
    simp only [sf_ug, sf_uf, true_and]
    by_cases e3 : j = 3
    · rw [if_pos e3, if_neg (by omega), if_neg (by omega), if_neg (by omega), if_pos e3]
    · rw [if_neg e3, if_neg e3]
      by_cases e2 : j = 2
      · rw [if_pos e2, if_neg (by omega), if_neg (by omega), if_pos e2]
      · rw [if_neg e2, if_neg e2]
        by_cases e1 : j = 1
        · rw [if_pos e1, if_neg (by omega), if_pos e1]
        · rw [if_neg e1, if_neg e1]
          by_cases e0 : j = 0
          · rw [if_pos e0, if_pos e0]
          · rw [if_neg e0, if_neg e0]
            exact hF.1 j (by omega)
  have er : ∀ t j, sr (sNode σ kind a b k) t j = sr σ t j := fun _ _ => rfl
  have ern : sr (sNode σ kind a b k) (sN σ) = fun _ => [] := funext fun j => (er _ _).trans (hF.2 j)
  have eJ : sJoins (sNode σ kind a b k) = sJoins σ + (if kind = 4 then 1 else 0) := by
    unfold sJoins
    rw [eN]
    show sumN (fun n => if sf (sNode σ kind a b k) n 0 = 4 then (1 : Int) else 0) (sN σ) + (if sf (sNode σ kind a b k) (sN σ) 0 = 4 then 1 else 0) = _
    rw [show sf (sNode σ kind a b k) (sN σ) 0 = kind by rw [efn]; rfl]
    congr 1
    exact sumN_cg (fun t ht => by rw [ef t (by omega) 0])
  have fin : ∀ (g : av_H) (J : Int), J = sJoins (sNode σ kind a b k) → Fr h1 g w (w + 1) → (∀ j, gI g w j = if j = 1 then sg σ 0 + 1 else if j = 2 then J else gI h1 w j) → (∀ j, gR g w j = gR h1 w j) → CW g w (sNode σ kind a b k) ∧ Fr h g w (w + 162) := by
    intro g J hJ2 F2 hg hr
    obtain ⟨q0, q1, q2, q3⟩ := K1
    refine ⟨⟨⟨by rw [F2.k]; exact q0, by rw [hr]; exact q1, by rw [F2.k]; exact q2, fun n hn => by rw [F2.r (by omega)]; exact q3 n hn⟩, ⟨hg 1, (hg 2).trans hJ2, (hg 3).trans y3, (hg 4).trans y4, (hg 5).trans y5, (hg 6).trans y6, (hg 7).trans y7, (hg 8).trans y8, (hg 9).trans y9⟩, ?_, fun n hn => ?_, fun n hn => ?_⟩, (F1.wd (by omega) (by omega)).tr (F2.wd (Nat.le_refl _) (by omega))⟩
    · show 0 ≤ sg σ 0 + 1 ∧ sg σ 0 + 1 ≤ 8
      clear hg; omega
    · clear hg hr
      by_cases q : n = sN σ
      · subst q
        rw [efn, ern]
        exact N1.fr F2 (by omega)
      · rw [show sf (sNode σ kind a b k) n = sf σ n from funext (ef n q), show sr (sNode σ kind a b k) n = sr σ n from funext (er n)]
        rw [eN] at hn
        exact ((cn n (by omega)).fr F1 (by omega)).fr F2 (by omega)
    · clear hg hr
      by_cases q : n = sN σ
      · subst q
        exact N1.nw.fr F2 (by omega)
      · exact ((nw n hn).fr F1 (by omega)).fr F2 (by omega)
  have i1 := I.1
  by_cases c4 : kind = 4
  · rw [if_pos c4] at eJ
    have Ff := fin (sI (sI h1 w 2 (sJoins σ + 1)) w 1 (sg σ 0 + 1)) (sJoins σ + 1) eJ.symm (fr1.tr fr1) (fun j => by
      rw [gI_sI]
      by_cases e1 : j = 1
      · rw [if_pos ⟨rfl, e1⟩, if_pos e1]
      · rw [if_neg (fun q => e1 q.2), if_neg e1, gI_sI]
        by_cases e2 : j = 2
        · rw [if_pos ⟨rfl, e2⟩, if_pos e2]
        · rw [if_neg (fun q => e2 q.2), if_neg e2]) (fun _ => rfl)
    refine ⟨_, fun Q => ?_, Ff.1, Ff.2⟩
    have y1' : gI (sI h1 w 2 (sJoins σ + 1)) w 1 = sg σ 0 := by rw [gI_sI_ne (by decide)]; exact y1
    have y1'' : gI (sI (sI h1 w 2 (sJoins σ + 1)) w 1 (sg σ 0 + 1)) w 1 = sg σ 0 + 1 := gI_sI_eq rfl
    rw [c4] at ws
    clear Ff fin N1
    rw [c4]
    simp (disch := omega) only [u58_0, u58_1, u58_4, u58_6, u58_9, u58_11, u58_12, u58_13, u58_16, u58_17, u58_20, u58_21, u58_22, u58_23, u58_24, u58_26, u58_29, u58_30, u58_31, u58_34, u58_35, u58_36, u58_39, u58_40, u58_41, u58_44, u58_45, u58_46, u58_49, u58_50, u58_51, u58_54, u58_55, u58_58, u58_59, u58_60, k0, k1, k2, k3', i1, kn, ws, j0, y2, y1', y1'', kd_sI, true_or, or_true, wr_id, rng, rngp, if_pos, if_neg, if_true, if_false, reduceCtorEq, true_and, and_true, and_self, Option.toList_some, Option.toList_none, List.cons_append, List.nil_append, Int.toNat_natCast]
    rw [Int.add_sub_cancel]
  · rw [if_neg c4, Int.add_zero] at eJ
    have Ff := fin (sI h1 w 1 (sg σ 0 + 1)) (gI h1 w 2) (y2.trans eJ.symm) fr1 (fun j => by
      rw [gI_sI]
      by_cases e1 : j = 1
      · rw [if_pos ⟨rfl, e1⟩, if_pos e1]
      · rw [if_neg (fun q => e1 q.2), if_neg e1]
        by_cases e2 : j = 2
        · rw [if_pos e2, e2]
        · rw [if_neg e2]) (fun _ => rfl)
    refine ⟨_, fun Q => ?_, Ff.1, Ff.2⟩
    have y1'' : gI (sI h1 w 1 (sg σ 0 + 1)) w 1 = sg σ 0 + 1 := gI_sI_eq rfl
    clear Ff fin N1
    simp (disch := omega) only [u58_0, u58_1, u58_4, u58_6, u58_9, u58_11, u58_12, u58_13, u58_16, u58_17, u58_20, u58_21, u58_22, u58_23, u58_24, u58_26, u58_29, u58_30, u58_31, u58_34, u58_35, u58_36, u58_39, u58_40, u58_41, u58_44, u58_45, u58_46, u58_49, u58_50, u58_51, u58_54, u58_55, u58_58, u58_59, u58_60, k0, k1, k2, k3', i1, kn, ws, j0, y1, y1'', c4, kd_sI, true_or, or_true, wr_id, rng, rngp, if_pos, if_neg, if_true, if_false, reduceCtorEq, true_and, and_true, and_self, Option.toList_some, Option.toList_none, List.cons_append, List.nil_append, Int.toNat_natCast]
    rw [Int.add_sub_cancel]
