/-! parts of the class -/
theorem RowIs.uq {h : av_H} {r cap : Nat} {L M : List Int} (a : RowIs h r cap L) (b : RowIs h r cap M) : L = M := by
  have e : L.length = M.length := by
    have := a.2.1.symm.trans b.2.1
    omega
  refine List.ext_getElem e (fun i h1 h2 => ?_)
  have x1 := a.2.2.2 i h1
  have x2 := b.2.2.2 i h2
  rw [x1, List.getD_eq_getElem?_getD, List.getD_eq_getElem?_getD, List.getElem?_eq_getElem h1, List.getElem?_eq_getElem h2] at x2
  exact x2
/-- a part: its sums lie in the next cell, its record in the two after it -/
def PK (h : av_H) (p : Nat) : Prop := (kd h p).1 = 2 ∧ gR h p 1 = p + 1 ∧ kd h (p + 1) = (10, 4) ∧ gR h p 2 = p + 2 ∧ ∃ L, RowIs h (p + 2) 60 L
theorem PK.fr {h h' : av_H} {lo hi p : Nat} (K : PK h p) (F : Fr h h' lo hi) (e : p + 4 ≤ lo ∨ hi ≤ p) : PK h' p := by
  obtain ⟨a, b, c, q, L, r⟩ := K
  exact ⟨by rw [F.k]; exact a, by rw [F.r (by omega)]; exact b, by rw [F.k]; exact c, by rw [F.r (by omega)]; exact q, L, r.fr F (by omega)⟩
theorem p_startAnew {sc : av_S} {d : Nat} {h : av_H} {p : Nat} (K : PK h p) : ∃ h', (∀ Q, WP sc (d + 2) 23 0 [(0, .inr (.inl p))] [] h Q ↔ Q none h') ∧ PK h' p ∧ RowIs h' (p + 2) 60 [] ∧ gI h' p 0 = 0 ∧ (∀ k, k < 4 → gI h' (p + 1) k = 0) ∧ gI h' p 3 = -1 ∧ gI h' p 4 = 0 ∧ Fr h h' p (p + 4) := by
  obtain ⟨k0, k1, k2, k3, L, k4⟩ := id K
  have loop : ∀ (t n : Nat) (hk : av_H), t = 4 - n → n ≤ 4 → Fr h hk p (p + 2) → (∀ k, gR hk p k = gR h p k) → gI hk p 0 = 0 → (∀ j, j < n → gI hk (p + 1) j = 0) → WP sc (d + 2) 23 7 [(0, .inr (.inl p)), (1, .inl (n : Int))] [] hk (fun r h' => r = none ∧ PK h' p ∧ RowIs h' (p + 2) 60 [] ∧ gI h' p 0 = 0 ∧ (∀ k, k < 4 → gI h' (p + 1) k = 0) ∧ gI h' p 3 = -1 ∧ gI h' p 4 = 0 ∧ Fr h h' p (p + 4)) := by
    intro t
    induction t with
    | zero =>
      intro n hk ht hn F R z0 z1
      have e : n = 4 := by omega
      subst e
      have rk : RowIs hk (p + 2) 60 L := k4.fr F (by omega)
      obtain ⟨g, w, R2, F2⟩ := r_drop (sc := sc) (d := d) rk.1
      have q0 : (kd hk p).1 = 2 := by rw [F.k]; exact k0
      have q1 : gR hk p 1 = p + 1 := by rw [R]; exact k1
      have q2 : gR hk p 2 = p + 2 := by rw [R]; exact k3
      have q3 : (kd g p).1 = 2 := by rw [F2.k]; exact q0
      have q5 : (kd hk (p + 2)).1 = 3 := rk.1.1
      rw [u23_7]
      simp (disch := omega) only [u23_0, u23_1, u23_2, u23_5, u23_6, u23_8, u23_9, u23_12, u23_13, u23_16, u23_17, u23_18, u23_19, u23_22, u23_25, u23_26, u23_29, u23_32, u23_33, u23_34, u23_37, u23_38, u23_39, u23_42, q0, q1, q2, q3, q5, w, kd_sI, wr_id, rng, rngp, if_pos, if_neg, if_true, if_false, reduceCtorEq, true_and, and_true, and_self, Option.toList_some, Option.toList_none, List.cons_append, List.nil_append, Int.toNat_natCast]
      have F3 : Fr g (sI (sI g p 3 (-1)) p 4 0) p (p + 2) := (Fr.sI (by omega)).tr (Fr.sI (by omega))
      have RR : RowIs (sI (sI g p 3 (-1)) p 4 0) (p + 2) 60 [] := R2.fr F3 (by omega)
      refine ⟨⟨q3, ?_, ?_, ?_, [], RR⟩, RR, ?_, fun k hk' => ?_, ?_, gI_sI_eq rfl, ((F.wd (by omega) (by omega)).tr (F2.wd (by omega) (by omega))).tr (F3.wd (by omega) (by omega))⟩
      · rw [gR_sI, gR_sI, F2.r (by omega)]; exact q1
      · rw [kd_sI, kd_sI, F2.k, F.k]; exact k2
      · rw [gR_sI, gR_sI, F2.r (by omega)]; exact q2
      · rw [gI_sI_ne (by omega), gI_sI_ne (by omega), F2.i (by omega)]; exact z0
      · rw [gI_sI_nb (by omega), gI_sI_nb (by omega), F2.i (by omega)]; exact z1 k hk'
      · rw [gI_sI_ne (by omega), gI_sI_eq rfl]
    | succ t ih =>
      intro n hk ht hn F R z0 z1
      have q0 : (kd hk p).1 = 2 := by rw [F.k]; exact k0
      have q1 : gR hk p 1 = p + 1 := by rw [R]; exact k1
      have q2 : kd hk (p + 1) = (10, 4) := by rw [F.k]; exact k2
      rw [u23_7]
      simp (disch := omega) only [u23_0, u23_1, u23_2, u23_5, u23_6, u23_8, u23_9, u23_12, u23_13, u23_16, u23_17, u23_18, u23_19, u23_22, u23_25, u23_26, u23_29, u23_32, u23_33, u23_34, u23_37, u23_38, u23_39, u23_42, q0, q1, q2, kd_sI, le_t, lt_t, wr_id, rng, rngp, if_pos, if_neg, if_true, if_false, reduceCtorEq, true_and, and_true, and_self, Option.toList_some, Option.toList_none, List.cons_append, List.nil_append, Int.toNat_natCast]
      rw [show (n : Int) + 1 = ((n + 1 : Nat) : Int) by omega]
      refine ih (n + 1) _ (by omega) (by omega) (F.tr (Fr.sI (by omega))) (fun k => R k) (by rw [gI_sI_nb (by omega)]; exact z0) (fun j hj => ?_)
      by_cases e : j = n
      · rw [gI_sI_eq e]
      · rw [gI_sI_ne e]; exact z1 j (by omega)
  have big : WP sc (d + 2) 23 0 [(0, .inr (.inl p))] [] h (fun r h' => r = none ∧ PK h' p ∧ RowIs h' (p + 2) 60 [] ∧ gI h' p 0 = 0 ∧ (∀ k, k < 4 → gI h' (p + 1) k = 0) ∧ gI h' p 3 = -1 ∧ gI h' p 4 = 0 ∧ Fr h h' p (p + 4)) := by
    simp (disch := omega) only [u23_0, u23_1, u23_2, u23_5, u23_6, u23_8, u23_9, u23_12, u23_13, u23_16, u23_17, u23_18, u23_19, u23_22, u23_25, u23_26, u23_29, u23_32, u23_33, u23_34, u23_37, u23_38, u23_39, u23_42, k0, wr_id, rng, rngp, if_pos, if_neg, if_true, if_false, reduceCtorEq, true_and, and_true, and_self, Option.toList_some, Option.toList_none, List.cons_append, List.nil_append, Int.toNat_natCast]
    rw [show (0 : Int) = ((0 : Nat) : Int) from rfl]
    exact loop _ 0 _ rfl (by omega) (Fr.sI (by omega)) (fun _ => rfl) (gI_sI_eq rfl) (fun j hj => by omega)
  obtain ⟨r, h', hw, rfl, a⟩ := big.evE
  exact ⟨h', hw, a⟩
theorem p_become {sc : av_S} {d : Nat} {h : av_H} {p o : Nat} (K : PK h p) (G : PK h o) (e : o + 4 ≤ p ∨ p + 4 ≤ o) : ∃ h', (∀ Q, WP sc (d + 2) 24 0 [(0, .inr (.inl p)), (1, .inr (.inl o))] [] h Q ↔ Q none h') ∧ PK h' p ∧ (∀ L, RowIs h (o + 2) 60 L → RowIs h' (p + 2) 60 L) ∧ gI h' p 0 = gI h o 0 ∧ (∀ k, k < 4 → gI h' (p + 1) k = gI h (o + 1) k) ∧ gI h' p 3 = gI h o 3 ∧ gI h' p 4 = gI h o 4 ∧ Fr h h' p (p + 4) := by
  obtain ⟨k0, k1, k2, k3, L, k4⟩ := id K
  obtain ⟨j0, j1, j2, j3, M, j4⟩ := id G
  have F1 : Fr h (cp (sI h p 0 (gI h o 0)) (o + 1) (Int.toNat 0) (p + 1) (Int.toNat 0) (Int.toNat 4)) p (p + 2) := (Fr.sI (by omega)).tr (Fr.cp (by omega))
  obtain ⟨g, w, R2, F2⟩ := r_become (sc := sc) (d := d) (k4.fr F1 (by omega)).1 (j4.fr F1 (by omega)) j4.2.2.1 (by omega) (by omega) (by omega)
  have m1 : (kd h (p + 2)).1 = 3 := k4.1.1
  have q0 : (kd g p).1 = 2 := by rw [F2.k, F1.k]; exact k0
  have q1 : (kd g o).1 = 2 := by rw [F2.k, F1.k]; exact j0
  have q3 : gI g o 3 = gI h o 3 := by rw [F2.i (by omega), F1.i (by omega)]
  have q4 : gI g o 4 = gI h o 4 := by rw [F2.i (by omega), F1.i (by omega)]
  have F3 : Fr g (sI (sI g p 3 (gI h o 3)) p 4 (gI h o 4)) p (p + 2) := (Fr.sI (by omega)).tr (Fr.sI (by omega))
  have RR : RowIs (sI (sI g p 3 (gI h o 3)) p 4 (gI h o 4)) (p + 2) 60 M := R2.fr F3 (by omega)
  refine ⟨sI (sI g p 3 (gI h o 3)) p 4 (gI h o 4), fun Q => ?_, ⟨q0, ?_, ?_, ?_, M, RR⟩, fun L' hL' => ?_, ?_, fun k hk => ?_, ?_, gI_sI_eq rfl, ((F1.wd (by omega) (by omega)).tr (F2.wd (by omega) (by omega))).tr (F3.wd (by omega) (by omega))⟩
  · simp (disch := omega) only [u24_0, u24_1, u24_2, u24_5, u24_8, u24_9, u24_12, u24_13, u24_14, u24_17, u24_18, u24_19, u24_22, u24_23, u24_26, u24_27, u24_30, u24_33, u24_34, u24_35, u24_38, u24_41, u24_42, u24_43, u24_46, u24_49, k0, k1, k2, k3, j0, j1, j2, j3, m1, q0, q1, q3, q4, w, kd_sI, kd_cp, gR_sI, gR_cp, gI_sI_nb, le_t, lt_t, wr_id, rng, rngp, if_pos, if_neg, if_true, if_false, reduceCtorEq, true_and, and_true, and_self, Option.toList_some, Option.toList_none, List.cons_append, List.nil_append, Int.toNat_natCast]
  · rw [gR_sI, gR_sI, F2.r (by omega)]; exact k1
  · rw [kd_sI, kd_sI, F2.k, F1.k]; exact k2
  · rw [gR_sI, gR_sI, F2.r (by omega)]; exact k3
  · rw [hL'.uq j4]; exact RR
  · rw [gI_sI_ne (by omega), gI_sI_ne (by omega), F2.i (by omega), gI_cp, if_neg (by omega), gI_sI_eq rfl]
  · rw [gI_sI_nb (by omega), gI_sI_nb (by omega), F2.i (by omega), gI_cp, if_pos ⟨rfl, by show 0 ≤ k; omega, by show k < 0 + 4; omega⟩, gI_sI_nb (by omega)]
    congr 1
    show 0 + (k - 0) = k
    omega
  · rw [gI_sI_ne (by omega), gI_sI_eq rfl]
