/-! rows of the class -/
theorem le_t {a b : Int} (h : a ≤ b) : (a ≤ b) = True := eq_true h
theorem lt_t {a b : Int} (h : a < b) : (a < b) = True := eq_true h
theorem Fr.rf {h : av_H} {lo hi : Nat} : Fr h h lo hi := ⟨rfl, fun _ => rfl, fun _ _ _ => rfl, fun _ _ _ => rfl⟩
theorem Fr.tr {h h1 h2 : av_H} {lo hi : Nat} (a : Fr h h1 lo hi) (b : Fr h1 h2 lo hi) : Fr h h2 lo hi := ⟨b.1.trans a.1, fun q => (b.2.1 q).trans (a.2.1 q), fun q k e => (b.2.2.1 q k e).trans (a.2.2.1 q k e), fun q k e => (b.2.2.2 q k e).trans (a.2.2.2 q k e)⟩
theorem Fr.wd {h h' : av_H} {lo hi lo' hi' : Nat} (a : Fr h h' lo hi) (e1 : lo' ≤ lo) (e2 : hi ≤ hi') : Fr h h' lo' hi' := ⟨a.1, a.2.1, fun q k e => a.2.2.1 q k (by omega), fun q k e => a.2.2.2 q k (by omega)⟩
theorem Fr.sI {h : av_H} {a k lo hi : Nat} {z : Int} (e : lo ≤ a ∧ a < hi) : Fr h (sI h a k z) lo hi := ⟨rfl, fun _ => rfl, fun q j h1 => gI_sI_nb (by omega), fun _ _ _ => rfl⟩
theorem Fr.sR {h : av_H} {a k r lo hi : Nat} (e : lo ≤ a ∧ a < hi) : Fr h (sR h a k r) lo hi := ⟨rfl, fun _ => rfl, fun _ _ _ => rfl, fun q j h1 => by rw [gR_sR, if_neg (by omega)]⟩
theorem Fr.cp {h : av_H} {a s b t n lo hi : Nat} (e : lo ≤ b ∧ b < hi) : Fr h (cp h a s b t n) lo hi := ⟨rfl, fun _ => rfl, fun q j h1 => by rw [gI_cp, if_neg (by omega)], fun _ _ _ => rfl⟩
theorem Fr.k {h h' : av_H} {lo hi : Nat} (a : Fr h h' lo hi) (q : Nat) : kd h' q = kd h q := a.2.1 q
theorem Fr.i {h h' : av_H} {lo hi : Nat} (a : Fr h h' lo hi) {q k : Nat} (e : q < lo ∨ hi ≤ q) : gI h' q k = gI h q k := a.2.2.1 q k e
theorem Fr.r {h h' : av_H} {lo hi : Nat} (a : Fr h h' lo hi) {q k : Nat} (e : q < lo ∨ hi ≤ q) : gR h' q k = gR h q k := a.2.2.2 q k e
theorem RowK.fr {h h' : av_H} {lo hi r cap : Nat} (K : RowK h r cap) (F : Fr h h' lo hi) (e : r + 2 ≤ lo ∨ hi ≤ r) : RowK h' r cap := ⟨by rw [F.k]; exact K.1, by rw [F.r (by omega)]; exact K.2.1, by rw [F.k]; exact K.2.2⟩
theorem RowIs.fr {h h' : av_H} {lo hi r cap : Nat} {L : List Int} (K : RowIs h r cap L) (F : Fr h h' lo hi) (e : r + 2 ≤ lo ∨ hi ≤ r) : RowIs h' r cap L := ⟨K.1.fr F e, by rw [F.i (by omega)]; exact K.2.1, K.2.2.1, fun i hi => by rw [F.i (by omega)]; exact K.2.2.2 i hi⟩
theorem r_at {sc : av_S} {d : Nat} {h : av_H} {r cap : Nat} {L : List Int} {i : Int} (H : RowIs h r cap L) (Q : Option av_V → av_H → Prop) : WP sc (d + 1) 26 0 [(0, .inr (.inl r)), (1, .inl i)] [] h Q ↔ Q (some (.inl (if 0 ≤ i ∧ i < (L.length : Int) then L.getD i.toNat 0 else -1))) h := by
  obtain ⟨⟨k0, k1, k2⟩, hs, hc, hv⟩ := H
  by_cases c1 : 0 ≤ i
  · by_cases c2 : i < (L.length : Int)
    · have v := hv i.toNat (by omega)
      rw [if_pos ⟨c1, c2⟩]
      simp (disch := omega) only [u26_0, u26_1, u26_4, u26_5, u26_6, u26_9, u26_12, u26_13, u26_16, u26_17, u26_18, u26_21, u26_22, k0, k1, k2, hs, v, wr_id, rng, rngp, if_pos, if_neg, if_true, if_false, reduceCtorEq, true_and, and_true, and_self, Option.toList_some, Option.toList_none, List.cons_append, List.nil_append, Int.toNat_natCast]
    · rw [if_neg (fun q => c2 q.2)]
      simp (disch := omega) only [u26_0, u26_1, u26_4, u26_5, u26_6, u26_9, u26_12, u26_13, u26_16, u26_17, u26_18, u26_21, u26_22, k0, k1, k2, hs, wr_id, rng, rngp, if_pos, if_neg, if_true, if_false, reduceCtorEq, true_and, and_true, and_self, Option.toList_some, Option.toList_none, List.cons_append, List.nil_append, Int.toNat_natCast]
  · rw [if_neg (fun q => c1 q.1)]
    simp (disch := omega) only [u26_0, u26_1, u26_4, u26_5, u26_6, u26_9, u26_12, u26_13, u26_16, u26_17, u26_18, u26_21, u26_22, k0, k1, k2, hs, wr_id, rng, rngp, if_pos, if_neg, if_true, if_false, reduceCtorEq, true_and, and_true, and_self, Option.toList_some, Option.toList_none, List.cons_append, List.nil_append, Int.toNat_natCast]
theorem r_put {sc : av_S} {d : Nat} {h : av_H} {r cap : Nat} {L : List Int} {v : Int} (H : RowIs h r cap L) (hL : L.length < cap) (hcap : cap < 100000) : ∃ h', (∀ Q, WP sc (d + 1) 27 0 [(0, .inr (.inl r)), (1, .inl v)] [] h Q ↔ Q none h') ∧ RowIs h' r cap (L ++ [v]) ∧ Fr h h' r (r + 2) := by
  obtain ⟨⟨k0, k1, k2⟩, hs, hc, hv⟩ := H
  refine ⟨sI (sI h (r + 1) L.length v) r 1 ((L.length : Int) + 1), fun Q => ?_, ⟨⟨k0, k1, k2⟩, ?_, ?_, fun i hi => ?_⟩, (Fr.sI (by omega)).tr (Fr.sI (by omega))⟩
  · simp (disch := omega) only [u27_0, u27_1, u27_4, u27_5, u27_8, u27_9, u27_12, u27_13, u27_16, u27_17, u27_20, u27_21, u27_22, u27_23, u27_24, u27_27, u27_28, u27_29, u27_32, k0, k1, k2, hs, kd_sI, gR_sI, gI_sI_nb, wr_id, rng, rngp, if_pos, if_neg, if_true, if_false, reduceCtorEq, true_and, and_true, and_self, Option.toList_some, Option.toList_none, List.cons_append, List.nil_append, Int.toNat_natCast]
  · rw [gI_sI_eq rfl, List.length_append]; simp
  · rw [List.length_append]; simp; omega
  · rw [List.length_append] at hi
    simp at hi
    rw [gI_sI_nb (by omega)]
    by_cases e : i = L.length
    · rw [gI_sI_eq e, e]
      have := gd_r (l := L) (m := [v]) (i := 0)
      rw [Nat.add_zero] at this
      rw [this]; rfl
    · rw [gI_sI_ne e, gd_l (by omega)]
      exact hv i (by omega)
theorem r_take {sc : av_S} {d : Nat} {h : av_H} {r cap : Nat} {L : List Int} (H : RowIs h r cap L) (hL : L.length ≠ 0) (hcap : cap < 100000) : ∃ h', (∀ Q, WP sc (d + 1) 28 0 [(0, .inr (.inl r))] [] h Q ↔ Q (some (.inl (L.getD 0 0))) h') ∧ RowIs h' r cap (L.drop 1) ∧ Fr h h' r (r + 2) := by
  obtain ⟨⟨k0, k1, k2⟩, hs, hc, hv⟩ := H
  have v : gI h (r + 1) (Int.toNat 0) = L.getD 0 0 := hv 0 (by omega)
  refine ⟨cp (sI h r 1 ((L.length : Int) - 1)) (r + 1) (Int.toNat 1) (r + 1) (Int.toNat 0) ((L.length : Int) - 1).toNat, fun Q => ?_, ⟨⟨k0, k1, k2⟩, ?_, ?_, fun i hi => ?_⟩, (Fr.sI (by omega)).tr (Fr.cp (by omega))⟩
  · simp (disch := omega) only [u28_0, u28_1, u28_4, u28_7, u28_8, u28_9, u28_10, u28_13, u28_14, u28_15, u28_16, u28_17, u28_18, u28_21, u28_22, u28_23, u28_26, u28_27, u28_30, u28_31, u28_32, u28_35, u28_36, u28_37, u28_40, u28_43, u28_44, k0, k1, k2, hs, v, kd_sI, gR_sI, gI_sI_eq, le_t, lt_t, wr_id, rng, rngp, if_pos, if_neg, if_true, if_false, reduceCtorEq, true_and, and_true, and_self, Option.toList_some, Option.toList_none, List.cons_append, List.nil_append, Int.toNat_natCast]
  · rw [gI_cp, if_neg (by omega), gI_sI_eq rfl, List.length_drop]; omega
  · rw [List.length_drop]; omega
  · rw [List.length_drop] at hi
    rw [gI_cp, if_pos (by omega), gI_sI_nb (by omega), gd_d, ← hv _ (by omega)]
    congr 1
theorem r_drop {sc : av_S} {d : Nat} {h : av_H} {r cap : Nat} (K : RowK h r cap) : ∃ h', (∀ Q, WP sc (d + 1) 30 0 [(0, .inr (.inl r))] [] h Q ↔ Q none h') ∧ RowIs h' r cap [] ∧ Fr h h' r (r + 2) := by
  obtain ⟨k0, k1, k2⟩ := K
  refine ⟨sI h r 1 0, fun Q => ?_, ⟨⟨k0, k1, k2⟩, gI_sI_eq rfl, by simp, fun i hi => by simp at hi⟩, Fr.sI (by omega)⟩
  simp (disch := omega) only [u30_0, u30_1, u30_2, u30_5, k0, wr_id, rng, rngp, if_pos, if_neg, if_true, if_false, reduceCtorEq, true_and, and_true, and_self, Option.toList_some, Option.toList_none, List.cons_append, List.nil_append, Int.toNat_natCast]
theorem r_append {sc : av_S} {d : Nat} {h : av_H} {r o cap cap2 : Nat} {L M : List Int} (H : RowIs h r cap L) (G : RowIs h o cap2 M) (e : o + 2 ≤ r ∨ r + 2 ≤ o) (hcap : cap < 100000) (hcap2 : cap2 < 100000) : ∃ h', (∀ Q, WP sc (d + 1) 29 0 [(0, .inr (.inl r)), (1, .inr (.inl o))] [] h Q ↔ Q (some (.inl ((M.length - (cap - L.length) : Nat) : Int))) h') ∧ RowIs h' r cap (L ++ M.take (cap - L.length)) ∧ Fr h h' r (r + 2) := by
  obtain ⟨⟨k0, k1, k2⟩, hs, hc, hv⟩ := H
  obtain ⟨⟨j0, j1, j2⟩, gs, gc, gv⟩ := G
  have key : ∀ m : Nat, m = (M.take (cap - L.length)).length → RowIs (sI (cp h (o + 1) (Int.toNat 0) (r + 1) L.length m) r 1 ((L.length : Int) + (m : Int))) r cap (L ++ M.take (cap - L.length)) ∧ Fr h (sI (cp h (o + 1) (Int.toNat 0) (r + 1) L.length m) r 1 ((L.length : Int) + (m : Int))) r (r + 2) := by
    intro m hm
    have hm2 := hm
    rw [List.length_take] at hm2
    refine ⟨⟨⟨k0, k1, k2⟩, ?_, ?_, fun i hi => ?_⟩, (Fr.cp (by omega)).tr (Fr.sI (by omega))⟩
    · rw [gI_sI_eq rfl, List.length_append, ← hm]; omega
    · rw [List.length_append, ← hm]; omega
    · rw [List.length_append, ← hm] at hi
      rw [gI_sI_nb (by omega), gI_cp]
      by_cases c : i < L.length
      · rw [if_neg (by omega), gd_l c]; exact hv i c
      · rw [if_pos (by omega)]
        have q : i = L.length + (i - L.length) := by omega
        rw [q, gd_r, gd_t (by omega), ← gv _ (by omega)]
        congr 1
        show 0 + _ = _
        omega
  by_cases c : M.length < cap - L.length
  · have z := key M.length (by rw [List.length_take]; omega)
    refine ⟨_, fun Q => ?_, z⟩
    rw [show ((M.length - (cap - L.length) : Nat) : Int) = (M.length : Int) - (M.length : Int) by omega]
    simp (disch := omega) only [u29_0, u29_1, u29_4, u29_5, u29_6, u29_9, u29_10, u29_11, u29_12, u29_15, u29_16, u29_19, u29_20, u29_23, u29_26, u29_27, u29_28, u29_29, u29_32, u29_33, u29_34, u29_37, u29_38, u29_41, u29_42, u29_45, u29_46, u29_47, u29_50, u29_51, u29_52, u29_55, u29_56, u29_59, u29_60, u29_61, k0, k1, k2, hs, j0, j1, j2, gs, kd_sI, kd_cp, gR_cp, gR_sI, gI_cp, gI_sI_nb, le_t, lt_t, wr_id, rng, rngp, if_pos, if_neg, if_true, if_false, reduceCtorEq, true_and, and_true, and_self, Option.toList_some, Option.toList_none, List.cons_append, List.nil_append, Int.toNat_natCast]
  · have z := key (cap - L.length) (by rw [List.length_take]; omega)
    refine ⟨_, fun Q => ?_, z⟩
    rw [show ((M.length - (cap - L.length) : Nat) : Int) = (M.length : Int) - ((cap : Int) - (L.length : Int)) by omega, show ((cap - L.length : Nat) : Int) = (cap : Int) - (L.length : Int) by omega, show cap - L.length = ((cap : Int) - (L.length : Int)).toNat by omega]
    simp (disch := omega) only [u29_0, u29_1, u29_4, u29_5, u29_6, u29_9, u29_10, u29_11, u29_12, u29_15, u29_16, u29_19, u29_20, u29_23, u29_26, u29_27, u29_28, u29_29, u29_32, u29_33, u29_34, u29_37, u29_38, u29_41, u29_42, u29_45, u29_46, u29_47, u29_50, u29_51, u29_52, u29_55, u29_56, u29_59, u29_60, u29_61, k0, k1, k2, hs, j0, j1, j2, gs, kd_sI, kd_cp, gR_cp, gR_sI, gI_cp, gI_sI_nb, le_t, lt_t, wr_id, rng, rngp, if_pos, if_neg, if_true, if_false, reduceCtorEq, true_and, and_true, and_self, Option.toList_some, Option.toList_none, List.cons_append, List.nil_append, Int.toNat_natCast]
theorem r_become {sc : av_S} {d : Nat} {h : av_H} {r o cap cap2 : Nat} {M : List Int} (H : RowK h r cap) (G : RowIs h o cap2 M) (hM : M.length ≤ cap) (e : o + 2 ≤ r ∨ r + 2 ≤ o) (hcap : cap < 100000) (hcap2 : cap2 < 100000) : ∃ h', (∀ Q, WP sc (d + 1) 31 0 [(0, .inr (.inl r)), (1, .inr (.inl o))] [] h Q ↔ Q none h') ∧ RowIs h' r cap M ∧ Fr h h' r (r + 2) := by
  obtain ⟨k0, k1, k2⟩ := H
  obtain ⟨⟨j0, j1, j2⟩, gs, gc, gv⟩ := G
  refine ⟨cp (sI h r 1 (M.length : Int)) (o + 1) (Int.toNat 0) (r + 1) (Int.toNat 0) M.length, fun Q => ?_, ⟨⟨k0, k1, k2⟩, ?_, hM, fun i hi => ?_⟩, (Fr.sI (by omega)).tr (Fr.cp (by omega))⟩
  · by_cases c : M.length < cap
    · simp (disch := omega) only [u31_0, u31_1, u31_2, u31_5, u31_6, u31_9, u31_10, u31_13, u31_14, u31_17, u31_20, u31_21, u31_24, u31_25, u31_28, u31_29, u31_32, u31_33, u31_34, u31_37, u31_38, u31_39, u31_42, u31_45, k0, k1, k2, j0, j1, j2, gs, kd_sI, kd_cp, gR_cp, gR_sI, gI_sI_eq, le_t, lt_t, wr_id, rng, rngp, if_pos, if_neg, if_true, if_false, reduceCtorEq, true_and, and_true, and_self, Option.toList_some, Option.toList_none, List.cons_append, List.nil_append, Int.toNat_natCast]
    · have e2 : (cap : Int) = (M.length : Int) := by omega
      simp (disch := omega) only [u31_0, u31_1, u31_2, u31_5, u31_6, u31_9, u31_10, u31_13, u31_14, u31_17, u31_20, u31_21, u31_24, u31_25, u31_28, u31_29, u31_32, u31_33, u31_34, u31_37, u31_38, u31_39, u31_42, u31_45, k0, k1, k2, j0, j1, j2, gs, e2, kd_sI, kd_cp, gR_cp, gR_sI, gI_sI_eq, le_t, lt_t, wr_id, rng, rngp, if_pos, if_neg, if_true, if_false, reduceCtorEq, true_and, and_true, and_self, Option.toList_some, Option.toList_none, List.cons_append, List.nil_append, Int.toNat_natCast]
  · rw [gI_cp, if_neg (by omega), gI_sI_eq rfl]
  · rw [gI_cp, if_pos ⟨rfl, by show 0 ≤ i; omega, by show i < 0 + M.length; omega⟩, gI_sI_nb (by omega), ← gv i hi]
    congr 1
    show 0 + (i - 0) = i
    omega
theorem r_digest {sc : av_S} {d : Nat} {h : av_H} {r cap : Nat} {L : List Int} {w : Int64} (H : RowIs h r cap L) (hcap : cap < 100000) (Q : Option av_V → av_H → Prop) : WP sc (d + 1) 32 0 [(0, .inr (.inl r)), (1, .inr (.inr w))] [] h Q ↔ Q (some (.inr (.inr (mxs w L)))) h := by
  obtain ⟨⟨k0, k1, k2⟩, hs, hc, hv⟩ := H
  have loop : ∀ (t j : Nat) (v : Int64), t = L.length - j → j ≤ L.length → (WP sc (d + 1) 32 5 [(0, .inr (.inl r)), (1, .inr (.inr w)), (3, .inr (.inr v)), (5, .inl (j : Int))] [] h Q ↔ Q (some (.inr (.inr (mxs v (L.drop j))))) h) := by
    intro t
    induction t with
    | zero =>
      intro j v ht hj
      rw [u32_5]
      simp (disch := omega) only [u32_0, u32_1, u32_2, u32_3, u32_7, u32_8, u32_11, u32_14, u32_17, u32_18, u32_19, u32_20, u32_23, u32_25, u32_26, u32_27, u32_28, u32_29, u32_32, u32_35, u32_36, k0, k1, k2, hs, wr_id, rng, rngp, if_pos, if_neg, if_true, if_false, reduceCtorEq, true_and, and_true, and_self, Option.toList_some, Option.toList_none, List.cons_append, List.nil_append, Int.toNat_natCast]
      rw [List.drop_of_length_le (by omega)]
      rfl
    | succ t ih =>
      intro j v ht hj
      have b2 := hv j (by omega)
      rw [u32_5]
      simp (disch := omega) only [u32_0, u32_1, u32_2, u32_3, u32_7, u32_8, u32_11, u32_14, u32_17, u32_18, u32_19, u32_20, u32_23, u32_25, u32_26, u32_27, u32_28, u32_29, u32_32, u32_35, u32_36, k0, k1, k2, hs, b2, wr_id, rng, rngp, if_pos, if_neg, if_true, if_false, reduceCtorEq, true_and, and_true, and_self, Option.toList_some, Option.toList_none, List.cons_append, List.nil_append, Int.toNat_natCast]
      rw [show (j : Int) + 1 = ((j + 1 : Nat) : Int) by omega, ih (j + 1) _ (by omega) (by omega)]
      rw [List.drop_eq_getElem_cons (show j < L.length by omega)]
      rw [List.getD_eq_getElem?_getD, List.getElem?_eq_getElem (show j < L.length by omega)]
      rfl
  have l0 := loop _ 0 w rfl (by omega)
  rw [List.drop_zero] at l0
  rw [← l0]
  simp (disch := omega) only [u32_0, u32_1, u32_2, u32_3, u32_7, u32_8, u32_11, u32_14, u32_17, u32_18, u32_19, u32_20, u32_23, u32_25, u32_26, u32_27, u32_28, u32_29, u32_32, u32_35, u32_36, wr_id, rng, rngp, if_pos, if_neg, if_true, if_false, reduceCtorEq, true_and, and_true, and_self, Option.toList_some, Option.toList_none, List.cons_append, List.nil_append, Int.toNat_natCast]
  rfl
