/-! rows of the reference -/
theorem gd_l {l m : List Int} {i : Nat} (h : i < l.length) : (l ++ m).getD i 0 = l.getD i 0 := by
  rw [List.getD_eq_getElem?_getD, List.getD_eq_getElem?_getD, List.getElem?_append_left h]
theorem gd_r {l m : List Int} {i : Nat} : (l ++ m).getD (l.length + i) 0 = m.getD i 0 := by
  rw [List.getD_eq_getElem?_getD, List.getD_eq_getElem?_getD, List.getElem?_append_right (by omega)]
  congr 2
  omega
theorem gd_d {l : List Int} {k i : Nat} : (l.drop k).getD i 0 = l.getD (k + i) 0 := by
  rw [List.getD_eq_getElem?_getD, List.getD_eq_getElem?_getD, List.getElem?_drop]
theorem gd_t {l : List Int} {k i : Nat} (h : i < k) : (l.take k).getD i 0 = l.getD i 0 := by
  rw [List.getD_eq_getElem?_getD, List.getD_eq_getElem?_getD, List.getElem?_take_of_lt h]
def MF (h h' : av_H) (x : Nat) : Prop := h'.1 = h.1 ∧ h'.2.1 = h.2.1 ∧ h'.2.2.2 = h.2.2.2 ∧ ∀ a, a ≠ x + 1 → h'.2.2.1 a = h.2.2.1 a
theorem MF.rf {h : av_H} {x : Nat} : MF h h x := ⟨rfl, rfl, rfl, fun _ _ => rfl⟩
theorem MF.tr {h h1 h2 : av_H} {x : Nat} (a : MF h h1 x) (b : MF h1 h2 x) : MF h h2 x := ⟨b.1.trans a.1, b.2.1.trans a.2.1, b.2.2.1.trans a.2.2.1, fun q hq => (b.2.2.2 q hq).trans (a.2.2.2 q hq)⟩
theorem MF.sI {h : av_H} {x k : Nat} {z : Int} : MF h (sI h (x + 1) k z) x := ⟨rfl, rfl, rfl, fun a ha => by funext j; show (if a = x + 1 ∧ j = k then z else h.2.2.1 a j) = _; rw [if_neg (fun q => ha q.1)]⟩
theorem MF.kd {h h' : av_H} {x : Nat} (a : MF h h' x) (b : Nat) : kd h' b = kd h b := by show h'.2.1 b = h.2.1 b; rw [a.2.1]
theorem MF.gR {h h' : av_H} {x : Nat} (a : MF h h' x) (b k : Nat) : gR h' b k = gR h b k := by show h'.2.2.2 b k = h.2.2.2 b k; rw [a.2.2.1]
theorem MF.gI {h h' : av_H} {x : Nat} (a : MF h h' x) {b : Nat} (hb : b ≠ x + 1) (k : Nat) : gI h' b k = gI h b k := by show h'.2.2.1 b k = h.2.2.1 b k; rw [a.2.2.2 b hb]
theorem MK.mf {h h' : av_H} {x : Nat} (K : MK h x) (a : MF h h' x) : MK h' x := by
  unfold MK at K ⊢
  simp only [a.kd, a.gR]
  exact K
theorem MR.setg {h : av_H} {x : Nat} {σ : sS} (H : MR h x σ) {k : Nat} {v : Int} (hk : k < 9) (h4 : k = 4 → v ≠ 1) (h0 : k = 0 → sg σ 0 ≤ v := by omega) : MR (sI h (x + 1) k v) x (ug σ k v) := by
  obtain ⟨h1, h2, h3⟩ := H
  refine ⟨fun j hj => ?_, fun n hn j hj h9 => ?_, fun n hn r hr => ?_⟩
  · rw [sg_ug]
    by_cases e : j = k
    · rw [gI_sI_eq e, if_pos e]
    · rw [gI_sI_ne e, if_neg e]
      exact h1 j hj
  · rw [gI_sI_ne (by omega), sf_ug]
    refine h2 n hn j hj (fun q => ?_)
    rcases h9 q with h5 | h5
    · rw [sg_ug] at h5
      split at h5
      · next e => exact absurd h5 (h4 e.symm)
      · exact Or.inl h5
    · rw [sg_ug] at h5
      split at h5
      · next e =>
        have := h0 e.symm
        exact Or.inr (by omega)
      · exact Or.inr h5
  · obtain ⟨a1, a2, a3⟩ := h3 n hn r hr
    refine ⟨by rw [gI_sI_ne (by omega)]; exact a1, a2, fun i hi => by rw [gI_sI_ne (by omega)]; exact a3 i hi⟩
theorem MR.setf {h : av_H} {x : Nat} {σ : sS} (H : MR h x σ) {n k i : Nat} {v : Int} (hn : n < 8) (hk : k < 27) (hi : i = 10 + 30 * n + k) : MR (sI h (x + 1) i v) x (uf σ n k v) := by
  subst hi
  obtain ⟨h1, h2, h3⟩ := H
  refine ⟨fun j hj => ?_, fun n2 hn2 j hj h9 => ?_, fun n2 hn2 r hr => ?_⟩
  · rw [gI_sI_ne (by omega)]
    exact h1 j hj
  · rw [sf_uf]
    by_cases e : n2 = n ∧ j = k
    · rw [gI_sI_eq (by rw [e.1, e.2]), if_pos e]
    · rw [gI_sI_ne (by omega), if_neg e]
      exact h2 n2 hn2 j hj h9
  · obtain ⟨a1, a2, a3⟩ := h3 n2 hn2 r hr
    refine ⟨by rw [gI_sI_ne (by omega)]; exact a1, a2, fun i hi => by rw [gI_sI_ne (by omega)]; exact a3 i hi⟩
theorem MR.row {h h' : av_H} {x : Nat} {σ : sS} (H : MR h x σ) {n r : Nat} {L : List Int} (hn : n < 8) (hr : r < 7) (ho : ∀ k, k < 250 + 129 * (7 * n + r) ∨ 250 + 129 * (7 * n + r) + 129 ≤ k → gI h' (x + 1) k = gI h (x + 1) k) (hl : gI h' (x + 1) (250 + 129 * (7 * n + r)) = (L.length : Int)) (hle : L.length ≤ 128) (hv : ∀ i, i < L.length → gI h' (x + 1) (250 + 129 * (7 * n + r) + 1 + i) = L.getD i 0) : MR h' x (ur σ n r L) := by
  obtain ⟨h1, h2, h3⟩ := H
  refine ⟨fun j hj => ?_, fun n2 hn2 j hj h9 => ?_, fun n2 hn2 r2 hr2 => ?_⟩
  · rw [ho j (by omega)]
    exact h1 j hj
  · rw [ho _ (by omega)]
    exact h2 n2 hn2 j hj h9
  · rw [sr_ur]
    by_cases e : n2 = n ∧ r2 = r
    · rw [if_pos e, e.1, e.2]
      exact ⟨hl, hle, hv⟩
    · rw [if_neg e]
      obtain ⟨a1, a2, a3⟩ := h3 n2 hn2 r2 hr2
      have e2 : 7 * n2 + r2 ≠ 7 * n + r := by omega
      refine ⟨by rw [ho _ (by omega)]; exact a1, a2, fun i hi => by rw [ho _ (by omega)]; exact a3 i hi⟩
theorem m_puts {sc : av_S} {d : Nat} {h : av_H} {x n r : Nat} {σ : sS} {row v : Int} (K : MK h x) (H : MR h x σ) (hn : n < 8) (hr : r < 7) (hrow : row = 250 + 129 * (7 * (n : Int) + (r : Int))) (hlen : (sr σ n r).length < 128) : ∃ h', (∀ Q, WP sc (d + 1) 105 0 [(0, .inr (.inl x)), (1, .inl row), (2, .inl v)] [] h Q ↔ Q none h') ∧ MR h' x (ur σ n r (sr σ n r ++ [v])) ∧ MF h h' x := by
  obtain ⟨k0, ⟨k1, k2⟩, -⟩ := K
  obtain ⟨a1, a2, a3⟩ := H.2.2 n hn r hr
  have hrn : row.toNat = 250 + 129 * (7 * n + r) := by omega
  have e1 : gI h (x + 1) row.toNat = ((sr σ n r).length : Int) := by rw [hrn]; exact a1
  have e2 : (row + 1 + ((sr σ n r).length : Int)).toNat = 250 + 129 * (7 * n + r) + 1 + (sr σ n r).length := by omega
  refine ⟨sI (sI h (x + 1) (row + 1 + ((sr σ n r).length : Int)).toNat v) (x + 1) row.toNat (((sr σ n r).length : Int) + 1), ?_, ?_, MF.sI.tr MF.sI⟩
  · intro Q
    simp (disch := omega) only [u105_0, u105_1, u105_4, u105_5, u105_6, u105_7, u105_8, u105_11, u105_12, u105_13, u105_14, u105_15, u105_16, u105_17, u105_20, u105_21, u105_22, u105_23, u105_24, u105_25, u105_26, k0, k1, k2, e1, kd_sI, gR_sI, gI_sI_ne, wr_id, rng, rngp, if_pos, if_neg, if_true, if_false, reduceCtorEq, true_and, and_true, and_self, Option.toList_some, Option.toList_none, List.cons_append, List.nil_append, Int.toNat_natCast]
  · rw [hrn, e2]
    refine H.row hn hr (fun k hk => ?_) ?_ ?_ (fun i hi => ?_)
    · rw [gI_sI_ne (by omega), gI_sI_ne (by omega)]
    · rw [gI_sI_eq rfl]; simp
    · simp; omega
    · rw [gI_sI_ne (by omega)]
      rw [List.length_append, List.length_singleton] at hi
      by_cases hi2 : i < (sr σ n r).length
      · rw [gI_sI_ne (by omega), a3 i hi2, gd_l hi2]
      · have e3 : i = (sr σ n r).length := by omega
        rw [gI_sI_eq (by omega), e3]
        have e4 := gd_r (l := sr σ n r) (m := [v]) (i := 0)
        rw [Nat.add_zero] at e4
        rw [e4]
        rfl
theorem m_takes {sc : av_S} {d : Nat} {h : av_H} {x n r : Nat} {σ : sS} {row : Int} (K : MK h x) (H : MR h x σ) (hn : n < 8) (hr : r < 7) (hrow : row = 250 + 129 * (7 * (n : Int) + (r : Int))) (hlen : (sr σ n r).length ≠ 0) : ∃ h', (∀ Q, WP sc (d + 1) 106 0 [(0, .inr (.inl x)), (1, .inl row)] [] h Q ↔ Q (some (.inl ((sr σ n r).getD 0 0))) h') ∧ MR h' x (ur σ n r ((sr σ n r).drop 1)) ∧ MF h h' x := by
  obtain ⟨k0, ⟨k1, k2⟩, -⟩ := K
  obtain ⟨a1, a2, a3⟩ := H.2.2 n hn r hr
  have hrn : row.toNat = 250 + 129 * (7 * n + r) := by omega
  have e1 : gI h (x + 1) row.toNat = ((sr σ n r).length : Int) := by rw [hrn]; exact a1
  have e2 : gI h (x + 1) (row + 1).toNat = (sr σ n r).getD 0 0 := by
    rw [show (row + 1).toNat = 250 + 129 * (7 * n + r) + 1 + 0 by omega]
    exact a3 0 (by omega)
  have loop : ∀ (t k : Nat) (hk : av_H), t = (sr σ n r).length - k → 1 ≤ k → k ≤ (sr σ n r).length → MF h hk x → gI hk (x + 1) row.toNat = ((sr σ n r).length : Int) - 1 → (∀ j, j < 250 + 129 * (7 * n + r) ∨ 250 + 129 * (7 * n + r) + 129 ≤ j → gI hk (x + 1) j = gI h (x + 1) j) → (∀ j, 1 ≤ j → j < k → gI hk (x + 1) (250 + 129 * (7 * n + r) + j) = gI h (x + 1) (250 + 129 * (7 * n + r) + j + 1)) → (∀ j, k ≤ j → j < 129 → gI hk (x + 1) (250 + 129 * (7 * n + r) + j) = gI h (x + 1) (250 + 129 * (7 * n + r) + j)) →
      WP sc (d + 1) 106 21 [(0, .inr (.inl x)), (1, .inl row), (2, .inl ((sr σ n r).getD 0 0)), (3, .inl (k : Int))] [] hk (fun r2 h' => r2 = some (.inl ((sr σ n r).getD 0 0)) ∧ MR h' x (ur σ n r ((sr σ n r).drop 1)) ∧ MF h h' x) := by
    intro t
    induction t with
    | zero =>
      intro k hk ht hk1 hk2 hf c1 c2 c3 c4
      have q1 := hf.kd x
      have q2 := hf.gR x 0
      have q3 := hf.kd (x + 1)
      rw [u106_21]
      simp (disch := omega) only [u106_0, u106_1, u106_4, u106_5, u106_6, u106_7, u106_8, u106_9, u106_10, u106_13, u106_14, u106_15, u106_16, u106_17, u106_18, u106_19, u106_20, u106_22, u106_23, u106_26, u106_27, u106_28, u106_31, u106_32, u106_35, u106_36, u106_37, u106_38, u106_39, u106_42, u106_43, u106_44, u106_45, u106_46, u106_47, u106_48, u106_49, u106_52, u106_55, u106_56, k0, k1, k2, q1, q2, q3, c1, wr_id, rng, rngp, if_pos, if_neg, if_true, if_false, reduceCtorEq, true_and, and_true, and_self, Option.toList_some, Option.toList_none, List.cons_append, List.nil_append, Int.toNat_natCast]
      refine ⟨H.row hn hr c2 (by rw [← hrn, c1]; simp; omega) (by simp; omega) (fun i hi => ?_), hf⟩
      rw [List.length_drop] at hi
      have c5 := c3 (1 + i) (by omega) (by omega)
      rw [show 250 + 129 * (7 * n + r) + (1 + i) = 250 + 129 * (7 * n + r) + 1 + i by omega] at c5
      rw [c5, show 250 + 129 * (7 * n + r) + 1 + i + 1 = 250 + 129 * (7 * n + r) + 1 + (i + 1) by omega, a3 (i + 1) (by omega)]
      simp [List.getD_eq_getElem?_getD, Nat.add_comm]
    | succ t ih =>
      intro k hk ht hk1 hk2 hf c1 c2 c3 c4
      have q1 := hf.kd x
      have q2 := hf.gR x 0
      have q3 := hf.kd (x + 1)
      rw [u106_21]
      simp (disch := omega) only [u106_0, u106_1, u106_4, u106_5, u106_6, u106_7, u106_8, u106_9, u106_10, u106_13, u106_14, u106_15, u106_16, u106_17, u106_18, u106_19, u106_20, u106_22, u106_23, u106_26, u106_27, u106_28, u106_31, u106_32, u106_35, u106_36, u106_37, u106_38, u106_39, u106_42, u106_43, u106_44, u106_45, u106_46, u106_47, u106_48, u106_49, u106_52, u106_55, u106_56, k0, k1, k2, q1, q2, q3, c1, wr_id, rng, rngp, if_pos, if_neg, if_true, if_false, reduceCtorEq, true_and, and_true, and_self, Option.toList_some, Option.toList_none, List.cons_append, List.nil_append, Int.toNat_natCast]
      have e4 : (row + (k : Int)).toNat = 250 + 129 * (7 * n + r) + k := by omega
      have e5 : (row + (k : Int) + 1).toNat = 250 + 129 * (7 * n + r) + k + 1 := by omega
      rw [e4, e5, show (k : Int) + 1 = ((k + 1 : Nat) : Int) by omega]
      refine ih (k + 1) _ (by omega) (by omega) (by omega) (hf.tr MF.sI) ?_ ?_ ?_ ?_
      · rw [gI_sI_ne (by omega)]; exact c1
      · intro j hj
        rw [gI_sI_ne (by omega)]; exact c2 j hj
      · intro j hj1 hj2
        by_cases hj : j = k
        · subst hj
          rw [gI_sI_eq rfl]
          exact c4 (j + 1) (by omega) (by omega)
        · rw [gI_sI_ne (by omega)]
          exact c3 j hj1 (by omega)
      · intro j hj1 hj2
        rw [gI_sI_ne (by omega)]
        exact c4 j (by omega) hj2
  have big : WP sc (d + 1) 106 0 [(0, .inr (.inl x)), (1, .inl row)] [] h (fun r2 h' => r2 = some (.inl ((sr σ n r).getD 0 0)) ∧ MR h' x (ur σ n r ((sr σ n r).drop 1)) ∧ MF h h' x) := by
    simp (disch := omega) only [u106_0, u106_1, u106_4, u106_5, u106_6, u106_7, u106_8, u106_9, u106_10, u106_13, u106_14, u106_15, u106_16, u106_17, u106_18, u106_19, u106_20, u106_22, u106_23, u106_26, u106_27, u106_28, u106_31, u106_32, u106_35, u106_36, u106_37, u106_38, u106_39, u106_42, u106_43, u106_44, u106_45, u106_46, u106_47, u106_48, u106_49, u106_52, u106_55, u106_56, k0, k1, k2, e1, e2, kd_sI, gR_sI, wr_id, rng, rngp, if_pos, if_neg, if_true, if_false, reduceCtorEq, true_and, and_true, and_self, Option.toList_some, Option.toList_none, List.cons_append, List.nil_append, Int.toNat_natCast]
    refine loop _ 1 _ rfl (by omega) (by omega) MF.sI (gI_sI_eq rfl) ?_ ?_ ?_
    · intro j hj
      rw [gI_sI_ne (by omega)]
    · intro j h1 h2
      omega
    · intro j h1 h2
      rw [gI_sI_ne (by omega)]
  obtain ⟨r2, h', hw, rfl, hm, hf⟩ := big.evE
  exact ⟨h', hw, hm, hf⟩
