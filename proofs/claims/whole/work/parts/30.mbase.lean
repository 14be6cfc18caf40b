/-! the reference's object: its cells, what its array holds -/
theorem WP.ev {sc : av_S} {d m pc : Nat} {lv : av_L} {st : List av_V} {h h' : av_H} {r : Option av_V} (H : WP sc d m pc lv st h (fun r2 h2 => r2 = r ∧ h2 = h')) (Q : Option av_V → av_H → Prop) : WP sc d m pc lv st h Q ↔ Q r h' := by
  obtain ⟨f, r2, h2, hf, rfl, rfl⟩ := H
  constructor
  · rintro ⟨g, r3, h3, hg, hQ⟩
    have e := run_one hf hg
    cases e
    exact hQ
  · intro hQ
    exact ⟨f, r2, h2, hf, hQ⟩
theorem WP.evE {sc : av_S} {d m pc : Nat} {lv : av_L} {st : List av_V} {h : av_H} {P : Option av_V → av_H → Prop} (H : WP sc d m pc lv st h P) : ∃ r h', (∀ Q, WP sc d m pc lv st h Q ↔ Q r h') ∧ P r h' := by
  obtain ⟨f, r, h', hf, hP⟩ := H
  exact ⟨r, h', WP.ev ⟨f, r, h', hf, rfl, rfl⟩, hP⟩
theorem rng {i m : Int} (h : 0 ≤ i ∧ i < m) : (0 ≤ i ∧ i < m) = True := eq_true h
theorem rngp {x y : Int} (h : 0 ≤ x ∧ 0 < y) : (0 ≤ x ∧ 0 < y) = True := eq_true h
theorem gI_sI_eq {h : av_H} {a k j : Nat} {z : Int} (e : j = k) : gI (sI h a k z) a j = z := by rw [gI_sI, if_pos ⟨rfl, e⟩]
theorem gI_sI_ne {h : av_H} {a k j : Nat} {z : Int} (e : j ≠ k) : gI (sI h a k z) a j = gI h a j := by rw [gI_sI, if_neg (fun q => e q.2)]
theorem gI_sI_nb {h : av_H} {a b k j : Nat} {z : Int} (e : b ≠ a) : gI (sI h a k z) b j = gI h b j := by rw [gI_sI, if_neg (fun q => e q.1)]
def MK (h : av_H) (x : Nat) : Prop := (kd h x).1 = 7 ∧ (gR h x 0 = x + 1 ∧ kd h (x + 1) = (10, 7474)) ∧ (gR h x 1 = x + 2 ∧ kd h (x + 2) = (10, 37370)) ∧ (gR h x 3 = x + 3 ∧ kd h (x + 3) = (10, 3)) ∧ (gR h x 5 = x + 4 ∧ kd h (x + 4) = (10, 120)) ∧ gR h x 7 = x + 5 ∧ kd h (x + 5) = (10, 4)
def MR (h : av_H) (x : Nat) (σ : sS) : Prop := (∀ k, k < 9 → gI h (x + 1) k = sg σ k) ∧ (∀ n : Nat, n < 8 → ∀ k : Nat, k < 27 → (k = 9 → sg σ 4 = 1 ∨ sg σ 0 ≤ (n : Int)) → gI h (x + 1) (10 + 30 * n + k) = sf σ n k) ∧ ∀ n, n < 8 → ∀ r, r < 7 → gI h (x + 1) (250 + 129 * (7 * n + r)) = ((sr σ n r).length : Int) ∧ (sr σ n r).length ≤ 128 ∧ ∀ i, i < (sr σ n r).length → gI h (x + 1) (250 + 129 * (7 * n + r) + 1 + i) = (sr σ n r).getD i 0
theorem m_in {sc : av_S} {d : Nat} {h : av_H} {v lo hi : Int} (Q : Option av_V → av_H → Prop) : WP sc (d + 1) 95 0 [(0, .inl v), (1, .inl lo), (2, .inl hi)] [] h Q ↔ Q (some (.inl (if lo ≤ v ∧ v ≤ hi then 1 else 0))) h := by
  simp only [u95_0, u95_1, u95_2, u95_5, u95_6, u95_7, u95_10, u95_11, u95_14, u95_15]
  by_cases h1 : v < lo
  · simp [h1, show ¬ (lo ≤ v ∧ v ≤ hi) by omega]
  · by_cases h2 : hi < v
    · simp [h1, h2, show ¬ (lo ≤ v ∧ v ≤ hi) by omega]
    · simp [h1, h2, show (lo ≤ v ∧ v ≤ hi) by omega]
theorem m_at {sc : av_S} {d : Nat} {h : av_H} {n : Nat} (hn : n < 1000) (Q : Option av_V → av_H → Prop) : WP sc (d + 1) 99 0 [(0, .inl (n : Int))] [] h Q ↔ Q (some (.inl (10 + 30 * (n : Int)))) h := by
  simp (disch := omega) only [u99_0, u99_2, u99_4, u99_5, u99_6, u99_7, wr_id]
theorem m_rowAt {sc : av_S} {d : Nat} {h : av_H} {n : Nat} {r : Int} (hn : n < 1000) (hr : 0 ≤ r ∧ r < 1000) (Q : Option av_V → av_H → Prop) : WP sc (d + 1) 100 0 [(0, .inl (n : Int)), (1, .inl r)] [] h Q ↔ Q (some (.inl (250 + 129 * (7 * (n : Int) + r)))) h := by
  simp (disch := omega) only [u100_0, u100_3, u100_6, u100_8, u100_9, u100_10, u100_11, u100_12, u100_13, u100_14, wr_id]
theorem MR.g {h : av_H} {x : Nat} {σ : sS} (H : MR h x σ) {i : Int} {k : Nat} (hk : k < 9) (hi : i = k) : gI h (x + 1) i.toNat = sg σ k := by
  rw [hi]; exact H.1 k hk
theorem MR.f {h : av_H} {x : Nat} {σ : sS} (H : MR h x σ) {i : Int} {n k : Nat} (hn : n < 8) (hk : k < 27) (h9 : k = 9 → sg σ 4 = 1 ∨ sg σ 0 ≤ (n : Int)) (hi : i = 10 + 30 * (n : Int) + (k : Int)) : gI h (x + 1) i.toNat = sf σ n k := by
  rw [← H.2.1 n hn k hk h9]
  congr 1
  omega
theorem m_isNode {sc : av_S} {d : Nat} {h : av_H} {x : Nat} {σ : sS} {n : Int} (K : MK h x) (H : MR h x σ) (hN : 0 ≤ sg σ 0 ∧ sg σ 0 ≤ 8) (Q : Option av_V → av_H → Prop) : WP sc (d + 2) 101 0 [(0, .inr (.inl x)), (1, .inl n)] [] h Q ↔ Q (some (.inl (if isNd σ n = true then 1 else 0))) h := by
  obtain ⟨k0, ⟨k1, k2⟩, -⟩ := K
  have g0 := H.g (i := 0) (k := 0) (by omega) rfl
  simp (disch := omega) only [u101_0, u101_1, u101_2, u101_3, u101_6, u101_7, u101_8, u101_9, u101_10, u101_13, k0, k1, k2, g0, m_in, wr_id, rng, rngp, if_pos, if_neg, if_true, if_false, reduceCtorEq, true_and, and_true, and_self, Option.toList_some, Option.toList_none, List.cons_append, List.nil_append, Int.toNat_natCast]
  unfold isNd
  by_cases h1 : 0 ≤ n ∧ n < sg σ 0
  · simp [h1, show n ≤ sg σ 0 - 1 by omega]
  · simp [h1, show ¬ (0 ≤ n ∧ n ≤ sg σ 0 - 1) by omega]
theorem m_kind {sc : av_S} {d : Nat} {h : av_H} {x n : Nat} {σ : sS} (K : MK h x) (H : MR h x σ) (hn : n < 8) (Q : Option av_V → av_H → Prop) : WP sc (d + 2) 102 0 [(0, .inr (.inl x)), (1, .inl (n : Int))] [] h Q ↔ Q (some (.inl (sf σ n 0))) h := by
  obtain ⟨k0, ⟨k1, k2⟩, -⟩ := K
  have f0 := H.f (i := 10 + 30 * (n : Int) + 0) (n := n) (k := 0) hn (by omega) (by omega) (by omega)
  simp (disch := omega) only [u102_0, u102_1, u102_4, u102_5, u102_8, u102_9, u102_10, u102_11, k0, k1, k2, m_at, f0, wr_id, rng, rngp, if_pos, if_neg, if_true, if_false, reduceCtorEq, true_and, and_true, and_self, Option.toList_some, Option.toList_none, List.cons_append, List.nil_append, Int.toNat_natCast]
theorem m_ins {sc : av_S} {d : Nat} {h : av_H} {x n : Nat} {σ : sS} (K : MK h x) (H : MR h x σ) (hn : n < 8) (Q : Option av_V → av_H → Prop) : WP sc (d + 3) 103 0 [(0, .inr (.inl x)), (1, .inl (n : Int))] [] h Q ↔ Q (some (.inl (nin (sf σ n 0) : Int))) h := by
  have k0 := K.1
  simp (disch := omega) only [u103_0, u103_1, u103_2, u103_5, u103_8, u103_9, u103_12, u103_13, u103_14, u103_17, u103_18, u103_21, u103_22, u103_25, u103_26, k0, m_kind K H hn, wr_id, rng, rngp, if_pos, if_neg, if_true, if_false, reduceCtorEq, true_and, and_true, and_self, Option.toList_some, Option.toList_none, List.cons_append, List.nil_append, Int.toNat_natCast]
  unfold nin
  by_cases h0 : sf σ n 0 = 0
  · simp [h0]
  · by_cases h4 : sf σ n 0 = 4
    · simp [h4]
    · simp [h0, h4]
theorem m_from {sc : av_S} {d : Nat} {h : av_H} {x n i : Nat} {σ : sS} (K : MK h x) (H : MR h x σ) (hn : n < 8) (hi : i < 2) (Q : Option av_V → av_H → Prop) : WP sc (d + 2) 104 0 [(0, .inr (.inl x)), (1, .inl (n : Int)), (2, .inl (i : Int))] [] h Q ↔ Q (some (.inl (sf σ n (1 + i)))) h := by
  obtain ⟨k0, ⟨k1, k2⟩, -⟩ := K
  have f0 := H.f (i := 10 + 30 * (n : Int) + 1 + (i : Int)) (n := n) (k := 1 + i) hn (by omega) (by omega) (by omega)
  simp (disch := omega) only [u104_0, u104_1, u104_4, u104_5, u104_8, u104_9, u104_10, u104_11, u104_12, u104_13, k0, k1, k2, m_at, f0, wr_id, rng, rngp, if_pos, if_neg, if_true, if_false, reduceCtorEq, true_and, and_true, and_self, Option.toList_some, Option.toList_none, List.cons_append, List.nil_append, Int.toNat_natCast]
