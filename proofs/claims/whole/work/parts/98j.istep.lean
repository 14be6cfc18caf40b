/-! acts and steps keep what always holds -/
theorem Inv.okN {T M S : Int} {σ : sS} (I : Inv T M S σ) (hS : S ≤ 1000000000) {n : Nat} (hn : n < sN σ) : okN σ n := by
  obtain ⟨G, A, -⟩ := I
  obtain ⟨a1, a2, a3, a4, a5, a6⟩ := A n hn
  unfold nBs nB at a2
  unfold nPs nP at a3
  exact ⟨a1.1, a1.2.1, a3.1, a2.2.1, a2.2.2.2.1, a2.2.2.2.2.1, a1.2.2.1, a1.2.2.2.1, fun k hk => ⟨(a4 k hk).1.1, Int.le_trans (a4 k hk).1.2 hS⟩, a5.1⟩
theorem inv_taker {T M S S' : Int} {σ : sS} {n : Nat} (I : Inv T M S σ) (hn : n < sN σ) (hk : sf σ n 0 ≠ 0) (hb : S ≤ 1000000000) (hS : S + 99 ≤ S') : Inv T M S' (sTaker σ n) := by
  have I0 := I.wk (Int.le_refl _) (Int.le_refl _) (show S ≤ S' by omega)
  unfold sTaker
  by_cases c : sRoom σ n = true ∧ sIn σ n ≠ -1
  · rw [if_pos c]
    have ok := I.okN hb hn
    obtain ⟨i, hi, ei, hl⟩ := sIn_cases ok c.2
    rw [ei, Int.toNat_natCast]
    have h7 : sf σ n 0 = 4 → sf σ n 7 ≠ (i : Int) + 1 := by
      intro q
      unfold sIn at ei
      rw [if_pos q] at ei
      split at ei
      · next z => rw [ei] at z; exact (of_decide_eq_true z).2
      · split at ei
        · next z => rw [ei] at z; exact (of_decide_eq_true z).2
        · omega
    have hin : i < nin (sf σ n 0) := by
      by_cases q : sf σ n 0 = 4
      · rw [nin_4 q]; exact hi
      · rw [nin_1 hk q]
        unfold sIn at ei
        rw [if_neg q] at ei
        split at ei <;> omega
    have b := (I.2.1 n hn).2.1
    unfold nBs nB at b
    have h7' : sf σ n 7 ≠ (i : Int) + 1 := by
      by_cases q : sf σ n 0 = 4
      · exact h7 q
      · omega
    obtain ⟨v, l, hL⟩ : ∃ v l, sr σ n i = v :: l := by
      cases e : sr σ n i with
      | nil => rw [e] at hl; exact absurd rfl hl
      | cons v l => exact ⟨v, l, rfl⟩
    have e0 : (sr σ n i).getD 0 0 = v := by rw [hL]; rfl
    rw [e0]
    by_cases q : v = 100
    · rw [if_pos q]
      rw [q] at hL
      exact (inv_bar I hn hk hin hL).wk (Int.le_refl _) (Int.le_refl _) (by omega)
    · rw [if_neg q]
      exact inv_item I hn hk hin hL q h7' hS
  · rw [if_neg c]; exact I0
theorem inv_act1 {T M S S' : Int} {σ : sS} {n : Nat} (I : Inv T M S σ) (hn : n < sN σ) (hb : S ≤ 1000000000) (hS : S + 99 ≤ S') : Inv T M S' (sAct σ n) := by
  unfold sAct
  by_cases c : sf σ n 0 = 0
  · rw [if_pos c]; exact inv_source I hn c (by omega)
  · rw [if_neg c]; exact inv_taker I hn c hb hS
theorem inv_acts {T M S : Int} {σ : sS} (I : Inv T M S σ) (hb : S + 792 ≤ 1000000000) : ∀ k, k ≤ sN σ → Inv T M (S + 99 * (k : Int)) (sActs k σ) := by
  have h8 : sN σ ≤ 8 := by have := I.1.1; unfold sN; omega
  intro k
  induction k with
  | zero => intro _; exact I.wk (Int.le_refl _) (Int.le_refl _) (by omega)
  | succ k ih =>
    intro hk
    exact inv_act1 (ih (by omega)) (by rw [sN_acts]; omega) (by omega) (by omega)
