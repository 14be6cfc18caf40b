/-! what acting does, point by point -/
theorem fed_uf {σ : sS} {n j t i : Nat} {v : Int} (hj : 3 ≤ j) (hi : i < 2) : fed (uf σ n j v) n t i = fed σ n t i := by
  unfold fed
  rw [sf_uf, sf_uf, if_neg (by omega), if_neg (by omega)]
  rfl
theorem fed_hi {σ : sS} {n t i : Nat} (hi : 2 ≤ i) : fed σ n t i = false := by
  have := nin_le (sf σ t 0)
  exact decide_eq_false (fun q => by omega)
theorem fed_uf' {σ : sS} {n j t i : Nat} {v : Int} (hj : 3 ≤ j) : fed (uf σ n j v) n t i = fed σ n t i := by
  by_cases hi : i < 2
  · exact fed_uf hj hi
  · rw [fed_hi (by omega), fed_hi (by omega)]
theorem fed_self {σ : sS} {n i : Nat} : fed σ n n i = false := decide_eq_false (fun q => by omega)
theorem sr_sSend (σ : sS) (n : Nat) (v : Int) (t i : Nat) : sr (sSend σ n v) t i = if fed σ n t i = true then sr σ t i ++ [v] else sr σ t i := rfl
theorem sf_sSend (σ : sS) (n : Nat) (v : Int) (t k : Nat) : sf (sSend σ n v) t k = sf σ t k := rfl
theorem sg_sSend (σ : sS) (n : Nat) (v : Int) (k : Nat) : sg (sSend σ n v) k = sg σ k := rfl
theorem bar_g (σ : sS) (n i k : Nat) : sg (sBarrier σ n i) k = sg σ k := by
  unfold sBarrier sPart sCopy
  split
  · split
    · split
      · rfl
      · rfl
    · split
      · rfl
      · rfl
  · split
    · rfl
    · rfl
theorem bar_f (σ : sS) (n i t k : Nat) : sf (sBarrier σ n i) t k = if t = n then nBf (sg σ 5) (sf σ n) (sr σ n) i k else sf σ t k := by
  unfold sBarrier sPart sCopy nBf
  by_cases e : t = n
  · subst e
    rw [if_pos rfl]
    split
    · split
      · split
        · simp only [sf_uf, sf_ur, sf_sSend, true_and, ud]
        · simp only [sf_uf, sf_ur, sf_sSend, true_and, ud]
      · split
        · simp only [sf_uf, sf_ur, sf_sSend, true_and, ud]
        · simp only [sf_uf, sf_ur, sf_sSend, true_and, ud]
    · split
      · simp only [sf_uf, sf_ur, sf_sSend, true_and, ud]
      · simp only [sf_uf, sf_ur, sf_sSend, true_and, ud]
        rfl
  · rw [if_neg e]
    split
    · split
      · split
        · simp only [sf_uf, sf_ur, sf_sSend, e, false_and, if_false]
        · simp only [sf_uf, sf_ur, sf_sSend, e, false_and, if_false]
      · split
        · simp only [sf_uf, sf_ur, sf_sSend, e, false_and, if_false]
        · simp only [sf_uf, sf_ur, sf_sSend, e, false_and, if_false]
    · split
      · simp only [sf_uf, sf_ur, sf_sSend, e, false_and, if_false]
      · simp only [sf_uf, sf_ur, sf_sSend, e, false_and, if_false]
theorem bar_r (σ : sS) (n i t k : Nat) : sr (sBarrier σ n i) t k = if t = n then nBr (sg σ 5) (sf σ n) (sr σ n) k else if nBv (sg σ 5) (sf σ n) ≠ -1 ∧ sf σ n 0 ≠ 5 ∧ fed σ n t k = true then sr σ t k ++ [100] else sr σ t k := by
  unfold sBarrier sPart sCopy nBr nBv
  by_cases e : t = n
  · subst e
    rw [if_pos rfl]
    split
    · split
      · split
        · simp only [sr_uf, sr_ur, sr_sSend, true_and, ud]
        · simp only [sr_uf, sr_ur, sr_sSend, true_and, ud, fed_self, Bool.false_eq_true, if_false]
      · split
        · simp only [sr_uf, sr_ur, sr_sSend, true_and, ud, fed_self, Bool.false_eq_true, if_false]
        · simp only [sr_uf, sr_ur, sr_sSend, true_and, ud, fed_self, Bool.false_eq_true, if_false]
    · split
      · simp only [sr_uf, sr_ur, sr_sSend, true_and, ud, fed_self, Bool.false_eq_true, if_false]
      · simp only [sr_uf, sr_ur, sr_sSend, true_and, ud, fed_self, Bool.false_eq_true, if_false]
  · rw [if_neg e]
    split
    · next c4 =>
      have n5 : sf σ n 0 ≠ 5 := by omega
      split
      · split
        · simp only [sr_uf, ne_eq, not_true_eq_false, false_and, if_false]
        · simp only [sr_uf, sr_sSend, fed_uf' (show 3 ≤ 7 by decide), ne_eq, n5, not_false_eq_true, true_and, show ¬ (100 : Int) = -1 by decide]
      · split
        · simp only [sr_uf, sr_ur, sr_sSend, e, false_and, if_false, ne_eq, n5, not_false_eq_true, true_and, show ¬ (100 : Int) = -1 by decide]
        · simp only [sr_uf, ne_eq, not_true_eq_false, false_and, if_false]
    · split
      · next c5 => simp only [sr_uf, sr_ur, e, c5, false_and, if_false, ne_eq, not_true_eq_false, and_false]
      · next c5 => simp only [sr_uf, sr_sSend, ne_eq, c5, not_false_eq_true, true_and, show ¬ (100 : Int) = -1 by decide]
theorem itm_g (σ : sS) (n i k : Nat) (v : Int) : sg (sItem σ n i v) k = sg σ k := by
  unfold sItem
  split
  · rfl
  · split
    · split <;> rfl
    · split
      · rfl
      · split
        · rw [sg_sSend]
          split <;> rfl
        · rfl
theorem itm_f (σ : sS) (n i t k : Nat) (v : Int) : sf (sItem σ n i v) t k = if t = n then nIf (sf σ n) v k else sf σ t k := by
  unfold sItem nIf
  by_cases c3 : sf σ n 0 = 3
  · rw [if_neg (show ¬ sf σ n 0 = 1 by omega), if_neg (show ¬ sf σ n 0 = 2 by omega), if_pos c3, sf_sSend, sf_uf]
    by_cases e : t = n
    · subst e
      rw [if_pos (show t = t from rfl)]
      by_cases ek : k = 10 + (v % 4).toNat
      · rw [if_pos ⟨rfl, ek⟩, if_pos ⟨c3, ek⟩, ek]
      · rw [if_neg (fun q => ek q.2), if_neg (fun q => ek q.2)]
    · rw [if_neg (show ¬ t = n from e), if_neg (fun q => e q.1)]
  · have e0 : (if t = n then (if sf σ n 0 = 3 ∧ k = 10 + (v % 4).toNat then sf σ n k + v else sf σ n k) else sf σ t k) = sf σ t k := by
      rw [if_neg (show ¬ (sf σ n 0 = 3 ∧ k = 10 + (v % 4).toNat) from fun q => c3 q.1)]
      by_cases e : t = n
      · rw [if_pos e, e]
      · rw [if_neg e]
    rw [e0]
    split
    · rfl
    · split
      · split <;> rfl
      · split
        · rw [sf_sSend]
          split
          · rfl
          · rfl
        · rfl
theorem itm_r (σ : sS) (n i t k : Nat) (v : Int) (hv : 0 ≤ v) (h0 : sf σ n 0 = 1 ∨ sf σ n 0 = 2 ∨ sf σ n 0 = 3 ∨ sf σ n 0 = 4 ∨ sf σ n 0 = 5) : sr (sItem σ n i v) t k = if t = n then nIr (sf σ n) (sr σ n) i v k else if nIv (sf σ n) v ≠ -1 ∧ fed σ n t k = true then sr σ t k ++ [nIv (sf σ n) v] else sr σ t k := by
  unfold sItem nIr nIv
  by_cases c1 : sf σ n 0 = 1
  · have p : (v + sf σ n 3) % 100 ≠ -1 := by have := Int.emod_nonneg (v + sf σ n 3) (show (100 : Int) ≠ 0 by decide); omega
    rw [if_pos c1, if_pos c1, sr_sSend]
    by_cases e : t = n
    · subst e
      rw [if_pos rfl, fed_self, if_neg (by decide), if_neg (by omega), if_neg (by omega)]
    · rw [if_neg e]
      by_cases q : fed σ n t k = true
      · rw [if_pos q, if_pos ⟨p, q⟩]
      · rw [if_neg q, if_neg (fun z => q z.2)]
  rw [if_neg c1, if_neg c1]
  by_cases c2 : sf σ n 0 = 2
  · rw [if_pos c2, if_pos c2]
    by_cases cv : v % sf σ n 3 = 0
    · rw [if_pos cv, if_pos cv]
      by_cases e : t = n
      · subst e
        rw [if_pos rfl, if_neg (by omega), if_neg (by omega)]
      · rw [if_neg e, if_neg (fun z => z.1 rfl)]
    · rw [if_neg cv, if_neg cv, sr_sSend]
      by_cases e : t = n
      · subst e
        rw [if_pos rfl, fed_self, if_neg (by decide), if_neg (by omega), if_neg (by omega)]
      · rw [if_neg e]
        by_cases q : fed σ n t k = true
        · rw [if_pos q, if_pos ⟨by omega, q⟩]
        · rw [if_neg q, if_neg (fun z => q z.2)]
  rw [if_neg c2, if_neg c2]
  by_cases c3 : sf σ n 0 = 3
  · have p : (sf σ n (10 + (v % 4).toNat) + v) % 100 ≠ -1 := by have := Int.emod_nonneg (sf σ n (10 + (v % 4).toNat) + v) (show (100 : Int) ≠ 0 by decide); omega
    rw [if_pos c3, if_pos c3, sr_sSend, sr_uf, fed_uf' (by omega)]
    by_cases e : t = n
    · subst e
      rw [if_pos rfl, fed_self, if_neg (by decide), if_neg (by omega), if_neg (by omega)]
    · rw [if_neg e]
      by_cases q : fed σ n t k = true
      · rw [if_pos q, if_pos ⟨p, q⟩]
      · rw [if_neg q, if_neg (fun z => q z.2)]
  rw [if_neg c3, if_neg c3]
  by_cases c4 : sf σ n 0 = 4
  · rw [if_pos c4, if_pos c4, sr_sSend]
    by_cases c8 : sf σ n 8 = (i : Int) + 1
    · rw [if_pos c8, sr_ur, show fed (ur σ n 2 (sr σ n 2 ++ [v])) n t k = fed σ n t k from rfl]
      by_cases e : t = n
      · subst e
        rw [if_pos rfl, fed_self, if_neg (by decide)]
        by_cases ek : k = 2
        · rw [if_pos ⟨rfl, ek⟩, if_pos ⟨c4, c8, ek⟩]
        · rw [if_neg (fun q => ek q.2), if_neg (fun q => ek q.2.2), if_neg (by omega)]
      · rw [if_neg e, if_neg (show ¬ (t = n ∧ k = 2) from fun q => e q.1)]
        by_cases q : fed σ n t k = true
        · rw [if_pos q, if_pos ⟨by omega, q⟩]
        · rw [if_neg q, if_neg (fun z => q z.2)]
    · rw [if_neg c8]
      by_cases e : t = n
      · subst e
        rw [if_pos rfl, fed_self, if_neg (by decide), if_neg (fun q => c8 q.2.1), if_neg (by omega)]
      · rw [if_neg e]
        by_cases q : fed σ n t k = true
        · rw [if_pos q, if_pos ⟨by omega, q⟩]
        · rw [if_neg q, if_neg (fun z => q z.2)]
  · have c5 : sf σ n 0 = 5 := by omega
    rw [if_neg c4, if_neg c4, sr_ur]
    by_cases e : t = n
    · subst e
      rw [if_pos (show t = t from rfl), if_neg (show ¬ (sf σ t 0 = 4 ∧ sf σ t 8 = (i : Int) + 1 ∧ k = 2) from fun q => c4 q.1)]
      by_cases ek : k = 4
      · rw [if_pos (show t = t ∧ k = 4 from ⟨rfl, ek⟩), if_pos (show sf σ t 0 = 5 ∧ k = 4 from ⟨c5, ek⟩)]
      · rw [if_neg (show ¬ (t = t ∧ k = 4) from fun q => ek q.2), if_neg (show ¬ (sf σ t 0 = 5 ∧ k = 4) from fun q => ek q.2)]
    · rw [if_neg (show ¬ t = n from e), if_neg (show ¬ (t = n ∧ k = 4) from fun q => e q.1), if_neg (fun q => q.1 rfl)]
