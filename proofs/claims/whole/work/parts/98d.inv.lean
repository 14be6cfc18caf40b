/-! what always holds of the works -/
abbrev psd (f : Nat → Int) : Prop := f 9 = 1 ∨ f 8 ≠ 0
abbrev gotB (f : Nat → Int) (i : Nat) : Prop := f 9 = 1 ∨ f 7 = (i : Int) + 1 ∨ f 8 = 2 - (i : Int)
def bar (L : List Int) : Nat := (L.filter (fun v => decide (v = 100))).length
def preL (L : List Int) : List Int := L.takeWhile (fun v => decide (v ≠ 100))
def KS (σ : sS) : Nat → Int := fun u => sf σ u 0
def fdS (σ : sS) : Nat → Nat → Nat := fun u i => if i = 0 then (sf σ u 1).toNat else (sf σ u 2).toNat
def vCf (f : Nat → Int) (r : Nat → List Int) (i : Nat) : Int := (itm (r i) : Int) + (if f 0 = 5 then ((r 4).length : Int) + ((r 5).length : Int) else 0)
def vVf (f : Nat → Int) (r : Nat → List Int) (i : Nat) : Int := (if gotB f i then 0 else (itm (preL (r i)) : Int)) + (if f 8 = (i : Int) + 1 ∨ (f 9 = 1 ∧ f 25 = (i : Int) + 1) then ((r 2).length : Int) else 0)
def vLf (f : Nat → Int) (r : Nat → List Int) (i : Nat) : Int := if f 26 = (i : Int) + 1 then ((r 3).length : Int) else 0
def bVf (f : Nat → Int) : Int := 30 - (if f 9 = 1 then f 19 else f 4)
def cnt (σ : sS) (bs : Nat → Int) (v : Nat → Nat → Int) : Prop := ∀ n, n < sN σ → ∀ i, i < nin (sf σ n 0) → v n i + pt (KS σ) (fdS σ) bs v 8 (fdS σ n i) ≤ cpT (KS σ) (fdS σ) 8 (fdS σ n i)
def cnC (σ : sS) : Prop := cnt σ (fun n => 30 - sf σ n 4) (fun n i => vCf (sf σ n) (sr σ n) i)
def cnV (σ : sS) : Prop := cnt σ (fun n => bVf (sf σ n)) (fun n i => vVf (sf σ n) (sr σ n) i)
def cnL (σ : sS) : Prop := cnt σ (fun n => 30 - sf σ n 14) (fun n i => vLf (sf σ n) (sr σ n) i)
def nB (k a5 a6 a7 a8 a9 g4 g5 : Int) : Prop := (a5 = 0 ∨ a5 = 1 ∧ k = 0 ∧ a9 = 0 ∧ g4 = 1) ∧ (a6 = 0 ∨ a6 = 1) ∧ (k ≠ 4 → a6 = 0) ∧ (0 ≤ a7 ∧ a7 ≤ 2) ∧ (0 ≤ a8 ∧ a8 ≤ 2) ∧ (k ≠ 4 → a7 = 0 ∧ a8 = 0) ∧ (g5 = 1 → a8 = 0) ∧ (g5 ≠ 1 → a7 = 0) ∧ (a9 = 0 ∨ a9 = 1) ∧ (a9 = 1 → a7 = 0 ∧ a8 = 0) ∧ (g4 ≠ 1 → a7 = 0 ∧ a8 = 0 ∧ a9 = 0)
def nBs (f : Nat → Int) (g4 g5 : Int) : Prop := nB (f 0) (f 5) (f 6) (f 7) (f 8) (f 9) g4 g5
def nP (k a4 a14 a19 a24 a25 a26 a27 : Int) : Prop := (0 ≤ a4 ∧ a4 ≤ 30) ∧ (0 ≤ a14 ∧ a14 ≤ 30) ∧ (0 ≤ a19 ∧ a19 ≤ 30) ∧ (0 ≤ a24 ∧ a24 ≤ 60) ∧ (0 ≤ a25 ∧ a25 ≤ 2) ∧ (0 ≤ a26 ∧ a26 ≤ 2) ∧ (0 ≤ a27 ∧ a27 ≤ 60) ∧ (k ≠ 4 → a25 = 0 ∧ a26 = 0)
def nPs (f : Nat → Int) : Prop := nP (f 0) (f 4) (f 14) (f 19) (f 24) (f 25) (f 26) (f 27)
def nS (T : Int) (f : Nat → Int) : Prop := ∀ k, k < 4 → (0 ≤ f (10 + k) ∧ f (10 + k) ≤ T) ∧ (0 ≤ f (15 + k) ∧ f (15 + k) ≤ T) ∧ (0 ≤ f (20 + k) ∧ f (20 + k) ≤ T) ∧ (f 0 ≠ 3 → f (10 + k) = 0 ∧ f (15 + k) = 0 ∧ f (20 + k) = 0)
def nR (k : Int) (r : Nat → List Int) : Prop := (∀ i, i < 2 → ∀ v ∈ r i, 0 ≤ v ∧ v ≤ 100) ∧ (∀ v ∈ r 2, 0 ≤ v ∧ v < 100) ∧ (∀ v ∈ r 3, 0 ≤ v ∧ v < 100) ∧ (r 2).length ≤ 60 ∧ (r 6).length ≤ 100 ∧ (k ≠ 5 → r 4 = [] ∧ r 5 = []) ∧ (k ≠ 4 → r 1 = []) ∧ (k = 0 → r 0 = [])
def nK (σ : sS) (n : Nat) : Prop := (0 ≤ sf σ n 0 ∧ sf σ n 0 ≤ 5) ∧ (0 ≤ sf σ n 3 ∧ sf σ n 3 ≤ 99) ∧ (sf σ n 0 = 0 → 1 ≤ sf σ n 1 ∧ sf σ n 1 ≤ 9) ∧ (sf σ n 0 = 2 → 1 ≤ sf σ n 3) ∧ ∀ i, i < nin (sf σ n 0) → 0 ≤ sf σ n (1 + i) ∧ sf σ n (1 + i) < (n : Int) ∧ sf σ (fdS σ n i) 0 ≠ 5
def dis (σ : sS) (n : Nat) : Prop := ∀ i, i < nin (sf σ n 0) → bar (sr σ n i) = (if psd (sf σ (fdS σ n i)) ∧ ¬ gotB (sf σ n) i then 1 else 0) ∧ (gotB (sf σ n) i → psd (sf σ (fdS σ n i)))
def glo (T M : Int) (σ : sS) : Prop := (0 ≤ sg σ 0 ∧ sg σ 0 ≤ 8) ∧ (0 ≤ sg σ 1 ∧ sg σ 1 ≤ T) ∧ (0 ≤ sg σ 2 ∧ sg σ 2 ≤ 30) ∧ 0 ≤ sg σ 3 ∧ (sg σ 4 = 0 ∨ sg σ 4 = 1) ∧ (sg σ 5 = 0 ∨ sg σ 5 = 1) ∧ sg σ 3 + sg σ 4 ≤ M ∧ (0 ≤ sg σ 7 ∧ sg σ 7 ≤ M) ∧ (0 ≤ sg σ 8 ∧ sg σ 8 ≤ 960 * sg σ 3)
/-- T: steps so far, M: orders so far, S: what a sum may be -/
def Inv (T M S : Int) (σ : sS) : Prop := glo T M σ ∧ (∀ n, n < sN σ → nK σ n ∧ nBs (sf σ n) (sg σ 4) (sg σ 5) ∧ nPs (sf σ n) ∧ nS S (sf σ n) ∧ nR (sf σ n 0) (sr σ n) ∧ dis σ n) ∧ (cnC σ ∧ (sg σ 4 = 1 → cnV σ) ∧ cnL σ) ∧ sg σ 6 = sumN (fun n => sf σ n 27) (sN σ) ∧ sJoins σ ≤ 2 ∧ ∀ n, sN σ ≤ n → (∀ j, sf σ n j = 0) ∧ ∀ j, sr σ n j = []
theorem itm_app (L : List Int) (v : Int) : itm (L ++ [v]) = itm L + (if v = 100 then 0 else 1) := by
  unfold itm
  rw [List.filter_append, List.length_append]
  by_cases e : v = 100
  · rw [if_pos e]; simp [e]
  · rw [if_neg e]; simp [e]
theorem bar_app (L : List Int) (v : Int) : bar (L ++ [v]) = bar L + (if v = 100 then 1 else 0) := by
  unfold bar
  rw [List.filter_append, List.length_append]
  by_cases e : v = 100
  · rw [if_pos e]; simp [e]
  · rw [if_neg e]; simp [e]
theorem pre_0 {L : List Int} (h : bar L = 0) : preL L = L := by
  induction L with
  | nil => rfl
  | cons a l ih =>
    unfold bar at h
    by_cases e : a = 100
    · rw [List.filter_cons, if_pos (decide_eq_true e)] at h
      simp at h
    · rw [List.filter_cons, if_neg (by simp [e])] at h
      unfold preL
      rw [List.takeWhile_cons, if_pos (by simp [e])]
      show a :: preL l = _
      rw [ih h]
theorem pre_1 {L : List Int} {v : Int} (h : bar L ≠ 0) : preL (L ++ [v]) = preL L := by
  induction L with
  | nil => exact absurd rfl h
  | cons a l ih =>
    unfold bar at h
    by_cases e : a = 100
    · unfold preL
      rw [List.cons_append, List.takeWhile_cons, if_neg (by simp [e]), List.takeWhile_cons, if_neg (by simp [e])]
    · rw [List.filter_cons, if_neg (by simp [e])] at h
      unfold preL
      rw [List.cons_append, List.takeWhile_cons, if_pos (by simp [e]), List.takeWhile_cons, if_pos (by simp [e])]
      show a :: preL (l ++ [v]) = a :: preL l
      rw [ih h]
theorem pre_b {L : List Int} (h : bar L = 0) : preL (L ++ [100]) = L := by
  induction L with
  | nil => rfl
  | cons a l ih =>
    unfold bar at h
    by_cases e : a = 100
    · rw [List.filter_cons, if_pos (decide_eq_true e)] at h
      simp at h
    · rw [List.filter_cons, if_neg (by simp [e])] at h
      unfold preL
      rw [List.cons_append, List.takeWhile_cons, if_pos (by simp [e])]
      show a :: preL (l ++ [100]) = a :: l
      rw [ih h]
theorem nin_4 {k : Int} (h : k = 4) : nin k = 2 := by unfold nin; rw [if_neg (by omega), if_pos h]
theorem nin_0 {k : Int} (h : k = 0) : nin k = 0 := by unfold nin; rw [if_pos h]
theorem nin_1 {k : Int} (h : k ≠ 0) (h4 : k ≠ 4) : nin k = 1 := by unfold nin; rw [if_neg h, if_neg h4]
theorem fdS_eq {σ : sS} {t i : Nat} (hi : i < 2) : fdS σ t i = (sf σ t (1 + i)).toNat := by
  have c : i = 0 ∨ i = 1 := by omega
  rcases c with rfl | rfl <;> rfl
theorem fed_iff {σ : sS} {n t i : Nat} (ht : t < sN σ) (hi : i < nin (sf σ t 0)) (K : nK σ t) : fed σ n t i = true ↔ fdS σ t i = n := by
  have k := K.2.2.2.2 i hi
  have n2 := nin_le (sf σ t 0)
  rw [fdS_eq (by omega)]
  constructor
  · intro h
    have := fed_lt h
    omega
  · intro h
    refine decide_eq_true ⟨by omega, ht, hi, by omega⟩
