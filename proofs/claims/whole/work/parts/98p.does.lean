/-! orders of a text keep what always holds -/
def cs : List (Int × List Int) → Nat
  | [] => 0
  | o :: os => (if o.1 = 115 then 1 else 0) + cs os
theorem pNum_1 {tx : List Int} {m : Bool} {p : Nat} (h : (pNum tx m p).1 = true) : p + 1 ≤ (pNum tx m p).2.1 := by
  unfold pNum at h ⊢
  by_cases c1 : tb tx p = 45 ∧ m = true
  · rw [if_pos c1]; exact Nat.le_refl _
  · rw [if_neg c1] at h ⊢
    by_cases c2 : fig tx p = true
    · rw [if_pos c2]
      by_cases c3 : fig tx (p + 1) = true
      · rw [if_pos c3]; show p + 1 ≤ p + 2; omega
      · rw [if_neg c3]; exact Nat.le_refl _
    · rw [if_neg c2] at h; exact absurd h (by simp)
theorem pOrd_3 {tx : List Int} {q : Nat} (hq : q ≤ tx.length) (h : (pOrd tx q).1 = true) (h5 : tb tx q = 115) : q + 3 ≤ (pOrd tx q).2.1 := by
  have qi : q < tx.length := tb_in (by omega)
  have ea : arN (tb tx q) = some [false] := by rw [h5]; rfl
  have ep : pOrd tx q = (if (pNums [false] tx (q + 1)).1 = true then (if tb tx (skp tx (pNums [false] tx (q + 1)).2.1) = 59 then (true, skp tx (pNums [false] tx (q + 1)).2.1 + 1, (pNums [false] tx (q + 1)).2.2) else (false, skp tx (pNums [false] tx (q + 1)).2.1, [])) else (false, (pNums [false] tx (q + 1)).2.1, [])) := by unfold pOrd; rw [ea]
  have np := pNums_le (tx := tx) [false] (q + 1) (by omega)
  have sk := skp_ge np.2
  have s1 := skp_ge (tx := tx) (p := q + 1) (by omega)
  rw [ep] at h ⊢
  by_cases c : (pNums [false] tx (q + 1)).1 = true
  · rw [if_pos c] at h ⊢
    have e1 : (pNums [false] tx (q + 1)).1 = true → (pNum tx false (skp tx (q + 1))).1 = true ∧ (pNums [false] tx (q + 1)).2.1 = (pNum tx false (skp tx (q + 1))).2.1 := by
      intro z
      unfold pNums at z ⊢
      by_cases c' : (pNum tx false (skp tx (q + 1))).1 = true
      · rw [if_pos c']; exact ⟨c', rfl⟩
      · rw [if_neg c'] at z; exact absurd z (by simp)
    obtain ⟨y1, y2⟩ := e1 c
    have := pNum_1 y1
    by_cases c2 : tb tx (skp tx (pNums [false] tx (q + 1)).2.1) = 59
    · rw [if_pos c2]
      show q + 3 ≤ skp tx (pNums [false] tx (q + 1)).2.1 + 1
      omega
    · rw [if_neg c2] at h; exact absurd h (by simp)
  · rw [if_neg c] at h; exact absurd h (by simp)
theorem pAll_b {tx : List Int} : ∀ (k p : Nat) (os : List (Int × List Int)), p ≤ tx.length → pAll k tx p = .inr os → 3 * cs os + p ≤ tx.length ∧ 2 * os.length + p ≤ tx.length := by
  intro k
  induction k with
  | zero => intro p os hp h; cases h; exact ⟨by show 0 + p ≤ _; omega, by show 0 + p ≤ _; omega⟩
  | succ k ih =>
    intro p os hp h
    have sl := skp_le hp
    have sg1 := skp_ge hp
    have pe : pAll (k + 1) tx p = if skp tx p < tx.length then (if (pOrd tx (skp tx p)).1 = true then (match pAll k tx (pOrd tx (skp tx p)).2.1 with
      | .inl e => .inl e
      | .inr os => .inr ((tb tx (skp tx p), (pOrd tx (skp tx p)).2.2) :: os)) else .inl (pOrd tx (skp tx p)).2.1) else .inr [] := rfl
    rw [pe] at h
    split at h
    · split at h
      · next c2 =>
        obtain ⟨q1, q2, -⟩ := pOrd_2 sl c2
        cases er : pAll k tx (pOrd tx (skp tx p)).2.1 with
        | inl e' => rw [er] at h; cases h
        | inr os' =>
          rw [er] at h
          cases h
          obtain ⟨i1, i2⟩ := ih _ os' q2 er
          refine ⟨?_, by show 2 * (os'.length + 1) + p ≤ _; omega⟩
          show 3 * ((if tb tx (skp tx p) = 115 then 1 else 0) + cs os') + p ≤ _
          by_cases c5 : tb tx (skp tx p) = 115
          · rw [if_pos c5]
            have := pOrd_3 sl c2 c5
            omega
          · rw [if_neg c5]; omega
      · cases h
    · cases h; exact ⟨by show 0 + p ≤ _; omega, by show 0 + p ≤ _; omega⟩
theorem ex1_inv {T M : Int} {σ : sS} {o : Int × List Int} (I : InvZ T M σ) (hT : 0 ≤ T) (hb : 792 * (T + 60) ≤ 1000000000) : InvZ (T + 60 * ((if o.1 = 115 then 1 else 0 : Nat) : Int)) (M + 1) (ex1 σ o).2 := by
  have I1 : ∀ x : Nat, InvZ (T + 60 * (x : Int)) (M + 1) σ := fun x => I.wk (by omega) (by omega)
  unfold ex1
  by_cases c1 : o.1 = 110
  · rw [if_pos c1, if_neg (show ¬ o.1 = 115 by omega)]
    split
    · next c => exact (invz_node I hT c).wk (by omega) (by omega)
    · exact I1 0
  rw [if_neg c1]
  by_cases c2 : o.1 = 115
  · rw [if_pos c2, if_pos c2]
    split
    · next c => exact (invz_steps I (o.2.getD 0 0).toNat (by omega)).wk (by omega) (by omega)
    · exact I1 1
  rw [if_neg c2, if_neg c2]
  split
  · split
    · exact I1 0
    · next c => exact (invz_marks I c).wk (by omega) (by omega)
  · split
    · exact (invz_fails I).wk (by omega) (by omega)
    · split
      · split
        · next c =>
          split
          · exact I1 0
          · next c4 => exact (invz_ali I (by omega) c4).wk (by omega) (by omega)
        · exact I1 0
      · split
        · next c => exact (invz_len I c).wk (by omega) (by omega)
        · exact I1 0
theorem exe_inv : ∀ (os : List (Int × List Int)) (T M : Int) (σ : sS), InvZ T M σ → 0 ≤ T → 792 * (T + 60 * (cs os : Int) + 60) ≤ 1000000000 → InvZ (T + 60 * (cs os : Int)) (M + (os.length : Int)) (exe os σ).2 := by
  intro os
  induction os with
  | nil => intro T M σ I _ _; exact I.wk (by show T ≤ T + 60 * ((0 : Nat) : Int); omega) (by show M ≤ M + ((0 : Nat) : Int); omega)
  | cons o os ih =>
    intro T M σ I hT hb
    have ec : (cs (o :: os) : Int) = ((if o.1 = 115 then 1 else 0 : Nat) : Int) + (cs os : Int) := by
      show (((if o.1 = 115 then 1 else 0) + cs os : Nat) : Int) = _
      omega
    rw [ec] at hb ⊢
    have J := ex1_inv (o := o) I hT (by omega)
    have K := ih _ _ (ex1 σ o).2 J (by omega) (by omega)
    show InvZ _ _ (exe os (ex1 σ o).2).2
    refine K.wk (by omega) ?_
    show M + 1 + (os.length : Int) ≤ M + ((os.length + 1 : Nat) : Int)
    omega
theorem cs_take : ∀ (os : List (Int × List Int)) (j : Nat), cs (os.take j) ≤ cs os := by
  intro os
  induction os with
  | nil => intro j; rw [List.take_nil]; exact Nat.le_refl _
  | cons o os ih =>
    intro j
    cases j with
    | zero => exact Nat.zero_le _
    | succ j =>
      show (if o.1 = 115 then 1 else 0) + cs (os.take j) ≤ (if o.1 = 115 then 1 else 0) + cs os
      have := ih j
      omega
