/-! all that a run holds to -/
def SZ (c : Nat) (s : SS) : Prop := InvZ (2400 * (c : Int)) (60 * (c : Int)) s.1 ∧ (∀ j, j < s.2.1.length → InvZ (2400 * (c : Int)) (60 * (c : Int)) (s.2.1.getD j sNew)) ∧ (∀ k, k < 3 → 0 ≤ s.2.2.1 k ∧ s.2.2.1 k ≤ (c : Int)) ∧ s.2.2.2.length ≤ 120 ∧ ∀ i, i < s.2.2.2.length → 0 ≤ s.2.2.2.getD i 0
theorem SZ.wk {c : Nat} {s : SS} (S : SZ c s) : SZ (c + 1) s := by
  obtain ⟨a, b, r, l, t⟩ := S
  exact ⟨a.wk (by omega) (by omega), fun j hj => (b j hj).wk (by omega) (by omega), fun k hk => ⟨(r k hk).1, by have := (r k hk).2; omega⟩, l, t⟩
theorem SZ.okY {c : Nat} {s : SS} (S : SZ c s) (hc : c < 512) : okY s.1 := S.1.okY (by omega) (by omega) (by omega)
theorem SZ.okR {c : Nat} {s : SS} (S : SZ c s) (hc : c < 512) : okR s.2.2.1 := fun k hk => ⟨(S.2.2.1 k hk).1, by have := (S.2.2.1 k hk).2; omega⟩
theorem SZ.ref {c : Nat} {s : SS} {how : Int} (S : SZ c s) : SZ (c + 1) (xRef s how).2 := by
  obtain ⟨a, b, r, l, t⟩ := S.wk
  refine ⟨a, b, fun k hk => ?_, l, t⟩
  have q := S.2.2.1 k hk
  show 0 ≤ rfU s.2.2.1 how k ∧ rfU s.2.2.1 how k ≤ _
  unfold rfU
  split <;> split <;> omega
theorem SZ.go {c : Nat} {s : SS} {v : Int} {ρ : sS} (S : SZ c s) (I : InvZ (2400 * ((c + 1 : Nat) : Int)) (60 * ((c + 1 : Nat) : Int)) ρ) : SZ (c + 1) (xGo s v ρ).2 := by
  obtain ⟨a, b, r, l, t⟩ := S.wk
  refine ⟨I, fun j hj => ?_, r, l, t⟩
  change j < (sKp s.2.1 s.1).length at hj
  show InvZ _ _ ((sKp s.2.1 s.1).getD j sNew)
  have app : ∀ (qs : List sS), (∀ j, j < qs.length → InvZ (2400 * ((c + 1 : Nat) : Int)) (60 * ((c + 1 : Nat) : Int)) (qs.getD j sNew)) → j < (qs ++ [s.1]).length → InvZ (2400 * ((c + 1 : Nat) : Int)) (60 * ((c + 1 : Nat) : Int)) ((qs ++ [s.1]).getD j sNew) := by
    intro qs hq hj
    rw [List.length_append] at hj
    have hj : j < qs.length + 1 := hj
    by_cases e : j = qs.length
    · have eg : (qs ++ [s.1]).getD j sNew = s.1 := by
        rw [e, List.getD_eq_getElem?_getD, List.getElem?_append_right (Nat.le_refl _), Nat.sub_self]; rfl
      rw [eg]; exact a
    · have eg : (qs ++ [s.1]).getD j sNew = qs.getD j sNew := by
        rw [List.getD_eq_getElem?_getD, List.getElem?_append_left (by omega), List.getD_eq_getElem?_getD]
      rw [eg]; exact hq j (by omega)
  unfold sKp at hj ⊢
  by_cases c5 : s.2.1.length = 5
  · rw [if_pos c5] at hj ⊢
    refine app _ (fun j hj => ?_) hj
    rw [List.length_drop] at hj
    rw [show (s.2.1.drop 1).getD j sNew = s.2.1.getD (j + 1) sNew by rw [List.getD_eq_getElem?_getD, List.getElem?_drop, List.getD_eq_getElem?_getD, Nat.add_comm 1 j]]
    exact b (j + 1) (by omega)
  · rw [if_neg c5] at hj ⊢
    exact app _ b hj
theorem sz_begins {c : Nat} {s : SS} (S : SZ c s) : SZ (c + 1) (xBegins s).2 := S.go (invz_new (by omega) (by omega))
theorem sz_node {c : Nat} {s : SS} {kind a b k : Int} (S : SZ c s) : SZ (c + 1) (xNode s kind a b k).2 := by
  unfold xNode
  split
  · next h => exact S.go ((invz_node S.1 (by omega) h).wk (by omega) (by omega))
  · exact S.ref
theorem sz_len {c : Nat} {s : SS} {n : Int} (S : SZ c s) : SZ (c + 1) (xLen s n).2 := by
  unfold xLen
  split
  · next h => exact S.go ((invz_len S.1 h).wk (by omega) (by omega))
  · exact S.ref
theorem sz_ali {c : Nat} {s : SS} {n : Int} (S : SZ c s) : SZ (c + 1) (xAli s n).2 := by
  unfold xAli
  split
  · next h =>
    split
    · exact S.ref
    · next h4 => exact S.go ((invz_ali S.1 (by omega) h4).wk (by omega) (by omega))
  · exact S.ref
theorem sz_steps {c : Nat} {s : SS} {n : Int} (S : SZ c s) (hc : c < 512) : SZ (c + 1) (xSteps s n).2 := by
  unfold xSteps
  split
  · next h => exact S.go ((invz_steps S.1 n.toNat (by omega)).wk (by omega) (by omega))
  · exact S.ref
theorem sz_marks {c : Nat} {s : SS} (S : SZ c s) : SZ (c + 1) (xMarks s).2 := by
  unfold xMarks
  split
  · exact S.ref
  · next h => exact S.go ((invz_marks S.1 h).wk (by omega) (by omega))
theorem sz_fails {c : Nat} {s : SS} (S : SZ c s) : SZ (c + 1) (xFails s).2 := S.go ((invz_fails S.1).wk (by omega) (by omega))
theorem sz_if {c : Nat} {s : SS} {p : Prop} [Decidable p] {v : Int} {how : Int} (S : SZ c s) : SZ (c + 1) (if p then (v, s) else xRef s how).2 := by
  split
  · exact S.wk
  · exact S.ref
theorem sz_type {c : Nat} {s : SS} {v : Int} (S : SZ c s) : SZ (c + 1) (xType s v).2 := by
  unfold xType
  split
  · next h =>
    split
    · exact S.ref
    · next h2 =>
      obtain ⟨a, b, r, l, t⟩ := S.wk
      refine ⟨a, b, r, ?_, fun i hi => ?_⟩
      · show (s.2.2.2 ++ [v]).length ≤ 120
        rw [List.length_append]; show _ + 1 ≤ _; omega
      · change i < (s.2.2.2 ++ [v]).length at hi
        rw [List.length_append] at hi
        have hi : i < s.2.2.2.length + 1 := hi
        show 0 ≤ (s.2.2.2 ++ [v]).getD i 0
        by_cases e : i = s.2.2.2.length
        · rw [e, List.getD_eq_getElem?_getD, List.getElem?_append_right (Nat.le_refl _), Nat.sub_self]; exact h.1
        · rw [gd_l (by omega)]; exact t i (by omega)
  · exact S.ref
theorem sz_clear {c : Nat} {s : SS} (S : SZ c s) : SZ (c + 1) (xClear s).2 := by
  obtain ⟨a, b, r, l, t⟩ := S.wk
  exact ⟨a, b, r, Nat.zero_le _, fun i hi => absurd hi (Nat.not_lt_zero i)⟩
theorem sz_back {c : Nat} {s : SS} (S : SZ c s) : SZ (c + 1) (xBack s).2 := by
  unfold xBack
  split
  · exact S.ref
  · next h =>
    obtain ⟨a, b, r, l, t⟩ := S.wk
    have hl : 0 < s.2.1.length := List.length_pos_iff.mpr h
    refine ⟨?_, fun j hj => ?_, r, l, t⟩
    · have gl : s.2.1.getD (s.2.1.length - 1) sNew = s.2.1.getLastD sNew := by
        rw [List.getD_eq_getElem?_getD, List.getLastD_eq_getLast?, List.getLast?_eq_getElem?]
      show InvZ _ _ (s.2.1.getLastD sNew)
      rw [← gl]; exact b _ (by omega)
    · change j < s.2.1.dropLast.length at hj
      rw [List.length_dropLast] at hj
      show InvZ _ _ (s.2.1.dropLast.getD j sNew)
      rw [show s.2.1.dropLast.getD j sNew = s.2.1.getD j sNew by rw [List.getD_eq_getElem?_getD, List.getD_eq_getElem?_getD, List.getElem?_dropLast, if_pos (by omega)]]
      exact b j (by omega)
theorem SZ.exe {c : Nat} {s : SS} (S : SZ c s) (hc : c < 512) {os : List (Int × List Int)} (h : pAll 121 s.2.2.2 0 = .inr os) (j : Nat) : InvZ (2400 * (c : Int) + 2400) (60 * (c : Int) + 60) (exe (os.take j) s.1).2 := by
  obtain ⟨b1, b2⟩ := pAll_b 121 0 os (by omega) h
  have l := S.2.2.2.1
  have ct := cs_take os j
  have lt : (os.take j).length ≤ os.length := by rw [List.length_take]; omega
  exact (exe_inv (os.take j) _ _ s.1 S.1 (by omega) (by omega)).wk (by omega) (by omega)
theorem sz_does {c : Nat} {s : SS} (S : SZ c s) (hc : c < 512) : SZ (c + 1) (xDoes s).2 := by
  unfold xDoes
  split
  · cases ep : pAll 121 s.2.2.2 0 with
    | inl e => exact S.wk
    | inr os =>
      have I := S.exe hc ep os.length
      rw [List.take_length] at I
      exact S.go (v := 0) (I.wk (by omega) (by omega))
  · exact S.wk
