/-! a taker's act keeps what always holds: the barrier -/
theorem bar_front {T M S : Int} {σ : sS} {n i : Nat} {l : List Int} (I : Inv T M S σ) (hn : n < sN σ) (hi : i < nin (sf σ n 0)) (hL : sr σ n i = 100 :: l) : psd (sf σ (fdS σ n i)) ∧ ¬ gotB (sf σ n) i ∧ bar l = 0 ∧ sg σ 4 = 1 := by
  obtain ⟨G, A, -⟩ := id I
  obtain ⟨a1, a2, a3, a4, a5, a6⟩ := A n hn
  obtain ⟨s1, s2⟩ := a6 i hi
  rw [hL, bar_cons, if_pos rfl] at s1
  by_cases z : psd (sf σ (fdS σ n i)) ∧ ¬ gotB (sf σ n) i
  · rw [if_pos z] at s1
    refine ⟨z.1, z.2, by omega, ?_⟩
    have l := fd_lt (fun n hn => (A n hn).1) hn hi
    have b := (A (fdS σ n i) (by omega)).2.1
    unfold nBs nB at b
    have p := z.1
    unfold psd at p
    have g4 := G.2.2.2.2.1
    omega
  · rw [if_neg z] at s1; omega
theorem inv_bar_c {T M S : Int} {σ ρ : sS} {n i : Nat} {l : List Int} {f' : Nat → Int} {r' : Nat → List Int} {out : Int} (I : Inv T M S σ) (hn : n < sN σ) (hk : sf σ n 0 ≠ 0) (hi : i < nin (sf σ n 0)) (hL : sr σ n i = 100 :: l) (hg : ∀ k, sg ρ k = sg σ k) (hf : ∀ t k, sf ρ t k = if t = n then f' k else sf σ t k) (hr : ∀ t k, sr ρ t k = if t = n then r' k else rcv σ n t out k) (ho : out = -1 ∨ out = 100) (f0 : ∀ k, k < 4 → f' k = sf σ n k) (f14 : f' 14 = sf σ n 14) (f26 : f' 26 = sf σ n 26) (f27 : f' 27 = sf σ n 27) (r3 : r' 3 = sr σ n 3) (hB : nBs f' (sg σ 4) (sg σ 5)) (hP : nPs f') (hSs : nS S f') (hR : nR (f' 0) r') (gi : gotB f' i) (ri : r' i = l) (oj : ∀ j, j < nin (sf σ n 0) → j ≠ i → r' j = sr σ n j ∧ (gotB f' j ↔ gotB (sf σ n) j)) (hp1 : out = 100 → ¬ psd (sf σ n) ∧ psd f') (hp2 : out ≠ 100 → (psd f' ↔ psd (sf σ n)) ∨ ∀ t i, fed σ n t i = false) (vc : sf σ n 0 = 5 → (r' 4).length + (r' 5).length ≤ (sr σ n 4).length + (sr σ n 5).length) (vv : ∀ j, j < nin (sf σ n 0) → vVf f' r' j ≤ vVf (sf σ n) (sr σ n) j) : Inv T M S ρ := by
  obtain ⟨p1, p2, p3, p4⟩ := bar_front I hn hi hL
  obtain ⟨G, A, -⟩ := id I
  obtain ⟨a1, a2, a3, a4, a5, a6⟩ := A n hn
  have F0 : f' 0 = sf σ n 0 := f0 0 (by decide)
  have vC : ∀ j, j < nin (sf σ n 0) → vCf f' r' j ≤ vCf (sf σ n) (sr σ n) j := by
    intro j hj
    unfold vCf
    rw [F0]
    have e1 : (itm (r' j) : Int) = itm (sr σ n j) := by
      by_cases q : j = i
      · rw [q, ri, hL, itm_cons, if_pos rfl]; rfl
      · rw [(oj j hj q).1]
    rw [e1]
    by_cases q5 : sf σ n 0 = 5
    · rw [if_pos q5, if_pos q5]
      have := vc q5
      omega
    · rw [if_neg q5, if_neg q5]; exact Int.le_refl _
  refine I.act (n := n) (f' := f') (r' := r') (out := out) (e := 0) (eV := 0) hn hg hf hr (by rw [if_neg (by omega)]) (by rw [if_neg (by omega)]) (by omega) (Int.le_refl _) f0 f14 f26 f27 r3 hB hP hSs hR (fun j hj => ?_) hp1 hp2 (fun z => absurd z hk) (fun q0 q4 => by rw [Int.add_zero]; exact vC 0 (by rw [nin_1 q0 q4]; decide)) (fun q4 => ?_) vC (fun _ => ⟨fun z => absurd z hk, fun q0 q4 => by rw [Int.add_zero]; exact vv 0 (by rw [nin_1 q0 q4]; decide), fun q4 => ?_, vv⟩)
  · by_cases q : j = i
    · subst q
      rw [ri, p3, if_neg (fun z => z.2 gi)]
      exact ⟨rfl, fun _ => p1⟩
    · obtain ⟨o1, o2⟩ := oj j hj q
      obtain ⟨s1, s2⟩ := a6 j hj
      rw [o1, s1]
      refine ⟨?_, fun z => s2 (o2.mp z)⟩
      by_cases z : psd (sf σ (fdS σ n j)) ∧ ¬ gotB (sf σ n) j
      · rw [if_pos z, if_pos ⟨z.1, fun y => z.2 (o2.mp y)⟩]
      · rw [if_neg z, if_neg (fun y => z ⟨y.1, fun w => y.2 (o2.mpr w)⟩)]
  · have x0 := vC 0 (by rw [nin_4 q4]; decide)
    have x1 := vC 1 (by rw [nin_4 q4]; decide)
    clear vv vc oj hr hf hg
    omega
  · have x0 := vv 0 (by rw [nin_4 q4]; decide)
    have x1 := vv 1 (by rw [nin_4 q4]; decide)
    clear vC vc oj hr hf hg
    omega
/-- the rows of a node that took the barrier -/
theorem nR_take {k : Int} {r : Nat → List Int} {i : Nat} {v : Int} {l : List Int} (R : nR k r) (hi : i < 2) (hk : k ≠ 0) (h1 : k ≠ 4 → i = 0) (hL : r i = v :: l) : nR k (ud r i l) := by
  obtain ⟨b1, b2, b3, b4, b5, b6, b7, b8⟩ := R
  refine ⟨fun j hj x hx => ?_, by rw [ud_ne (by omega)]; exact b2, by rw [ud_ne (by omega)]; exact b3, by rw [ud_ne (by omega)]; exact b4, by rw [ud_ne (by omega)]; exact b5, by rw [ud_ne (by omega), ud_ne (by omega)]; exact b6, fun q => ?_, fun q => absurd q hk⟩
  · by_cases q : j = i
    · rw [q, ud_eq] at hx
      exact b1 i hi x (by rw [hL]; exact List.mem_cons_of_mem _ hx)
    · rw [ud_ne q] at hx
      exact b1 j hj x hx
  · rw [ud_ne (by have := h1 q; omega)]; exact b7 q
theorem oth_b (f : Nat → Int) : 0 ≤ oth f ∧ oth f ≤ 4 := by
  unfold oth
  split <;> split <;> split <;> split <;> omega
theorem nS_flat {S : Int} {f f' : Nat → Int} (h : nS S f) (e0 : f' 0 = f 0) (e : ∀ k, k < 4 → f' (10 + k) = f (10 + k) ∧ f' (15 + k) = f (15 + k) ∧ f' (20 + k) = f (20 + k)) : nS S f' := by
  intro k hk
  obtain ⟨e1, e2, e3⟩ := e k hk
  rw [e1, e2, e3, e0]
  exact h k hk
