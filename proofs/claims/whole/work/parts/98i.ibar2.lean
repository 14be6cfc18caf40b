/-! a taker's act keeps what always holds: the barrier (2) -/
theorem ud6 {f : Nat → Int} {w : Int} {k : Nat} (h : k ≠ 6) : ud f 6 w k = f k := ud_ne h
/-- how the numbers a barrier leaves alone stand -/
theorem inv_bar {T M S : Int} {σ : sS} {n i : Nat} {l : List Int} (I : Inv T M S σ) (hn : n < sN σ) (hk : sf σ n 0 ≠ 0) (hi : i < nin (sf σ n 0)) (hL : sr σ n i = 100 :: l) : Inv T M S (sBarrier (sTake σ n i) n i) := by
  obtain ⟨p1, p2, p3, p4⟩ := bar_front I hn hi hL
  obtain ⟨G, A, -⟩ := id I
  obtain ⟨a1, a2, a3, a4, a5, a6⟩ := A n hn
  have n2 := nin_le (sf σ n 0)
  have hi2 : i < 2 := by omega
  have g5 := G.2.2.2.2.2.1
  have k05 := a1.1
  obtain ⟨w6, hw6⟩ : ∃ w, w = (if sf σ n 0 = 4 then 1 - (i : Int) else 0) := ⟨_, rfl⟩
  have w6b : (w6 = 0 ∨ w6 = 1) ∧ (sf σ n 0 ≠ 4 → w6 = 0) := by
    rw [hw6]
    by_cases q : sf σ n 0 = 4
    · rw [if_pos q]; omega
    · rw [if_neg q]; omega
  have ef : sf (sTake σ n i) n = ud (sf σ n) 6 w6 := by rw [hw6]; exact take_f σ n i
  have er : sr (sTake σ n i) n = ud (sr σ n) i l := by rw [take_r, hL]; rfl
  have i1 : sf σ n 0 ≠ 4 → i = 0 := fun q => by rw [nin_1 hk q] at hi; omega
  have RT := nR_take a5 hi2 hk i1 hL
  have H3 : ∀ k, sg (sBarrier (sTake σ n i) n i) k = sg σ k := fun k => bar_g _ n i k
  have H1 : ∀ t k, sf (sBarrier (sTake σ n i) n i) t k = if t = n then nBf (sg σ 5) (ud (sf σ n) 6 w6) (ud (sr σ n) i l) i k else sf σ t k := by
    intro t k
    rw [bar_f, ef, er]
    by_cases q : t = n
    · rw [if_pos q, if_pos q]; rfl
    · rw [if_neg q, if_neg q, take_fo q]
  have H2 : ∀ t k, sr (sBarrier (sTake σ n i) n i) t k = if t = n then nBr (sg σ 5) (ud (sf σ n) 6 w6) (ud (sr σ n) i l) k else rcv σ n t (if nBv (sg σ 5) (ud (sf σ n) 6 w6) ≠ -1 ∧ sf σ n 0 ≠ 5 then 100 else -1) k := by
    intro t k
    rw [bar_r, ef, er, fed_take]
    by_cases q : t = n
    · rw [if_pos q, if_pos q]; rfl
    · rw [if_neg q, if_neg q, take_ro q]
      show (if nBv (sg σ 5) (ud (sf σ n) 6 w6) ≠ -1 ∧ sf σ n 0 ≠ 5 ∧ fed σ n t k = true then sr σ t k ++ [100] else sr σ t k) = _
      unfold rcv
      by_cases c : nBv (sg σ 5) (ud (sf σ n) 6 w6) ≠ -1 ∧ sf σ n 0 ≠ 5
      · rw [if_pos c]
        by_cases d : fed σ n t k = true
        · rw [if_pos ⟨c.1, c.2, d⟩, if_pos ⟨by decide, d⟩]
        · rw [if_neg (fun z => d z.2.2), if_neg (fun z => d z.2)]
      · rw [if_neg c, if_neg (fun z => c ⟨z.1, z.2.1⟩), if_neg (fun z => z.1 rfl)]
  clear ef er hw6
  have f10 : ud (sf σ n) 6 w6 0 = sf σ n 0 := rfl
  have f17 : ud (sf σ n) 6 w6 7 = sf σ n 7 := rfl
  have f18 : ud (sf σ n) 6 w6 8 = sf σ n 8 := rfl
  have b := a2
  unfold nBs nB at b
  have pp := a3
  unfold nPs nP at pp
  have rl : ud (sr σ n) i l i = l := ud_eq
  have rj : ∀ j, j ≠ i → ud (sr σ n) i l j = sr σ n j := fun j h => ud_ne h
  have pre0 : itm (preL (sr σ n i)) = 0 := by rw [hL, pre_cons, if_pos rfl]; rfl
  have g9 : sf σ n 9 = 0 := by
    have : sf σ n 9 ≠ 1 := fun z => p2 (Or.inl z)
    omega
  have g7 : sf σ n 7 ≠ (i : Int) + 1 := fun z => p2 (Or.inr (Or.inl z))
  have g8 : sf σ n 8 ≠ 2 - (i : Int) := fun z => p2 (Or.inr (Or.inr z))
  by_cases q4 : sf σ n 0 = 4
  · have nin2 := nin_4 q4
    by_cases q5 : sg σ 5 = 1
    · by_cases q7 : sf σ n 7 = 0
      · -- A1
        have e1 : nBf (sg σ 5) (ud (sf σ n) 6 w6) (ud (sr σ n) i l) i = ud (ud (sf σ n) 6 w6) 7 ((i : Int) + 1) := (if_pos q4).trans ((if_pos q5).trans (if_pos q7))
        have e2 : nBr (sg σ 5) (ud (sf σ n) 6 w6) (ud (sr σ n) i l) = ud (sr σ n) i l := (if_pos q4).trans (if_pos q5)
        have e3 : nBv (sg σ 5) (ud (sf σ n) 6 w6) = -1 := (if_pos q4).trans ((if_pos q5).trans (if_pos q7))
        rw [e1] at H1
        rw [e2, e3, if_neg (fun z => z.1 rfl)] at H2
        refine inv_bar_c I hn hk hi hL H3 H1 H2 (Or.inl rfl) (fun k hk' => ?_) rfl rfl rfl (rj 3 (by omega)) ?_ a3 (nS_flat a4 rfl (fun k hk' => ?_)) RT (Or.inr (Or.inl rfl)) rl (fun j hj q => ⟨rj j q, ?_⟩) (fun z => absurd z (by decide)) (fun _ => Or.inl Iff.rfl) (fun z => by omega) (fun j hj => ?_)
        · rw [ud_ne (by omega), ud_ne (by omega)]
        · show nB (sf σ n 0) (sf σ n 5) w6 ((i : Int) + 1) (sf σ n 8) (sf σ n 9) (sg σ 4) (sg σ 5)
          unfold nB; omega
        · rw [ud_ne (by omega), ud_ne (by omega), ud_ne (by omega), ud_ne (by omega), ud_ne (by omega), ud_ne (by omega)]; exact ⟨rfl, rfl, rfl⟩
        · show (sf σ n 9 = 1 ∨ (i : Int) + 1 = (j : Int) + 1 ∨ sf σ n 8 = 2 - (j : Int)) ↔ (sf σ n 9 = 1 ∨ sf σ n 7 = (j : Int) + 1 ∨ sf σ n 8 = 2 - (j : Int))
          omega
        · show (if sf σ n 9 = 1 ∨ (i : Int) + 1 = (j : Int) + 1 ∨ sf σ n 8 = 2 - (j : Int) then 0 else (itm (preL (ud (sr σ n) i l j)) : Int)) + (if sf σ n 8 = (j : Int) + 1 ∨ (sf σ n 9 = 1 ∧ sf σ n 25 = (j : Int) + 1) then ((ud (sr σ n) i l 2).length : Int) else 0) ≤ vVf (sf σ n) (sr σ n) j
          rw [if_neg (show ¬ (sf σ n 8 = (j : Int) + 1 ∨ (sf σ n 9 = 1 ∧ sf σ n 25 = (j : Int) + 1)) by omega), Int.add_zero]
          by_cases q : j = i
          · rw [if_pos (Or.inr (Or.inl (by rw [q])))]; exact vV_nn _ _ _
          · rw [rj j q, if_neg (by omega)]
            unfold vVf
            rw [if_neg (show ¬ gotB (sf σ n) j by unfold gotB; omega)]
            have : 0 ≤ (if sf σ n 8 = (j : Int) + 1 ∨ (sf σ n 9 = 1 ∧ sf σ n 25 = (j : Int) + 1) then ((sr σ n 2).length : Int) else 0) := by split <;> omega
            exact Int.le_add_of_nonneg_right this
      · -- A2
        have e1 : nBf (sg σ 5) (ud (sf σ n) 6 w6) (ud (sr σ n) i l) i = ud (ud (ud (ud (ud (sf σ n) 6 w6) 7 0) 9 1) 24 0) 25 0 := (if_pos q4).trans ((if_pos q5).trans (if_neg q7))
        have e2 : nBr (sg σ 5) (ud (sf σ n) 6 w6) (ud (sr σ n) i l) = ud (sr σ n) i l := (if_pos q4).trans (if_pos q5)
        have e3 : nBv (sg σ 5) (ud (sf σ n) 6 w6) = 100 := (if_pos q4).trans ((if_pos q5).trans (if_neg q7))
        rw [e1] at H1
        rw [e2, e3, if_pos ⟨by decide, by omega⟩] at H2
        refine inv_bar_c I hn hk hi hL H3 H1 H2 (Or.inr rfl) (fun k hk' => ?_) rfl rfl rfl (rj 3 (by omega)) ?_ ?_ (nS_flat a4 rfl (fun k hk' => ?_)) RT (Or.inl rfl) rl (fun j hj q => ⟨rj j q, ?_⟩) (fun _ => ⟨?_, Or.inl rfl⟩) (fun z => absurd rfl z) (fun z => by omega) (fun j hj => ?_)
        · rw [ud_ne (by omega), ud_ne (by omega), ud_ne (by omega), ud_ne (by omega), ud_ne (by omega)]
        · show nB (sf σ n 0) (sf σ n 5) w6 0 (sf σ n 8) 1 (sg σ 4) (sg σ 5)
          unfold nB; omega
        · show nP (sf σ n 0) (sf σ n 4) (sf σ n 14) (sf σ n 19) 0 0 (sf σ n 26) (sf σ n 27)
          unfold nP; omega
        · rw [ud_ne (n10 hk' (by decide)), ud_ne (n10 hk' (by decide)), ud_ne (n10 hk' (by decide)), ud_ne (n10 hk' (by decide)), ud_ne (n10 hk' (by decide)), ud_ne (n15 hk' (by decide)), ud_ne (n15 hk' (by decide)), ud_ne (n15 hk' (by decide)), ud_ne (n15 hk' (by decide)), ud_ne (n15 hk' (by decide)), ud_ne (n20 hk' (by decide)), ud_ne (n20 hk' (by decide)), ud_ne (n20 hk' (by decide)), ud_ne (n20 hk' (by decide)), ud_ne (n20 hk' (by decide))]; exact ⟨rfl, rfl, rfl⟩
        · exact ⟨fun _ => Or.inr (Or.inl (by omega)), fun _ => Or.inl rfl⟩
        · intro z; unfold psd at z; omega
        · show (if (1 : Int) = 1 ∨ (0 : Int) = (j : Int) + 1 ∨ sf σ n 8 = 2 - (j : Int) then 0 else (itm (preL (ud (sr σ n) i l j)) : Int)) + (if sf σ n 8 = (j : Int) + 1 ∨ ((1 : Int) = 1 ∧ (0 : Int) = (j : Int) + 1) then ((ud (sr σ n) i l 2).length : Int) else 0) ≤ vVf (sf σ n) (sr σ n) j
          rw [if_pos (Or.inl rfl), if_neg (by omega)]
          exact vV_nn _ _ _
    · have f7z : sf σ n 7 = 0 := by omega
      by_cases q8 : sf σ n 8 = 0
      · -- B1
        have e1 : nBf (sg σ 5) (ud (sf σ n) 6 w6) (ud (sr σ n) i l) i = ud (ud (sf σ n) 6 w6) 8 (2 - (i : Int)) := (if_pos q4).trans ((if_neg q5).trans (if_pos q8))
        have e2 : nBr (sg σ 5) (ud (sf σ n) 6 w6) (ud (sr σ n) i l) = ud (ud (sr σ n) i l) 2 [] := (if_pos q4).trans ((if_neg q5).trans (if_pos q8))
        have e3 : nBv (sg σ 5) (ud (sf σ n) 6 w6) = 100 := (if_pos q4).trans ((if_neg q5).trans (if_pos q8))
        rw [e1] at H1
        rw [e2, e3, if_pos ⟨by decide, by omega⟩] at H2
        have RT2 : nR (sf σ n 0) (ud (ud (sr σ n) i l) 2 []) := by
          obtain ⟨b1, b2, b3, b4, b5, b6, b7, b8⟩ := RT
          exact ⟨fun j hj => by rw [ud_ne (by omega)]; exact b1 j hj, fun x hx => (by cases hx), b3, Nat.zero_le 60, b5, b6, b7, b8⟩
        refine inv_bar_c I hn hk hi hL H3 H1 H2 (Or.inr rfl) (fun k hk' => ?_) rfl rfl rfl ((ud_ne (by decide)).trans (rj 3 (by omega))) ?_ a3 (nS_flat a4 rfl (fun k hk' => ?_)) RT2 (Or.inr (Or.inr rfl)) ((ud_ne (by omega)).trans rl) (fun j hj q => ⟨(ud_ne (by omega)).trans (rj j q), ?_⟩) (fun _ => ⟨?_, Or.inr ?_⟩) (fun z => absurd rfl z) (fun z => by omega) (fun j hj => ?_)
        · rw [ud_ne (by omega), ud_ne (by omega)]
        · show nB (sf σ n 0) (sf σ n 5) w6 (sf σ n 7) (2 - (i : Int)) (sf σ n 9) (sg σ 4) (sg σ 5)
          unfold nB; omega
        · rw [ud_ne (by omega), ud_ne (by omega), ud_ne (by omega), ud_ne (by omega), ud_ne (by omega), ud_ne (by omega)]; exact ⟨rfl, rfl, rfl⟩
        · show (sf σ n 9 = 1 ∨ sf σ n 7 = (j : Int) + 1 ∨ 2 - (i : Int) = 2 - (j : Int)) ↔ (sf σ n 9 = 1 ∨ sf σ n 7 = (j : Int) + 1 ∨ sf σ n 8 = 2 - (j : Int))
          omega
        · intro z; unfold psd at z; omega
        · show 2 - (i : Int) ≠ 0
          omega
        · show (if sf σ n 9 = 1 ∨ sf σ n 7 = (j : Int) + 1 ∨ 2 - (i : Int) = 2 - (j : Int) then 0 else (itm (preL (ud (ud (sr σ n) i l) 2 [] j)) : Int)) + (if 2 - (i : Int) = (j : Int) + 1 ∨ (sf σ n 9 = 1 ∧ sf σ n 25 = (j : Int) + 1) then ((0 : Nat) : Int) else 0) ≤ vVf (sf σ n) (sr σ n) j
          rw [show (if 2 - (i : Int) = (j : Int) + 1 ∨ (sf σ n 9 = 1 ∧ sf σ n 25 = (j : Int) + 1) then ((0 : Nat) : Int) else 0) = 0 from ite_self _, Int.add_zero]
          by_cases q : j = i
          · rw [if_pos (Or.inr (Or.inr (by rw [q])))]; exact vV_nn _ _ _
          · rw [ud_ne (by omega), rj j q, if_neg (by omega)]
            unfold vVf
            rw [if_neg (show ¬ gotB (sf σ n) j by unfold gotB; omega)]
            have : 0 ≤ (if sf σ n 8 = (j : Int) + 1 ∨ (sf σ n 9 = 1 ∧ sf σ n 25 = (j : Int) + 1) then ((sr σ n 2).length : Int) else 0) := by split <;> omega
            exact Int.le_add_of_nonneg_right this
      · -- B2
        have e8 : sf σ n 8 = (i : Int) + 1 := by omega
        have e1 : nBf (sg σ 5) (ud (sf σ n) 6 w6) (ud (sr σ n) i l) i = ud (ud (ud (ud (ud (sf σ n) 6 w6) 8 0) 9 1) 24 ((ud (sr σ n) i l 2).length : Int)) 25 (sf σ n 8) := (if_pos q4).trans ((if_neg q5).trans (if_neg q8))
        have e2 : nBr (sg σ 5) (ud (sf σ n) 6 w6) (ud (sr σ n) i l) = ud (sr σ n) i l := (if_pos q4).trans ((if_neg q5).trans (if_neg q8))
        have e3 : nBv (sg σ 5) (ud (sf σ n) 6 w6) = -1 := (if_pos q4).trans ((if_neg q5).trans (if_neg q8))
        rw [rj 2 (by omega)] at e1
        rw [e1] at H1
        rw [e2, e3, if_neg (fun z => z.1 rfl)] at H2
        have r2l := a5.2.2.2.1
        refine inv_bar_c I hn hk hi hL H3 H1 H2 (Or.inl rfl) (fun k hk' => ?_) rfl rfl rfl (rj 3 (by omega)) ?_ ?_ (nS_flat a4 rfl (fun k hk' => ?_)) RT (Or.inl rfl) rl (fun j hj q => ⟨rj j q, ?_⟩) (fun z => absurd z (by decide)) (fun _ => Or.inl ⟨fun _ => Or.inr q8, fun _ => Or.inl rfl⟩) (fun z => by omega) (fun j hj => ?_)
        · rw [ud_ne (by omega), ud_ne (by omega), ud_ne (by omega), ud_ne (by omega), ud_ne (by omega)]
        · show nB (sf σ n 0) (sf σ n 5) w6 (sf σ n 7) 0 1 (sg σ 4) (sg σ 5)
          unfold nB; omega
        · show nP (sf σ n 0) (sf σ n 4) (sf σ n 14) (sf σ n 19) ((sr σ n 2).length : Int) (sf σ n 8) (sf σ n 26) (sf σ n 27)
          unfold nP; omega
        · rw [ud_ne (n10 hk' (by decide)), ud_ne (n10 hk' (by decide)), ud_ne (n10 hk' (by decide)), ud_ne (n10 hk' (by decide)), ud_ne (n10 hk' (by decide)), ud_ne (n15 hk' (by decide)), ud_ne (n15 hk' (by decide)), ud_ne (n15 hk' (by decide)), ud_ne (n15 hk' (by decide)), ud_ne (n15 hk' (by decide)), ud_ne (n20 hk' (by decide)), ud_ne (n20 hk' (by decide)), ud_ne (n20 hk' (by decide)), ud_ne (n20 hk' (by decide)), ud_ne (n20 hk' (by decide))]; exact ⟨rfl, rfl, rfl⟩
        · exact ⟨fun _ => Or.inr (Or.inr (by omega)), fun _ => Or.inl rfl⟩
        · show (if (1 : Int) = 1 ∨ sf σ n 7 = (j : Int) + 1 ∨ (0 : Int) = 2 - (j : Int) then 0 else (itm (preL (ud (sr σ n) i l j)) : Int)) + (if (0 : Int) = (j : Int) + 1 ∨ ((1 : Int) = 1 ∧ sf σ n 8 = (j : Int) + 1) then ((ud (sr σ n) i l 2).length : Int) else 0) ≤ vVf (sf σ n) (sr σ n) j
          rw [if_pos (Or.inl rfl), rj 2 (by omega)]
          by_cases q : j = i
          · subst q
            unfold vVf
            rw [if_pos (Or.inr ⟨rfl, e8⟩), if_neg p2, if_pos (Or.inl e8), pre0]
            exact Int.le_refl _
          · rw [if_neg (by omega)]
            exact vV_nn _ _ _
  · have i0 := i1 q4
    subst i0
    have nin1 := nin_1 hk q4
    by_cases q5 : sf σ n 0 = 5
    · -- C
      have e1 : nBf (sg σ 5) (ud (sf σ n) 6 w6) (ud (sr σ n) 0 l) 0 = ud (ud (ud (ud (sf σ n) 6 w6) 9 1) 24 0) 25 0 := (if_neg q4).trans (if_pos q5)
      have e2 : nBr (sg σ 5) (ud (sf σ n) 6 w6) (ud (sr σ n) 0 l) = ud (ud (ud (sr σ n) 0 l) 5 (sr σ n 5 ++ sr σ n 4)) 4 [] := (if_neg q4).trans (if_pos q5)
      rw [e1] at H1
      rw [e2, if_neg (fun z => z.2 q5)] at H2
      have RT2 : nR (sf σ n 0) (ud (ud (ud (sr σ n) 0 l) 5 (sr σ n 5 ++ sr σ n 4)) 4 []) := by
        obtain ⟨b1, b2, b3, b4, b5, b6, b7, b8⟩ := RT
        exact ⟨fun j hj => by rw [ud_ne (by omega), ud_ne (by omega)]; exact b1 j hj, b2, b3, b4, b5, fun z => absurd q5 z, b7, b8⟩
      have nf : ∀ t i, fed σ n t i = false := by
        intro t j
        refine Bool.eq_false_iff.mpr (fun z => ?_)
        have fl := fed_lt z
        have ks := (A t fl.2.1).1
        have := (fed_iff fl.2.1 fl.2.2.1 ks).mp z
        have k5 := (ks.2.2.2.2 j fl.2.2.1).2.2
        rw [this] at k5
        exact k5 q5
      refine inv_bar_c I hn hk hi hL H3 H1 H2 (Or.inl rfl) (fun k hk' => ?_) rfl rfl rfl rfl ?_ ?_ (nS_flat a4 rfl (fun k hk' => ?_)) RT2 (Or.inl rfl) rfl (fun j hj q => by omega) (fun z => absurd z (by decide)) (fun _ => Or.inr nf) (fun z => ?_) (fun j hj => ?_)
      · rw [ud_ne (by omega), ud_ne (by omega), ud_ne (by omega), ud_ne (by omega)]
      · show nB (sf σ n 0) (sf σ n 5) w6 (sf σ n 7) (sf σ n 8) 1 (sg σ 4) (sg σ 5)
        unfold nB; omega
      · show nP (sf σ n 0) (sf σ n 4) (sf σ n 14) (sf σ n 19) 0 0 (sf σ n 26) (sf σ n 27)
        unfold nP; omega
      · rw [ud_ne (n10 hk' (by decide)), ud_ne (n10 hk' (by decide)), ud_ne (n10 hk' (by decide)), ud_ne (n10 hk' (by decide)), ud_ne (n15 hk' (by decide)), ud_ne (n15 hk' (by decide)), ud_ne (n15 hk' (by decide)), ud_ne (n15 hk' (by decide)), ud_ne (n20 hk' (by decide)), ud_ne (n20 hk' (by decide)), ud_ne (n20 hk' (by decide)), ud_ne (n20 hk' (by decide))]; exact ⟨rfl, rfl, rfl⟩
      · show (0 : Nat) + (sr σ n 5 ++ sr σ n 4).length ≤ _
        rw [List.length_append]; omega
      · have j0 : j = 0 := by omega
        subst j0
        show (if (1 : Int) = 1 ∨ sf σ n 7 = ((0 : Nat) : Int) + 1 ∨ sf σ n 8 = 2 - ((0 : Nat) : Int) then 0 else _) + (if sf σ n 8 = ((0 : Nat) : Int) + 1 ∨ ((1 : Int) = 1 ∧ (0 : Int) = ((0 : Nat) : Int) + 1) then _ else 0) ≤ vVf (sf σ n) (sr σ n) 0
        rw [if_pos (Or.inl rfl), if_neg (by omega)]
        exact vV_nn _ _ _
    · -- D
      have e1 : nBf (sg σ 5) (ud (sf σ n) 6 w6) (ud (sr σ n) 0 l) 0 = ud (ud (ud (ud (ud (ud (ud (ud (sf σ n) 6 w6) 20 (sf σ n 10)) 21 (sf σ n 11)) 22 (sf σ n 12)) 23 (sf σ n 13)) 9 1) 24 (oth (ud (sf σ n) 6 w6))) 25 0 := (if_neg q4).trans (if_neg q5)
      have e2 : nBr (sg σ 5) (ud (sf σ n) 6 w6) (ud (sr σ n) 0 l) = ud (sr σ n) 0 l := (if_neg q4).trans (if_neg q5)
      have e3 : nBv (sg σ 5) (ud (sf σ n) 6 w6) = 100 := if_neg q4
      rw [e1] at H1
      rw [e2, e3, if_pos ⟨by decide, q5⟩] at H2
      have ob := oth_b (ud (sf σ n) 6 w6)
      generalize oth (ud (sf σ n) 6 w6) = ot at *
      refine inv_bar_c I hn hk hi hL H3 H1 H2 (Or.inr rfl) (fun k hk' => ?_) rfl rfl rfl rfl ?_ ?_ (fun k hk' => ?_) RT (Or.inl rfl) rfl (fun j hj q => by omega) (fun _ => ⟨?_, Or.inl rfl⟩) (fun z => absurd rfl z) (fun z => absurd z q5) (fun j hj => ?_)
      · rw [ud_ne (by omega), ud_ne (by omega), ud_ne (by omega), ud_ne (by omega), ud_ne (by omega), ud_ne (by omega), ud_ne (by omega), ud_ne (by omega)]
      · show nB (sf σ n 0) (sf σ n 5) w6 (sf σ n 7) (sf σ n 8) 1 (sg σ 4) (sg σ 5)
        unfold nB; omega
      · show nP (sf σ n 0) (sf σ n 4) (sf σ n 14) (sf σ n 19) ot 0 (sf σ n 26) (sf σ n 27)
        unfold nP; omega
      · have s := a4 k hk'
        have ck : k = 0 ∨ k = 1 ∨ k = 2 ∨ k = 3 := by omega
        rcases ck with rfl | rfl | rfl | rfl
        · exact ⟨s.1, s.2.1, s.1, fun z => ⟨(s.2.2.2 z).1, (s.2.2.2 z).2.1, (s.2.2.2 z).1⟩⟩
        · exact ⟨s.1, s.2.1, s.1, fun z => ⟨(s.2.2.2 z).1, (s.2.2.2 z).2.1, (s.2.2.2 z).1⟩⟩
        · exact ⟨s.1, s.2.1, s.1, fun z => ⟨(s.2.2.2 z).1, (s.2.2.2 z).2.1, (s.2.2.2 z).1⟩⟩
        · exact ⟨s.1, s.2.1, s.1, fun z => ⟨(s.2.2.2 z).1, (s.2.2.2 z).2.1, (s.2.2.2 z).1⟩⟩
      · intro z; unfold psd at z; omega
      · have j0 : j = 0 := by omega
        subst j0
        show (if (1 : Int) = 1 ∨ sf σ n 7 = ((0 : Nat) : Int) + 1 ∨ sf σ n 8 = 2 - ((0 : Nat) : Int) then 0 else _) + (if sf σ n 8 = ((0 : Nat) : Int) + 1 ∨ ((1 : Int) = 1 ∧ (0 : Int) = ((0 : Nat) : Int) + 1) then _ else 0) ≤ vVf (sf σ n) (sr σ n) 0
        rw [if_pos (Or.inl rfl), if_neg (by omega)]
        exact vV_nn _ _ _
