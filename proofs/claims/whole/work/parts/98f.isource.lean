/-! a source's act keeps what always holds -/
theorem Inv.wk {T M S T' M' S' : Int} {σ : sS} (I : Inv T M S σ) (hT : T ≤ T') (hM : M ≤ M') (hS : S ≤ S') : Inv T' M' S' σ := by
  obtain ⟨⟨g0, g1, g2, g3, g4, g5, g34, g7, g8⟩, A, B⟩ := I
  refine ⟨⟨g0, ⟨g1.1, Int.le_trans g1.2 hT⟩, g2, g3, g4, g5, Int.le_trans g34 hM, ⟨g7.1, Int.le_trans g7.2 hM⟩, g8⟩, fun n hn => ?_, B⟩
  obtain ⟨a1, a2, a3, a4, a5, a6⟩ := A n hn
  exact ⟨a1, a2, a3, a4.wk hS, a5, a6⟩
theorem inv_source {T M S S' : Int} {σ : sS} {n : Nat} (I : Inv T M S σ) (hn : n < sN σ) (hk : sf σ n 0 = 0) (hS : S ≤ S') : Inv T M S' (sSource σ n) := by
  have I0 := I.wk (Int.le_refl _) (Int.le_refl _) hS
  obtain ⟨G, A, -⟩ := id I
  obtain ⟨a1, a2, a3, a4, a5, a6⟩ := A n hn
  have G2 := G.2.2.1
  have nz : nin (sf σ n 0) = 0 := nin_0 hk
  have n4 : ¬ sf σ n 0 = 4 := by rw [hk]; decide
  unfold sSource
  split
  · split
    · next c5 =>
      have b := a2
      unfold nBs nB at b
      have x9 : sf σ n 9 = 0 ∧ sg σ 4 = 1 := by omega
      have x78 : sf σ n 7 = 0 ∧ sf σ n 8 = 0 := by omega
      refine I.act (n := n) (f' := ud (ud (ud (ud (sf σ n) 5 0) 19 (sf σ n 4)) 24 1) 9 1) (r' := sr σ n) (out := 100) (e := 0) (eV := 0) hn (fun _ => rfl) (fun t k => ?_) (fun t k => ?_) (by decide) ?_ (by omega) hS (fun k hk' => ?_) rfl rfl rfl rfl ?_ ?_ ?_ ?_ (fun i hi => ?_) (fun _ => ⟨?_, Or.inl rfl⟩) (fun z => absurd rfl z) (fun _ => ?_) (fun z => absurd hk z) (fun z => absurd z n4) (fun i hi => ?_) (fun _ => ⟨fun _ => ?_, fun z => absurd hk z, fun z => absurd z n4, fun i hi => ?_⟩)
      · by_cases e : t = n
        · rw [if_pos e, e]; simp only [sf_uf, sf_sSend, true_and, ud]
        · rw [if_neg e]; simp only [sf_uf, sf_sSend, e, false_and, if_false]
      · show sr (sSend σ n 100) t k = _
        rw [sr_sSend]
        by_cases e : t = n
        · rw [if_pos e, e, fed_self, if_neg (by decide)]
        · rw [if_neg e]
          unfold rcv
          by_cases q : fed σ n t k = true
          · rw [if_pos q, if_pos ⟨by decide, q⟩]
          · rw [if_neg q, if_neg (fun z => q z.2)]
      · rw [if_neg (by omega)]
      · rw [ud_ne (by omega), ud_ne (by omega), ud_ne (by omega), ud_ne (by omega)]
      · show nB (sf σ n 0) 0 (sf σ n 6) (sf σ n 7) (sf σ n 8) 1 (sg σ 4) (sg σ 5)
        unfold nB; omega
      · show nP (sf σ n 0) (sf σ n 4) (sf σ n 14) (sf σ n 4) 1 (sf σ n 25) (sf σ n 26) (sf σ n 27)
        unfold nPs nP at a3
        unfold nP; omega
      · intro k hk'
        have := a4.wk hS k hk'
        rw [ud_ne (n10 hk' (by decide)), ud_ne (n10 hk' (by decide)), ud_ne (n10 hk' (by decide)), ud_ne (n10 hk' (by decide)), ud_ne (n15 hk' (by decide)), ud_ne (n15 hk' (by decide)), ud_ne (n15 hk' (by decide)), ud_ne (n15 hk' (by decide)), ud_ne (n20 hk' (by decide)), ud_ne (n20 hk' (by decide)), ud_ne (n20 hk' (by decide)), ud_ne (n20 hk' (by decide))]
        exact this
      · exact a5
      · rw [nz] at hi; omega
      · intro z; omega
      · show 30 - sf σ n 4 + 0 ≤ 30 - sf σ n 4; omega
      · rw [nz] at hi; omega
      · show 30 - (if (1 : Int) = 1 then sf σ n 4 else sf σ n 4) + 0 ≤ 30 - (if sf σ n 9 = 1 then sf σ n 19 else sf σ n 4)
        rw [if_pos rfl, if_neg (by omega)]; omega
      · rw [nz] at hi; omega
    · split
      · next c4 =>
        have b := a2
        unfold nBs nB at b
        have p := a3
        unfold nPs nP at p
        have em := Int.emod_nonneg (sf σ n 3 * 7 + sf σ n 4 * sf σ n 4 + sf σ n 4 * 3) (show (100 : Int) ≠ 0 by decide)
        have el := Int.emod_lt_of_pos (sf σ n 3 * 7 + sf σ n 4 * sf σ n 4 + sf σ n 4 * 3) (show (0 : Int) < 100 by decide)
        generalize (sf σ n 3 * 7 + sf σ n 4 * sf σ n 4 + sf σ n 4 * 3) % 100 = v at *
        refine I.act (n := n) (f' := ud (sf σ n) 4 (sf σ n 4 + 1)) (r' := sr σ n) (out := v) (e := 1) (eV := if (0 ≤ v ∧ v < 100) ∧ ¬ psd (sf σ n) then 1 else 0) hn (fun _ => rfl) (fun t k => ?_) (fun t k => ?_) (by rw [if_pos ⟨em, el⟩]) rfl (by omega) hS (fun k hk' => ?_) rfl rfl rfl rfl ?_ ?_ ?_ ?_ (fun i hi => ?_) (fun z => absurd z (by omega)) (fun z => Or.inl Iff.rfl) (fun _ => ?_) (fun z => absurd hk z) (fun z => absurd z n4) (fun i hi => ?_) (fun _ => ⟨fun _ => ?_, fun z => absurd hk z, fun z => absurd z n4, fun i hi => ?_⟩)
        · by_cases e : t = n
          · rw [if_pos e, e]; simp only [sf_uf, sf_sSend, true_and, ud]
          · rw [if_neg e]; simp only [sf_uf, sf_sSend, e, false_and, if_false]
        · show sr (sSend σ n v) t k = _
          rw [sr_sSend]
          by_cases e : t = n
          · rw [if_pos e, e, fed_self, if_neg (by decide)]
          · rw [if_neg e]
            unfold rcv
            by_cases q : fed σ n t k = true
            · rw [if_pos q, if_pos ⟨by omega, q⟩]
            · rw [if_neg q, if_neg (fun z => q z.2)]
        · rw [ud_ne (by omega)]
        · show nB (sf σ n 0) (sf σ n 5) (sf σ n 6) (sf σ n 7) (sf σ n 8) (sf σ n 9) (sg σ 4) (sg σ 5)
          exact a2
        · show nP (sf σ n 0) (sf σ n 4 + 1) (sf σ n 14) (sf σ n 19) (sf σ n 24) (sf σ n 25) (sf σ n 26) (sf σ n 27)
          unfold nP; omega
        · intro k hk'
          have := a4.wk hS k hk'
          rw [ud_ne (n10 hk' (by decide)), ud_ne (n15 hk' (by decide)), ud_ne (n20 hk' (by decide))]
          exact this
        · exact a5
        · rw [nz] at hi; omega
        · show 30 - (sf σ n 4 + 1) + 1 ≤ 30 - sf σ n 4; omega
        · rw [nz] at hi; omega
        · show 30 - (if sf σ n 9 = 1 then sf σ n 19 else sf σ n 4 + 1) + (if (0 ≤ v ∧ v < 100) ∧ ¬ psd (sf σ n) then 1 else 0) ≤ 30 - (if sf σ n 9 = 1 then sf σ n 19 else sf σ n 4)
          by_cases q : sf σ n 9 = 1
          · rw [if_pos q, if_pos q, if_neg (fun z => z.2 (Or.inl q))]; omega
          · rw [if_neg q, if_neg q, if_pos ⟨⟨em, el⟩, fun z => by omega⟩]; omega
        · rw [nz] at hi; omega
      · exact I0
  · exact I0
