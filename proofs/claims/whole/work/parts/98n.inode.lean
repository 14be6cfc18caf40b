/-! a new node keeps what always holds -/
theorem whyN_0 {σ : sS} {kind a b k : Int} (h : whyN σ kind a b k = 0) : isTd σ kind a b k = true ∧ sg σ 1 = 0 ∧ ¬ (sg σ 0 = 8 ∨ (kind = 4 ∧ sJoins σ = 2)) := by
  unfold whyN at h
  split at h
  · next c =>
    split at h
    · next c1 =>
      split at h
      · exact absurd h (by decide)
      · next c2 => exact ⟨c, c1, c2⟩
    · exact absurd h (by decide)
  · exact absurd h (by decide)
theorem canF_t {σ : sS} {a : Int} (h : canF σ a = true) : 0 ≤ a ∧ a < sg σ 0 ∧ sf σ a.toNat 0 ≠ 5 := by
  unfold canF isNd at h
  rw [Bool.and_eq_true] at h
  have h1 := of_decide_eq_true h.1
  have h2 := of_decide_eq_true h.2
  exact ⟨h1.1, h1.2, h2⟩
theorem inv_node {T M S : Int} {σ : sS} {kind a b k : Int} (I : Inv T M S σ) (hS : 0 ≤ S) (z0 : ∀ n, n < sN σ → sf σ n 7 = 0 ∧ sf σ n 8 = 0 ∧ sf σ n 9 = 0) (hw : whyN σ kind a b k = 0) : Inv T M S (sNode σ kind a b k) := by
  obtain ⟨td, t0, nf⟩ := whyN_0 hw
  obtain ⟨⟨g0, g1, g2, g3, g4, g5, g34, g7, g8⟩, A, ⟨CC, CV, CL⟩, g6, gJ, fr⟩ := id I
  have hK : ∀ n, n < sN σ → nK σ n := fun n hn => (A n hn).1
  have zs : (sN σ : Int) = sg σ 0 := by unfold sN; omega
  have h8 : sN σ < 8 := by omega
  obtain ⟨w0, w1⟩ := wf0 hK
  obtain ⟨ρ, hρ⟩ : ∃ ρ, ρ = sNode σ kind a b k := ⟨_, rfl⟩
  have eN : sN ρ = sN σ + 1 := by
    rw [hρ]
    show (sg σ 0 + 1).toNat = (sg σ 0).toNat + 1
    omega
  have ef : ∀ t, t ≠ sN σ → sf ρ t = sf σ t := by
    intro t ht
    funext j
    rw [hρ]
    unfold sNode
    simp only [sf_ug, sf_uf, ht, false_and, if_false]
  have efn : sf ρ (sN σ) = fF kind a b k := by
    funext j
    rw [hρ]
    unfold sNode fF
    simp only [sf_ug, sf_uf, true_and]
    by_cases e3 : j = 3
    · rw [if_pos e3, if_neg (by omega), if_neg (by omega), if_neg (by omega), if_pos e3]
    · rw [if_neg e3, if_neg e3]
      by_cases e2 : j = 2
      · rw [if_pos e2, if_neg (by omega), if_neg (by omega), if_pos e2]
      · rw [if_neg e2, if_neg e2]
        by_cases e1 : j = 1
        · rw [if_pos e1, if_neg (by omega), if_pos e1]
        · rw [if_neg e1, if_neg e1]
          by_cases e0 : j = 0
          · rw [if_pos e0, if_pos e0]
          · rw [if_neg e0, if_neg e0]
            exact (fr _ (Nat.le_refl _)).1 j
  have er : ∀ t, sr ρ t = sr σ t := fun t => by rw [hρ]; rfl
  have ern : sr ρ (sN σ) = fun _ => [] := (er _).trans (funext fun j => (fr _ (Nat.le_refl _)).2 j)
  have sgk : ∀ j, j ≠ 0 → sg ρ j = sg σ j := fun j hj => by rw [hρ]; exact if_neg hj
  have sg0 : sg ρ 0 = sg σ 0 + 1 := by rw [hρ]; rfl
  have eKu : ∀ u, u < sN σ → KS ρ u = KS σ u := fun u hu => by unfold KS; rw [ef u (by omega)]
  have eFu : ∀ u, u < sN σ → ∀ i, fdS ρ u i = fdS σ u i := fun u hu i => by unfold fdS; rw [ef u (by omega)]
  have fN : ∀ i, i < nin kind → fdS ρ (sN σ) i < sN σ ∧ sf σ (fdS ρ (sN σ) i) 0 ≠ 5 ∧ (0 ≤ fF kind a b k (1 + i) ∧ fF kind a b k (1 + i) < (sN σ : Int)) := by
    intro i hi
    have n2 := nin_le kind
    have e0 : fdS ρ (sN σ) 0 = a.toNat := by unfold fdS; rw [if_pos rfl, efn]; rfl
    have e1 : fdS ρ (sN σ) 1 = b.toNat := by unfold fdS; rw [if_neg (by decide), efn]; rfl
    have ci : i = 0 ∨ i = 1 := by omega
    have ca : kind ≠ 0 → canF σ a = true := by
      intro q
      unfold isTd at td
      rw [if_neg q] at td
      split at td
      · exact (Bool.and_eq_true _ _ ▸ td).1
      · split at td
        · exact (Bool.and_eq_true _ _ ▸ td).1
        · split at td
          · exact (Bool.and_eq_true _ _ ▸ td).1
          · split at td
            · exact (Bool.and_eq_true _ _ ▸ td).1
            · exact absurd td (by decide)
    have cb : kind = 4 → canF σ b = true := by
      intro q
      unfold isTd at td
      rw [if_neg (by omega), if_neg (by omega), if_neg (by omega), if_pos q, Bool.and_eq_true, Bool.and_eq_true] at td
      exact td.2.1
    rcases ci with rfl | rfl
    · have q : kind ≠ 0 := fun z => by rw [nin_0 z] at hi; omega
      have c := canF_t (ca q)
      rw [e0]
      exact ⟨by omega, c.2.2, c.1, by show a < _; omega⟩
    · have q : kind = 4 := by
        by_cases z : kind = 4
        · exact z
        · by_cases z' : kind = 0
          · rw [nin_0 z'] at hi; omega
          · rw [nin_1 z' z] at hi; omega
      have c := canF_t (cb q)
      rw [e1]
      exact ⟨by omega, c.2.2, c.1, by show b < _; omega⟩
  have kd0 : fF kind a b k 0 = kind := rfl
  have newcnt : ∀ (bs bs' : Nat → Int) (v v' : Nat → Nat → Int), cnt σ bs v → (∀ u, u < sN σ → bs' u = bs u) → (∀ u, u < sN σ → ∀ i, v' u i = v u i) → (∀ u, u < sN σ → bs u ≤ 30) → (∀ i, i < 2 → v' (sN σ) i ≤ 0) → cnt ρ bs' v' := by
    intro bs bs' v v' C eb ev hb hv n hn i hi
    rw [eN] at hn
    have P : ∀ u, u < sN σ → pt (KS ρ) (fdS ρ) bs' v' 8 u = pt (KS σ) (fdS σ) bs v 8 u := fun u hu => pt_cg w0 w1 eKu eFu eb ev 8 u hu
    have Q : ∀ u, u < sN σ → cpT (KS ρ) (fdS ρ) 8 u = cpT (KS σ) (fdS σ) 8 u := fun u hu => pt_cg w0 w1 eKu eFu (fun _ _ => rfl) (fun _ _ _ => rfl) 8 u hu
    by_cases q : n = sN σ
    · subst q
      rw [efn] at hi
      have f := fN i hi
      have n2 := nin_le kind
      have hi' : i < nin kind := hi
      have c := cnt_node C (by omega) hK hb f.1
      have vi := hv i (by omega)
      rw [P _ f.1, Q _ f.1]
      omega
    · have hn' : n < sN σ := by omega
      rw [ef n q] at hi
      have l := fd_lt hK hn' hi
      rw [ev n hn', eFu n hn', P _ (by omega), Q _ (by omega)]
      exact C n hn' i hi
  have rng : ∀ u, u < sN σ → (0 ≤ sf σ u 4) ∧ (0 ≤ sf σ u 14) ∧ (0 ≤ sf σ u 19) := fun u hu => by
    have p := (A u hu).2.2.1
    unfold nPs nP at p
    omega
  rw [← hρ]
  refine ⟨⟨by rw [sg0]; omega, by rw [sgk 1 (by decide)]; exact g1, by rw [sgk 2 (by decide)]; exact g2, by rw [sgk 3 (by decide)]; exact g3, by rw [sgk 4 (by decide)]; exact g4, by rw [sgk 5 (by decide)]; exact g5, by rw [sgk 3 (by decide), sgk 4 (by decide)]; exact g34, by rw [sgk 7 (by decide)]; exact g7, by rw [sgk 8 (by decide), sgk 3 (by decide)]; exact g8⟩, fun n hn => ?_, ⟨?_, fun z4 => ?_, ?_⟩, ?_, ?_, fun n hn => ?_⟩
  · rw [eN] at hn
    rw [sgk 4 (by decide), sgk 5 (by decide)]
    by_cases q : n = sN σ
    · subst q
      refine ⟨?_, ?_, ?_, ?_, ?_, fun i hi => ?_⟩
      · unfold nK
        rw [efn]
        refine ⟨?_, ?_, ?_, ?_, fun i hi => ?_⟩
        · show 0 ≤ kind ∧ kind ≤ 5
          unfold isTd at td
          split at td
          · omega
          · split at td
            · omega
            · split at td
              · omega
              · split at td
                · omega
                · split at td
                  · omega
                  · exact absurd td (by decide)
        · show 0 ≤ k ∧ k ≤ 99
          unfold isTd at td
          split at td
          · have := of_decide_eq_true td; omega
          · split at td
            · rw [Bool.and_eq_true] at td; have := of_decide_eq_true td.2; omega
            · split at td
              · rw [Bool.and_eq_true] at td; have := of_decide_eq_true td.2; omega
              · split at td
                · rw [Bool.and_eq_true, Bool.and_eq_true] at td; have := of_decide_eq_true td.2.2; omega
                · split at td
                  · rw [Bool.and_eq_true] at td; have := of_decide_eq_true td.2; omega
                  · exact absurd td (by decide)
        · show kind = 0 → 1 ≤ a ∧ a ≤ 9
          intro q
          unfold isTd at td
          rw [if_pos q] at td
          have := of_decide_eq_true td
          omega
        · show kind = 2 → 1 ≤ k
          intro q
          unfold isTd at td
          rw [if_neg (by omega), if_neg (by omega), if_pos q, Bool.and_eq_true] at td
          have := of_decide_eq_true td.2
          omega
        · have hi' : i < nin kind := hi
          have f := fN i hi'
          rw [ef _ (by omega)]
          exact ⟨f.2.2.1, f.2.2.2, f.2.1⟩
      · rw [efn]
        show nB kind 0 0 0 0 0 (sg σ 4) (sg σ 5)
        unfold nB; omega
      · rw [efn]
        show nP kind 0 0 0 0 0 0 0
        unfold nP; omega
      · rw [efn]
        intro j hj
        rw [fF_hi (j := 10 + j) (by omega), fF_hi (j := 15 + j) (by omega), fF_hi (j := 20 + j) (by omega)]
        exact ⟨⟨Int.le_refl _, hS⟩, ⟨Int.le_refl _, hS⟩, ⟨Int.le_refl _, hS⟩, fun _ => ⟨rfl, rfl, rfl⟩⟩
      · rw [efn, ern]
        exact ⟨fun i hi v hv => (by cases hv), fun v hv => (by cases hv), fun v hv => (by cases hv), Nat.zero_le 60, Nat.zero_le 100, fun _ => ⟨rfl, rfl⟩, fun _ => rfl, fun _ => rfl⟩
      · rw [efn] at hi
        have hi' : i < nin kind := hi
        have n2 := nin_le kind
        have f := fN i hi'
        have zz := z0 _ f.1
        have np : ¬ psd (sf ρ (fdS ρ (sN σ) i)) := by
          rw [ef _ (by omega)]
          unfold psd; omega
        have ng : ¬ gotB (sf ρ (sN σ)) i := by
          rw [efn]
          show ¬ ((0 : Int) = 1 ∨ (0 : Int) = (i : Int) + 1 ∨ (0 : Int) = 2 - (i : Int))
          omega
        rw [ern, if_neg (fun z => np z.1)]
        exact ⟨rfl, fun z => absurd z ng⟩
    · have hn' : n < sN σ := by omega
      obtain ⟨a1, a2, a3, a4, a5, a6⟩ := A n hn'
      refine ⟨?_, by rw [ef n q]; exact a2, by rw [ef n q]; exact a3, by rw [ef n q]; exact a4, by rw [ef n q, er]; exact a5, fun i hi => ?_⟩
      · unfold nK
        rw [ef n q]
        refine ⟨a1.1, a1.2.1, a1.2.2.1, a1.2.2.2.1, fun i hi => ?_⟩
        have l := fd_lt hK hn' hi
        rw [eFu n hn', ef _ (by omega)]
        exact a1.2.2.2.2 i hi
      · rw [ef n q] at hi
        have l := fd_lt hK hn' hi
        rw [eFu n hn', ef n q, ef (fdS σ n i) (by omega), er]
        exact a6 i hi
  · refine newcnt _ _ _ _ CC (fun u hu => by rw [ef u (by omega)]) (fun u hu i => by rw [ef u (by omega), er]) (fun u hu => by have := rng u hu; show 30 - sf σ u 4 ≤ 30; omega) (fun i hi => ?_)
    rw [efn, ern]
    show ((0 : Nat) : Int) + (if kind = 5 then ((0 : Nat) : Int) + ((0 : Nat) : Int) else 0) ≤ 0
    split <;> decide
  · rw [sgk 4 (by decide)] at z4
    refine newcnt _ _ _ _ (CV z4) (fun u hu => by rw [ef u (by omega)]) (fun u hu i => by rw [ef u (by omega), er]) (fun u hu => by have := rng u hu; show 30 - (if sf σ u 9 = 1 then sf σ u 19 else sf σ u 4) ≤ 30; split <;> omega) (fun i hi => ?_)
    rw [efn, ern]
    unfold vVf
    show (if gotB (fF kind a b k) i then 0 else ((0 : Nat) : Int)) + (if fF kind a b k 8 = (i : Int) + 1 ∨ (fF kind a b k 9 = 1 ∧ fF kind a b k 25 = (i : Int) + 1) then ((0 : Nat) : Int) else 0) ≤ 0
    split <;> split <;> decide
  · refine newcnt _ _ _ _ CL (fun u hu => by rw [ef u (by omega)]) (fun u hu i => by rw [ef u (by omega), er]) (fun u hu => by have := rng u hu; show 30 - sf σ u 14 ≤ 30; omega) (fun i hi => ?_)
    rw [efn, ern]
    show (if (0 : Int) = (i : Int) + 1 then ((0 : Nat) : Int) else 0) ≤ 0
    split <;> decide
  · rw [sgk 6 (by decide), eN]
    show _ = sumN (fun n => sf ρ n 27) (sN σ) + sf ρ (sN σ) 27
    rw [efn, show fF kind a b k 27 = 0 from rfl, Int.add_zero, g6]
    exact sumN_cg (fun u hu => by rw [ef u (by omega)])
  · have : sJoins ρ = sJoins σ + (if kind = 4 then 1 else 0) := by
      unfold sJoins
      rw [eN]
      show sumN (fun n => if sf ρ n 0 = 4 then (1 : Int) else 0) (sN σ) + (if sf ρ (sN σ) 0 = 4 then 1 else 0) = _
      rw [efn]
      show _ + (if kind = 4 then (1 : Int) else 0) = _
      congr 1
      exact sumN_cg (fun u hu => by rw [ef u (by omega)])
    rw [this]
    by_cases q : kind = 4
    · rw [if_pos q]
      have : sJoins σ ≠ 2 := fun z => nf (Or.inr ⟨q, z⟩)
      omega
    · rw [if_neg q]; omega
  · rw [eN] at hn
    rw [ef n (by omega), er]
    exact fr n (by omega)
