/-! orders keep what always holds -/
theorem bar_none {L : List Int} (h : ∀ v ∈ L, 0 ≤ v ∧ v < 100) : bar L = 0 := by
  induction L with
  | nil => rfl
  | cons a l ih =>
    rw [bar_cons, ih (fun v hv => h v (List.mem_cons_of_mem _ hv)), if_neg]
    have := h a List.mem_cons_self
    omega
theorem itm_le (L : List Int) : itm L ≤ L.length := List.length_filter_le _ _
theorem Inv.time {T M S : Int} {τ : sS} (I : Inv T M S τ) : Inv (T + 1) M S (ug τ 1 (sg τ 1 + 1)) := by
  obtain ⟨⟨g0, g1, g2, g3, g4, g5, g34, g7, g8⟩, A, B, g6, gJ, fr⟩ := I
  exact ⟨⟨g0, by show 0 ≤ sg τ 1 + 1 ∧ sg τ 1 + 1 ≤ T + 1; omega, g2, g3, g4, g5, g34, g7, g8⟩, A, B, g6, gJ, fr⟩
theorem Inv.len {T M S : Int} {τ : sS} {v : Int} (I : Inv T M S τ) (hv : 0 ≤ v ∧ v ≤ 30) : Inv T M S (ug τ 2 v) := by
  obtain ⟨⟨g0, g1, g2, g3, g4, g5, g34, g7, g8⟩, A, B, g6, gJ, fr⟩ := I
  exact ⟨⟨g0, g1, hv, g3, g4, g5, g34, g7, g8⟩, A, B, g6, gJ, fr⟩
theorem Inv.ali {T M S : Int} {τ : sS} {v : Int} (I : Inv T M S τ) (hv : v = 0 ∨ v = 1) (h4 : sg τ 4 ≠ 1) : Inv T M S (ug τ 5 v) := by
  obtain ⟨⟨g0, g1, g2, g3, g4, g5, g34, g7, g8⟩, A, B, g6, gJ, fr⟩ := I
  refine ⟨⟨g0, g1, g2, g3, g4, hv, g34, g7, g8⟩, fun n hn => ?_, B, g6, gJ, fr⟩
  obtain ⟨a1, a2, a3, a4, a5, a6⟩ := A n hn
  refine ⟨a1, ?_, a3, a4, a5, a6⟩
  unfold nBs nB at a2
  show nB (sf τ n 0) (sf τ n 5) (sf τ n 6) (sf τ n 7) (sf τ n 8) (sf τ n 9) (sg τ 4) v
  unfold nB; omega
theorem inv_step {T M S : Int} {σ : sS} (I : Inv T M S σ) (hb : S + 792 ≤ 1000000000) : Inv (T + 1) M (S + 792) (sStep σ) := by
  have h8 : sN σ ≤ 8 := by have := I.1.1; unfold sN; omega
  have J := (inv_acts I hb (sN σ) (Nat.le_refl _)).wk (Int.le_refl T) (Int.le_refl M) (show S + 99 * (sN σ : Int) ≤ S + 792 by omega)
  unfold sStep
  by_cases c : sg σ 4 = 1 ∧ sAll (sActs (sN σ) σ) = true
  · rw [if_pos c]
    have W := inv_whole J (by rw [sg_acts]; exact c.1) c.2
    have e1 : sg (sWhole (sActs (sN σ) σ)) 1 = sg σ 1 := by
      unfold sWhole
      rw [(@settles_at (ug (ug (ug (sActs (sN σ) σ) 3 (sg (sActs (sN σ) σ) 3 + 1)) 4 0) 6 0) (sN (sActs (sN σ) σ))).2.1 1 (by decide) (by decide)]
      exact sg_acts σ (sN σ) 1
    have := W.time
    rw [e1] at this
    exact this
  · rw [if_neg c]
    have := J.time
    rw [sg_acts] at this
    exact this
theorem inv_steps {T M S : Int} {σ : sS} (I : Inv T M S σ) : ∀ k : Nat, S + 792 * (k : Int) ≤ 1000000000 → Inv (T + (k : Int)) M (S + 792 * (k : Int)) (sSteps k σ) := by
  intro k
  induction k with
  | zero => intro _; exact I.wk (by omega) (Int.le_refl _) (by omega)
  | succ k ih =>
    intro h
    have := inv_step (ih (by omega)) (by omega)
    exact this.wk (by omega) (Int.le_refl _) (by omega)
theorem inv_marks {T M S : Int} {σ : sS} (I : Inv T M S σ) (h4 : sg σ 4 ≠ 1) : Inv T (M + 1) S (sMarks σ) := by
  obtain ⟨⟨g0, g1, g2, g3, g4, g5, g34, g7, g8⟩, A, ⟨CC, CV, CL⟩, g6, gJ, fr⟩ := id I
  have hK : ∀ n, n < sN σ → nK σ n := fun n hn => (A n hn).1
  have h8 : sN σ ≤ 8 := by unfold sN; omega
  have fe : ∀ t k, k ≠ 5 → k ≠ 9 → sf (sMarks σ) t k = sf σ t k := by
    intro t k h5 h9
    show (if t < sN σ then (if k = 5 then (if sf σ t 0 = 0 then 1 else 0) else if k = 9 then 0 else sf σ t k) else sf σ t k) = _
    by_cases q : t < sN σ
    · rw [if_pos q, if_neg h5, if_neg h9]
    · rw [if_neg q]
  have f5 : ∀ t, t < sN σ → sf (sMarks σ) t 5 = if sf σ t 0 = 0 then 1 else 0 := fun t ht => if_pos ht
  have f9 : ∀ t, t < sN σ → sf (sMarks σ) t 9 = 0 := fun t ht => if_pos ht
  have fu : ∀ t, sN σ ≤ t → sf (sMarks σ) t = sf σ t := fun t ht => funext fun k => if_neg (Nat.not_lt.mpr ht)
  have re : ∀ t, sr (sMarks σ) t = sr σ t := fun _ => rfl
  have eK : KS (sMarks σ) = KS σ := funext fun u => fe u 0 (by decide) (by decide)
  have eF : fdS (sMarks σ) = fdS σ := by
    funext u i
    unfold fdS
    rw [fe u 1 (by decide) (by decide), fe u 2 (by decide) (by decide)]
  have z : ∀ n, n < sN σ → sf σ n 7 = 0 ∧ sf σ n 8 = 0 ∧ sf σ n 9 = 0 := fun n hn => by
    have b := (A n hn).2.1
    unfold nBs nB at b
    omega
  have np : ∀ n, n < sN σ → ¬ psd (sf (sMarks σ) n) := fun n hn q => by
    unfold psd at q
    rw [f9 n hn, fe n 8 (by decide) (by decide)] at q
    have := z n hn
    omega
  have bz : ∀ n, n < sN σ → ∀ i, i < nin (sf σ n 0) → bar (sr σ n i) = 0 := fun n hn i hi => by
    have d := ((A n hn).2.2.2.2.2 i hi).1
    have l := fd_lt hK hn hi
    have zz := z (fdS σ n i) (by omega)
    rw [if_neg (fun q => by have := q.1; unfold psd at this; omega)] at d
    exact d
  refine ⟨⟨g0, g1, g2, g3, Or.inr rfl, g5, by show sg σ 3 + 1 ≤ M + 1; omega, by show 0 ≤ sg σ 7 ∧ sg σ 7 ≤ M + 1; omega, g8⟩, fun n hn => ?_, ⟨?_, fun _ => ?_, ?_⟩, ?_, ?_, fun n hn => ?_⟩
  · have hn : n < sN σ := hn
    obtain ⟨a1, a2, a3, a4, a5, a6⟩ := A n hn
    have zn := z n hn
    refine ⟨?_, ?_, ?_, ?_, ?_, fun i hi => ?_⟩
    · unfold nK
      rw [eF, fe n 0 (by decide) (by decide), fe n 3 (by decide) (by decide), fe n 1 (by decide) (by decide)]
      refine ⟨a1.1, a1.2.1, a1.2.2.1, a1.2.2.2.1, fun i hi => ?_⟩
      have n2 := nin_le (sf σ n 0)
      rw [fe n (1 + i) (by omega) (by omega), fe _ 0 (by decide) (by decide)]
      exact a1.2.2.2.2 i hi
    · unfold nBs
      rw [fe n 0 (by decide) (by decide), f5 n hn, fe n 6 (by decide) (by decide), fe n 7 (by decide) (by decide), fe n 8 (by decide) (by decide), f9 n hn]
      unfold nBs nB at a2
      show nB (sf σ n 0) (if sf σ n 0 = 0 then 1 else 0) (sf σ n 6) (sf σ n 7) (sf σ n 8) 0 1 (sg σ 5)
      unfold nB
      by_cases q : sf σ n 0 = 0
      · rw [if_pos q]; omega
      · rw [if_neg q]; omega
    · unfold nPs
      rw [fe n 0 (by decide) (by decide), fe n 4 (by decide) (by decide), fe n 14 (by decide) (by decide), fe n 19 (by decide) (by decide), fe n 24 (by decide) (by decide), fe n 25 (by decide) (by decide), fe n 26 (by decide) (by decide), fe n 27 (by decide) (by decide)]
      exact a3
    · exact nS_flat a4 (fe n 0 (by decide) (by decide)) (fun k hk => ⟨fe n _ (by omega) (by omega), fe n _ (by omega) (by omega), fe n _ (by omega) (by omega)⟩)
    · rw [fe n 0 (by decide) (by decide), re]; exact a5
    · rw [fe n 0 (by decide) (by decide)] at hi
      have l := fd_lt hK hn hi
      rw [eF, re, bz n hn i hi, if_neg (fun q => np _ (by omega) q.1)]
      refine ⟨rfl, fun q => ?_⟩
      unfold gotB at q
      rw [f9 n hn, fe n 7 (by decide) (by decide), fe n 8 (by decide) (by decide)] at q
      have n2 := nin_le (sf σ n 0)
      omega
  · refine cnt_mono (e := fun _ => 0) CC rfl h8 eK eF hK (fun u hu k0 => ?_) (fun u hu k0 k4 => ?_) (fun u hu k4 => ?_) (fun u hu i hi => ?_)
    · rw [fe u 4 (by decide) (by decide)]; omega
    all_goals
      have vC : ∀ i, vCf (sf (sMarks σ) u) (sr (sMarks σ) u) i = vCf (sf σ u) (sr σ u) i := by
        intro i
        unfold vCf
        rw [fe u 0 (by decide) (by decide), re]
    · rw [vC]; omega
    · rw [vC, vC]; omega
    · rw [vC]; omega
  · have vV : ∀ u, u < sN σ → ∀ i, i < nin (sf σ u 0) → vVf (sf (sMarks σ) u) (sr (sMarks σ) u) i ≤ vCf (sf σ u) (sr σ u) i := by
      intro u hu i hi
      unfold vVf vCf
      have zu := z u hu
      have n2 := nin_le (sf σ u 0)
      rw [if_neg (show ¬ (sf (sMarks σ) u 8 = (i : Int) + 1 ∨ (sf (sMarks σ) u 9 = 1 ∧ sf (sMarks σ) u 25 = (i : Int) + 1)) by rw [fe u 8 (by decide) (by decide), f9 u hu]; omega), if_neg (show ¬ gotB (sf (sMarks σ) u) i by
        intro q
        unfold gotB at q
        rw [f9 u hu, fe u 7 (by decide) (by decide), fe u 8 (by decide) (by decide)] at q
        omega), re, pre_0 (bz u hu i hi)]
      split <;> omega
    refine cnt_mono (e := fun _ => 0) CC rfl h8 eK eF hK (fun u hu k0 => ?_) (fun u hu k0 k4 => ?_) (fun u hu k4 => ?_) (fun u hu i hi => ?_)
    · show 30 - (if sf (sMarks σ) u 9 = 1 then sf (sMarks σ) u 19 else sf (sMarks σ) u 4) + 0 ≤ 30 - sf σ u 4
      rw [f9 u hu, if_neg (by decide), fe u 4 (by decide) (by decide)]; omega
    · have := vV u hu 0 (by rw [nin_1 k0 k4]; decide)
      omega
    · have := vV u hu 0 (by rw [nin_4 k4]; decide)
      have := vV u hu 1 (by rw [nin_4 k4]; decide)
      omega
    · have := vV u hu i hi
      omega
  · refine cnt_mono (e := fun _ => 0) CL rfl h8 eK eF hK (fun u hu k0 => ?_) (fun u hu k0 k4 => ?_) (fun u hu k4 => ?_) (fun u hu i hi => ?_)
    · rw [fe u 14 (by decide) (by decide)]; omega
    all_goals
      have vL : ∀ i, vLf (sf (sMarks σ) u) (sr (sMarks σ) u) i = vLf (sf σ u) (sr σ u) i := by
        intro i
        unfold vLf
        rw [fe u 26 (by decide) (by decide), re]
    · rw [vL]; omega
    · rw [vL, vL]; omega
    · rw [vL]; omega
  · show sg σ 6 = _
    rw [g6]
    exact sumN_cg (fun k hk => by rw [fe k 27 (by decide) (by decide)])
  · have : sJoins (sMarks σ) = sJoins σ := sumN_cg (fun k hk => by rw [fe k 0 (by decide) (by decide)])
    rw [this]; exact gJ
  · have hn : sN σ ≤ n := hn
    rw [fu n hn, re]
    exact fr n hn
