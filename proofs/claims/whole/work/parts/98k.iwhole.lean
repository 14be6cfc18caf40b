/-! a snapshot that becomes whole keeps what always holds -/
theorem sumN_add (f : Nat → Int) (n : Nat) : sumN f (n + 1) = sumN f n + f n := rfl
theorem settles_at {τ : sS} : ∀ (k : Nat), (∀ a, a < k → (∀ j, sf (sSettles k τ) a j = nSf (sf τ a) j) ∧ ∀ j, sr (sSettles k τ) a j = nSr (sr τ a) j) ∧ (∀ j, j ≠ 6 → j ≠ 8 → sg (sSettles k τ) j = sg τ j) ∧ sg (sSettles k τ) 6 = sg τ 6 + sumN (fun n => sf τ n 24) k ∧ sg (sSettles k τ) 8 = sg τ 8 + sumN (fun n => (((sr τ n 5).length - (100 - (sr τ n 6).length) : Nat) : Int)) k := by
  intro k
  induction k with
  | zero => exact ⟨fun a ha => absurd ha (Nat.not_lt_zero a), fun _ _ _ => rfl, by show sg τ 6 = sg τ 6 + 0; omega, by show sg τ 8 = sg τ 8 + 0; omega⟩
  | succ k ih =>
    obtain ⟨i1, i2, i3, i4⟩ := ih
    obtain ⟨n1, n2⟩ := @settles_n τ k k (Nat.le_refl _)
    have fk : sf (sSettles k τ) k = sf τ k := funext n1
    have rk : sr (sSettles k τ) k = sr τ k := funext n2
    refine ⟨fun a ha => ?_, fun j h6 h8 => ?_, ?_, ?_⟩
    · by_cases e : a = k
      · subst e
        refine ⟨fun j => ?_, fun j => ?_⟩
        · show sf (sSettle (sSettles a τ) a) a j = _
          rw [sf_settle, if_pos rfl, fk]; rfl
        · show sr (sSettle (sSettles a τ) a) a j = _
          rw [sr_settle, if_pos rfl, rk]; rfl
      · obtain ⟨j1, j2⟩ := i1 a (by omega)
        refine ⟨fun j => ?_, fun j => ?_⟩
        · show sf (sSettle (sSettles k τ) k) a j = _
          rw [sf_settle, if_neg e]; exact j1 j
        · show sr (sSettle (sSettles k τ) k) a j = _
          rw [sr_settle, if_neg e]; exact j2 j
    · show sg (sSettle (sSettles k τ) k) j = _
      rw [sg_settle, if_neg h6, if_neg h8]; exact i2 j h6 h8
    · show sg (sSettle (sSettles k τ) k) 6 = _
      rw [sg_settle, if_pos rfl, i3, fk, sumN_add, Int.add_assoc]
    · show sg (sSettle (sSettles k τ) k) 8 = _
      rw [sg_settle, if_neg (by decide), if_pos rfl, i4, rk, sumN_add, Int.add_assoc]
theorem nSf_lo {f : Nat → Int} {k : Nat} (h : k < 9) : nSf f k = f k := by
  unfold nSf
  rw [if_neg (by omega), if_neg (by omega), if_neg (by omega), if_neg (by omega), if_neg (by omega), if_neg (by omega), if_neg (by omega), if_neg (by omega)]
theorem nSf_20 {f : Nat → Int} {k : Nat} (h : k < 4) : nSf f (20 + k) = f (20 + k) := by
  unfold nSf
  rw [if_neg (by omega), if_neg (by omega), if_neg (by omega), if_neg (by omega), if_neg (by omega), if_neg (by omega), if_neg (by omega), if_neg (by omega)]
theorem inv_whole {T M S : Int} {σ : sS} (I : Inv T M S σ) (h4 : sg σ 4 = 1) (hall : sAll σ = true) : Inv T M S (sWhole σ) := by
  obtain ⟨⟨g0, g1, g2, g3, g4, g5, g34, g7, g8⟩, A, ⟨CC, CV, CL⟩, g6, gJ, fr⟩ := id I
  have hK : ∀ n, n < sN σ → nK σ n := fun n hn => (A n hn).1
  have h8 : sN σ ≤ 8 := by unfold sN; omega
  have all9 : ∀ n, n < sN σ → sf σ n 9 = 1 := fun n hn => of_decide_eq_true (List.all_eq_true.mp hall n (List.mem_range.mpr hn))
  obtain ⟨τ, hτ⟩ : ∃ τ, τ = ug (ug (ug σ 3 (sg σ 3 + 1)) 4 0) 6 0 := ⟨_, rfl⟩
  have tf : ∀ n, sf τ n = sf σ n := fun n => by rw [hτ]; rfl
  have tr : ∀ n, sr τ n = sr σ n := fun n => by rw [hτ]; rfl
  obtain ⟨s1, s2, s3, s4⟩ := @settles_at τ (sN σ)
  have W : sWhole σ = sSettles (sN σ) τ := by unfold sWhole; rw [← hτ]
  rw [W]
  obtain ⟨ρ, hρ⟩ : ∃ ρ, ρ = sSettles (sN σ) τ := ⟨_, rfl⟩
  have un : ∀ n, sN σ ≤ n → sf ρ n = sf σ n ∧ sr ρ n = sr σ n := fun n hn => by
    obtain ⟨q1, q2⟩ := @settles_n τ (sN σ) n hn
    rw [hρ]
    exact ⟨(funext q1).trans (tf n), (funext q2).trans (tr n)⟩
  rw [← hρ] at s1 s2 s3 s4 ⊢
  have fn : ∀ n, n < sN σ → sf ρ n = nSf (sf σ n) := fun n hn => funext fun j => by rw [(s1 n hn).1 j, tf]
  have rn : ∀ n, n < sN σ → sr ρ n = nSr (sr σ n) := fun n hn => funext fun j => by rw [(s1 n hn).2 j, tr]
  have e0 : sg ρ 0 = sg σ 0 := by rw [s2 0 (by decide) (by decide), hτ]; rfl
  have e1 : sg ρ 1 = sg σ 1 := by rw [s2 1 (by decide) (by decide), hτ]; rfl
  have e2 : sg ρ 2 = sg σ 2 := by rw [s2 2 (by decide) (by decide), hτ]; rfl
  have e3 : sg ρ 3 = sg σ 3 + 1 := by rw [s2 3 (by decide) (by decide), hτ]; rfl
  have e4 : sg ρ 4 = 0 := by rw [s2 4 (by decide) (by decide), hτ]; rfl
  have e5 : sg ρ 5 = sg σ 5 := by rw [s2 5 (by decide) (by decide), hτ]; rfl
  have e6 : sg ρ 6 = sumN (fun n => sf σ n 24) (sN σ) := by
    rw [s3, show sg τ 6 = 0 by rw [hτ]; rfl, Int.zero_add]
    exact sumN_cg (fun k _ => by rw [tf])
  have e7 : sg ρ 7 = sg σ 7 := by rw [s2 7 (by decide) (by decide), hτ]; rfl
  have e8 : sg σ 8 ≤ sg ρ 8 ∧ sg ρ 8 ≤ sg σ 8 + 960 := by
    rw [s4, show sg τ 8 = sg σ 8 by rw [hτ]; rfl]
    have b := sumN_b (f := fun n => (((sr τ n 5).length - (100 - (sr τ n 6).length) : Nat) : Int)) (B := 120) (n := sN σ) (fun k hk => by
      show 0 ≤ (((sr τ k 5).length - (100 - (sr τ k 6).length) : Nat) : Int) ∧ (((sr τ k 5).length - (100 - (sr τ k 6).length) : Nat) : Int) ≤ 120
      rw [tr]
      have : (sr σ k 5).length ≤ 120 := by
        by_cases q : sf σ k 0 = 5
        · have := I.snk hk q; omega
        · rw [((A k hk).2.2.2.2.1.2.2.2.2.2.1 q).2]; decide
      omega)
    have : (sN σ : Int) * 120 ≤ 8 * 120 := Int.mul_le_mul_of_nonneg_right (by omega) (by decide)
    omega
  have eN : sN ρ = sN σ := by unfold sN; rw [e0]
  have flo : ∀ t k, k < 4 → sf ρ t k = sf σ t k := by
    intro t k hk
    by_cases q : t < sN σ
    · rw [fn t q, nSf_lo (by omega)]
    · rw [(un t (by omega)).1]
  have eK : KS ρ = KS σ := funext fun u => flo u 0 (by decide)
  have eF : fdS ρ = fdS σ := by
    funext u i
    unfold fdS
    rw [flo u 1 (by decide), flo u 2 (by decide)]
  refine ⟨⟨by rw [e0]; exact g0, by rw [e1]; exact g1, by rw [e2]; exact g2, by rw [e3]; omega, by rw [e4]; exact Or.inl rfl, by rw [e5]; exact g5, by rw [e3, e4]; omega, by rw [e7]; exact g7, by rw [e3]; omega⟩, fun n hn => ?_, ⟨?_, fun z => by rw [e4] at z; exact absurd z (by decide), ?_⟩, ?_, ?_, fun n hn => ?_⟩
  · rw [eN] at hn
    obtain ⟨a1, a2, a3, a4, a5, a6⟩ := A n hn
    have x9 := all9 n hn
    unfold nBs nB at a2
    have z8 : sf σ n 7 = 0 ∧ sf σ n 8 = 0 := by omega
    refine ⟨?_, ?_, ?_, ?_, ?_, fun i hi => ?_⟩
    · unfold nK
      rw [eF, flo n 0 (by decide), flo n 3 (by decide), flo n 1 (by decide)]
      refine ⟨a1.1, a1.2.1, a1.2.2.1, a1.2.2.2.1, fun i hi => ?_⟩
      have n2 := nin_le (sf σ n 0)
      rw [flo n (1 + i) (by omega), flo _ 0 (by decide)]
      exact a1.2.2.2.2 i hi
    · rw [fn n hn, e4, e5]
      show nB (sf σ n 0) (sf σ n 5) (sf σ n 6) (sf σ n 7) (sf σ n 8) 0 0 (sg σ 5)
      unfold nB; omega
    · rw [fn n hn]
      show nP (sf σ n 0) (sf σ n 4) (sf σ n 19) (sf σ n 19) (sf σ n 24) (sf σ n 25) (sf σ n 25) (sf σ n 24)
      unfold nPs nP at a3
      unfold nP; omega
    · rw [fn n hn]
      intro k hk
      have s := a4 k hk
      rw [nSf_t hk, nSf_s hk, nSf_20 hk]
      exact ⟨s.1, s.2.2.1, s.2.2.1, fun z => ⟨(s.2.2.2 z).1, (s.2.2.2 z).2.2, (s.2.2.2 z).2.2⟩⟩
    · rw [fn n hn, rn n hn]
      show nR (sf σ n 0) (nSr (sr σ n))
      obtain ⟨b1, b2, b3, b4, b5, b6, b7, b8⟩ := a5
      refine ⟨fun i hi => ?_, b2, b2, b4, ?_, fun z => ⟨(b6 z).1, rfl⟩, b7, b8⟩
      · have ci : i = 0 ∨ i = 1 := by omega
        rcases ci with rfl | rfl
        · exact b1 0 (by decide)
        · exact b1 1 (by decide)
      · show (sr σ n 6 ++ (sr σ n 5).take (100 - (sr σ n 6).length)).length ≤ 100
        rw [List.length_append, List.length_take]; omega
    · rw [flo n 0 (by decide)] at hi
      have n2 := nin_le (sf σ n 0)
      obtain ⟨d1, d2⟩ := a6 i hi
      rw [if_neg (fun z => z.2 (Or.inl x9))] at d1
      have ri : sr ρ n i = sr σ n i := by
        rw [rn n hn]
        have ci : i = 0 ∨ i = 1 := by omega
        rcases ci with rfl | rfl <;> rfl
      have l := fd_lt hK hn hi
      have y8 : sf σ (fdS σ n i) 8 = 0 := by
        have bb := (A (fdS σ n i) (by omega)).2.1
        unfold nBs nB at bb
        have := all9 (fdS σ n i) (by omega)
        omega
      have ng : ¬ psd (sf ρ (fdS σ n i)) := by
        rw [fn _ (by omega)]
        show ¬ ((0 : Int) = 1 ∨ sf σ (fdS σ n i) 8 ≠ 0)
        omega
      have ng2 : ¬ gotB (sf ρ n) i := by
        rw [fn n hn]
        show ¬ ((0 : Int) = 1 ∨ sf σ n 7 = (i : Int) + 1 ∨ sf σ n 8 = 2 - (i : Int))
        omega
      rw [eF, ri, d1, if_neg (fun z => ng z.1)]
      exact ⟨rfl, fun z => absurd z ng2⟩
  · refine cnt_mono (e := fun _ => 0) CC eN h8 eK eF hK (fun u hu k0 => ?_) (fun u hu k0 k4 => ?_) (fun u hu k4 => ?_) (fun u hu i hi => ?_)
    · rw [fn u hu]
      show 30 - sf σ u 4 + 0 ≤ 30 - sf σ u 4
      omega
    all_goals
      have vC : ∀ i, i < 2 → vCf (sf ρ u) (sr ρ u) i ≤ vCf (sf σ u) (sr σ u) i := by
        intro i hi
        rw [fn u hu, rn u hu]
        unfold vCf
        have ri : nSr (sr σ u) i = sr σ u i := by
          have ci : i = 0 ∨ i = 1 := by omega
          rcases ci with rfl | rfl <;> rfl
        rw [ri]
        show _ + (if sf σ u 0 = 5 then ((sr σ u 4).length : Int) + ((0 : Nat) : Int) else 0) ≤ _
        split <;> omega
    · show vCf (sf ρ u) (sr ρ u) 0 + 0 ≤ vCf (sf σ u) (sr σ u) 0 + 0
      have := vC 0 (by omega)
      omega
    · show vCf (sf ρ u) (sr ρ u) 0 + vCf (sf ρ u) (sr ρ u) 1 + 0 ≤ vCf (sf σ u) (sr σ u) 0 + vCf (sf σ u) (sr σ u) 1 + 0 + 0
      have := vC 0 (by omega)
      have := vC 1 (by omega)
      omega
    · have n2 := nin_le (sf σ u 0)
      show vCf (sf ρ u) (sr ρ u) i ≤ vCf (sf σ u) (sr σ u) i + 0
      have := vC i (by omega)
      omega
  · have vL : ∀ u, u < sN σ → ∀ i, vLf (sf ρ u) (sr ρ u) i ≤ vVf (sf σ u) (sr σ u) i := by
      intro u hu i
      rw [fn u hu, rn u hu]
      show (if sf σ u 25 = (i : Int) + 1 then ((sr σ u 2).length : Int) else 0) ≤ vVf (sf σ u) (sr σ u) i
      unfold vVf
      have x9 := all9 u hu
      rw [if_pos (Or.inl x9), Int.zero_add]
      by_cases q : sf σ u 25 = (i : Int) + 1
      · rw [if_pos q, if_pos (Or.inr ⟨x9, q⟩)]; exact Int.le_refl _
      · rw [if_neg q]
        split <;> omega
    refine cnt_mono (e := fun _ => 0) (CV h4) eN h8 eK eF hK (fun u hu k0 => ?_) (fun u hu k0 k4 => ?_) (fun u hu k4 => ?_) (fun u hu i hi => ?_)
    · rw [fn u hu]
      show 30 - sf σ u 19 + 0 ≤ 30 - (if sf σ u 9 = 1 then sf σ u 19 else sf σ u 4)
      rw [if_pos (all9 u hu)]; omega
    · have := vL u hu 0
      show vLf (sf ρ u) (sr ρ u) 0 + 0 ≤ vVf (sf σ u) (sr σ u) 0 + 0
      omega
    · have := vL u hu 0
      have := vL u hu 1
      show vLf (sf ρ u) (sr ρ u) 0 + vLf (sf ρ u) (sr ρ u) 1 + 0 ≤ vVf (sf σ u) (sr σ u) 0 + vVf (sf σ u) (sr σ u) 1 + 0 + 0
      omega
    · have := vL u hu i
      show vLf (sf ρ u) (sr ρ u) i ≤ vVf (sf σ u) (sr σ u) i + 0
      omega
  · rw [e6, eN]
    exact sumN_cg (fun k hk => by rw [fn k hk]; rfl)
  · have : sJoins ρ = sJoins σ := by
      unfold sJoins
      rw [eN]
      exact sumN_cg (fun k hk => by rw [flo k 0 (by decide)])
    rw [this]; exact gJ
  · rw [eN] at hn
    rw [(un n hn).1, (un n hn).2]
    exact fr n hn
