/-! orders keep what always holds (2) -/
theorem nGf_lo {f : Nat → Int} {k : Nat} (h : k < 4) : nGf f k = f k := by
  unfold nGf
  rw [if_neg (by omega), if_neg (by omega), if_neg (by omega), if_neg (by omega), if_neg (by omega), if_neg (by omega)]
theorem inv_fails {T M S : Int} {σ : sS} (I : Inv T M S σ) : Inv T (M + 1) S (sFails σ) := by
  obtain ⟨⟨g0, g1, g2, g3, g4, g5, g34, g7, g8⟩, A, ⟨CC, CV, CL⟩, g6, gJ, fr⟩ := id I
  have hK : ∀ n, n < sN σ → nK σ n := fun n hn => (A n hn).1
  have h8 : sN σ ≤ 8 := by unfold sN; omega
  have fn : ∀ n, n < sN σ → sf (sFails σ) n = nGf (sf σ n) := fun n hn => funext fun k => if_pos hn
  have rn : ∀ n, n < sN σ → sr (sFails σ) n = nGr (sf σ n) (sr σ n) := fun n hn => funext fun k => if_pos hn
  have un : ∀ n, sN σ ≤ n → sf (sFails σ) n = sf σ n ∧ sr (sFails σ) n = sr σ n := fun n hn => ⟨funext fun k => if_neg (Nat.not_lt.mpr hn), funext fun k => if_neg (Nat.not_lt.mpr hn)⟩
  have flo : ∀ t k, k < 4 → sf (sFails σ) t k = sf σ t k := by
    intro t k hk
    by_cases q : t < sN σ
    · rw [fn t q, nGf_lo hk]
    · rw [(un t (by omega)).1]
  have eK : KS (sFails σ) = KS σ := funext fun u => flo u 0 (by decide)
  have eF : fdS (sFails σ) = fdS σ := by
    funext u i
    unfold fdS
    rw [flo u 1 (by decide), flo u 2 (by decide)]
  have ri : ∀ n, ∀ i, i < 2 → nGr (sf σ n) (sr σ n) i = if sf σ n 26 = (i : Int) + 1 then sr σ n 3 else [] := by
    intro n i hi
    have ci : i = 0 ∨ i = 1 := by omega
    rcases ci with rfl | rfl <;> rfl
  refine ⟨⟨g0, g1, g2, g3, Or.inl rfl, g5, by show sg σ 3 + 0 ≤ M + 1; omega, by show 0 ≤ sg σ 7 + 1 ∧ sg σ 7 + 1 ≤ M + 1; omega, g8⟩, fun n hn => ?_, ⟨?_, fun z => absurd z (by show ¬ (0 : Int) = 1; decide), ?_⟩, ?_, ?_, fun n hn => ?_⟩
  · have hn : n < sN σ := hn
    obtain ⟨a1, a2, a3, a4, a5, a6⟩ := A n hn
    have pp := a3
    unfold nPs nP at pp
    refine ⟨?_, ?_, ?_, ?_, ?_, fun i hi => ?_⟩
    · unfold nK
      rw [eF, flo n 0 (by decide), flo n 3 (by decide), flo n 1 (by decide)]
      refine ⟨a1.1, a1.2.1, a1.2.2.1, a1.2.2.2.1, fun i hi => ?_⟩
      have n2 := nin_le (sf σ n 0)
      rw [flo n (1 + i) (by omega), flo _ 0 (by decide)]
      exact a1.2.2.2.2 i hi
    · rw [fn n hn]
      show nB (sf σ n 0) 0 0 0 0 0 0 (sg σ 5)
      unfold nB; omega
    · rw [fn n hn]
      show nP (sf σ n 0) (sf σ n 14) (sf σ n 14) (sf σ n 19) (sf σ n 24) (sf σ n 25) (sf σ n 26) (sf σ n 27)
      unfold nP; omega
    · rw [fn n hn]
      intro k hk
      have s := a4 k hk
      rw [nGf_s hk, nGf_t (k := 15 + k) (by omega), nGf_t (k := 20 + k) (by omega)]
      exact ⟨s.2.1, s.2.1, s.2.2.1, fun z => ⟨(s.2.2.2 z).2.1, (s.2.2.2 z).2.1, (s.2.2.2 z).2.2⟩⟩
    · rw [fn n hn, rn n hn]
      show nR (sf σ n 0) (nGr (sf σ n) (sr σ n))
      obtain ⟨b1, b2, b3, b4, b5, b6, b7, b8⟩ := a5
      refine ⟨fun i hi v hv => ?_, b2, b3, b4, b5, fun _ => ⟨rfl, rfl⟩, fun z => ?_, fun z => ?_⟩
      · rw [ri n i hi] at hv
        split at hv
        · have := b3 v hv; omega
        · cases hv
      · rw [ri n 1 (by decide), if_neg (by omega)]
      · rw [ri n 0 (by decide), if_neg (by omega)]
    · rw [flo n 0 (by decide)] at hi
      have n2 := nin_le (sf σ n 0)
      have l := fd_lt hK hn hi
      have ng : ¬ psd (sf (sFails σ) (fdS σ n i)) := by
        rw [fn _ (by omega)]
        show ¬ ((0 : Int) = 1 ∨ (0 : Int) ≠ 0)
        omega
      have ng2 : ¬ gotB (sf (sFails σ) n) i := by
        rw [fn n hn]
        show ¬ ((0 : Int) = 1 ∨ (0 : Int) = (i : Int) + 1 ∨ (0 : Int) = 2 - (i : Int))
        omega
      rw [eF, rn n hn, ri n i (by omega), if_neg (show ¬ (psd (sf (sFails σ) (fdS σ n i)) ∧ ¬ gotB (sf (sFails σ) n) i) from fun z => ng z.1)]
      refine ⟨?_, fun z => absurd z ng2⟩
      split
      · exact bar_none a5.2.2.1
      · rfl
  · have vC : ∀ u, u < sN σ → ∀ i, i < 2 → vCf (sf (sFails σ) u) (sr (sFails σ) u) i ≤ vLf (sf σ u) (sr σ u) i := by
      intro u hu i hi
      rw [fn u hu, rn u hu]
      unfold vCf vLf
      rw [ri u i hi]
      show (itm (if sf σ u 26 = (i : Int) + 1 then sr σ u 3 else []) : Int) + (if sf σ u 0 = 5 then ((0 : Nat) : Int) + ((0 : Nat) : Int) else 0) ≤ _
      have e : (if sf σ u 0 = 5 then ((0 : Nat) : Int) + ((0 : Nat) : Int) else 0) = 0 := ite_self _
      rw [e]
      by_cases q : sf σ u 26 = (i : Int) + 1
      · rw [if_pos q, if_pos q]
        have := itm_le (sr σ u 3)
        omega
      · rw [if_neg q, if_neg q]
        exact Int.le_refl _
    refine cnt_mono (e := fun _ => 0) CL rfl h8 eK eF hK (fun u hu k0 => ?_) (fun u hu k0 k4 => ?_) (fun u hu k4 => ?_) (fun u hu i hi => ?_)
    · rw [fn u hu]
      show 30 - sf σ u 14 + 0 ≤ 30 - sf σ u 14
      omega
    · have := vC u hu 0 (by decide)
      omega
    · have := vC u hu 0 (by decide)
      have := vC u hu 1 (by decide)
      omega
    · have n2 := nin_le (sf σ u 0)
      have := vC u hu i (by omega)
      omega
  · have vL : ∀ u, u < sN σ → ∀ i, vLf (sf (sFails σ) u) (sr (sFails σ) u) i = vLf (sf σ u) (sr σ u) i := by
      intro u hu i
      rw [fn u hu, rn u hu]
      rfl
    refine cnt_mono (e := fun _ => 0) CL rfl h8 eK eF hK (fun u hu k0 => ?_) (fun u hu k0 k4 => ?_) (fun u hu k4 => ?_) (fun u hu i hi => ?_)
    · rw [fn u hu]
      show 30 - sf σ u 14 + 0 ≤ 30 - sf σ u 14
      omega
    · rw [vL u hu]; omega
    · rw [vL u hu, vL u hu]; omega
    · rw [vL u hu]; omega
  · show sg σ 6 = _
    rw [g6]
    exact sumN_cg (fun k hk => by rw [fn k hk]; rfl)
  · have : sJoins (sFails σ) = sJoins σ := sumN_cg (fun k hk => by rw [flo k 0 (by decide)])
    rw [this]; exact gJ
  · have hn : sN σ ≤ n := hn
    rw [(un n hn).1, (un n hn).2]
    exact fr n hn
theorem pt_cg {K K' : Nat → Int} {fd fd' : Nat → Nat → Nat} {bs bs' : Nat → Int} {v v' : Nat → Nat → Int} {N : Nat} (w0 : ∀ u, u < N → K u ≠ 0 → fd u 0 < u) (w1 : ∀ u, u < N → K u = 4 → fd u 1 < u) (eK : ∀ u, u < N → K' u = K u) (eF : ∀ u, u < N → ∀ i, fd' u i = fd u i) (eb : ∀ u, u < N → bs' u = bs u) (ev : ∀ u, u < N → ∀ i, v' u i = v u i) : ∀ k u, u < N → pt K' fd' bs' v' k u = pt K fd bs v k u := by
  intro k
  induction k with
  | zero => intro u _; rfl
  | succ k ih =>
    intro u hu
    unfold pt
    rw [eK u hu, eb u hu, ev u hu, ev u hu, eF u hu, eF u hu]
    by_cases c0 : K u = 0
    · rw [if_pos c0, if_pos c0]
    · rw [if_neg c0, if_neg c0, ih _ (by have := w0 u hu c0; omega)]
      by_cases c4 : K u = 4
      · rw [if_pos c4, if_pos c4, ih _ (by have := w1 u hu c4; omega)]
      · rw [if_neg c4, if_neg c4]
theorem pt_fuel {K : Nat → Int} {fd : Nat → Nat → Nat} {bs : Nat → Int} {v : Nat → Nat → Int} {N : Nat} (w0 : ∀ u, u < N → K u ≠ 0 → fd u 0 < u) (w1 : ∀ u, u < N → K u = 4 → fd u 1 < u) : ∀ k u, u < N → u < k → pt K fd bs v (k + 1) u = pt K fd bs v k u := by
  intro k
  induction k with
  | zero => intro u _ h; omega
  | succ k ih =>
    intro u hu hk
    show (if K u = 0 then bs u else if K u = 4 then (v u 0 + pt K fd bs v (k + 1) (fd u 0)) + (v u 1 + pt K fd bs v (k + 1) (fd u 1)) else v u 0 + pt K fd bs v (k + 1) (fd u 0)) = (if K u = 0 then bs u else if K u = 4 then (v u 0 + pt K fd bs v k (fd u 0)) + (v u 1 + pt K fd bs v k (fd u 1)) else v u 0 + pt K fd bs v k (fd u 0))
    by_cases c0 : K u = 0
    · rw [if_pos c0, if_pos c0]
    · rw [if_neg c0, if_neg c0]
      have f0 := w0 u hu c0
      rw [ih _ (by omega) (by omega)]
      by_cases c4 : K u = 4
      · rw [if_pos c4, if_pos c4]
        have f1 := w1 u hu c4
        rw [ih _ (by omega) (by omega)]
      · rw [if_neg c4, if_neg c4]
/-- what a node can send is bounded, if its channels are -/
theorem cnt_node {σ : sS} {bs : Nat → Int} {v : Nat → Nat → Int} (C : cnt σ bs v) (h8 : sN σ ≤ 8) (hK : ∀ n, n < sN σ → nK σ n) (hb : ∀ u, u < sN σ → bs u ≤ 30) {u : Nat} (hu : u < sN σ) : pt (KS σ) (fdS σ) bs v 8 u ≤ cpT (KS σ) (fdS σ) 8 u := by
  obtain ⟨w0, w1⟩ := wf0 hK
  have e1 : pt (KS σ) (fdS σ) bs v 8 u = (if KS σ u = 0 then bs u else if KS σ u = 4 then (v u 0 + pt (KS σ) (fdS σ) bs v 7 (fdS σ u 0)) + (v u 1 + pt (KS σ) (fdS σ) bs v 7 (fdS σ u 1)) else v u 0 + pt (KS σ) (fdS σ) bs v 7 (fdS σ u 0)) := rfl
  have e2 : cpT (KS σ) (fdS σ) 8 u = (if KS σ u = 0 then 30 else if KS σ u = 4 then (0 + cpT (KS σ) (fdS σ) 7 (fdS σ u 0)) + (0 + cpT (KS σ) (fdS σ) 7 (fdS σ u 1)) else 0 + cpT (KS σ) (fdS σ) 7 (fdS σ u 0)) := rfl
  rw [e1, e2]
  by_cases c0 : KS σ u = 0
  · rw [if_pos c0, if_pos c0]; exact hb u hu
  · rw [if_neg c0, if_neg c0]
    have c0' : ¬ sf σ u 0 = 0 := c0
    have f0 := w0 u hu c0
    have x0 := C u hu 0 (by unfold nin; rw [if_neg c0']; split <;> omega)
    have y0 : pt (KS σ) (fdS σ) bs v 8 (fdS σ u 0) = pt (KS σ) (fdS σ) bs v 7 (fdS σ u 0) := pt_fuel (bs := bs) (v := v) w0 w1 7 (fdS σ u 0) (by omega) (by omega)
    have z0 : cpT (KS σ) (fdS σ) 8 (fdS σ u 0) = cpT (KS σ) (fdS σ) 7 (fdS σ u 0) := pt_fuel w0 w1 7 (fdS σ u 0) (by omega) (by omega)
    by_cases c4 : KS σ u = 4
    · rw [if_pos c4, if_pos c4]
      have f1 := w1 u hu c4
      have c4' : sf σ u 0 = 4 := c4
      have x1 := C u hu 1 (by rw [nin_4 c4']; decide)
      have y1 : pt (KS σ) (fdS σ) bs v 8 (fdS σ u 1) = pt (KS σ) (fdS σ) bs v 7 (fdS σ u 1) := pt_fuel (bs := bs) (v := v) w0 w1 7 (fdS σ u 1) (by omega) (by omega)
      have z1 : cpT (KS σ) (fdS σ) 8 (fdS σ u 1) = cpT (KS σ) (fdS σ) 7 (fdS σ u 1) := pt_fuel w0 w1 7 (fdS σ u 1) (by omega) (by omega)
      omega
    · rw [if_neg c4, if_neg c4]
      omega
