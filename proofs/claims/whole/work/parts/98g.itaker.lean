/-! a taker's act keeps what always holds: items -/
theorem bar_cons (v : Int) (l : List Int) : bar (v :: l) = bar l + (if v = 100 then 1 else 0) := by
  unfold bar
  by_cases e : v = 100
  · rw [if_pos e, List.filter_cons, if_pos (decide_eq_true e)]; rfl
  · rw [if_neg e, List.filter_cons, if_neg (by simp [e])]; rfl
theorem itm_cons (v : Int) (l : List Int) : itm (v :: l) = itm l + (if v = 100 then 0 else 1) := by
  unfold itm
  by_cases e : v = 100
  · rw [if_pos e, List.filter_cons, if_neg (by simp [e])]; rfl
  · rw [if_neg e, List.filter_cons, if_pos (by simp [e])]; rfl
theorem pre_cons (v : Int) (l : List Int) : preL (v :: l) = if v = 100 then [] else v :: preL l := by
  unfold preL
  by_cases e : v = 100
  · rw [if_pos e, List.takeWhile_cons, if_neg (by simp [e])]
  · rw [if_neg e, List.takeWhile_cons, if_pos (by simp [e])]
theorem pt_nn {K : Nat → Int} {fd : Nat → Nat → Nat} {bs : Nat → Int} {v : Nat → Nat → Int} {N : Nat} (w0 : ∀ u, u < N → K u ≠ 0 → fd u 0 < u) (w1 : ∀ u, u < N → K u = 4 → fd u 1 < u) (hb : ∀ u, u < N → 0 ≤ bs u) (hv : ∀ u, u < N → ∀ i, 0 ≤ v u i) : ∀ k u, u < N → 0 ≤ pt K fd bs v k u := by
  intro k
  induction k with
  | zero => intro u _; exact Int.le_refl _
  | succ k ih =>
    intro u hu
    unfold pt
    by_cases c0 : K u = 0
    · rw [if_pos c0]; exact hb u hu
    · rw [if_neg c0]
      have f0 := w0 u hu c0
      have i0 := ih (fd u 0) (by omega)
      have v0 := hv u hu 0
      by_cases c4 : K u = 4
      · rw [if_pos c4]
        have f1 := w1 u hu c4
        have i1 := ih (fd u 1) (by omega)
        have v1 := hv u hu 1
        omega
      · rw [if_neg c4]; omega
theorem jns_s (σ : sS) : ∀ N, (jns (KS σ) N : Int) = sumN (fun n => if sf σ n 0 = 4 then 1 else 0) N := by
  intro N
  induction N with
  | zero => rfl
  | succ N ih =>
    show ((jns (KS σ) N + (if sf σ N 0 = 4 then 1 else 0) : Nat) : Int) = sumN _ N + (if sf σ N 0 = 4 then 1 else 0)
    rw [← ih]
    by_cases c : sf σ N 0 = 4
    · rw [if_pos c, if_pos c]; rfl
    · rw [if_neg c, if_neg c]; rfl
theorem vV_nn (f : Nat → Int) (r : Nat → List Int) (i : Nat) : 0 ≤ vVf f r i := by
  unfold vVf
  split <;> split <;> omega
theorem vC_nn (f : Nat → Int) (r : Nat → List Int) (i : Nat) : 0 ≤ vCf f r i := by
  unfold vCf
  split <;> omega
/-- what a node's channel can bear -/
theorem Inv.cap {T M S : Int} {σ : sS} (I : Inv T M S σ) {n i : Nat} (hn : n < sN σ) (hi : i < nin (sf σ n 0)) : cpT (KS σ) (fdS σ) 8 (fdS σ n i) ≤ (if sf σ n 0 = 4 then 60 else 120) := by
  obtain ⟨G, A, -, -, gJ, -⟩ := I
  have hK : ∀ n, n < sN σ → nK σ n := fun n hn => (A n hn).1
  obtain ⟨w0, w1⟩ := wf0 hK
  have l := fd_lt hK hn hi
  have c := (cp_le w0 w1 8 (fdS σ n i) (by omega)).2
  have m := jns_mono (K := KS σ) (show fdS σ n i + 1 ≤ n by omega)
  have m2 := jns_mono (K := KS σ) (show n + 1 ≤ sN σ by omega)
  have js := jns_s σ (sN σ)
  have e1 : jns (KS σ) (n + 1) = jns (KS σ) n + (if sf σ n 0 = 4 then 1 else 0) := rfl
  have gJ' : (jns (KS σ) (sN σ) : Int) ≤ 2 := by rw [js]; exact gJ
  by_cases q : sf σ n 0 = 4
  · rw [if_pos q] at e1 ⊢
    have := p2_mono (show jns (KS σ) (fdS σ n i + 1) ≤ 1 by omega)
    have e2 : p2 1 = 2 := rfl
    omega
  · rw [if_neg q] at e1 ⊢
    have := p2_mono (show jns (KS σ) (fdS σ n i + 1) ≤ 2 by omega)
    have e2 : p2 2 = 4 := rfl
    omega
theorem Inv.recs {T M S : Int} {σ : sS} (I : Inv T M S σ) {n i : Nat} (hn : n < sN σ) (h4 : sg σ 4 = 1) (hi : i < nin (sf σ n 0)) : vVf (sf σ n) (sr σ n) i ≤ (if sf σ n 0 = 4 then 60 else 120) := by
  have c := I.cap hn hi
  obtain ⟨G, A, ⟨CC, CV, CL⟩, -⟩ := id I
  have hK : ∀ n, n < sN σ → nK σ n := fun n hn => (A n hn).1
  obtain ⟨w0, w1⟩ := wf0 hK
  have l := fd_lt hK hn hi
  have v : vVf (sf σ n) (sr σ n) i + pt (KS σ) (fdS σ) (fun n => bVf (sf σ n)) (fun n i => vVf (sf σ n) (sr σ n) i) 8 (fdS σ n i) ≤ cpT (KS σ) (fdS σ) 8 (fdS σ n i) := CV h4 n hn i hi
  have p := pt_nn (bs := fun n => bVf (sf σ n)) (v := fun n i => vVf (sf σ n) (sr σ n) i) w0 w1 (fun u hu => by
    have := (A u hu).2.2.1
    unfold nPs nP at this
    show 0 ≤ 30 - (if sf σ u 9 = 1 then sf σ u 19 else sf σ u 4)
    split <;> omega) (fun u hu i => vV_nn _ _ _) 8 (fdS σ n i) (by omega)
  omega
theorem Inv.snk {T M S : Int} {σ : sS} (I : Inv T M S σ) {n : Nat} (hn : n < sN σ) (h5 : sf σ n 0 = 5) : (sr σ n 4).length + (sr σ n 5).length + itm (sr σ n 0) ≤ 120 := by
  have hi : 0 < nin (sf σ n 0) := by rw [nin_1 (by omega) (by omega)]; omega
  have c := I.cap hn hi
  rw [if_neg (by omega)] at c
  obtain ⟨G, A, ⟨CC, CV, CL⟩, -⟩ := id I
  have hK : ∀ n, n < sN σ → nK σ n := fun n hn => (A n hn).1
  obtain ⟨w0, w1⟩ := wf0 hK
  have l := fd_lt hK hn hi
  have v := CC n hn 0 hi
  have p := pt_nn (bs := fun n => 30 - sf σ n 4) (v := fun n i => vCf (sf σ n) (sr σ n) i) w0 w1 (fun u hu => by
    have := (A u hu).2.2.1
    unfold nPs nP at this
    show 0 ≤ 30 - sf σ u 4
    omega) (fun u hu i => vC_nn _ _ _) 8 (fdS σ n 0) (by omega)
  have v' : vCf (sf σ n) (sr σ n) 0 + pt (KS σ) (fdS σ) (fun n => 30 - sf σ n 4) (fun n i => vCf (sf σ n) (sr σ n) i) 8 (fdS σ n 0) ≤ cpT (KS σ) (fdS σ) 8 (fdS σ n 0) := v
  have e : vCf (sf σ n) (sr σ n) 0 = (itm (sr σ n 0) : Int) + (((sr σ n 4).length : Int) + ((sr σ n 5).length : Int)) := by unfold vCf; rw [if_pos h5]
  omega
theorem nIf_ne {f : Nat → Int} {v : Int} {k : Nat} (hk : k < 10 ∨ 14 ≤ k) : nIf f v k = f k := if_neg (fun q => by omega)
theorem take_f (σ : sS) (n i : Nat) : sf (sTake σ n i) n = ud (sf σ n) 6 (if sf σ n 0 = 4 then 1 - (i : Int) else 0) := by
  funext k
  show (if n = n ∧ k = 6 then _ else sf σ n k) = if k = 6 then _ else sf σ n k
  by_cases e : k = 6
  · rw [if_pos e, if_pos ⟨rfl, e⟩]
  · rw [if_neg e, if_neg (fun q => e q.2)]
theorem take_r (σ : sS) (n i : Nat) : sr (sTake σ n i) n = ud (sr σ n) i ((sr σ n i).drop 1) := by
  funext k
  show (if n = n ∧ k = i then _ else sr σ n k) = if k = i then _ else sr σ n k
  by_cases e : k = i
  · rw [if_pos e, if_pos ⟨rfl, e⟩]
  · rw [if_neg e, if_neg (fun q => e q.2)]
theorem take_fo {σ : sS} {n i t : Nat} (h : t ≠ n) (k : Nat) : sf (sTake σ n i) t k = sf σ t k := if_neg (fun q => h q.1)
theorem take_ro {σ : sS} {n i t : Nat} (h : t ≠ n) (k : Nat) : sr (sTake σ n i) t k = sr σ t k := if_neg (fun q => h q.1)
theorem item_vV {f f' : Nat → Int} {r r' : Nat → List Int} {i j : Nat} {v eV g4 g5 : Int} {l : List Int} (hi : i < 2) (hj : j < 2) (hL : r i = v :: l) (hv : v ≠ 100) (h7 : f 7 ≠ (i : Int) + 1) (e7 : f' 7 = f 7) (e8 : f' 8 = f 8) (e9 : f' 9 = f 9) (e25 : f' 25 = f 25) (b : nBs f g4 g5) (ri : r' i = l) (rj : ∀ j, j < 2 → j ≠ i → r' j = r j) (r2a : f 0 = 4 ∧ f 8 = (i : Int) + 1 → r' 2 = r 2 ++ [v]) (r2b : ¬ (f 0 = 4 ∧ f 8 = (i : Int) + 1) → r' 2 = r 2) (ev : 0 ≤ eV ∧ eV ≤ 1 ∧ (psd f → eV = 0)) : vVf f' r' j + (if j = i then eV else 0) ≤ vVf f r j := by
  unfold nBs nB at b
  have prl : itm (preL (r i)) = itm (preL l) + 1 := by rw [hL, pre_cons, if_neg hv, itm_cons, if_neg hv]
  have gg : gotB f' j ↔ gotB f j := by unfold gotB; rw [e9, e8, e7]
  have rr : (f' 8 = (j : Int) + 1 ∨ (f' 9 = 1 ∧ f' 25 = (j : Int) + 1)) ↔ (f 8 = (j : Int) + 1 ∨ (f 9 = 1 ∧ f 25 = (j : Int) + 1)) := by rw [e8, e9, e25]
  obtain ⟨v0, v1, v2⟩ := ev
  have first : (if gotB f' j then 0 else (itm (preL (r' j)) : Int)) = if gotB f j then 0 else (itm (preL (r' j)) : Int) := by
    by_cases g : gotB f j
    · rw [if_pos g, if_pos (gg.mpr g)]
    · rw [if_neg g, if_neg (fun z => g (gg.mp z))]
  have second : (if f' 8 = (j : Int) + 1 ∨ (f' 9 = 1 ∧ f' 25 = (j : Int) + 1) then ((r' 2).length : Int) else 0) = if f 8 = (j : Int) + 1 ∨ (f 9 = 1 ∧ f 25 = (j : Int) + 1) then ((r' 2).length : Int) else 0 := by
    by_cases g : f 8 = (j : Int) + 1 ∨ (f 9 = 1 ∧ f 25 = (j : Int) + 1)
    · rw [if_pos g, if_pos (rr.mpr g)]
    · rw [if_neg g, if_neg (fun z => g (rr.mp z))]
  unfold vVf
  rw [first, second]
  clear first second gg rr e7 e8 e9 e25
  by_cases q : j = i
  · subst q
    rw [if_pos rfl, ri, prl]
    by_cases c8 : f 8 = (j : Int) + 1
    · have k4 : f 0 = 4 := by omega
      rw [r2a ⟨k4, c8⟩, if_pos (Or.inl c8), if_pos (Or.inl c8), List.length_append]
      have ez := v2 (Or.inr (by omega))
      rw [if_neg (show ¬ gotB f j by intro z; omega), if_neg (show ¬ gotB f j by intro z; omega)]
      show _ + ((_ + 1 : Nat) : Int) + eV ≤ _
      omega
    · rw [r2b (fun z => c8 z.2)]
      generalize (if f 8 = (j : Int) + 1 ∨ (f 9 = 1 ∧ f 25 = (j : Int) + 1) then ((r 2).length : Int) else 0) = z
      by_cases g : gotB f j
      · rw [if_pos g, if_pos g]
        have ez := v2 (by unfold gotB at g; unfold psd; omega)
        omega
      · rw [if_neg g, if_neg g]; omega
  · rw [if_neg q, rj j hj q, Int.add_zero]
    by_cases c8 : f 0 = 4 ∧ f 8 = (i : Int) + 1
    · rw [if_neg (show ¬ (f 8 = (j : Int) + 1 ∨ (f 9 = 1 ∧ f 25 = (j : Int) + 1)) by omega), if_neg (show ¬ (f 8 = (j : Int) + 1 ∨ (f 9 = 1 ∧ f 25 = (j : Int) + 1)) by omega)]
      exact Int.le_refl _
    · rw [r2b c8]; exact Int.le_refl _
theorem inv_item {T M S S' : Int} {σ : sS} {n i : Nat} {v : Int} {l : List Int} (I : Inv T M S σ) (hn : n < sN σ) (hk : sf σ n 0 ≠ 0) (hi : i < nin (sf σ n 0)) (hL : sr σ n i = v :: l) (hv : v ≠ 100) (h7 : sf σ n 7 ≠ (i : Int) + 1) (hS : S + 99 ≤ S') : Inv T M S' (sItem (sTake σ n i) n i v) := by
  obtain ⟨G, A, -⟩ := id I
  obtain ⟨a1, a2, a3, a4, a5, a6⟩ := A n hn
  have n2 := nin_le (sf σ n 0)
  have hi2 : i < 2 := by omega
  have bv : 0 ≤ v ∧ v < 100 := by
    have := a5.1 i hi2 v (by rw [hL]; exact List.mem_cons_self)
    omega
  have k05 := a1.1
  have kc : sf σ n 0 = 1 ∨ sf σ n 0 = 2 ∨ sf σ n 0 = 3 ∨ sf σ n 0 = 4 ∨ sf σ n 0 = 5 := by omega
  have b := a2
  unfold nBs nB at b
  obtain ⟨w6, hw6⟩ : ∃ w, w = (if sf σ n 0 = 4 then 1 - (i : Int) else 0) := ⟨_, rfl⟩
  have w6b : (w6 = 0 ∨ w6 = 1) ∧ (sf σ n 0 ≠ 4 → w6 = 0) := by
    rw [hw6]
    by_cases q : sf σ n 0 = 4
    · rw [if_pos q]; omega
    · rw [if_neg q]; omega
  have ef : sf (sTake σ n i) n = ud (sf σ n) 6 w6 := by rw [hw6]; exact take_f σ n i
  have er : sr (sTake σ n i) n = ud (sr σ n) i l := by rw [take_r, hL]; rfl
  have f1 : ∀ k, k ≠ 6 → ud (sf σ n) 6 w6 k = sf σ n k := fun k h => ud_ne h
  have F : ∀ k, (k < 10 ∨ 14 ≤ k) → k ≠ 6 → nIf (ud (sf σ n) 6 w6) v k = sf σ n k := fun k h h6 => (nIf_ne h).trans (f1 k h6)
  have F6 : nIf (ud (sf σ n) 6 w6) v 6 = w6 := (nIf_ne (by omega)).trans ud_eq
  have f10 : ud (sf σ n) 6 w6 0 = sf σ n 0 := f1 0 (by decide)
  have f18 : ud (sf σ n) 6 w6 8 = sf σ n 8 := f1 8 (by decide)
  -- what is sent
  obtain ⟨out, hout⟩ : ∃ o, o = nIv (ud (sf σ n) 6 w6) v := ⟨_, rfl⟩
  have ho : out = -1 ∨ (0 ≤ out ∧ out < 100) := by
    rw [hout]
    unfold nIv
    have m1 := Int.emod_nonneg (v + ud (sf σ n) 6 w6 3) (show (100 : Int) ≠ 0 by decide)
    have m2 := Int.emod_lt_of_pos (v + ud (sf σ n) 6 w6 3) (show (0 : Int) < 100 by decide)
    have m3 := Int.emod_nonneg (ud (sf σ n) 6 w6 (10 + (v % 4).toNat) + v) (show (100 : Int) ≠ 0 by decide)
    have m4 := Int.emod_lt_of_pos (ud (sf σ n) 6 w6 (10 + (v % 4).toNat) + v) (show (0 : Int) < 100 by decide)
    split
    · exact Or.inr ⟨m1, m2⟩
    · split
      · split
        · exact Or.inl rfl
        · exact Or.inr bv
      · split
        · exact Or.inr ⟨m3, m4⟩
        · split
          · exact Or.inr bv
          · exact Or.inl rfl
  have ho5 : sf σ n 0 = 5 → out = -1 := fun q => by
    rw [hout]; unfold nIv
    rw [f10, if_neg (by omega), if_neg (by omega), if_neg (by omega), if_neg (by omega)]
  have ho4 : sf σ n 0 = 4 → out = v := fun q => by
    rw [hout]; unfold nIv
    rw [f10, if_neg (by omega), if_neg (by omega), if_neg (by omega), if_pos q]
  -- the rows
  have R4 : sf σ n 0 = 4 → ∀ k, nIr (ud (sf σ n) 6 w6) (ud (sr σ n) i l) i v k = if sf σ n 8 = (i : Int) + 1 ∧ k = 2 then sr σ n 2 ++ [v] else ud (sr σ n) i l k := fun q k => by
    unfold nIr
    rw [f10, f18]
    by_cases c : sf σ n 8 = (i : Int) + 1 ∧ k = 2
    · rw [if_pos c, if_pos ⟨q, c⟩, ud_ne (by omega)]
    · rw [if_neg c, if_neg (fun z => c z.2), if_neg (fun z => by omega)]
  have R5 : sf σ n 0 = 5 → ∀ k, nIr (ud (sf σ n) 6 w6) (ud (sr σ n) i l) i v k = if k = 4 then sr σ n 4 ++ [v] else ud (sr σ n) i l k := fun q k => by
    unfold nIr
    rw [f10, if_neg (fun z => by omega)]
    by_cases c : k = 4
    · rw [if_pos c, if_pos ⟨q, c⟩, ud_ne (by omega)]
    · rw [if_neg c, if_neg (fun z => c z.2)]
  have R0 : sf σ n 0 ≠ 4 → sf σ n 0 ≠ 5 → nIr (ud (sf σ n) 6 w6) (ud (sr σ n) i l) i v = ud (sr σ n) i l := fun q q' => funext fun k => by
    unfold nIr
    rw [f10, if_neg (fun z => q z.1), if_neg (fun z => q' z.1)]
  have Rc : ∀ k, k < 2 → nIr (ud (sf σ n) 6 w6) (ud (sr σ n) i l) i v k = ud (sr σ n) i l k := fun k hk' => by
    unfold nIr
    rw [if_neg (fun z => by omega), if_neg (fun z => by omega)]
  have R3 : nIr (ud (sf σ n) 6 w6) (ud (sr σ n) i l) i v 3 = sr σ n 3 := by
    unfold nIr
    rw [if_neg (fun z => by omega), if_neg (fun z => by omega), ud_ne (by omega)]
  have itl : itm (sr σ n i) = itm l + 1 := by rw [hL, itm_cons, if_neg hv]
  have bal : bar (sr σ n i) = bar l := by rw [hL, bar_cons, if_neg hv, Nat.add_zero]
  have prl : itm (preL (sr σ n i)) = itm (preL l) + 1 := by rw [hL, pre_cons, if_neg hv, itm_cons, if_neg hv]
  have hps : psd (nIf (ud (sf σ n) 6 w6) v) ↔ psd (sf σ n) := by
    unfold psd
    rw [F 9 (by omega) (by omega), F 8 (by omega) (by omega)]
  have hgo : ∀ j, gotB (nIf (ud (sf σ n) 6 w6) v) j ↔ gotB (sf σ n) j := fun j => by
    unfold gotB
    rw [F 9 (by omega) (by omega), F 8 (by omega) (by omega), F 7 (by omega) (by omega)]
  have FS : ∀ k, k < 4 → (sf σ n 0 ≠ 3 → nIf (ud (sf σ n) 6 w6) v (10 + k) = sf σ n (10 + k)) ∧ (nIf (ud (sf σ n) 6 w6) v (10 + k) = sf σ n (10 + k) ∨ nIf (ud (sf σ n) 6 w6) v (10 + k) = sf σ n (10 + k) + v) := by
    intro k hk'
    unfold nIf
    rw [f10, f1 (10 + k) (by omega)]
    by_cases c : sf σ n 0 = 3 ∧ 10 + k = 10 + (v % 4).toNat
    · rw [if_pos c]; exact ⟨fun z => absurd c.1 z, Or.inr rfl⟩
    · rw [if_neg c]; exact ⟨fun _ => rfl, Or.inl rfl⟩
  have H1 : ∀ t k, sf (sItem (sTake σ n i) n i v) t k = if t = n then nIf (ud (sf σ n) 6 w6) v k else sf σ t k := by
    intro t k
    rw [itm_f, ef]
    by_cases q : t = n
    · rw [if_pos q, if_pos q]
    · rw [if_neg q, if_neg q, take_fo q]
  have H2 : ∀ t k, sr (sItem (sTake σ n i) n i v) t k = if t = n then nIr (ud (sf σ n) 6 w6) (ud (sr σ n) i l) i v k else rcv σ n t out k := by
    intro t k
    rw [itm_r _ _ _ _ _ _ bv.1 (by rw [ef, f10]; exact kc), ef, er, ← hout, fed_take]
    by_cases q : t = n
    · rw [if_pos q, if_pos q]
    · rw [if_neg q, if_neg q, take_ro q]
      rfl
  have H3 : ∀ k, sg (sItem (sTake σ n i) n i v) k = sg σ k := fun k => itm_g _ n i k v
  clear ef er
  generalize hF' : nIf (ud (sf σ n) 6 w6) v = f' at *
  generalize hR' : nIr (ud (sf σ n) 6 w6) (ud (sr σ n) i l) i v = r' at *
  clear hF' hR' hout f18 f10 f1
  have F0 := F 0 (by omega) (by omega)
  have F7 := F 7 (by omega) (by omega)
  have F8 := F 8 (by omega) (by omega)
  have F9 := F 9 (by omega) (by omega)
  have F25 := F 25 (by omega) (by omega)
  have rl : ud (sr σ n) i l i = l := ud_eq
  have rj : ∀ j, j ≠ i → ud (sr σ n) i l j = sr σ n j := fun j h => ud_ne h
  have r2e : (sf σ n 0 = 4 ∧ sf σ n 8 = (i : Int) + 1 → r' 2 = sr σ n 2 ++ [v]) ∧ (¬ (sf σ n 0 = 4 ∧ sf σ n 8 = (i : Int) + 1) → r' 2 = sr σ n 2) := by
    refine ⟨fun q => by rw [R4 q.1, if_pos ⟨q.2, rfl⟩], fun q => ?_⟩
    by_cases q4 : sf σ n 0 = 4
    · rw [R4 q4, if_neg (fun z => q ⟨q4, z.1⟩), rj 2 (by omega)]
    · by_cases q5 : sf σ n 0 = 5
      · rw [R5 q5, if_neg (by decide), rj 2 (by omega)]
      · rw [R0 q4 q5, rj 2 (by omega)]
  have r4e : (sf σ n 0 = 5 → r' 4 = sr σ n 4 ++ [v]) ∧ (sf σ n 0 ≠ 5 → r' 4 = sr σ n 4) := by
    refine ⟨fun q => by rw [R5 q, if_pos rfl], fun q => ?_⟩
    by_cases q4 : sf σ n 0 = 4
    · rw [R4 q4, if_neg (fun z => by omega), rj 4 (by omega)]
    · rw [R0 q4 q, rj 4 (by omega)]
  have r56 : ∀ k, k = 5 ∨ k = 6 → r' k = sr σ n k := by
    intro k hk'
    by_cases q4 : sf σ n 0 = 4
    · rw [R4 q4, if_neg (fun z => by omega), rj k (by omega)]
    · by_cases q5 : sf σ n 0 = 5
      · rw [R5 q5, if_neg (by omega), rj k (by omega)]
      · rw [R0 q4 q5, rj k (by omega)]
  clear R4 R5 R0
  have rec59 : sf σ n 0 = 4 ∧ sf σ n 8 = (i : Int) + 1 → (sr σ n 2).length + 1 ≤ 60 := by
    intro q
    have h4 : sg σ 4 = 1 := by omega
    have c := I.recs hn h4 hi
    rw [if_pos q.1] at c
    unfold vVf at c
    rw [if_neg (show ¬ gotB (sf σ n) i by intro z; omega), if_pos (Or.inl q.2), prl] at c
    omega
  have eb : ∀ o : Int, (0 : Int) ≤ (if 0 ≤ o ∧ o < 100 then 1 else 0) ∧ (if 0 ≤ o ∧ o < 100 then (1 : Int) else 0) ≤ 1 := by intro o; split <;> omega
  refine I.act (n := n) (f' := f') (r' := r') (out := out) (e := if 0 ≤ out ∧ out < 100 then 1 else 0) (eV := if (0 ≤ out ∧ out < 100) ∧ ¬ psd (sf σ n) then 1 else 0) hn H3 H1 H2 rfl rfl (by omega) (by omega) (fun k hk' => F k (by omega) (by omega)) (F 14 (by omega) (by omega)) (F 26 (by omega) (by omega)) (F 27 (by omega) (by omega)) R3 ?_ ?_ ?_ ?_ (fun j hj => ?_) (fun z => absurd z (by omega)) (fun _ => Or.inl hps) (fun z => absurd z hk) ?_ ?_ ?_ ?_
  · unfold nBs
    rw [F0, F 5 (by omega) (by omega), F6, F7, F8, F9]
    clear R3 Rc rec59 r2e r4e r56
    unfold nB; omega
  · unfold nPs
    rw [F0, F 4 (by omega) (by omega), F 14 (by omega) (by omega), F 19 (by omega) (by omega), F 24 (by omega) (by omega), F25, F 26 (by omega) (by omega), F 27 (by omega) (by omega)]
    exact a3
  · intro k hk'
    obtain ⟨s1, s2⟩ := FS k hk'
    obtain ⟨t1, t2, t3, t4⟩ := a4 k hk'
    rw [F (15 + k) (by omega) (by omega), F (20 + k) (by omega) (by omega), F0]
    refine ⟨by omega, by omega, by omega, fun q => ?_⟩
    rw [s1 q]
    exact t4 q
  · rw [F0]
    obtain ⟨b1, b2, b3, b4, b5, b6, b7, b8⟩ := a5
    refine ⟨fun j hj x hx => ?_, fun x hx => ?_, by rw [R3]; exact b3, ?_, by rw [r56 6 (by omega)]; exact b5, fun q => ?_, fun q => ?_, fun q => absurd q hk⟩
    · rw [Rc j hj] at hx
      by_cases q : j = i
      · rw [q, rl] at hx
        exact b1 i hi2 x (by rw [hL]; exact List.mem_cons_of_mem _ hx)
      · rw [rj j q] at hx
        exact b1 j hj x hx
    · by_cases q : sf σ n 0 = 4 ∧ sf σ n 8 = (i : Int) + 1
      · rw [r2e.1 q] at hx
        rcases List.mem_append.mp hx with z | z
        · exact b2 x z
        · rw [List.mem_singleton.mp z]; exact bv
      · rw [r2e.2 q] at hx; exact b2 x hx
    · by_cases q : sf σ n 0 = 4 ∧ sf σ n 8 = (i : Int) + 1
      · rw [r2e.1 q, List.length_append]; exact rec59 q
      · rw [r2e.2 q]; exact b4
    · rw [r4e.2 q, r56 5 (by omega)]; exact b6 q
    · rw [Rc 1 (by omega), rj 1 (by rw [nin_1 hk q] at hi; omega)]; exact b7 q
  · have n3 : j < 2 := by omega
    obtain ⟨s1, s2⟩ := a6 j hj
    have bj : bar (r' j) = bar (sr σ n j) := by
      rw [Rc j n3]
      by_cases q : j = i
      · rw [q, rl, bal]
      · rw [rj j q]
    rw [bj, s1]
    refine ⟨?_, fun z => s2 ((hgo j).mp z)⟩
    by_cases z : psd (sf σ (fdS σ n j)) ∧ ¬ gotB (sf σ n) j
    · rw [if_pos z, if_pos ⟨z.1, fun y => z.2 ((hgo j).mp y)⟩]
    · rw [if_neg z, if_neg (fun y => z ⟨y.1, fun w => y.2 ((hgo j).mpr w)⟩)]
  · intro q0 q4
    have i0 : i = 0 := by rw [nin_1 q0 q4] at hi; omega
    subst i0
    have e1 := eb out
    unfold vCf
    rw [F0, Rc 0 (by omega), rl, itl]
    by_cases q5 : sf σ n 0 = 5
    · rw [if_pos q5, if_pos q5, r4e.1 q5, r56 5 (by omega), List.length_append, ho5 q5]
      show _ + (((_ + 1 : Nat) : Int) + _) + (if (0 : Int) ≤ -1 ∧ (-1 : Int) < 100 then 1 else 0) ≤ _
      rw [if_neg (by omega)]
      omega
    · rw [if_neg q5, if_neg q5]; omega
  · intro q4
    have e1 := eb out
    have ci : i = 0 ∨ i = 1 := by omega
    unfold vCf
    rw [F0, if_neg (show ¬ sf σ n 0 = 5 by omega), Rc 0 (by omega), Rc 1 (by omega)]
    rcases ci with q | q
    · subst q; rw [rl, rj 1 (by omega), itl]; omega
    · subst q; rw [rl, rj 0 (by omega), itl]; omega
  · intro j hj
    have n3 : j < 2 := by omega
    unfold vCf
    rw [F0, Rc j n3]
    have x5 : (if sf σ n 0 = 5 then ((r' 4).length : Int) + ((r' 5).length : Int) else 0) ≤ (if sf σ n 0 = 5 then ((sr σ n 4).length : Int) + ((sr σ n 5).length : Int) else 0) + 1 ∧ (sf σ n 0 ≠ 5 → (if sf σ n 0 = 5 then ((r' 4).length : Int) + ((r' 5).length : Int) else 0) = (if sf σ n 0 = 5 then ((sr σ n 4).length : Int) + ((sr σ n 5).length : Int) else 0)) := by
      by_cases q5 : sf σ n 0 = 5
      · rw [if_pos q5, if_pos q5, r4e.1 q5, r56 5 (by omega), List.length_append]
        exact ⟨by show ((_ + 1 : Nat) : Int) + _ ≤ _; omega, fun z => absurd q5 z⟩
      · rw [if_neg q5, if_neg q5]; exact ⟨by omega, fun _ => rfl⟩
    by_cases q : j = i
    · subst q; rw [rl, itl]; omega
    · rw [rj j q]
      have q5 : sf σ n 0 ≠ 5 := fun z => by rw [nin_1 (by omega) (by omega)] at hi hj; omega
      rw [x5.2 q5]; exact Int.le_refl _
  · intro h4
    have evb : 0 ≤ (if (0 ≤ out ∧ out < 100) ∧ ¬ psd (sf σ n) then (1 : Int) else 0) ∧ (if (0 ≤ out ∧ out < 100) ∧ ¬ psd (sf σ n) then (1 : Int) else 0) ≤ 1 ∧ (psd (sf σ n) → (if (0 ≤ out ∧ out < 100) ∧ ¬ psd (sf σ n) then (1 : Int) else 0) = 0) := by
      by_cases z : (0 ≤ out ∧ out < 100) ∧ ¬ psd (sf σ n)
      · rw [if_pos z]; exact ⟨by decide, by decide, fun y => absurd y z.2⟩
      · rw [if_neg z]; exact ⟨by decide, by decide, fun _ => rfl⟩
    generalize (if (0 ≤ out ∧ out < 100) ∧ ¬ psd (sf σ n) then (1 : Int) else 0) = eV at *
    have X : ∀ j, j < 2 → vVf f' r' j + (if j = i then eV else 0) ≤ vVf (sf σ n) (sr σ n) j := fun j hj => item_vV hi2 hj hL hv h7 F7 F8 F9 F25 a2 ((Rc i hi2).trans rl) (fun j hj' q => (Rc j hj').trans (rj j q)) r2e.1 r2e.2 evb
    clear eb rec59 r2e r4e r56 R3 Rc FS H1 H2 H3 F hps hgo ho ho4 ho5 a5 a6 a4 a3 a2 a1 A G
    refine ⟨fun z => absurd z hk, fun q0 q4 => ?_, fun q4 => ?_, fun j hj => ?_⟩
    · have i0 : i = 0 := by rw [nin_1 q0 q4] at hi; omega
      have := X 0 (by omega)
      rw [if_pos i0.symm] at this
      exact this
    · have x0 := X 0 (by omega)
      have x1 := X 1 (by omega)
      have ci : i = 0 ∨ i = 1 := by omega
      rcases ci with q | q
      · subst q
        rw [if_pos rfl] at x0
        rw [if_neg (by decide)] at x1
        omega
      · subst q
        rw [if_neg (by decide)] at x0
        rw [if_pos rfl] at x1
        omega
    · have x := X j (by omega)
      by_cases q : j = i
      · rw [if_pos q] at x; omega
      · rw [if_neg q] at x; omega
