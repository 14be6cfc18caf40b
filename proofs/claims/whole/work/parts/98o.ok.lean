/-! what always holds gives what the calls need -/
/-- before the first step no node has met the barrier -/
def I0 (σ : sS) : Prop := sg σ 1 = 0 → ∀ n, n < sN σ → sf σ n 7 = 0 ∧ sf σ n 8 = 0 ∧ sf σ n 9 = 0
def InvZ (T M : Int) (σ : sS) : Prop := Inv T M (792 * T) σ ∧ I0 σ
theorem InvZ.wk {T M T' M' : Int} {σ : sS} (I : InvZ T M σ) (hT : T ≤ T') (hM : M ≤ M') : InvZ T' M' σ := ⟨I.1.wk hT hM (by omega), I.2⟩
theorem invz_new {T M : Int} (hT : 0 ≤ T) (hM : 0 ≤ M) : InvZ T M sNew := by
  refine ⟨⟨⟨by decide, ⟨by decide, hT⟩, by decide, by decide, Or.inl rfl, Or.inr rfl, by show (0 : Int) + 0 ≤ M; omega, ⟨by decide, hM⟩, by decide⟩, fun n hn => absurd hn (Nat.not_lt_zero n), ⟨fun n hn => absurd hn (Nat.not_lt_zero n), fun _ n hn => absurd hn (Nat.not_lt_zero n), fun n hn => absurd hn (Nat.not_lt_zero n)⟩, rfl, by decide, fun n _ => ⟨fun _ => rfl, fun _ => rfl⟩⟩, fun _ n hn => absurd hn (Nat.not_lt_zero n)⟩
theorem Inv.okS {T M S : Int} {σ : sS} (I : Inv T M S σ) (hS : S ≤ 1000000000) (hT : T ≤ 999999999) (hM : M ≤ 1000000) : okS σ := by
  obtain ⟨⟨g0, g1, g2, g3, g4, g5, g34, g7, g8⟩, A, -⟩ := id I
  refine ⟨g0, by omega, g4, by omega, by omega, fun n hn => ?_⟩
  obtain ⟨a1, a2, a3, a4, a5, a6⟩ := A n hn
  have p := a3
  unfold nPs nP at p
  have r45 : (sr σ n 4).length + (sr σ n 5).length ≤ 120 := by
    by_cases q : sf σ n 0 = 5
    · have := I.snk hn q; omega
    · rw [(a5.2.2.2.2.2.1 q).1, (a5.2.2.2.2.2.1 q).2]; decide
  have r2 := a5.2.2.2.1
  refine ⟨I.okN hS hn, ⟨by omega, by omega, by omega⟩, a5.2.2.2.2.1, by omega, by omega⟩
theorem Inv.okC {T M S : Int} {σ : sS} (I : Inv T M S σ) (hS : S ≤ 1000000000) {n : Nat} (hn : n < sN σ) : okC σ n := by
  obtain ⟨G, A, -⟩ := id I
  obtain ⟨a1, a2, a3, a4, a5, a6⟩ := A n hn
  have b := a2
  unfold nBs nB at b
  have p := a3
  unfold nPs nP at p
  refine ⟨I.okN hS hn, b.2.2.1, fun q => ?_, fun i hi q4 q8 hl hv => ?_, fun q => I.snk hn q, fun q t i => ?_, G.2.2.2.2.2.1, by omega, fun q => (p.2.2.2.2.2.2.2 (by omega)).1⟩
  · have s0 := (a4 0 (by decide)).2.2.2 q
    have s1 := (a4 1 (by decide)).2.2.2 q
    have s2 := (a4 2 (by decide)).2.2.2 q
    have s3 := (a4 3 (by decide)).2.2.2 q
    unfold oth
    rw [if_pos (s0.1.trans s0.2.1.symm), if_pos (s1.1.trans s1.2.1.symm), if_pos (s2.1.trans s2.2.1.symm), if_pos (s3.1.trans s3.2.1.symm)]
    rfl
  · have h4 : sg σ 4 = 1 := by omega
    have c := I.recs hn h4 (show i < nin (sf σ n 0) by rw [nin_4 q4]; exact hi)
    rw [if_pos q4] at c
    unfold vVf at c
    have ng : ¬ gotB (sf σ n) i := by unfold gotB; omega
    rw [if_neg ng, if_pos (Or.inl q8)] at c
    have : 1 ≤ itm (preL (sr σ n i)) := by
      cases e : sr σ n i with
      | nil => rw [e] at hl; exact absurd rfl hl
      | cons v l =>
        rw [e] at hv
        have hv' : v ≠ 100 := hv
        rw [pre_cons, if_neg hv', itm_cons, if_neg hv']
        omega
    omega
  · refine Bool.eq_false_iff.mpr (fun z => ?_)
    have fl := fed_lt z
    have ks := (A t fl.2.1).1
    have e := (fed_iff fl.2.1 fl.2.2.1 ks).mp z
    have k5 := (ks.2.2.2.2 i fl.2.2.1).2.2
    rw [e] at k5
    exact k5 q
theorem Inv.okT {T M S : Int} {σ : sS} (I : Inv T M S σ) (hS : S + 792 ≤ 1000000000) (hT : T ≤ 999999999) (hM : M ≤ 1000000) : okT σ ∧ okD σ := by
  have h8 : sN σ ≤ 8 := by have := I.1.1; unfold sN; omega
  have J := inv_acts I hS
  have JN := J (sN σ) (Nat.le_refl _)
  refine ⟨⟨fun k hk => (J k hk).okS (by omega) hT hM, fun n hn h8' => ?_⟩, fun k hk => (J k (by omega)).okC (by omega) (by rw [sN_acts]; exact hk), fun n hn => ?_, fun n hn h9 => ?_⟩
  · obtain ⟨f, r⟩ := JN.2.2.2.2.2 n (by rw [sN_acts]; exact hn)
    rw [f 24, r 5, r 6]
    decide
  · have b := (JN.2.1 n (by rw [sN_acts]; exact hn)).2.1
    unfold nBs nB at b
    omega
  · have b := (JN.2.1 n (by rw [sN_acts]; exact hn)).2.1
    unfold nBs nB at b
    omega
theorem InvZ.okY {T M : Int} {σ : sS} (I : InvZ T M σ) (hT0 : 0 ≤ T) (hT : 792 * (T + 61) ≤ 1000000000) (hM : M ≤ 1000000) : okY σ := by
  have st : ∀ j, j < 60 → okT (sSteps j σ) ∧ okD (sSteps j σ) := fun j hj => (inv_steps I.1 j (by omega)).okT (by omega) (by omega) hM
  obtain ⟨⟨g0, g1, g2, g3, g4, g5, g34, g7, g8⟩, A, -, g6, gJ, fr⟩ := id I.1
  refine ⟨⟨g0, by omega, g4, by omega, fun n hn => ?_, fun n hn => ?_, fun j hj => (st j hj).1⟩, fun j hj => (st j hj).2, g5, fun n hn => ?_, g6, gJ, fr⟩
  · have p := (A n hn).2.2.1
    unfold nPs nP at p
    omega
  · have b := (A n hn).2.1
    unfold nBs nB at b
    omega
  · have b := (A n hn).2.1
    unfold nBs nB at b
    have p := (A n hn).2.2.1
    unfold nPs nP at p
    omega
theorem invz_steps {T M : Int} {σ : sS} (I : InvZ T M σ) (k : Nat) (hT : 792 * (T + (k : Int)) ≤ 1000000000) : InvZ (T + (k : Int)) M (sSteps k σ) := by
  have J := inv_steps I.1 k (by omega)
  refine ⟨J.wk (Int.le_refl _) (Int.le_refl _) (by omega), fun z => ?_⟩
  cases k with
  | zero => exact I.2 z
  | succ k =>
    have e : sg (sSteps (k + 1) σ) 1 = sg (sSteps k σ) 1 + 1 := rfl
    have := (inv_steps I.1 k (by omega)).1.2.1
    omega
theorem invz_marks {T M : Int} {σ : sS} (I : InvZ T M σ) (h4 : sg σ 4 ≠ 1) : InvZ T (M + 1) (sMarks σ) := by
  refine ⟨inv_marks I.1 h4, fun z n hn => ?_⟩
  have hn : n < sN σ := hn
  have z : sg σ 1 = 0 := z
  have := I.2 z n hn
  refine ⟨?_, ?_, ?_⟩
  · show (if n < sN σ then sf σ n 7 else sf σ n 7) = 0
    rw [ite_self]; exact this.1
  · show (if n < sN σ then sf σ n 8 else sf σ n 8) = 0
    rw [ite_self]; exact this.2.1
  · show (if n < sN σ then 0 else sf σ n 9) = 0
    rw [if_pos hn]
theorem invz_fails {T M : Int} {σ : sS} (I : InvZ T M σ) : InvZ T (M + 1) (sFails σ) := by
  refine ⟨inv_fails I.1, fun z n hn => ?_⟩
  have hn : n < sN σ := hn
  refine ⟨?_, ?_, ?_⟩
  · show (if n < sN σ then 0 else sf σ n 7) = 0
    rw [if_pos hn]
  · show (if n < sN σ then 0 else sf σ n 8) = 0
    rw [if_pos hn]
  · show (if n < sN σ then 0 else sf σ n 9) = 0
    rw [if_pos hn]
theorem invz_node {T M : Int} {σ : sS} {kind a b k : Int} (I : InvZ T M σ) (hT : 0 ≤ T) (hw : whyN σ kind a b k = 0) : InvZ T M (sNode σ kind a b k) := by
  have z0 := I.2 (whyN_0 hw).2.1
  refine ⟨inv_node I.1 (by omega) z0 hw, fun _ n hn => ?_⟩
  obtain ⟨⟨g0, -⟩, A, -, -, -, fr⟩ := id I.1
  have eN : sN (sNode σ kind a b k) = sN σ + 1 := by
    show (sg σ 0 + 1).toNat = (sg σ 0).toNat + 1
    omega
  rw [eN] at hn
  have ef : ∀ j, 4 ≤ j → sf (sNode σ kind a b k) n j = sf σ n j := by
    intro j hj
    unfold sNode
    rw [sf_ug, sf_uf, if_neg (by omega), sf_uf, if_neg (by omega), sf_uf, if_neg (by omega), sf_uf, if_neg (by omega)]
  rw [ef 7 (by decide), ef 8 (by decide), ef 9 (by decide)]
  by_cases q : n = sN σ
  · have := (fr n (by omega)).1
    exact ⟨this 7, this 8, this 9⟩
  · exact z0 n (by omega)
theorem invz_len {T M : Int} {σ : sS} {v : Int} (I : InvZ T M σ) (hv : 0 ≤ v ∧ v ≤ 30) : InvZ T M (ug σ 2 v) := ⟨I.1.len hv, I.2⟩
theorem invz_ali {T M : Int} {σ : sS} {v : Int} (I : InvZ T M σ) (hv : v = 0 ∨ v = 1) (h4 : sg σ 4 ≠ 1) : InvZ T M (ug σ 5 v) := ⟨I.1.ali hv h4, I.2⟩
