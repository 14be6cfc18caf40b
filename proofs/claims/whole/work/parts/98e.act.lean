/-! an act keeps what always holds -/
theorem wf0 {σ : sS} (hK : ∀ n, n < sN σ → nK σ n) : (∀ u, u < sN σ → KS σ u ≠ 0 → fdS σ u 0 < u) ∧ ∀ u, u < sN σ → KS σ u = 4 → fdS σ u 1 < u := by
  constructor
  · intro u hu h
    have h : sf σ u 0 ≠ 0 := h
    have k := (hK u hu).2.2.2.2 0 (by unfold nin; rw [if_neg h]; split <;> omega)
    rw [fdS_eq (by omega)]
    omega
  · intro u hu h
    have h : sf σ u 0 = 4 := h
    have k := (hK u hu).2.2.2.2 1 (by rw [nin_4 h]; omega)
    rw [fdS_eq (by omega)]
    omega
theorem fd_lt {σ : sS} (hK : ∀ n, n < sN σ → nK σ n) {n i : Nat} (hn : n < sN σ) (hi : i < nin (sf σ n 0)) : fdS σ n i < n := by
  have k := (hK n hn).2.2.2.2 i hi
  have n2 := nin_le (sf σ n 0)
  rw [fdS_eq (by omega)]
  omega
theorem cnt_mono {σ ρ : sS} {bs bs' e : Nat → Int} {v v' : Nat → Nat → Int} (C : cnt σ bs v) (hN : sN ρ = sN σ) (h8 : sN σ ≤ 8) (hk : KS ρ = KS σ) (hd : fdS ρ = fdS σ) (hK : ∀ n, n < sN σ → nK σ n) (hS : ∀ u, u < sN σ → sf σ u 0 = 0 → bs' u + e u ≤ bs u) (hO : ∀ u, u < sN σ → sf σ u 0 ≠ 0 → sf σ u 0 ≠ 4 → v' u 0 + e u ≤ v u 0 + e (fdS σ u 0)) (hJ : ∀ u, u < sN σ → sf σ u 0 = 4 → v' u 0 + v' u 1 + e u ≤ v u 0 + v u 1 + e (fdS σ u 0) + e (fdS σ u 1)) (hA : ∀ u, u < sN σ → ∀ i, i < nin (sf σ u 0) → v' u i ≤ v u i + e (fdS σ u i)) : cnt ρ bs' v' := by
  intro n hn i hi
  rw [hN] at hn
  rw [show sf ρ n 0 = sf σ n 0 from congrFun hk n] at hi
  have c := C n hn i hi
  have l := fd_lt hK hn hi
  obtain ⟨w0, w1⟩ := wf0 hK
  have m := pt_mono (N := sN σ) w0 w1 hS hO hJ 8 (fdS σ n i) (by omega) (by omega)
  have a := hA n hn i hi
  rw [hk, hd]
  omega
theorem act_cnt {σ ρ : sS} {n : Nat} {e : Int} {bs bs' : Nat → Int} {v v' : Nat → Nat → Int} (C : cnt σ bs v) (hN : sN ρ = sN σ) (h8 : sN σ ≤ 8) (hk : KS ρ = KS σ) (hd : fdS ρ = fdS σ) (hK : ∀ n, n < sN σ → nK σ n) (bo : ∀ u, u < sN σ → u ≠ n → bs' u = bs u) (bn : sf σ n 0 = 0 → bs' n + e ≤ bs n) (vo : ∀ u, u < sN σ → u ≠ n → ∀ i, i < nin (sf σ u 0) → v' u i ≤ v u i + (if fdS σ u i = n then e else 0)) (v1 : sf σ n 0 ≠ 0 → sf σ n 0 ≠ 4 → v' n 0 + e ≤ v n 0) (v2 : sf σ n 0 = 4 → v' n 0 + v' n 1 + e ≤ v n 0 + v n 1) (v3 : ∀ i, i < nin (sf σ n 0) → v' n i ≤ v n i) : cnt ρ bs' v' := by
  have nn : ∀ u, u < sN σ → ∀ i, i < nin (sf σ u 0) → u = n → fdS σ u i ≠ n := fun u hu i hi q => by have := fd_lt hK hu hi; omega
  refine cnt_mono (e := fun u => if u = n then e else 0) C hN h8 hk hd hK (fun u hu k0 => ?_) (fun u hu k0 k4 => ?_) (fun u hu k4 => ?_) (fun u hu i hi => ?_)
  · by_cases q : u = n
    · subst q
      rw [if_pos rfl]; exact bn k0
    · rw [if_neg q, bo u hu q, Int.add_zero]; exact Int.le_refl _
  · have hi : 0 < nin (sf σ u 0) := by rw [nin_1 k0 k4]; omega
    by_cases q : u = n
    · subst q
      rw [if_pos rfl, if_neg (nn u hu 0 hi rfl), Int.add_zero]
      exact v1 k0 k4
    · rw [if_neg q, Int.add_zero]
      exact vo u hu q 0 hi
  · have hi0 : 0 < nin (sf σ u 0) := by rw [nin_4 k4]; omega
    have hi1 : 1 < nin (sf σ u 0) := by rw [nin_4 k4]; omega
    by_cases q : u = n
    · subst q
      rw [if_pos rfl, if_neg (nn u hu 0 hi0 rfl), if_neg (nn u hu 1 hi1 rfl), Int.add_zero, Int.add_zero]
      exact v2 k4
    · rw [if_neg q, Int.add_zero]
      have x0 := vo u hu q 0 hi0
      have x1 := vo u hu q 1 hi1
      generalize (if fdS σ u 0 = n then e else 0) = y0 at *
      generalize (if fdS σ u 1 = n then e else 0) = y1 at *
      clear v1 v2 v3 vo bo bn C nn
      omega
  · by_cases q : u = n
    · subst q
      rw [if_neg (nn u hu i hi rfl), Int.add_zero]
      exact v3 i hi
    · exact vo u hu q i hi
theorem out_b {out : Int} (ho : out = -1 ∨ out = 100 ∨ (0 ≤ out ∧ out < 100)) (h : out ≠ -1) : 0 ≤ out ∧ out ≤ 100 := by omega
/-- what a receiver's row becomes -/
def rcv (σ : sS) (n t : Nat) (out : Int) (k : Nat) : List Int := if out ≠ -1 ∧ fed σ n t k = true then sr σ t k ++ [out] else sr σ t k
theorem rcv_hi {σ : sS} {n t k : Nat} {out : Int} (hk : 2 ≤ k) : rcv σ n t out k = sr σ t k := if_neg (fun z => by rw [fed_hi hk] at z; exact absurd z.2 (by decide))
theorem rcv_no {σ : sS} {n t k : Nat} {out : Int} (h : fed σ n t k = false) : rcv σ n t out k = sr σ t k := if_neg (fun z => by rw [h] at z; exact absurd z.2 (by decide))
theorem rcv_m {σ : sS} {n t k : Nat} {out : Int} (h : out = -1) : rcv σ n t out k = sr σ t k := if_neg (fun z => z.1 h)
theorem rcv_y {σ : sS} {n t k : Nat} {out : Int} (h : out ≠ -1) (h2 : fed σ n t k = true) : rcv σ n t out k = sr σ t k ++ [out] := if_pos ⟨h, h2⟩
theorem rcv_nR {σ : sS} {n t : Nat} {out : Int} (ho : out = -1 ∨ out = 100 ∨ (0 ≤ out ∧ out < 100)) (R : nR (sf σ t 0) (sr σ t)) : nR (sf σ t 0) (rcv σ n t out) := by
  obtain ⟨b1, b2, b3, b4, b5, b6, b7, b8⟩ := R
  refine ⟨fun i hi v hv' => ?_, by rw [rcv_hi (by omega)]; exact b2, by rw [rcv_hi (by omega)]; exact b3, by rw [rcv_hi (by omega)]; exact b4, by rw [rcv_hi (by omega)]; exact b5, by rw [rcv_hi (by omega), rcv_hi (by omega)]; exact b6, fun z => ?_, fun z => ?_⟩
  · unfold rcv at hv'
    split at hv'
    · next c =>
      rcases List.mem_append.mp hv' with w | w
      · exact b1 i hi v w
      · rw [List.mem_singleton] at w
        rw [w]
        exact out_b ho c.1
    · exact b1 i hi v hv'
  · rw [rcv_no]
    · exact b7 z
    · refine decide_eq_false (fun w => ?_)
      have := w.2.2.1
      unfold nin at this
      split at this
      · omega
      · omega
  · rw [rcv_no]
    · exact b8 z
    · refine decide_eq_false (fun w => ?_)
      have := w.2.2.1
      rw [nin_0 z] at this
      omega
theorem rcv_dis {σ : sS} {n t i : Nat} {out : Int} {f' : Nat → Int} (ht : t < sN σ) (hi : i < nin (sf σ t 0)) (K : nK σ t) (hp1 : out = 100 → ¬ psd (sf σ n) ∧ psd f') (hp2 : out ≠ 100 → (psd f' ↔ psd (sf σ n)) ∨ ∀ t i, fed σ n t i = false) (D : dis σ t) : bar (rcv σ n t out i) = (if psd (if fdS σ t i = n then f' else sf σ (fdS σ t i)) ∧ ¬ gotB (sf σ t) i then 1 else 0) ∧ (gotB (sf σ t) i → psd (if fdS σ t i = n then f' else sf σ (fdS σ t i))) := by
  obtain ⟨s1, s2⟩ := D i hi
  have fi := fed_iff (n := n) ht hi K
  by_cases u : fdS σ t i = n
  · have fd1 := fi.mpr u
    rw [if_pos u]
    rw [u] at s1 s2
    by_cases o : out = 100
    · obtain ⟨p1, p2⟩ := hp1 o
      rw [if_neg (fun z => p1 z.1)] at s1
      have ng : ¬ gotB (sf σ t) i := fun z => p1 (s2 z)
      rw [rcv_y (by rw [o]; decide) fd1, bar_app, s1, if_pos o, if_pos ⟨p2, ng⟩]
      exact ⟨rfl, fun _ => p2⟩
    · have iff : psd f' ↔ psd (sf σ n) := by
        rcases hp2 o with z | z
        · exact z
        · rw [z t i] at fd1; exact absurd fd1 (by decide)
      have eb : bar (rcv σ n t out i) = bar (sr σ t i) := by
        by_cases o1 : out = -1
        · rw [rcv_m o1]
        · rw [rcv_y o1 fd1, bar_app, if_neg o, Nat.add_zero]
      rw [eb, s1]
      refine ⟨?_, fun z => iff.mpr (s2 z)⟩
      by_cases z : psd (sf σ n) ∧ ¬ gotB (sf σ t) i
      · rw [if_pos z, if_pos ⟨iff.mpr z.1, z.2⟩]
      · rw [if_neg z, if_neg (fun y => z ⟨iff.mp y.1, y.2⟩)]
  · have nf : fed σ n t i = false := Bool.eq_false_iff.mpr (fun z => u (fi.mp z))
    rw [if_neg u, rcv_no nf]
    exact ⟨s1, s2⟩
theorem rcv_vC {σ : sS} {n t i : Nat} {out e : Int} (ht : t < sN σ) (hi : i < nin (sf σ t 0)) (K : nK σ t) (ho : out = -1 ∨ out = 100 ∨ (0 ≤ out ∧ out < 100)) (he : e = if 0 ≤ out ∧ out < 100 then 1 else 0) : vCf (sf σ t) (rcv σ n t out) i ≤ vCf (sf σ t) (sr σ t) i + (if fdS σ t i = n then e else 0) := by
  have fi := fed_iff (n := n) ht hi K
  unfold vCf
  rw [rcv_hi (k := 4) (by omega), rcv_hi (k := 5) (by omega)]
  generalize (if sf σ t 0 = 5 then ((sr σ t 4).length : Int) + ((sr σ t 5).length : Int) else 0) = z
  by_cases w : fdS σ t i = n
  · rw [if_pos w]
    by_cases o1 : out = -1
    · rw [rcv_m o1, he, if_neg (by omega)]; omega
    · rw [rcv_y o1 (fi.mpr w), itm_app, he]
      by_cases o2 : out = 100
      · rw [if_pos o2, if_neg (by omega)]; omega
      · rw [if_neg o2, if_pos (by omega)]; omega
  · rw [if_neg w, rcv_no (Bool.eq_false_iff.mpr (fun z => w (fi.mp z)))]; omega
theorem rcv_vV {σ : sS} {n t i : Nat} {out eV : Int} (ht : t < sN σ) (hi : i < nin (sf σ t 0)) (K : nK σ t) (D : dis σ t) (hp1 : out = 100 → ¬ psd (sf σ n)) (ho : out = -1 ∨ out = 100 ∨ (0 ≤ out ∧ out < 100)) (he : eV = if (0 ≤ out ∧ out < 100) ∧ ¬ psd (sf σ n) then 1 else 0) : vVf (sf σ t) (rcv σ n t out) i ≤ vVf (sf σ t) (sr σ t) i + (if fdS σ t i = n then eV else 0) := by
  have fi := fed_iff (n := n) ht hi K
  obtain ⟨s1, s2⟩ := D i hi
  have e0 : 0 ≤ eV := by rw [he]; split <;> omega
  unfold vVf
  rw [rcv_hi (k := 2) (by omega)]
  generalize (if sf σ t 8 = (i : Int) + 1 ∨ (sf σ t 9 = 1 ∧ sf σ t 25 = (i : Int) + 1) then ((sr σ t 2).length : Int) else 0) = z
  by_cases w : fdS σ t i = n
  · rw [if_pos w]
    rw [w] at s1 s2
    by_cases g : gotB (sf σ t) i
    · rw [if_pos g, if_pos g]; omega
    · rw [if_neg g, if_neg g]
      by_cases o1 : out = -1
      · rw [rcv_m o1]; omega
      · rw [rcv_y o1 (fi.mpr w)]
        by_cases p : psd (sf σ n)
        · rw [if_pos ⟨p, g⟩] at s1
          rw [pre_1 (by omega)]; omega
        · rw [if_neg (fun z => p z.1)] at s1
          by_cases o2 : out = 100
          · rw [o2, pre_b s1, pre_0 s1]; omega
          · have b2 : bar (sr σ t i ++ [out]) = 0 := by rw [bar_app, s1, if_neg o2]
            rw [pre_0 b2, pre_0 s1, itm_app, if_neg o2, he, if_pos ⟨by omega, p⟩]; omega
  · rw [if_neg w, rcv_no (Bool.eq_false_iff.mpr (fun z => w (fi.mp z)))]; omega
theorem nS.wk {S S' : Int} {f : Nat → Int} (h : nS S f) (hS : S ≤ S') : nS S' f := fun k hk => ⟨⟨(h k hk).1.1, Int.le_trans (h k hk).1.2 hS⟩, ⟨(h k hk).2.1.1, Int.le_trans (h k hk).2.1.2 hS⟩, ⟨(h k hk).2.2.1.1, Int.le_trans (h k hk).2.2.1.2 hS⟩, (h k hk).2.2.2⟩
theorem Inv.act {T M S S' : Int} {σ ρ : sS} {n : Nat} {f' : Nat → Int} {r' : Nat → List Int} {out e eV : Int} (I : Inv T M S σ) (hn : n < sN σ) (hg : ∀ k, sg ρ k = sg σ k) (hf : ∀ t k, sf ρ t k = if t = n then f' k else sf σ t k) (hr : ∀ t k, sr ρ t k = if t = n then r' k else rcv σ n t out k) (he : e = if 0 ≤ out ∧ out < 100 then 1 else 0) (hv : eV = if (0 ≤ out ∧ out < 100) ∧ ¬ psd (sf σ n) then 1 else 0) (ho : out = -1 ∨ out = 100 ∨ (0 ≤ out ∧ out < 100)) (hS' : S ≤ S') (f0 : ∀ k, k < 4 → f' k = sf σ n k) (f14 : f' 14 = sf σ n 14) (f26 : f' 26 = sf σ n 26) (f27 : f' 27 = sf σ n 27) (r3 : r' 3 = sr σ n 3) (hB : nBs f' (sg σ 4) (sg σ 5)) (hP : nPs f') (hSs : nS S' f') (hR : nR (f' 0) r') (hD : ∀ i, i < nin (sf σ n 0) → bar (r' i) = (if psd (sf σ (fdS σ n i)) ∧ ¬ gotB f' i then 1 else 0) ∧ (gotB f' i → psd (sf σ (fdS σ n i)))) (hp1 : out = 100 → ¬ psd (sf σ n) ∧ psd f') (hp2 : out ≠ 100 → (psd f' ↔ psd (sf σ n)) ∨ ∀ t i, fed σ n t i = false) (c0 : sf σ n 0 = 0 → 30 - f' 4 + e ≤ 30 - sf σ n 4) (c1 : sf σ n 0 ≠ 0 → sf σ n 0 ≠ 4 → vCf f' r' 0 + e ≤ vCf (sf σ n) (sr σ n) 0) (c2 : sf σ n 0 = 4 → vCf f' r' 0 + vCf f' r' 1 + e ≤ vCf (sf σ n) (sr σ n) 0 + vCf (sf σ n) (sr σ n) 1) (c3 : ∀ i, i < nin (sf σ n 0) → vCf f' r' i ≤ vCf (sf σ n) (sr σ n) i) (dd : sg σ 4 = 1 → (sf σ n 0 = 0 → bVf f' + eV ≤ bVf (sf σ n)) ∧ (sf σ n 0 ≠ 0 → sf σ n 0 ≠ 4 → vVf f' r' 0 + eV ≤ vVf (sf σ n) (sr σ n) 0) ∧ (sf σ n 0 = 4 → vVf f' r' 0 + vVf f' r' 1 + eV ≤ vVf (sf σ n) (sr σ n) 0 + vVf (sf σ n) (sr σ n) 1) ∧ ∀ i, i < nin (sf σ n 0) → vVf f' r' i ≤ vVf (sf σ n) (sr σ n) i) : Inv T M S' ρ := by
  obtain ⟨G, A, ⟨CC, CV, CL⟩, g6, gJ, fr⟩ := I
  have hK : ∀ n, n < sN σ → nK σ n := fun n hn => (A n hn).1
  have h8 : sN σ ≤ 8 := by have := G.1; unfold sN; clear c0 c1 c2 c3 dd he hv hD; omega
  have eN : sN ρ = sN σ := by unfold sN; rw [hg]
  have flo : ∀ t k, k < 4 → sf ρ t k = sf σ t k := by
    intro t k hk
    rw [hf]
    by_cases q : t = n
    · rw [if_pos q, f0 k hk, q]
    · rw [if_neg q]
  have eK : KS ρ = KS σ := funext fun u => flo u 0 (by decide)
  have eF : fdS ρ = fdS σ := by
    funext u i
    unfold fdS
    rw [flo u 1 (by decide), flo u 2 (by decide)]
  have fn : sf ρ n = f' := funext fun k => by rw [hf, if_pos rfl]
  have rn : sr ρ n = r' := funext fun k => by rw [hr, if_pos rfl]
  have fo : ∀ t, t ≠ n → sf ρ t = sf σ t := fun t q => funext fun k => by rw [hf, if_neg q]
  have ro : ∀ t, t ≠ n → sr ρ t = rcv σ n t out := fun t q => funext fun k => by rw [hr, if_neg q]
  have fall : ∀ t, sf ρ t = if t = n then f' else sf σ t := fun t => by
    by_cases q : t = n
    · rw [if_pos q, q, fn]
    · rw [if_neg q, fo t q]
  have kk : ∀ t, t < sN σ → nK ρ t := by
    intro t ht
    have a1 := hK t ht
    unfold nK
    rw [eF, flo t 0 (by decide), flo t 3 (by decide), flo t 1 (by decide)]
    refine ⟨a1.1, a1.2.1, a1.2.2.1, a1.2.2.2.1, fun i hi => ?_⟩
    have n2 := nin_le (sf σ t 0)
    rw [flo t (1 + i) (by clear c0 c1 c2 c3 dd he hv hD; omega), flo _ 0 (by decide)]
    exact a1.2.2.2.2 i hi
  refine ⟨by unfold glo; rw [hg, hg, hg, hg, hg, hg, hg, hg]; exact G, fun t ht => ?_, ⟨?_, fun q4 => ?_, ?_⟩, ?_, ?_, fun t ht => ?_⟩
  · rw [eN] at ht
    obtain ⟨a1, a2, a3, a4, a5, a6⟩ := A t ht
    rw [hg 4, hg 5]
    by_cases q : t = n
    · subst q
      refine ⟨kk t ht, by rw [fn]; exact hB, by rw [fn]; exact hP, by rw [fn]; exact hSs, by rw [fn, rn]; exact hR, fun i hi => ?_⟩
      rw [flo t 0 (by decide)] at hi
      have l := fd_lt hK ht hi
      rw [eF, fn, rn, fo _ (Nat.ne_of_lt l)]
      exact hD i hi
    · refine ⟨kk t ht, by rw [fo t q]; exact a2, by rw [fo t q]; exact a3, by rw [fo t q]; exact a4.wk hS', by rw [fo t q, ro t q]; exact rcv_nR ho a5, fun i hi => ?_⟩
      rw [flo t 0 (by decide)] at hi
      rw [eF, fo t q, ro t q, fall]
      exact rcv_dis ht hi a1 hp1 hp2 a6
  · refine act_cnt (n := n) (e := e) CC eN h8 eK eF hK (fun u hu q => by rw [fo u q]) (fun z => by rw [fn]; exact c0 z) (fun u hu q i hi => by rw [fo u q, ro u q]; exact rcv_vC hu hi (hK u hu) ho he) (fun z1 z2 => by rw [fn, rn]; exact c1 z1 z2) (fun z => by rw [fn, rn]; exact c2 z) (fun i hi => by rw [fn, rn]; exact c3 i hi)
  · rw [hg] at q4
    obtain ⟨d0, d1, d2, d3⟩ := dd q4
    refine act_cnt (n := n) (e := eV) (CV q4) eN h8 eK eF hK (fun u hu q => by rw [fo u q]) (fun z => by rw [fn]; exact d0 z) (fun u hu q i hi => by rw [fo u q, ro u q]; exact rcv_vV hu hi (hK u hu) (A u hu).2.2.2.2.2 (fun z => (hp1 z).1) ho hv) (fun z1 z2 => by rw [fn, rn]; exact d1 z1 z2) (fun z => by rw [fn, rn]; exact d2 z) (fun i hi => by rw [fn, rn]; exact d3 i hi)
  · have vl : ∀ u i, vLf (sf ρ u) (sr ρ u) i = vLf (sf σ u) (sr σ u) i := by
      intro u i
      unfold vLf
      by_cases q : u = n
      · rw [q, fn, rn, f26, r3]
      · rw [fo u q, ro u q, rcv_hi (by decide)]
    refine act_cnt (n := n) (e := 0) CL eN h8 eK eF hK (fun u hu q => by rw [fo u q]) (fun z => by rw [fn, f14, Int.add_zero]; exact Int.le_refl _) (fun u hu q i hi => by rw [vl, ite_self, Int.add_zero]; exact Int.le_refl _) (fun z1 z2 => by rw [vl, Int.add_zero]; exact Int.le_refl _) (fun z => by rw [vl, vl, Int.add_zero]; exact Int.le_refl _) (fun i hi => by rw [vl]; exact Int.le_refl _)
  · rw [hg, eN, g6]
    refine sumN_cg (fun k hk => ?_)
    rw [hf]
    by_cases q : k = n
    · rw [if_pos q, q, f27]
    · rw [if_neg q]
  · have : sJoins ρ = sJoins σ := by
      unfold sJoins
      rw [eN]
      exact sumN_cg (fun k hk => by rw [flo k 0 (by decide)])
    rw [this]; exact gJ
  · rw [eN] at ht
    have q : t ≠ n := fun z => by rw [z] at ht; exact absurd hn (Nat.not_lt.mpr ht)
    obtain ⟨x1, x2⟩ := fr t ht
    refine ⟨fun j => by rw [fo t q]; exact x1 j, fun j => ?_⟩
    rw [ro t q, rcv_no (decide_eq_false (fun z => absurd z.2.1 (Nat.not_lt.mpr ht)))]
    exact x2 j
