/-! what can still come: potentials -/
def pt (K : Nat → Int) (fd : Nat → Nat → Nat) (bs : Nat → Int) (v : Nat → Nat → Int) : Nat → Nat → Int
  | 0, _ => 0
  | k + 1, u => if K u = 0 then bs u else if K u = 4 then (v u 0 + pt K fd bs v k (fd u 0)) + (v u 1 + pt K fd bs v k (fd u 1)) else v u 0 + pt K fd bs v k (fd u 0)
theorem pt_mono {K : Nat → Int} {fd : Nat → Nat → Nat} {N : Nat} {bs bs' e : Nat → Int} {v v' : Nat → Nat → Int} (w0 : ∀ u, u < N → K u ≠ 0 → fd u 0 < u) (w1 : ∀ u, u < N → K u = 4 → fd u 1 < u) (hS : ∀ u, u < N → K u = 0 → bs' u + e u ≤ bs u) (hO : ∀ u, u < N → K u ≠ 0 → K u ≠ 4 → v' u 0 + e u ≤ v u 0 + e (fd u 0)) (hJ : ∀ u, u < N → K u = 4 → v' u 0 + v' u 1 + e u ≤ v u 0 + v u 1 + e (fd u 0) + e (fd u 1)) : ∀ k u, u < N → u < k → pt K fd bs' v' k u + e u ≤ pt K fd bs v k u := by
  intro k
  induction k with
  | zero => intro u _ h; omega
  | succ k ih =>
    intro u hu hk
    unfold pt
    by_cases c0 : K u = 0
    · rw [if_pos c0, if_pos c0]; exact hS u hu c0
    · rw [if_neg c0, if_neg c0]
      have f0 := w0 u hu c0
      have i0 := ih (fd u 0) (by omega) (by omega)
      by_cases c4 : K u = 4
      · rw [if_pos c4, if_pos c4]
        have f1 := w1 u hu c4
        have i1 := ih (fd u 1) (by omega) (by omega)
        have := hJ u hu c4
        omega
      · rw [if_neg c4, if_neg c4]
        have := hO u hu c0 c4
        omega
/-- what a node can send at most -/
def cpT (K : Nat → Int) (fd : Nat → Nat → Nat) (k u : Nat) : Int := pt K fd (fun _ => 30) (fun _ _ => 0) k u
def jns (K : Nat → Int) : Nat → Nat
  | 0 => 0
  | n + 1 => jns K n + (if K n = 4 then 1 else 0)
theorem jns_mono {K : Nat → Int} : ∀ {a b : Nat}, a ≤ b → jns K a ≤ jns K b := by
  intro a b
  induction b with
  | zero => intro h; rw [show a = 0 by omega]; exact Nat.le_refl _
  | succ b ih =>
    intro h
    by_cases e : a = b + 1
    · rw [e]; exact Nat.le_refl _
    · have := ih (by omega)
      show _ ≤ jns K b + _
      omega
def p2 : Nat → Int
  | 0 => 1
  | n + 1 => 2 * p2 n
theorem p2_pos : ∀ n, 1 ≤ p2 n := by
  intro n
  induction n with
  | zero => exact Int.le_refl _
  | succ n ih => show 1 ≤ 2 * p2 n; omega
theorem p2_mono {a b : Nat} (h : a ≤ b) : p2 a ≤ p2 b := by
  induction b with
  | zero => rw [show a = 0 by omega]; exact Int.le_refl _
  | succ b ih =>
    by_cases e : a = b + 1
    · rw [e]; exact Int.le_refl _
    · have := ih (by omega)
      have := p2_pos b
      show _ ≤ 2 * p2 b
      omega
theorem cp_le {K : Nat → Int} {fd : Nat → Nat → Nat} {N : Nat} (w0 : ∀ u, u < N → K u ≠ 0 → fd u 0 < u) (w1 : ∀ u, u < N → K u = 4 → fd u 1 < u) : ∀ k u, u < N → 0 ≤ cpT K fd k u ∧ cpT K fd k u ≤ 30 * p2 (jns K (u + 1)) := by
  intro k
  induction k with
  | zero =>
    intro u _
    have := p2_pos (jns K (u + 1))
    refine ⟨Int.le_refl _, ?_⟩
    show (0 : Int) ≤ _
    omega
  | succ k ih =>
    intro u hu
    unfold cpT pt
    by_cases c0 : K u = 0
    · rw [if_pos c0]
      have := p2_pos (jns K (u + 1))
      omega
    · rw [if_neg c0]
      have f0 := w0 u hu c0
      have i0 := ih (fd u 0) (by omega)
      unfold cpT at i0
      by_cases c4 : K u = 4
      · rw [if_pos c4]
        have f1 := w1 u hu c4
        have i1 := ih (fd u 1) (by omega)
        unfold cpT at i1
        have e : jns K (u + 1) = jns K u + 1 := by show jns K u + (if K u = 4 then 1 else 0) = _; rw [if_pos c4]
        have j0 := p2_mono (jns_mono (K := K) (show fd u 0 + 1 ≤ u by omega))
        have j1 := p2_mono (jns_mono (K := K) (show fd u 1 + 1 ≤ u by omega))
        rw [e]
        show _ ∧ _ ≤ 30 * (2 * p2 (jns K u))
        omega
      · rw [if_neg c4]
        have j0 := p2_mono (jns_mono (K := K) (show fd u 0 + 1 ≤ u + 1 by omega))
        omega
