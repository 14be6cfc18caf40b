/-! the reference's past -/
def MV (v : Nat → Int) (σ : sS) : Prop := (∀ k, k < 9 → v k = sg σ k) ∧ (∀ n : Nat, n < 8 → ∀ k : Nat, k < 27 → (k = 9 → sg σ 4 = 1 ∨ sg σ 0 ≤ (n : Int)) → v (10 + 30 * n + k) = sf σ n k) ∧ ∀ n, n < 8 → ∀ r, r < 7 → v (250 + 129 * (7 * n + r)) = ((sr σ n r).length : Int) ∧ (sr σ n r).length ≤ 128 ∧ ∀ i, i < (sr σ n r).length → v (250 + 129 * (7 * n + r) + 1 + i) = (sr σ n r).getD i 0
theorem MR_MV {h : av_H} {x : Nat} {σ : sS} : MR h x σ ↔ MV (gI h (x + 1)) σ := Iff.rfl
theorem MV.cg {v w : Nat → Int} {σ : sS} (H : MV v σ) (e : ∀ k, k < 7474 → w k = v k) : MV w σ := by
  obtain ⟨h1, h2, h3⟩ := H
  refine ⟨fun k hk => (e k (by omega)).trans (h1 k hk), fun n hn k hk h9 => (e _ (by omega)).trans (h2 n hn k hk h9), fun n hn r hr => ?_⟩
  obtain ⟨a1, a2, a3⟩ := h3 n hn r hr
  exact ⟨(e _ (by omega)).trans a1, a2, fun i hi => (e _ (by omega)).trans (a3 i hi)⟩
/-- only the reference's own cells have changed -/
def MG (h h' : av_H) (x : Nat) : Prop := h'.1 = h.1 ∧ h'.2.1 = h.2.1 ∧ h'.2.2.2 = h.2.2.2 ∧ ∀ a, a < x ∨ x + 6 ≤ a → h'.2.2.1 a = h.2.2.1 a
theorem MG.rf {h : av_H} {x : Nat} : MG h h x := ⟨rfl, rfl, rfl, fun _ _ => rfl⟩
theorem MG.tr {h h1 h2 : av_H} {x : Nat} (a : MG h h1 x) (b : MG h1 h2 x) : MG h h2 x := ⟨b.1.trans a.1, b.2.1.trans a.2.1, b.2.2.1.trans a.2.2.1, fun q hq => (b.2.2.2 q hq).trans (a.2.2.2 q hq)⟩
theorem MG.sI {h : av_H} {x y k : Nat} {z : Int} (hy : x ≤ y ∧ y < x + 6) : MG h (sI h y k z) x := ⟨rfl, rfl, rfl, fun a ha => by funext j; show (if a = y ∧ j = k then z else h.2.2.1 a j) = _; rw [if_neg (fun q => by omega)]⟩
theorem MG.kd {h h' : av_H} {x : Nat} (a : MG h h' x) (b : Nat) : kd h' b = kd h b := by show h'.2.1 b = h.2.1 b; rw [a.2.1]
theorem MG.gR {h h' : av_H} {x : Nat} (a : MG h h' x) (b k : Nat) : gR h' b k = gR h b k := by show h'.2.2.2 b k = h.2.2.2 b k; rw [a.2.2.1]
theorem MG.gI {h h' : av_H} {x : Nat} (a : MG h h' x) {b : Nat} (hb : b < x ∨ x + 6 ≤ b) (k : Nat) : gI h' b k = gI h b k := by show h'.2.2.1 b k = h.2.2.1 b k; rw [a.2.2.2 b hb]
theorem MF.mg {h h' : av_H} {x : Nat} (a : MF h h' x) : MG h h' x := ⟨a.1, a.2.1, a.2.2.1, fun q hq => a.2.2.2 q (by omega)⟩
theorem MK.mg {h h' : av_H} {x : Nat} (K : MK h x) (a : MG h h' x) : MK h' x := by
  unfold MK at K ⊢
  simp only [a.kd, a.gR]
  exact K
theorem m_anew {sc : av_S} {d : Nat} {h : av_H} {x : Nat} (K : MK h x) : ∃ h', (∀ Q, WP sc (d + 1) 97 0 [(0, .inr (.inl x))] [] h Q ↔ Q none h') ∧ MR h' x sNew ∧ MF h h' x := by
  have loop : ∀ (t n : Nat) (hk : av_H), t = 7474 - n → n ≤ 7474 → MF h hk x → (∀ j, j < n → gI hk (x + 1) j = 0) → WP sc (d + 1) 97 2 [(0, .inr (.inl x)), (1, .inl (n : Int))] [] hk (fun r h' => r = none ∧ MR h' x sNew ∧ MF h h' x) := by
    intro t
    induction t with
    | zero =>
      intro n hk ht hn hf hz
      obtain ⟨k0, ⟨k1, k2⟩, -⟩ := id (K.mf hf)
      have e : n = 7474 := by omega
      subst e
      rw [u97_2]
      simp (disch := omega) only [u97_0, u97_1, u97_3, u97_6, u97_9, u97_10, u97_13, u97_14, u97_15, u97_16, u97_19, u97_22, u97_23, u97_26, u97_27, u97_29, u97_30, u97_31, u97_34, u97_35, u97_36, u97_37, k0, k1, k2, kd_sI, gR_sI, wr_id, rng, rngp, if_pos, if_neg, if_true, if_false, reduceCtorEq, true_and, and_true, and_self, Option.toList_some, Option.toList_none, List.cons_append, List.nil_append, Int.toNat_natCast]
      refine ⟨⟨fun k hk => ?_, fun n hn k hk _ => ?_, fun n hn r hr => ⟨?_, by show ([] : List Int).length ≤ 128; simp, fun i hi => by change i < ([] : List Int).length at hi; simp at hi⟩⟩, (hf.tr MF.sI).tr MF.sI⟩
      · rw [gI_sI, gI_sI]
        show _ = (if k = 2 then (20 : Int) else if k = 5 then 1 else 0)
        by_cases c5 : k = 5
        · subst c5; simp
        · by_cases c2 : k = 2
          · subst c2; simp
          · rw [if_neg (by omega), if_neg (by omega), if_neg c2, if_neg c5]
            exact hz k (by omega)
      · rw [gI_sI_ne (by omega), gI_sI_ne (by omega)]
        exact hz _ (by omega)
      · rw [gI_sI_ne (by omega), gI_sI_ne (by omega)]
        exact hz _ (by omega)
    | succ t ih =>
      intro n hk ht hn hf hz
      obtain ⟨k0, ⟨k1, k2⟩, -⟩ := id (K.mf hf)
      rw [u97_2]
      simp (disch := omega) only [u97_0, u97_1, u97_3, u97_6, u97_9, u97_10, u97_13, u97_14, u97_15, u97_16, u97_19, u97_22, u97_23, u97_26, u97_27, u97_29, u97_30, u97_31, u97_34, u97_35, u97_36, u97_37, k0, k1, k2, kd_sI, gR_sI, wr_id, rng, rngp, if_pos, if_neg, if_true, if_false, reduceCtorEq, true_and, and_true, and_self, Option.toList_some, Option.toList_none, List.cons_append, List.nil_append, Int.toNat_natCast]
      rw [show (n : Int) + 1 = ((n + 1 : Nat) : Int) by omega]
      refine ih (n + 1) _ (by omega) (by omega) (hf.tr MF.sI) (fun j hj => ?_)
      by_cases e : j = n
      · rw [gI_sI_eq e]
      · rw [gI_sI_ne e]; exact hz j (by omega)
  have big : WP sc (d + 1) 97 0 [(0, .inr (.inl x))] [] h (fun r h' => r = none ∧ MR h' x sNew ∧ MF h h' x) := by
    simp (disch := omega) only [u97_0, u97_1, u97_3, u97_6, u97_9, u97_10, u97_13, u97_14, u97_15, u97_16, u97_19, u97_22, u97_23, u97_26, u97_27, u97_29, u97_30, u97_31, u97_34, u97_35, u97_36, u97_37, wr_id, rng, rngp, if_pos, if_neg, if_true, if_false, reduceCtorEq, true_and, and_true, and_self, Option.toList_some, Option.toList_none, List.cons_append, List.nil_append, Int.toNat_natCast]
    rw [show (0 : Int) = ((0 : Nat) : Int) from rfl]
    exact loop _ 0 h rfl (by omega) MF.rf (fun j hj => by omega)
  obtain ⟨r, h', hw, rfl, hm, hf⟩ := big.evE
  exact ⟨h', hw, hm, hf⟩
/-- the reference as a whole: its works, its states (the oldest first), how often it refused, its text -/
def MS (h : av_H) (x : Nat) (σ : sS) (ps : List sS) (rf : Nat → Int) (tx : List Int) : Prop := MK h x ∧ MR h x σ ∧ (gI h x 2 = (ps.length : Int) ∧ ps.length ≤ 5 ∧ ∀ j, j < ps.length → MV (fun k => gI h (x + 2) (7474 * j + k)) (ps.getD j sNew)) ∧ (∀ k, k < 3 → gI h (x + 3) k = rf k) ∧ gI h x 4 = (tx.length : Int) ∧ tx.length ≤ 120 ∧ ∀ i, i < tx.length → gI h (x + 4) i = tx.getD i 0
theorem MS.mf {h h' : av_H} {x : Nat} {σ ρ : sS} {ps : List sS} {rf : Nat → Int} {tx : List Int} (S : MS h x σ ps rf tx) (F : MF h h' x) (H : MR h' x ρ) : MS h' x ρ ps rf tx := by
  obtain ⟨K, _, ⟨s1, s2, s3⟩, r1, t1, t2, t3⟩ := S
  refine ⟨K.mf F, H, ⟨by rw [F.gI (by omega)]; exact s1, s2, fun j hj => ?_⟩, fun k hk => by rw [F.gI (by omega)]; exact r1 k hk, by rw [F.gI (by omega)]; exact t1, t2, fun i hi => by rw [F.gI (by omega)]; exact t3 i hi⟩
  exact (s3 j hj).cg (fun k hk => F.gI (by omega) _)
def rfU (rf : Nat → Int) (how : Int) : Nat → Int := fun k => if k = (if how = -2 then 0 else if how = -3 then 1 else 2) then rf k + 1 else rf k
theorem m_refuse {sc : av_S} {d : Nat} {h : av_H} {x : Nat} {σ : sS} {ps : List sS} {rf : Nat → Int} {tx : List Int} {how : Int} (S : MS h x σ ps rf tx) (hr : ∀ k, k < 3 → 0 ≤ rf k ∧ rf k ≤ 1000000000) : ∃ h', (∀ Q, WP sc (d + 1) 96 0 [(0, .inr (.inl x)), (1, .inl how)] [] h Q ↔ Q (some (.inl how)) h') ∧ MS h' x σ ps (rfU rf how) tx ∧ MG h h' x := by
  obtain ⟨K, H, ⟨s1, s2, s3⟩, r1, t1, t2, t3⟩ := S
  obtain ⟨k0, -, -, ⟨k3, k4⟩, -⟩ := id K
  have key : ∀ i, i < 3 → i = (if how = -2 then 0 else if how = -3 then 1 else 2) → MS (sI h (x + 3) i (rf i + 1)) x σ ps (rfU rf how) tx ∧ MG h (sI h (x + 3) i (rf i + 1)) x := by
    intro i hi ei
    have G : MG h (sI h (x + 3) i (rf i + 1)) x := MG.sI (by omega)
    refine ⟨⟨K.mg G, ?_, ⟨by rw [gI_sI_nb (by omega)]; exact s1, s2, fun j hj => (s3 j hj).cg (fun k _ => gI_sI_nb (by omega))⟩, fun k hk => ?_, by rw [gI_sI_nb (by omega)]; exact t1, t2, fun i hi => by rw [gI_sI_nb (by omega)]; exact t3 i hi⟩, G⟩
    · exact MR_MV.mpr ((MR_MV.mp H).cg (fun k _ => gI_sI_nb (by omega)))
    · unfold rfU
      rw [← ei]
      by_cases e : k = i
      · rw [gI_sI_eq e, if_pos e, e]
      · rw [gI_sI_ne e, if_neg e]; exact r1 k hk
  have q0 := r1 0 (by omega)
  have q1 := r1 1 (by omega)
  have q2 := r1 2 (by omega)
  have z0 := hr 0 (by omega)
  have z1 := hr 1 (by omega)
  have z2 := hr 2 (by omega)
  have u0 : Int.toNat 0 = 0 := rfl
  have u1 : Int.toNat 1 = 1 := rfl
  have u2 : Int.toNat 2 = 2 := rfl
  by_cases c1 : how = -2
  · subst c1
    refine ⟨_, fun Q => ?_, key 0 (by omega) (by simp)⟩
    simp (disch := omega) only [u96_0, u96_1, u96_4, u96_5, u96_7, u96_10, u96_11, u96_14, u96_15, u96_17, u96_20, u96_21, u96_24, u96_25, u96_26, u96_27, u96_28, u96_29, u96_30, u96_31, k0, k3, k4, u0, q0, kd_sI, gR_sI, wr_id, rng, rngp, if_pos, if_neg, if_true, if_false, reduceCtorEq, true_and, and_true, and_self, Option.toList_some, Option.toList_none, List.cons_append, List.nil_append, Int.toNat_natCast]
  · by_cases c2 : how = -3
    · subst c2
      refine ⟨_, fun Q => ?_, key 1 (by omega) (by simp)⟩
      simp (disch := omega) only [u96_0, u96_1, u96_4, u96_5, u96_7, u96_10, u96_11, u96_14, u96_15, u96_17, u96_20, u96_21, u96_24, u96_25, u96_26, u96_27, u96_28, u96_29, u96_30, u96_31, k0, k3, k4, u1, q1, kd_sI, gR_sI, wr_id, rng, rngp, if_pos, if_neg, if_true, if_false, reduceCtorEq, true_and, and_true, and_self, Option.toList_some, Option.toList_none, List.cons_append, List.nil_append, Int.toNat_natCast]
    · refine ⟨_, fun Q => ?_, key 2 (by omega) (by simp [c1, c2])⟩
      simp (disch := omega) only [u96_0, u96_1, u96_4, u96_5, u96_7, u96_10, u96_11, u96_14, u96_15, u96_17, u96_20, u96_21, u96_24, u96_25, u96_26, u96_27, u96_28, u96_29, u96_30, u96_31, k0, k3, k4, u2, q2, kd_sI, gR_sI, wr_id, rng, rngp, if_pos, if_neg, if_true, if_false, reduceCtorEq, true_and, and_true, and_self, Option.toList_some, Option.toList_none, List.cons_append, List.nil_append, Int.toNat_natCast]
