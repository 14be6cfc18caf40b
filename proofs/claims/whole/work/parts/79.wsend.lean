/-! the works of the class: room, sending -/
def sSet (σ : sS) (n : Nat) (f : Nat → Int) (r : Nat → List Int) : sS := (σ.1, fun t k => if t = n then f k else σ.2.1 t k, fun t k => if t = n then r k else σ.2.2 t k)
theorem sumN_cg {f g : Nat → Int} : ∀ {n : Nat}, (∀ k, k < n → f k = g k) → sumN f n = sumN g n := by
  intro n
  induction n with
  | zero => intro _; rfl
  | succ n ih =>
    intro hf
    show sumN f n + f n = sumN g n + g n
    rw [ih (fun k hk => hf k (by omega)), hf n (by omega)]
theorem CW.cg {h : av_H} {w : Nat} {σ τ : sS} (C : CW h w σ) (h1 : ∀ k, k < 9 → sg τ k = sg σ k) (h2 : ∀ n, n < sN σ → ∀ k, sf τ n k = sf σ n k) (h3 : ∀ n, n < sN σ → ∀ k, sr τ n k = sr σ n k) : CW h w τ := by
  obtain ⟨K, ⟨i1, i2, i3, i4, i5, i6, i7, i8, i9⟩, hN, cn, nw⟩ := C
  have e : sN τ = sN σ := by unfold sN; rw [h1 0 (by decide)]
  have j : sJoins τ = sJoins σ := by
    unfold sJoins
    rw [e]
    exact sumN_cg (fun k hk => by rw [h2 k hk 0])
  refine ⟨K, ⟨i1.trans (h1 0 (by decide)).symm, i2.trans j.symm, i3.trans (h1 1 (by decide)).symm, i4.trans (h1 2 (by decide)).symm, i5.trans (h1 3 (by decide)).symm, i6.trans (h1 4 (by decide)).symm, i7.trans (h1 5 (by decide)).symm, i8.trans (h1 7 (by decide)).symm, i9.trans (h1 8 (by decide)).symm⟩, by rw [h1 0 (by decide)]; exact hN, fun n hn => ?_, nw⟩
  rw [e] at hn
  rw [show sf τ n = sf σ n from funext (h2 n hn), show sr τ n = sr σ n from funext (h3 n hn)]
  exact cn n hn
theorem CW.node {h h' : av_H} {w n : Nat} {σ : sS} {f : Nat → Int} {r : Nat → List Int} (C : CW h w σ) (hn : n < 8) (F : Fr h h' (w + 2 + 20 * n) (w + 2 + 20 * n + 20)) (N : CN h' (w + 2 + 20 * n) f r) (h0 : n < sN σ → f 0 = sf σ n 0) : CW h' w (sSet σ n f r) := by
  obtain ⟨z1, z2⟩ := C.sz
  obtain ⟨K, I, hN, cn, nw⟩ := C
  have j : sJoins (sSet σ n f r) = sJoins σ := by
    refine sumN_cg (fun k hk => ?_)
    show (if (if k = n then f 0 else sf σ k 0) = 4 then (1 : Int) else 0) = _
    by_cases e : k = n
    · rw [if_pos e, e, h0 (by rw [← e]; exact hk)]
    · rw [if_neg e]
  obtain ⟨i1, i2, i3⟩ := I.fr F (by omega)
  refine ⟨K.fr F (by omega), ⟨i1, i2.trans j.symm, i3⟩, hN, fun t ht => ?_, fun t ht => ?_⟩
  · by_cases e : t = n
    · subst e
      rw [show sf (sSet σ t f r) t = f from funext (fun k => if_pos rfl), show sr (sSet σ t f r) t = r from funext (fun k => if_pos rfl)]
      exact N
    · have ht' : t < sN σ := ht
      rw [show sf (sSet σ n f r) t = sf σ t from funext (fun k => if_neg e), show sr (sSet σ n f r) t = sr σ t from funext (fun k => if_neg e)]
      exact (cn t ht').fr F (by omega)
  · by_cases e : t = n
    · subst e; exact N.nw
    · exact (nw t ht).fr F (by omega)
theorem room_iff {σ : sS} {n : Nat} : sRoom σ n = true ↔ ∀ t, n < t → t < sN σ → rm1 σ n t 0 = true ∧ rm1 σ n t 1 = true := by
  constructor
  · intro h t h1 h2
    have h3 := List.all_eq_true.mp h t (List.mem_range.mpr h2)
    have h4 := List.all_eq_true.mp h3
    exact ⟨h4 0 (by decide), h4 1 (by decide)⟩
  · intro h
    refine List.all_eq_true.mpr (fun t ht => List.all_eq_true.mpr (fun i hi => ?_))
    have ht := List.mem_range.mp ht
    have hi := List.mem_range.mp hi
    by_cases c : n < t
    · have q := h t c ht
      have ci : i = 0 ∨ i = 1 := by omega
      rcases ci with rfl | rfl
      · exact q.1
      · exact q.2
    · exact rm1_le (by omega)
theorem w_hasRoom {sc : av_S} {d : Nat} {h : av_H} {w n : Nat} {σ : sS} (C : CW h w σ) (hn : n < 8) (Q : Option av_V → av_H → Prop) : WP sc (d + 2) 66 0 [(0, .inr (.inl w)), (1, .inl (n : Int))] [] h Q ↔ Q (some (.inl (bI (sRoom σ n)))) h := by
  obtain ⟨z1, z2⟩ := C.sz
  obtain ⟨⟨k0, k1, k2, k3⟩, ⟨i1, -⟩, -, cn, -⟩ := id C
  have lp : ∀ (u t : Nat), u = sN σ - t → n < t → (∀ s, n < s → s < t → rm1 σ n s 0 = true ∧ rm1 σ n s 1 = true) → (WP sc (d + 2) 66 4 [(0, .inr (.inl w)), (1, .inl (n : Int)), (2, .inl (t : Int))] [] h Q ↔ Q (some (.inl (bI (sRoom σ n)))) h) := by
    intro u
    induction u with
    | zero =>
      intro t hu h1 h2
      have : sRoom σ n = true := room_iff.mpr (fun s q1 q2 => h2 s q1 (by omega))
      rw [this, u66_4]
      simp (disch := omega) only [u66_0, u66_1, u66_2, u66_3, u66_5, u66_6, u66_9, u66_12, u66_13, u66_15, u66_16, u66_19, u66_20, u66_23, u66_24, u66_25, u66_26, u66_27, u66_30, u66_33, u66_34, u66_37, u66_38, u66_39, u66_40, u66_43, u66_46, u66_48, u66_51, u66_52, u66_53, u66_56, u66_59, u66_62, u66_65, u66_66, k0, i1, bI_t, true_or, or_true, wr_id, rng, rngp, if_pos, if_neg, if_true, if_false, reduceCtorEq, true_and, and_true, and_self, Option.toList_some, Option.toList_none, List.cons_append, List.nil_append, Int.toNat_natCast]
    | succ u ih =>
      intro t hu h1 h2
      have ht : t < sN σ := by omega
      have k3' := k3 t (by omega)
      obtain ⟨pa, la, K, P, L, I, S, ⟨r0, r1, -⟩, p, l⟩ := (cn t ht).to
      have a0 := K.1
      have f0 : ∀ Q, WP sc (d + 1) 6 0 [(0, .inr (.inl (w + 2 + 20 * t))), (1, .inl (n : Int)), (2, .inl 0)] [] h Q ↔ Q (some (.inl (bI (fed σ n t 0)))) h := by
        intro Q
        refine (n_isFedBy (d := d) (i := 0) (n := (n : Int)) (cn t ht) (by omega) Q).trans ?_
        rw [show decide (0 < nin (sf σ t 0) ∧ sf σ t (1 + 0) = (n : Int)) = fed σ n t 0 from decide_eq_decide.mpr ⟨fun q => ⟨h1, ht, q⟩, fun q => q.2.2⟩]
      have f1 : ∀ Q, WP sc (d + 1) 6 0 [(0, .inr (.inl (w + 2 + 20 * t))), (1, .inl (n : Int)), (2, .inl (0 + 1))] [] h Q ↔ Q (some (.inl (bI (fed σ n t 1)))) h := by
        intro Q
        refine (n_isFedBy (d := d) (i := 1) (n := (n : Int)) (cn t ht) (by omega) Q).trans ?_
        rw [show decide (1 < nin (sf σ t 0) ∧ sf σ t (1 + 1) = (n : Int)) = fed σ n t 1 from decide_eq_decide.mpr ⟨fun q => ⟨h1, ht, q⟩, fun q => q.2.2⟩]
      have c0 : ∀ Q, WP sc (d + 1) 5 0 [(0, .inr (.inl (w + 2 + 20 * t))), (1, .inl 0)] [] h Q ↔ Q (some (.inr (.inl (w + 2 + 20 * t + 2)))) h := fun Q => n_channel K Q
      have c1 : ∀ Q, WP sc (d + 1) 5 0 [(0, .inr (.inl (w + 2 + 20 * t))), (1, .inl (0 + 1))] [] h Q ↔ Q (some (.inr (.inl (w + 2 + 20 * t + 4)))) h := fun Q => n_channel K Q
      have m0 : (kd h (w + 2 + 20 * t + 2)).1 = 3 := r0.1.1
      have m1 : (kd h (w + 2 + 20 * t + 4)).1 = 3 := r1.1.1
      have s0 := r0.2.1
      have s1 := r1.2.1
      have nx : rm1 σ n t 0 = true → rm1 σ n t 1 = true → (WP sc (d + 2) 66 4 [(0, .inr (.inl w)), (1, .inl (n : Int)), (2, .inl ((t : Int) + 1))] [] h Q ↔ Q (some (.inl (bI (sRoom σ n)))) h) := by
        intro q0 q1
        rw [show (t : Int) + 1 = ((t + 1 : Nat) : Int) by omega]
        refine ih (t + 1) (by omega) (by omega) (fun s g1 g2 => ?_)
        by_cases e : s = t
        · subst e; exact ⟨q0, q1⟩
        · exact h2 s g1 (by omega)
      have bad : ∀ i, i < 2 → rm1 σ n t i = false → sRoom σ n = false := by
        intro i hi q
        by_cases e : sRoom σ n = true
        · have g := room_iff.mp e t h1 ht
          have ci : i = 0 ∨ i = 1 := by omega
          rcases ci with rfl | rfl
          · rw [g.1] at q; cases q
          · rw [g.2] at q; cases q
        · exact Bool.eq_false_iff.mpr e
      have nx1 : rm1 σ n t 0 = true → (WP sc (d + 2) 66 14 [(0, .inr (.inl w)), (1, .inl (n : Int)), (2, .inl (t : Int)), (3, .inl (0 + 1))] [] h Q ↔ Q (some (.inl (bI (sRoom σ n)))) h) := by
        intro q0
        rw [u66_14]
        cases e1 : fed σ n t 1 <;> rw [e1] at f1
        · have q1 : rm1 σ n t 1 = true := by unfold rm1; rw [e1]; rfl
          simp (disch := omega) only [u66_0, u66_1, u66_2, u66_3, u66_5, u66_6, u66_9, u66_12, u66_13, u66_15, u66_16, u66_19, u66_20, u66_23, u66_24, u66_25, u66_26, u66_27, u66_30, u66_33, u66_34, u66_37, u66_38, u66_39, u66_40, u66_43, u66_46, u66_48, u66_51, u66_52, u66_53, u66_56, u66_59, u66_62, u66_65, u66_66, k0, k1, k2, k3', a0, f1, bI_f, true_or, or_true, wr_id, rng, rngp, if_pos, if_neg, if_true, if_false, reduceCtorEq, true_and, and_true, and_self, Option.toList_some, Option.toList_none, List.cons_append, List.nil_append, Int.toNat_natCast]
          rw [u66_14]
          simp (disch := omega) only [u66_0, u66_1, u66_2, u66_3, u66_5, u66_6, u66_9, u66_12, u66_13, u66_15, u66_16, u66_19, u66_20, u66_23, u66_24, u66_25, u66_26, u66_27, u66_30, u66_33, u66_34, u66_37, u66_38, u66_39, u66_40, u66_43, u66_46, u66_48, u66_51, u66_52, u66_53, u66_56, u66_59, u66_62, u66_65, u66_66, wr_id, rng, rngp, if_pos, if_neg, if_true, if_false, reduceCtorEq, true_and, and_true, and_self, Option.toList_some, Option.toList_none, List.cons_append, List.nil_append, Int.toNat_natCast]
          exact nx q0 q1
        · by_cases e2 : (sr σ t 1).length < 6
          · have q1 : rm1 σ n t 1 = true := by unfold rm1; rw [e1, decide_eq_true e2]; rfl
            simp (disch := omega) only [u66_0, u66_1, u66_2, u66_3, u66_5, u66_6, u66_9, u66_12, u66_13, u66_15, u66_16, u66_19, u66_20, u66_23, u66_24, u66_25, u66_26, u66_27, u66_30, u66_33, u66_34, u66_37, u66_38, u66_39, u66_40, u66_43, u66_46, u66_48, u66_51, u66_52, u66_53, u66_56, u66_59, u66_62, u66_65, u66_66, k0, k1, k2, k3', a0, f1, c1, m1, s1, bI_t, true_or, or_true, wr_id, rng, rngp, if_pos, if_neg, if_true, if_false, reduceCtorEq, true_and, and_true, and_self, Option.toList_some, Option.toList_none, List.cons_append, List.nil_append, Int.toNat_natCast]
            rw [u66_14]
            simp (disch := omega) only [u66_0, u66_1, u66_2, u66_3, u66_5, u66_6, u66_9, u66_12, u66_13, u66_15, u66_16, u66_19, u66_20, u66_23, u66_24, u66_25, u66_26, u66_27, u66_30, u66_33, u66_34, u66_37, u66_38, u66_39, u66_40, u66_43, u66_46, u66_48, u66_51, u66_52, u66_53, u66_56, u66_59, u66_62, u66_65, u66_66, wr_id, rng, rngp, if_pos, if_neg, if_true, if_false, reduceCtorEq, true_and, and_true, and_self, Option.toList_some, Option.toList_none, List.cons_append, List.nil_append, Int.toNat_natCast]
            exact nx q0 q1
          · have q1 : rm1 σ n t 1 = false := by unfold rm1; rw [e1, decide_eq_false e2]; rfl
            rw [bad 1 (by omega) q1]
            simp (disch := omega) only [u66_0, u66_1, u66_2, u66_3, u66_5, u66_6, u66_9, u66_12, u66_13, u66_15, u66_16, u66_19, u66_20, u66_23, u66_24, u66_25, u66_26, u66_27, u66_30, u66_33, u66_34, u66_37, u66_38, u66_39, u66_40, u66_43, u66_46, u66_48, u66_51, u66_52, u66_53, u66_56, u66_59, u66_62, u66_65, u66_66, k0, k1, k2, k3', a0, f1, c1, m1, s1, bI_t, bI_f, true_or, or_true, wr_id, rng, rngp, if_pos, if_neg, if_true, if_false, reduceCtorEq, true_and, and_true, and_self, Option.toList_some, Option.toList_none, List.cons_append, List.nil_append, Int.toNat_natCast]
      rw [u66_4]
      simp (disch := omega) only [u66_0, u66_1, u66_2, u66_3, u66_5, u66_6, u66_9, u66_12, u66_13, u66_15, u66_16, u66_19, u66_20, u66_23, u66_24, u66_25, u66_26, u66_27, u66_30, u66_33, u66_34, u66_37, u66_38, u66_39, u66_40, u66_43, u66_46, u66_48, u66_51, u66_52, u66_53, u66_56, u66_59, u66_62, u66_65, u66_66, k0, i1, wr_id, rng, rngp, if_pos, if_neg, if_true, if_false, reduceCtorEq, true_and, and_true, and_self, Option.toList_some, Option.toList_none, List.cons_append, List.nil_append, Int.toNat_natCast]
      rw [u66_14]
      cases e1 : fed σ n t 0 <;> rw [e1] at f0
      · have q1 : rm1 σ n t 0 = true := by unfold rm1; rw [e1]; rfl
        simp (disch := omega) only [u66_0, u66_1, u66_2, u66_3, u66_5, u66_6, u66_9, u66_12, u66_13, u66_15, u66_16, u66_19, u66_20, u66_23, u66_24, u66_25, u66_26, u66_27, u66_30, u66_33, u66_34, u66_37, u66_38, u66_39, u66_40, u66_43, u66_46, u66_48, u66_51, u66_52, u66_53, u66_56, u66_59, u66_62, u66_65, u66_66, k0, k1, k2, k3', a0, f0, bI_f, true_or, or_true, wr_id, rng, rngp, if_pos, if_neg, if_true, if_false, reduceCtorEq, true_and, and_true, and_self, Option.toList_some, Option.toList_none, List.cons_append, List.nil_append, Int.toNat_natCast]
        exact nx1 q1
      · by_cases e2 : (sr σ t 0).length < 6
        · have q1 : rm1 σ n t 0 = true := by unfold rm1; rw [e1, decide_eq_true e2]; rfl
          simp (disch := omega) only [u66_0, u66_1, u66_2, u66_3, u66_5, u66_6, u66_9, u66_12, u66_13, u66_15, u66_16, u66_19, u66_20, u66_23, u66_24, u66_25, u66_26, u66_27, u66_30, u66_33, u66_34, u66_37, u66_38, u66_39, u66_40, u66_43, u66_46, u66_48, u66_51, u66_52, u66_53, u66_56, u66_59, u66_62, u66_65, u66_66, k0, k1, k2, k3', a0, f0, c0, m0, s0, bI_t, true_or, or_true, wr_id, rng, rngp, if_pos, if_neg, if_true, if_false, reduceCtorEq, true_and, and_true, and_self, Option.toList_some, Option.toList_none, List.cons_append, List.nil_append, Int.toNat_natCast]
          exact nx1 q1
        · have q1 : rm1 σ n t 0 = false := by unfold rm1; rw [e1, decide_eq_false e2]; rfl
          rw [bad 0 (by omega) q1]
          simp (disch := omega) only [u66_0, u66_1, u66_2, u66_3, u66_5, u66_6, u66_9, u66_12, u66_13, u66_15, u66_16, u66_19, u66_20, u66_23, u66_24, u66_25, u66_26, u66_27, u66_30, u66_33, u66_34, u66_37, u66_38, u66_39, u66_40, u66_43, u66_46, u66_48, u66_51, u66_52, u66_53, u66_56, u66_59, u66_62, u66_65, u66_66, k0, k1, k2, k3', a0, f0, c0, m0, s0, bI_t, bI_f, true_or, or_true, wr_id, rng, rngp, if_pos, if_neg, if_true, if_false, reduceCtorEq, true_and, and_true, and_self, Option.toList_some, Option.toList_none, List.cons_append, List.nil_append, Int.toNat_natCast]
  have l0 := lp _ (n + 1) rfl (by omega) (fun s q1 q2 => by omega)
  rw [← l0]
  simp (disch := omega) only [u66_0, u66_1, u66_2, u66_3, u66_5, u66_6, u66_9, u66_12, u66_13, u66_15, u66_16, u66_19, u66_20, u66_23, u66_24, u66_25, u66_26, u66_27, u66_30, u66_33, u66_34, u66_37, u66_38, u66_39, u66_40, u66_43, u66_46, u66_48, u66_51, u66_52, u66_53, u66_56, u66_59, u66_62, u66_65, u66_66, wr_id, rng, rngp, if_pos, if_neg, if_true, if_false, reduceCtorEq, true_and, and_true, and_self, Option.toList_some, Option.toList_none, List.cons_append, List.nil_append, Int.toNat_natCast]
  rfl
theorem w_send {sc : av_S} {d : Nat} {h : av_H} {w n : Nat} {σ : sS} {v : Int} (C : CW h w σ) (hn : n < 8) (hr : ∀ t i, fed σ n t i = true → (sr σ t i).length < 60) : ∃ h', (∀ Q, WP sc (d + 2) 67 0 [(0, .inr (.inl w)), (1, .inl (n : Int)), (2, .inl v)] [] h Q ↔ Q none h') ∧ CW h' w (sSend σ n v) ∧ Fr h h' (w + 2) (w + 162) := by
  obtain ⟨z1, z2⟩ := C.sz
  have one : ∀ (t i : Nat) (hk : av_H), n < t → t < sN σ → i < 2 → CW hk w (sP σ n v t i) → Fr h hk (w + 2) (w + 162) → ∃ h', (∀ Q, WP sc (d + 2) 67 15 [(0, .inr (.inl w)), (1, .inl (n : Int)), (2, .inl v), (3, .inl (t : Int)), (4, .inl (i : Int))] [] hk Q ↔ WP sc (d + 2) 67 15 [(0, .inr (.inl w)), (1, .inl (n : Int)), (2, .inl v), (3, .inl (t : Int)), (4, .inl ((i + 1 : Nat) : Int))] [] h' Q) ∧ CW h' w (sP σ n v t (i + 1)) ∧ Fr h h' (w + 2) (w + 162) := by
    intro t i hk h1 h2 hi C1 F1
    obtain ⟨⟨k0, k1, k2, k3⟩, ⟨i1, -⟩, -, cn, -⟩ := id C1
    have N1 := cn t h2
    have k3' := k3 t (by omega)
    obtain ⟨pa, la, K, P, L, I, S, R, p, l⟩ := N1.to
    have a0 := K.1
    have f0 : ∀ Q, WP sc (d + 1) 6 0 [(0, .inr (.inl (w + 2 + 20 * t))), (1, .inl (n : Int)), (2, .inl (i : Int))] [] hk Q ↔ Q (some (.inl (bI (fed σ n t i)))) hk := by
      intro Q
      refine (n_isFedBy (d := d) (i := i) (n := (n : Int)) N1 hi Q).trans ?_
      rw [show decide (i < nin (sf (sP σ n v t i) t 0) ∧ sf (sP σ n v t i) t (1 + i) = (n : Int)) = fed σ n t i from decide_eq_decide.mpr ⟨fun q => ⟨h1, h2, q⟩, fun q => q.2.2⟩]
    have hrow : sr (sP σ n v t i) t i = sr σ t i := by rw [sr_sP, if_neg (by omega)]
    have rest : ∀ a r, ¬ (a = t ∧ r = i) → sr (sP σ n v t (i + 1)) a r = sr (sP σ n v t i) a r := by
      intro a r e
      rw [sr_sP, sr_sP]
      by_cases e2 : fed σ n a r = true ∧ (a < t ∨ a = t ∧ r < i)
      · rw [if_pos e2, if_pos ⟨e2.1, by omega⟩]
      · rw [if_neg e2, if_neg (fun q => e2 ⟨q.1, by omega⟩)]
    rcases Bool.eq_false_or_eq_true (fed σ n t i) with e1 | e1 <;> rw [e1] at f0
    · have RR : RowIs hk (w + 2 + 20 * t + 2 + 2 * i) 60 (sr σ t i) := by rw [← hrow]; exact N1.ch hi
      obtain ⟨g, w1, R1, F2⟩ := r_put (sc := sc) (d := d) (v := v) RR (hr t i e1) (by omega)
      have N2 := N1.chan hi (F2.wd (Nat.le_refl _) (by omega)) R1
      have C2 := C1.node (by omega) (F2.wd (by omega) (by omega)) N2 (fun _ => rfl)
      refine ⟨g, fun Q => ?_, C2.cg (fun _ _ => rfl) (fun a ha k => ?_) (fun a ha k => ?_), F1.tr (F2.wd (by omega) (by omega))⟩
      · have ch : ∀ Q, WP sc (d + 1) 5 0 [(0, .inr (.inl (w + 2 + 20 * t))), (1, .inl (i : Int))] [] hk Q ↔ Q (some (.inr (.inl (w + 2 + 20 * t + 2 + 2 * i)))) hk := by
          intro Q
          refine (n_channel K Q).trans ?_
          have e : (if (i : Int) = 1 then w + 2 + 20 * t + 4 else w + 2 + 20 * t + 2) = w + 2 + 20 * t + 2 + 2 * i := by split <;> omega
          rw [e]
        have m1 : (kd hk (w + 2 + 20 * t + 2 + 2 * i)).1 = 3 := RR.1.1
        rw [u67_15]
        simp (disch := omega) only [u67_0, u67_1, u67_2, u67_3, u67_5, u67_6, u67_9, u67_12, u67_13, u67_17, u67_18, u67_21, u67_22, u67_25, u67_26, u67_27, u67_28, u67_30, u67_33, u67_36, u67_37, u67_40, u67_41, u67_42, u67_44, u67_47, u67_48, u67_51, u67_54, u67_57, u67_60, u67_63, k0, k1, k2, k3', a0, f0, ch, m1, w1, bI_t, true_or, or_true, wr_id, rng, rngp, if_pos, if_neg, if_true, if_false, reduceCtorEq, true_and, and_true, and_self, Option.toList_some, Option.toList_none, List.cons_append, List.nil_append, Int.toNat_natCast]
        rfl
      · show sf σ a k = if a = t then sf σ t k else sf σ a k
        by_cases e : a = t
        · rw [if_pos e, e]
        · rw [if_neg e]
      · show sr (sP σ n v t (i + 1)) a k = if a = t then (if k = i then sr σ t i ++ [v] else sr (sP σ n v t i) t k) else sr (sP σ n v t i) a k
        by_cases e : a = t
        · rw [if_pos e]
          by_cases ek : k = i
          · rw [if_pos ek, e, ek, sr_sP, if_pos ⟨e1, Or.inr ⟨rfl, by omega⟩⟩]
          · rw [if_neg ek, e]
            exact rest t k (fun q => ek q.2)
        · rw [if_neg e]
          exact rest a k (fun q => e q.1)
    · refine ⟨hk, fun Q => ?_, C1.cg (fun _ _ => rfl) (fun a ha k => rfl) (fun a ha k => ?_), F1⟩
      · rw [u67_15]
        simp (disch := omega) only [u67_0, u67_1, u67_2, u67_3, u67_5, u67_6, u67_9, u67_12, u67_13, u67_17, u67_18, u67_21, u67_22, u67_25, u67_26, u67_27, u67_28, u67_30, u67_33, u67_36, u67_37, u67_40, u67_41, u67_42, u67_44, u67_47, u67_48, u67_51, u67_54, u67_57, u67_60, u67_63, k0, k1, k2, k3', a0, f0, bI_f, true_or, or_true, wr_id, rng, rngp, if_pos, if_neg, if_true, if_false, reduceCtorEq, true_and, and_true, and_self, Option.toList_some, Option.toList_none, List.cons_append, List.nil_append, Int.toNat_natCast]
        rfl
      · by_cases e : a = t ∧ k = i
        · obtain ⟨rfl, rfl⟩ := e
          rw [sr_sP, sr_sP, if_neg (fun q => by rw [e1] at q; exact absurd q.1 (by decide)), if_neg (fun q => by rw [e1] at q; exact absurd q.1 (by decide))]
        · exact rest a k e
  have lp : ∀ (u t : Nat) (hk : av_H), u = sN σ - t → n < t → CW hk w (sP σ n v t 0) → Fr h hk (w + 2) (w + 162) → WP sc (d + 2) 67 4 [(0, .inr (.inl w)), (1, .inl (n : Int)), (2, .inl v), (3, .inl (t : Int))] [] hk (fun r h' => r = none ∧ CW h' w (sSend σ n v) ∧ Fr h h' (w + 2) (w + 162)) := by
    intro u
    induction u with
    | zero =>
      intro t hk hu h1 C1 F1
      obtain ⟨⟨k0, -⟩, ⟨i1, -⟩, -⟩ := id C1
      have e0 : sg (sP σ n v t 0) 0 = sg σ 0 := rfl
      rw [u67_4]
      simp (disch := omega) only [u67_0, u67_1, u67_2, u67_3, u67_5, u67_6, u67_9, u67_12, u67_13, u67_17, u67_18, u67_21, u67_22, u67_25, u67_26, u67_27, u67_28, u67_30, u67_33, u67_36, u67_37, u67_40, u67_41, u67_42, u67_44, u67_47, u67_48, u67_51, u67_54, u67_57, u67_60, u67_63, k0, i1, e0, wr_id, rng, rngp, if_pos, if_neg, if_true, if_false, reduceCtorEq, true_and, and_true, and_self, Option.toList_some, Option.toList_none, List.cons_append, List.nil_append, Int.toNat_natCast]
      refine ⟨C1.cg (fun _ _ => rfl) (fun a ha k => rfl) (fun a ha k => ?_), F1⟩
      show (if fed σ n a k = true then sr σ a k ++ [v] else sr σ a k) = _
      rw [sr_sP]
      by_cases e2 : fed σ n a k = true
      · have q3 := fed_lt e2
        rw [if_pos e2, if_pos ⟨e2, by omega⟩]
      · rw [if_neg e2, if_neg (fun q => e2 q.1)]
    | succ u ih =>
      intro t hk hu h1 C1 F1
      have ht : t < sN σ := by omega
      obtain ⟨g1, w1, C2, F2⟩ := one t 0 hk h1 ht (by omega) C1 F1
      obtain ⟨g2, w2, C3, F3⟩ := one t 1 g1 h1 ht (by omega) C2 F2
      obtain ⟨⟨k0, -⟩, ⟨i1, -⟩, -⟩ := id C1
      have e0 : sg (sP σ n v t 0) 0 = sg σ 0 := rfl
      have w1' := w1 (fun r h' => r = none ∧ CW h' w (sSend σ n v) ∧ Fr h h' (w + 2) (w + 162))
      have w2' := w2 (fun r h' => r = none ∧ CW h' w (sSend σ n v) ∧ Fr h h' (w + 2) (w + 162))
      have C4 : CW g2 w (sP σ n v (t + 1) 0) := by
        refine C3.cg (fun _ _ => rfl) (fun a ha k => rfl) (fun a ha k => ?_)
        rw [sr_sP, sr_sP]
        by_cases e2 : fed σ n a k = true
        · have q3 := fed_lt e2
          have q4 := nin_le (sf σ a 0)
          by_cases q5 : a < t + 1
          · rw [if_pos ⟨e2, Or.inl q5⟩, if_pos ⟨e2, by omega⟩]
          · rw [if_neg (fun q => by omega), if_neg (fun q => by omega)]
        · rw [if_neg (fun q => e2 q.1), if_neg (fun q => e2 q.1)]
      have nx := ih (t + 1) g2 (by omega) (by omega) C4 F3
      rw [u67_4]
      simp (disch := omega) only [u67_0, u67_1, u67_2, u67_3, u67_5, u67_6, u67_9, u67_12, u67_13, u67_17, u67_18, u67_21, u67_22, u67_25, u67_26, u67_27, u67_28, u67_30, u67_33, u67_36, u67_37, u67_40, u67_41, u67_42, u67_44, u67_47, u67_48, u67_51, u67_54, u67_57, u67_60, u67_63, k0, i1, e0, wr_id, rng, rngp, if_pos, if_neg, if_true, if_false, reduceCtorEq, true_and, and_true, and_self, Option.toList_some, Option.toList_none, List.cons_append, List.nil_append, Int.toNat_natCast]
      refine w1'.mpr (w2'.mpr ?_)
      rw [u67_15]
      simp (disch := omega) only [u67_0, u67_1, u67_2, u67_3, u67_5, u67_6, u67_9, u67_12, u67_13, u67_17, u67_18, u67_21, u67_22, u67_25, u67_26, u67_27, u67_28, u67_30, u67_33, u67_36, u67_37, u67_40, u67_41, u67_42, u67_44, u67_47, u67_48, u67_51, u67_54, u67_57, u67_60, u67_63, wr_id, rng, rngp, if_pos, if_neg, if_true, if_false, reduceCtorEq, true_and, and_true, and_self, Option.toList_some, Option.toList_none, List.cons_append, List.nil_append, Int.toNat_natCast]
      rw [show (t : Int) + 1 = ((t + 1 : Nat) : Int) by omega]
      exact nx
  have big : WP sc (d + 2) 67 0 [(0, .inr (.inl w)), (1, .inl (n : Int)), (2, .inl v)] [] h (fun r h' => r = none ∧ CW h' w (sSend σ n v) ∧ Fr h h' (w + 2) (w + 162)) := by
    have C1 : CW h w (sP σ n v (n + 1) 0) := by
      refine C.cg (fun _ _ => rfl) (fun a ha k => rfl) (fun a ha k => ?_)
      rw [sr_sP, if_neg]
      rintro ⟨q1, q2⟩
      have q3 := fed_lt q1
      omega
    have := lp _ (n + 1) h rfl (by omega) C1 Fr.rf
    simp (disch := omega) only [u67_0, u67_1, u67_2, u67_3, u67_5, u67_6, u67_9, u67_12, u67_13, u67_17, u67_18, u67_21, u67_22, u67_25, u67_26, u67_27, u67_28, u67_30, u67_33, u67_36, u67_37, u67_40, u67_41, u67_42, u67_44, u67_47, u67_48, u67_51, u67_54, u67_57, u67_60, u67_63, wr_id, rng, rngp, if_pos, if_neg, if_true, if_false, reduceCtorEq, true_and, and_true, and_self, Option.toList_some, Option.toList_none, List.cons_append, List.nil_append, Int.toNat_natCast]
    exact this
  obtain ⟨r, h', hw, rfl, b⟩ := big.evE
  exact ⟨h', hw, b⟩
