/-! the works of the class go on -/
theorem CW.cg6 {h : av_H} {w : Nat} {σ τ : sS} (C : CW h w σ) (h1 : ∀ k, k < 9 → k ≠ 6 → sg τ k = sg σ k) (h2 : ∀ n, n < sN σ → ∀ k, sf τ n k = sf σ n k) (h3 : ∀ n, n < sN σ → ∀ k, sr τ n k = sr σ n k) : CW h w τ := by
  have C2 : CW h w (ug σ 6 (sg τ 6)) := by
    obtain ⟨K, I, hN, cn, nw⟩ := C
    exact ⟨K, I, hN, cn, nw⟩
  refine C2.cg (fun k hk => ?_) h2 h3
  rw [sg_ug]
  by_cases e : k = 6
  · rw [if_pos e, e]
  · rw [if_neg e]; exact h1 k hk e
theorem CW.set {h : av_H} {w k j : Nat} {σ : sS} {z : Int} (C : CW h w σ) (hk : (k = 3 ∧ j = 1) ∨ (k = 4 ∧ j = 2) ∨ (k = 5 ∧ j = 3) ∨ (k = 6 ∧ j = 4) ∨ (k = 7 ∧ j = 5) ∨ (k = 8 ∧ j = 7) ∨ (k = 9 ∧ j = 8)) : CW (sI h w k z) w (ug σ j z) := by
  have F : Fr h (sI h w k z) w (w + 1) := fr1
  obtain ⟨K, ⟨i1, i2, i3, i4, i5, i6, i7, i8, i9⟩, hN, cn, nw⟩ := C
  have ex : ∀ q, q ≠ k → gI (sI h w k z) w q = gI h w q := fun q hq => gI_sI_ne hq
  have eq : gI (sI h w k z) w k = z := gI_sI_eq rfl
  have hj : j ≠ 0 := by clear ex eq; omega
  have e0 : sg (ug σ j z) 0 = sg σ 0 := by rw [sg_ug, if_neg (fun e => hj e.symm)]
  have eN : sN (ug σ j z) = sN σ := by unfold sN; rw [e0]
  have eJ : sJoins (ug σ j z) = sJoins σ := by unfold sJoins; rw [eN]; rfl
  have z2 : sN σ ≤ 8 := by unfold sN; clear ex eq; omega
  refine ⟨K, ?_, by rw [e0]; exact hN, fun n hn => (cn n (by rw [← eN]; exact hn)).fr F (by clear ex eq; omega), fun n hn => (nw n hn).fr F (by clear ex eq; omega)⟩
  unfold WI
  rw [e0, eJ]
  rcases hk with ⟨rfl, rfl⟩ | ⟨rfl, rfl⟩ | ⟨rfl, rfl⟩ | ⟨rfl, rfl⟩ | ⟨rfl, rfl⟩ | ⟨rfl, rfl⟩ | ⟨rfl, rfl⟩
  · exact ⟨(ex 1 (by decide)).trans i1, (ex 2 (by decide)).trans i2, eq, (ex 4 (by decide)).trans i4, (ex 5 (by decide)).trans i5, (ex 6 (by decide)).trans i6, (ex 7 (by decide)).trans i7, (ex 8 (by decide)).trans i8, (ex 9 (by decide)).trans i9⟩
  · exact ⟨(ex 1 (by decide)).trans i1, (ex 2 (by decide)).trans i2, (ex 3 (by decide)).trans i3, eq, (ex 5 (by decide)).trans i5, (ex 6 (by decide)).trans i6, (ex 7 (by decide)).trans i7, (ex 8 (by decide)).trans i8, (ex 9 (by decide)).trans i9⟩
  · exact ⟨(ex 1 (by decide)).trans i1, (ex 2 (by decide)).trans i2, (ex 3 (by decide)).trans i3, (ex 4 (by decide)).trans i4, eq, (ex 6 (by decide)).trans i6, (ex 7 (by decide)).trans i7, (ex 8 (by decide)).trans i8, (ex 9 (by decide)).trans i9⟩
  · exact ⟨(ex 1 (by decide)).trans i1, (ex 2 (by decide)).trans i2, (ex 3 (by decide)).trans i3, (ex 4 (by decide)).trans i4, (ex 5 (by decide)).trans i5, eq, (ex 7 (by decide)).trans i7, (ex 8 (by decide)).trans i8, (ex 9 (by decide)).trans i9⟩
  · exact ⟨(ex 1 (by decide)).trans i1, (ex 2 (by decide)).trans i2, (ex 3 (by decide)).trans i3, (ex 4 (by decide)).trans i4, (ex 5 (by decide)).trans i5, (ex 6 (by decide)).trans i6, eq, (ex 8 (by decide)).trans i8, (ex 9 (by decide)).trans i9⟩
  · exact ⟨(ex 1 (by decide)).trans i1, (ex 2 (by decide)).trans i2, (ex 3 (by decide)).trans i3, (ex 4 (by decide)).trans i4, (ex 5 (by decide)).trans i5, (ex 6 (by decide)).trans i6, (ex 7 (by decide)).trans i7, eq, (ex 9 (by decide)).trans i9⟩
  · exact ⟨(ex 1 (by decide)).trans i1, (ex 2 (by decide)).trans i2, (ex 3 (by decide)).trans i3, (ex 4 (by decide)).trans i4, (ex 5 (by decide)).trans i5, (ex 6 (by decide)).trans i6, (ex 7 (by decide)).trans i7, (ex 8 (by decide)).trans i8, eq⟩
theorem w_allWhole {sc : av_S} {d : Nat} {h : av_H} {w : Nat} {σ : sS} (C : CW h w σ) (h9 : ∀ n, n < sN σ → sf σ n 9 = 0 ∨ sf σ n 9 = 1) (Q : Option av_V → av_H → Prop) : WP sc (d + 1) 68 0 [(0, .inr (.inl w))] [] h Q ↔ Q (some (.inl (bI (sAll σ)))) h := by
  obtain ⟨z1, z2⟩ := C.sz
  obtain ⟨⟨k0, k1, k2, k3⟩, ⟨i1, -⟩, -, cn, -⟩ := id C
  have lp : ∀ (u t : Nat), u = sN σ - t → t ≤ sN σ → (∀ s, s < t → sf σ s 9 = 1) → (WP sc (d + 1) 68 2 [(0, .inr (.inl w)), (1, .inl (t : Int))] [] h Q ↔ Q (some (.inl (bI (sAll σ)))) h) := by
    intro u
    induction u with
    | zero =>
      intro t hu h1 h2
      have : sAll σ = true := List.all_eq_true.mpr (fun s q => decide_eq_true (h2 s (by have := List.mem_range.mp q; omega)))
      rw [this, u68_2]
      simp (disch := omega) only [u68_0, u68_1, u68_3, u68_4, u68_7, u68_10, u68_11, u68_14, u68_15, u68_16, u68_19, u68_22, u68_23, u68_24, u68_27, u68_30, u68_31, k0, i1, bI_t, true_or, or_true, wr_id, rng, rngp, if_pos, if_neg, if_true, if_false, reduceCtorEq, true_and, and_true, and_self, Option.toList_some, Option.toList_none, List.cons_append, List.nil_append, Int.toNat_natCast]
    | succ u ih =>
      intro t hu h1 h2
      have ht : t < sN σ := by omega
      have k3' := k3 t (by omega)
      obtain ⟨pa, la, K, P, L, I, -⟩ := (cn t ht).to
      have a0 := K.1
      have j9 := I.2.2.2.2.2.2.2.2.2
      rw [u68_2]
      rcases h9 t ht with c | c
      · have : sAll σ = false := Bool.eq_false_iff.mpr (fun q => by have := of_decide_eq_true (List.all_eq_true.mp q t (List.mem_range.mpr ht)); omega)
        rw [this]
        simp (disch := omega) only [u68_0, u68_1, u68_3, u68_4, u68_7, u68_10, u68_11, u68_14, u68_15, u68_16, u68_19, u68_22, u68_23, u68_24, u68_27, u68_30, u68_31, k0, k1, k2, k3', i1, a0, j9, c, bI_f, true_or, or_true, wr_id, rng, rngp, if_pos, if_neg, if_true, if_false, reduceCtorEq, true_and, and_true, and_self, Option.toList_some, Option.toList_none, List.cons_append, List.nil_append, Int.toNat_natCast]
      · rw [← ih (t + 1) (by omega) (by omega) (fun s hs => by by_cases e : s = t; (rw [e]; exact c); exact h2 s (by omega))]
        simp (disch := omega) only [u68_0, u68_1, u68_3, u68_4, u68_7, u68_10, u68_11, u68_14, u68_15, u68_16, u68_19, u68_22, u68_23, u68_24, u68_27, u68_30, u68_31, k0, k1, k2, k3', i1, a0, j9, c, true_or, or_true, wr_id, rng, rngp, if_pos, if_neg, if_true, if_false, reduceCtorEq, true_and, and_true, and_self, Option.toList_some, Option.toList_none, List.cons_append, List.nil_append, Int.toNat_natCast]
        rfl
  rw [← lp _ 0 rfl (by omega) (fun s hs => by omega)]
  simp (disch := omega) only [u68_0, u68_1, u68_3, u68_4, u68_7, u68_10, u68_11, u68_14, u68_15, u68_16, u68_19, u68_22, u68_23, u68_24, u68_27, u68_30, u68_31, wr_id, rng, rngp, if_pos, if_neg, if_true, if_false, reduceCtorEq, true_and, and_true, and_self, Option.toList_some, Option.toList_none, List.cons_append, List.nil_append, Int.toNat_natCast]
  rfl
theorem w_settle {sc : av_S} {d : Nat} {h : av_H} {w : Nat} {σ : sS} (C : CW h w σ) (h9 : ∀ n, n < sN σ → sf σ n 9 = 1 ∧ sf σ n 8 = 0) (hb : ∀ n, n < 8 → (sr σ n 5).length ≤ 128 ∧ (0 ≤ sf σ n 24 ∧ sf σ n 24 ≤ 1000)) (h3 : 0 ≤ sg σ 3 ∧ sg σ 3 ≤ 999999999) (h8 : 0 ≤ sg σ 8 ∧ sg σ 8 ≤ 999000000) : ∃ h', (∀ Q, WP sc (d + 3) 69 0 [(0, .inr (.inl w))] [] h Q ↔ Q none h') ∧ CW h' w (sWhole σ) ∧ Fr h h' w (w + 162) := by
  obtain ⟨z1, z2⟩ := C.sz
  obtain ⟨⟨k0, k1, k2, k3⟩, ⟨i1, i2, i3, i4, i5, -⟩, -⟩ := id C
  obtain ⟨τ, hτ⟩ : ∃ τ, τ = ug (ug (ug σ 3 (sg σ 3 + 1)) 4 0) 6 0 := ⟨_, rfl⟩
  have C1 : CW (sI (sI h w 6 0) w 5 (sg σ 3 + 1)) w τ := by
    rw [hτ]
    refine ((C.set (k := 6) (j := 4) (z := 0) (by omega)).set (k := 5) (j := 3) (z := sg σ 3 + 1) (by omega)).cg6 (fun k hk h6 => ?_) (fun _ _ _ => rfl) (fun _ _ _ => rfl)
    simp only [sg_ug]
    rw [if_neg h6]
    by_cases e : k = 3
    · rw [if_pos e, if_neg (by omega), if_pos e]
    · rw [if_neg e, if_neg e]
  have F1 : Fr h (sI (sI h w 6 0) w 5 (sg σ 3 + 1)) w (w + 162) := (fr1.tr fr1).wd (Nat.le_refl _) (by omega)
  have g8 : sg τ 8 = sg σ 8 := by rw [hτ]; rfl
  have gN : sN τ = sN σ := by rw [hτ]; rfl
  have tf : ∀ n k, sf τ n k = sf σ n k := by intro n k; rw [hτ]; rfl
  have tr : ∀ n k, sr τ n k = sr σ n k := by intro n k; rw [hτ]; rfl
  have sgs := @settles_g τ (fun n hn => by rw [tr, tf]; exact hb n hn)
  have lp : ∀ (u n : Nat) (hk : av_H), u = sN σ - n → n ≤ sN σ → CW hk w (sSettles n τ) → Fr h hk w (w + 162) → WP sc (d + 3) 69 17 [(0, .inr (.inl w)), (1, .inl (n : Int))] [] hk (fun r h' => r = none ∧ CW h' w (sSettles (sN σ) τ) ∧ Fr h h' w (w + 162)) := by
    intro u
    induction u with
    | zero =>
      intro n hk hu hn C2 F2
      have e : n = sN σ := by omega
      subst e
      obtain ⟨⟨j0, -⟩, ⟨y1, -⟩, -⟩ := id C2
      obtain ⟨s1, s2, s3⟩ := sgs (k := sN σ) z2
      have e0 : sg (sSettles (sN σ) τ) 0 = sg σ 0 := by rw [s1 0 (by decide) (by decide), hτ]; rfl
      rw [u69_17]
      simp (disch := omega) only [u69_0, u69_1, u69_2, u69_5, u69_6, u69_7, u69_10, u69_11, u69_12, u69_15, u69_16, u69_18, u69_19, u69_22, u69_25, u69_26, u69_27, u69_30, u69_31, u69_34, u69_35, u69_36, u69_39, u69_40, u69_43, u69_46, u69_49, j0, y1, e0, wr_id, rng, rngp, if_pos, if_neg, if_true, if_false, reduceCtorEq, true_and, and_true, and_self, Option.toList_some, Option.toList_none, List.cons_append, List.nil_append, Int.toNat_natCast]
      exact ⟨C2, F2⟩
    | succ u ih =>
      intro n hk hu hn C2 F2
      have hn' : n < sN σ := by omega
      obtain ⟨s1, s2, s3⟩ := sgs (k := n) (by omega)
      have e0 : sg (sSettles n τ) 0 = sg σ 0 := by rw [s1 0 (by decide) (by decide), hτ]; rfl
      have eN : sN (sSettles n τ) = sN σ := by unfold sN; rw [e0]
      obtain ⟨⟨j0, j1, j2, j3⟩, ⟨y1, y2, y3, y4, y5, y6, y7, y8, y9⟩, -, cn, -⟩ := id C2
      have N := cn n (by rw [eN]; exact hn')
      obtain ⟨v1, v2⟩ := @settles_n τ n n (Nat.le_refl _)
      have j3' := j3 n (by omega)
      have kn : (kd hk (w + 2 + 20 * n)).1 = 1 := by obtain ⟨pa, la, K, -⟩ := N.to; exact K.1
      obtain ⟨h1, ws, N1, F3⟩ := n_settle (sc := sc) (d := d) N (by rw [v1, tf]; exact (h9 n hn').1) (by rw [v1, tf]; exact (h9 n hn').2)
      have C3 := C2.node (by omega) F3 N1 (fun _ => rfl)
      have bl : (sr (sSettles n τ) n 5).length ≤ 128 := by rw [v2, tr]; exact (hb n (by omega)).1
      obtain ⟨LL, hLL⟩ : ∃ LL : Nat, LL = (sr (sSettles n τ) n 5).length - (100 - (sr (sSettles n τ) n 6).length) := ⟨_, rfl⟩
      have C4 := C3.set (k := 9) (j := 8) (z := sg (sSettles n τ) 8 + (LL : Int)) (by omega)
      have F4 : Fr h1 (sI h1 w 9 (sg (sSettles n τ) 8 + (LL : Int))) w (w + 1) := fr1
      have F5 := (F2.tr (F3.wd (by omega) (by omega))).tr (F4.wd (Nat.le_refl _) (by omega))
      have C5 : CW (sI h1 w 9 (sg (sSettles n τ) 8 + (LL : Int))) w (sSettles (n + 1) τ) := by
        refine C4.cg6 (fun k hk h6 => ?_) (fun t _ k => ?_) (fun t _ k => ?_)
        · show sg (sSettle (sSettles n τ) n) k = _
          rw [sg_settle, if_neg h6, sg_ug]
          by_cases e : k = 8
          · rw [if_pos e, if_pos e, hLL]
          · rw [if_neg e, if_neg e]; rfl
        · show sf (sSettle (sSettles n τ) n) t k = _
          rw [sf_settle]
          rfl
        · show sr (sSettle (sSettles n τ) n) t k = _
          rw [sr_settle]
          rfl
      have nx := ih (n + 1) _ (by omega) (by omega) C5 F5
      have x1 : (kd h1 w).1 = 5 := C3.1.1
      rw [← hLL] at ws
      have ws' : ∀ Q, WP sc (d + 2) 20 0 [(0, .inr (.inl (w + 2 + 20 * n)))] [] hk Q ↔ Q (some (.inl (LL : Int))) h1 := ws
      rw [u69_17]
      clear C3 C4 C5 N N1
      simp (disch := omega) only [u69_0, u69_1, u69_2, u69_5, u69_6, u69_7, u69_10, u69_11, u69_12, u69_15, u69_16, u69_18, u69_19, u69_22, u69_25, u69_26, u69_27, u69_30, u69_31, u69_34, u69_35, u69_36, u69_39, u69_40, u69_43, u69_46, u69_49, j0, j1, j2, j3', y1, y9, e0, kn, ws', x1, true_or, or_true, wr_id, rng, rngp, if_pos, if_neg, if_true, if_false, reduceCtorEq, true_and, and_true, and_self, Option.toList_some, Option.toList_none, List.cons_append, List.nil_append, Int.toNat_natCast]
      rw [show (n : Int) + 1 = ((n + 1 : Nat) : Int) by omega]
      exact nx
  have big : WP sc (d + 3) 69 0 [(0, .inr (.inl w))] [] h (fun r h' => r = none ∧ CW h' w (sSettles (sN σ) τ) ∧ Fr h h' w (w + 162)) := by
    have := lp _ 0 _ rfl (by omega) C1 F1
    have e5 : gI (sI h w 6 0) w 5 = sg σ 3 := by rw [gI_sI_ne (by decide)]; exact i5
    clear C1 lp
    simp (disch := omega) only [u69_0, u69_1, u69_2, u69_5, u69_6, u69_7, u69_10, u69_11, u69_12, u69_15, u69_16, u69_18, u69_19, u69_22, u69_25, u69_26, u69_27, u69_30, u69_31, u69_34, u69_35, u69_36, u69_39, u69_40, u69_43, u69_46, u69_49, k0, kd_sI, e5, true_or, or_true, wr_id, rng, rngp, if_pos, if_neg, if_true, if_false, reduceCtorEq, true_and, and_true, and_self, Option.toList_some, Option.toList_none, List.cons_append, List.nil_append, Int.toNat_natCast]
    exact this
  obtain ⟨r, h', hw, rfl, b1, b2⟩ := big.evE
  refine ⟨h', hw, ?_, b2⟩
  unfold sWhole
  rw [← hτ]
  exact b1
