theorem sAll_s (σ : sS) (k : Nat) : ((List.range (k + 1)).all fun n => decide (sf σ n 9 = 1)) = (((List.range k).all fun n => decide (sf σ n 9 = 1)) && decide (sf σ k 9 = 1)) := by
  rw [List.range_succ, List.all_append]
  simp
theorem m_step {sc : av_S} {d : Nat} {h : av_H} {x : Nat} {σ : sS} (K : MK h x) (H : MR h x σ) (ok : ∀ k, k ≤ sN σ → okS (sActs k σ)) (hfr : ∀ n, sN σ ≤ n → n < 8 → (sr (sActs (sN σ) σ) n 6).length ≤ 100 ∧ (sr (sActs (sN σ) σ) n 5).length ≤ 128 ∧ (0 ≤ sf (sActs (sN σ) σ) n 24 ∧ sf (sActs (sN σ) σ) n 24 ≤ 1000)) : ∃ h', (∀ Q, WP sc (d + 8) 120 0 [(0, .inr (.inl x))] [] h Q ↔ Q none h') ∧ MR h' x (sStep σ) ∧ MF h h' x := by
  obtain ⟨k0, ⟨k1, k2⟩, -⟩ := id K
  have ok0 := (ok 0 (by omega))
  obtain ⟨b0, b1, b4, b3, b8, -⟩ := ok0
  have b0 : 0 ≤ sg σ 0 ∧ sg σ 0 ≤ 8 := b0
  have b1 : 0 ≤ sg σ 1 ∧ sg σ 1 ≤ 999999999 := b1
  have b4 : sg σ 4 = 0 ∨ sg σ 4 = 1 := b4
  have hsN : (sN σ : Int) = sg σ 0 := by unfold sN; omega
  obtain ⟨h1, hw1, hm1, hf1⟩ : ∃ h', (∀ Q, WP sc (d + 8) 120 0 [(0, .inr (.inl x))] [] h Q ↔ WP sc (d + 8) 120 23 [(0, .inr (.inl x)), (1, .inl ((sN σ : Nat) : Int))] [] h' Q) ∧ MR h' x (sActs (sN σ) σ) ∧ MF h h' x := by
    have loop : ∀ (t n : Nat) (hk : av_H), t = sN σ - n → n ≤ sN σ → MF h hk x → MR hk x (sActs n σ) → ∃ h', (∀ Q, WP sc (d + 8) 120 2 [(0, .inr (.inl x)), (1, .inl (n : Int))] [] hk Q ↔ WP sc (d + 8) 120 23 [(0, .inr (.inl x)), (1, .inl ((sN σ : Nat) : Int))] [] h' Q) ∧ MR h' x (sActs (sN σ) σ) ∧ MF h h' x := by
      intro t
      induction t with
      | zero =>
        intro n hk ht hn hf hm
        obtain ⟨k0', ⟨k1', k2'⟩, -⟩ := K.mf hf
        have g0 := hm.g (i := 0) (k := 0) (by omega) rfl
        rw [sg_acts] at g0
        have e : n = sN σ := by omega
        subst e
        refine ⟨hk, fun Q => ?_, hm, hf⟩
        rw [u120_2]
        simp (disch := omega) only [u120_0, u120_1, u120_3, u120_4, u120_7, u120_8, u120_9, u120_12, u120_13, u120_14, u120_17, u120_20, u120_24, u120_27, u120_28, u120_29, u120_30, u120_33, u120_34, u120_37, u120_38, u120_39, u120_40, u120_42, u120_43, u120_46, u120_47, u120_48, u120_51, u120_52, u120_55, u120_56, u120_59, u120_60, u120_63, u120_65, u120_66, u120_67, u120_68, u120_71, u120_72, u120_75, u120_76, u120_77, u120_80, u120_83, u120_84, u120_87, u120_88, u120_91, u120_92, u120_95, u120_96, u120_97, u120_98, u120_99, u120_100, u120_101, k0', k1', k2', g0, wr_id, rng, rngp, if_pos, if_neg, if_true, if_false, reduceCtorEq, true_and, and_true, and_self, Option.toList_some, Option.toList_none, List.cons_append, List.nil_append, Int.toNat_natCast]
      | succ t ih =>
        intro n hk ht hn hf hm
        obtain ⟨k0', ⟨k1', k2'⟩, -⟩ := id (K.mf hf)
        have g0 := hm.g (i := 0) (k := 0) (by omega) rfl
        rw [sg_acts] at g0
        obtain ⟨c0, c1, c4, c3, c8, cn⟩ := ok n hn
        have cn := cn n (by rw [sN_acts]; omega)
        obtain ⟨h2, hw2, hm2, hf2⟩ := @m_acts sc d hk x n _ (K.mf hf) hm c0 (by omega) (by omega) cn.1 cn.2.1
        obtain ⟨h3, hw3, hm3, hf3⟩ := ih (n + 1) h2 (by omega) (by omega) (hf.tr hf2) hm2
        refine ⟨h3, fun Q => ?_, hm3, hf3⟩
        rw [u120_2]
        simp (disch := omega) only [u120_0, u120_1, u120_3, u120_4, u120_7, u120_8, u120_9, u120_12, u120_13, u120_14, u120_17, u120_20, u120_24, u120_27, u120_28, u120_29, u120_30, u120_33, u120_34, u120_37, u120_38, u120_39, u120_40, u120_42, u120_43, u120_46, u120_47, u120_48, u120_51, u120_52, u120_55, u120_56, u120_59, u120_60, u120_63, u120_65, u120_66, u120_67, u120_68, u120_71, u120_72, u120_75, u120_76, u120_77, u120_80, u120_83, u120_84, u120_87, u120_88, u120_91, u120_92, u120_95, u120_96, u120_97, u120_98, u120_99, u120_100, u120_101, k0', k1', k2', g0, hw2, wr_id, rng, rngp, if_pos, if_neg, if_true, if_false, reduceCtorEq, true_and, and_true, and_self, Option.toList_some, Option.toList_none, List.cons_append, List.nil_append, Int.toNat_natCast]
        rw [show (n : Int) + 1 = ((n + 1 : Nat) : Int) by omega]
        exact hw3 Q
    obtain ⟨h3, hw3, hm3, hf3⟩ := loop _ 0 h rfl (by omega) MF.rf H
    refine ⟨h3, fun Q => ?_, hm3, hf3⟩
    simp only [u120_0, u120_1]
    exact hw3 Q
  have okE := ok (sN σ) (Nat.le_refl _)
  have hK1 := K.mf hf1
  obtain ⟨k0', ⟨k1', k2'⟩, -⟩ := id hK1
  generalize hτ : sActs (sN σ) σ = τ at *
  have t0 : sg τ 0 = sg σ 0 := by rw [← hτ, sg_acts]
  have t1 : sg τ 1 = sg σ 1 := by rw [← hτ, sg_acts]
  have t4 : sg τ 4 = sg σ 4 := by rw [← hτ, sg_acts]
  have tN : sN τ = sN σ := by unfold sN; rw [t0]
  have g0 := hm1.g (i := 0) (k := 0) (by omega) rfl
  have g1 := hm1.g (i := 1) (k := 1) (by omega) rfl
  have g4 := hm1.g (i := 4) (k := 4) (by omega) rfl
  rw [t0] at g0
  rw [t1] at g1
  rw [t4] at g4
  -- the second loop: nothing changes
  have lp2 : ∀ (t n : Nat) (b : Bool) (Q : Option av_V → av_H → Prop), t = sN σ - n → n ≤ sN σ → (b = true → sg σ 4 = 1) → (WP sc (d + 8) 120 41 [(0, .inr (.inl x)), (1, .inl (bI b)), (2, .inl (n : Int))] [] h1 Q ↔ WP sc (d + 8) 120 83 [(0, .inr (.inl x)), (1, .inl (bI (b && ((List.range (sN σ - n)).all fun j => decide (sf τ (n + j) 9 = 1))))), (2, .inl ((sN σ : Nat) : Int))] [] h1 Q) := by
    intro t
    induction t with
    | zero =>
      intro n b Q ht hn hb
      have e : n = sN σ := by omega
      subst e
      rw [u120_41, Nat.sub_self]
      simp (disch := omega) only [u120_0, u120_1, u120_3, u120_4, u120_7, u120_8, u120_9, u120_12, u120_13, u120_14, u120_17, u120_20, u120_23, u120_24, u120_27, u120_28, u120_29, u120_30, u120_33, u120_34, u120_37, u120_38, u120_39, u120_40, u120_42, u120_43, u120_46, u120_47, u120_48, u120_51, u120_52, u120_55, u120_56, u120_59, u120_60, u120_63, u120_65, u120_66, u120_67, u120_68, u120_71, u120_72, u120_75, u120_76, u120_77, u120_80, u120_84, u120_87, u120_88, u120_91, u120_92, u120_95, u120_96, u120_97, u120_98, u120_99, u120_100, u120_101, k0', k1', k2', g0, wr_id, rng, rngp, if_pos, if_neg, if_true, if_false, reduceCtorEq, true_and, and_true, and_self, Option.toList_some, Option.toList_none, List.cons_append, List.nil_append, Int.toNat_natCast]
      simp
    | succ t ih =>
      intro n b Q ht hn hb
      have e : (List.range (sN σ - n)).all (fun j => decide (sf τ (n + j) 9 = 1)) = (decide (sf τ n 9 = 1) && (List.range (sN σ - (n + 1))).all fun j => decide (sf τ (n + 1 + j) 9 = 1)) := by
        rw [show sN σ - n = (sN σ - (n + 1)) + 1 by omega, List.range_succ_eq_map, List.all_cons, List.all_map]
        congr 1
        congr 1
        funext j
        show decide (sf τ (n + (j + 1)) 9 = 1) = _
        rw [show n + (j + 1) = n + 1 + j by omega]
      rw [e, ← Bool.and_assoc]
      have i1 := ih (n + 1) (b && decide (sf τ n 9 = 1)) Q (by omega) (by omega) (fun q => hb (by simp at q; exact q.1))
      rw [← i1, u120_41]
      cases b with
      | false =>
        simp (disch := omega) only [u120_0, u120_1, u120_3, u120_4, u120_7, u120_8, u120_9, u120_12, u120_13, u120_14, u120_17, u120_20, u120_23, u120_24, u120_27, u120_28, u120_29, u120_30, u120_33, u120_34, u120_37, u120_38, u120_39, u120_40, u120_42, u120_43, u120_46, u120_47, u120_48, u120_51, u120_52, u120_55, u120_56, u120_59, u120_60, u120_63, u120_65, u120_66, u120_67, u120_68, u120_71, u120_72, u120_75, u120_76, u120_77, u120_80, u120_84, u120_87, u120_88, u120_91, u120_92, u120_95, u120_96, u120_97, u120_98, u120_99, u120_100, u120_101, k0', k1', k2', g0, bI_f, m_at, Bool.false_and, wr_id, rng, rngp, if_pos, if_neg, if_true, if_false, reduceCtorEq, true_and, and_true, and_self, Option.toList_some, Option.toList_none, List.cons_append, List.nil_append, Int.toNat_natCast]
        rw [show (n : Int) + 1 = ((n + 1 : Nat) : Int) by omega]
      | true =>
        have f9 := hm1.f (i := 10 + 30 * (n : Int) + 9) (n := n) (k := 9) (by omega) (by omega) (fun _ => Or.inl (by rw [t4]; exact hb rfl)) (by omega)
        simp (disch := omega) only [u120_0, u120_1, u120_3, u120_4, u120_7, u120_8, u120_9, u120_12, u120_13, u120_14, u120_17, u120_20, u120_23, u120_24, u120_27, u120_28, u120_29, u120_30, u120_33, u120_34, u120_37, u120_38, u120_39, u120_40, u120_42, u120_43, u120_46, u120_47, u120_48, u120_51, u120_52, u120_55, u120_56, u120_59, u120_60, u120_63, u120_65, u120_66, u120_67, u120_68, u120_71, u120_72, u120_75, u120_76, u120_77, u120_80, u120_84, u120_87, u120_88, u120_91, u120_92, u120_95, u120_96, u120_97, u120_98, u120_99, u120_100, u120_101, k0', k1', k2', g0, bI_t, m_at, f9, Bool.true_and, wr_id, rng, rngp, if_pos, if_neg, if_true, if_false, reduceCtorEq, true_and, and_true, and_self, Option.toList_some, Option.toList_none, List.cons_append, List.nil_append, Int.toNat_natCast]
        rw [show (n : Int) + 1 = ((n + 1 : Nat) : Int) by omega]
        by_cases c : sf τ n 9 = 1
        · simp [c, bI]
        · simp [c, bI]
  have hall : sAll τ = ((List.range (sN σ)).all fun j => decide (sf τ (0 + j) 9 = 1)) := by
    unfold sAll
    rw [tN]
    congr 1
    funext j
    rw [Nat.zero_add]
  have big : WP sc (d + 8) 120 0 [(0, .inr (.inl x))] [] h (fun r h' => r = none ∧ MR h' x (sStep σ) ∧ MF h h' x) := by
    rw [hw1]
    unfold sStep
    rw [hτ, hall]
    have l0 := fun Q => lp2 _ 0 (decide (sg σ 4 = 1)) Q rfl (by omega) (fun q => of_decide_eq_true q)
    rw [Nat.sub_zero] at l0
    have e0 : bI (decide (sg σ 4 = 1)) = sg σ 4 := by
      rcases b4 with q | q <;> simp [q, bI]
    rw [e0] at l0
    have mid : ∀ Q, WP sc (d + 8) 120 23 [(0, .inr (.inl x)), (1, .inl ((sN σ : Nat) : Int))] [] h1 Q ↔ WP sc (d + 8) 120 41 [(0, .inr (.inl x)), (1, .inl (sg σ 4)), (2, .inl ((0 : Nat) : Int))] [] h1 Q := by
      intro Q
      rcases b4 with q | q
      · simp (disch := omega) only [u120_0, u120_1, u120_3, u120_4, u120_7, u120_8, u120_9, u120_12, u120_13, u120_14, u120_17, u120_20, u120_23, u120_24, u120_27, u120_28, u120_29, u120_30, u120_33, u120_34, u120_37, u120_38, u120_39, u120_40, u120_42, u120_43, u120_46, u120_47, u120_48, u120_51, u120_52, u120_55, u120_56, u120_59, u120_60, u120_63, u120_65, u120_66, u120_67, u120_68, u120_71, u120_72, u120_75, u120_76, u120_77, u120_80, u120_83, u120_84, u120_87, u120_88, u120_91, u120_92, u120_95, u120_96, u120_97, u120_98, u120_99, u120_100, u120_101, k0', k1', k2', g4, q, wr_id, rng, rngp, if_pos, if_neg, if_true, if_false, reduceCtorEq, true_and, and_true, and_self, Option.toList_some, Option.toList_none, List.cons_append, List.nil_append, Int.toNat_natCast]
        rfl
      · simp (disch := omega) only [u120_0, u120_1, u120_3, u120_4, u120_7, u120_8, u120_9, u120_12, u120_13, u120_14, u120_17, u120_20, u120_23, u120_24, u120_27, u120_28, u120_29, u120_30, u120_33, u120_34, u120_37, u120_38, u120_39, u120_40, u120_42, u120_43, u120_46, u120_47, u120_48, u120_51, u120_52, u120_55, u120_56, u120_59, u120_60, u120_63, u120_65, u120_66, u120_67, u120_68, u120_71, u120_72, u120_75, u120_76, u120_77, u120_80, u120_83, u120_84, u120_87, u120_88, u120_91, u120_92, u120_95, u120_96, u120_97, u120_98, u120_99, u120_100, u120_101, k0', k1', k2', g4, q, wr_id, rng, rngp, if_pos, if_neg, if_true, if_false, reduceCtorEq, true_and, and_true, and_self, Option.toList_some, Option.toList_none, List.cons_append, List.nil_append, Int.toNat_natCast]
        rfl
    rw [mid, l0]
    generalize hA : ((List.range (sN σ)).all fun j => decide (sf τ (0 + j) 9 = 1)) = A at *
    by_cases c : sg σ 4 = 1 ∧ A = true
    · rw [if_pos c, c.2]
      simp only [c.1, decide_true, Bool.and_self, bI_t]
      obtain ⟨h2, hw2, hm2, hf2⟩ := @m_isWhole sc (d + 4) h1 x τ hK1 hm1 okE (fun n hn => by
        by_cases hlt : n < sN σ
        · have := okE.2.2.2.2.2 n (by rw [tN]; exact hlt)
          exact ⟨this.2.2.1, this.2.2.2.1, this.2.2.2.2⟩
        · exact hfr n (by omega) hn)
      have q0 := hf2.kd x
      have q1 := hf2.kd (x + 1)
      have q2 := hf2.gR x 0
      have w1 : sg (sWhole τ) 1 = sg σ 1 := by
        unfold sWhole
        rw [(@settles_g _ (fun n hn => by
          show (sr τ n 5).length ≤ 128 ∧ (0 ≤ sf τ n 24 ∧ sf τ n 24 ≤ 1000)
          by_cases hlt : n < sN σ
          · have := okE.2.2.2.2.2 n (by rw [tN]; exact hlt)
            exact this.2.2.2
          · exact (hfr n (by omega) hn).2) (sN τ) (by rw [tN]; omega)).1 1 (by omega) (by omega)]
        exact t1
      have g1' := hm2.g (i := 1) (k := 1) (by omega) rfl
      rw [w1] at g1'
      simp (disch := omega) only [u120_0, u120_1, u120_3, u120_4, u120_7, u120_8, u120_9, u120_12, u120_13, u120_14, u120_17, u120_20, u120_23, u120_24, u120_27, u120_28, u120_29, u120_30, u120_33, u120_34, u120_37, u120_38, u120_39, u120_40, u120_42, u120_43, u120_46, u120_47, u120_48, u120_51, u120_52, u120_55, u120_56, u120_59, u120_60, u120_63, u120_65, u120_66, u120_67, u120_68, u120_71, u120_72, u120_75, u120_76, u120_77, u120_80, u120_83, u120_84, u120_87, u120_88, u120_91, u120_92, u120_95, u120_96, u120_97, u120_98, u120_99, u120_100, u120_101, k0', k1', k2', q0, q1, q2, hw2, g1', wr_id, rng, rngp, if_pos, if_neg, if_true, if_false, reduceCtorEq, true_and, and_true, and_self, Option.toList_some, Option.toList_none, List.cons_append, List.nil_append, Int.toNat_natCast]
      exact ⟨hm2.setg (k := 1) (by omega) (by omega), (hf1.tr hf2).tr MF.sI⟩
    · rw [if_neg c]
      have e : bI (decide (sg σ 4 = 1) && A) = 0 := by
        by_cases q : sg σ 4 = 1
        · have : A = false := by simpa [q] using c
          simp [this, bI]
        · simp [q, bI]
      rw [e]
      simp (disch := omega) only [u120_0, u120_1, u120_3, u120_4, u120_7, u120_8, u120_9, u120_12, u120_13, u120_14, u120_17, u120_20, u120_23, u120_24, u120_27, u120_28, u120_29, u120_30, u120_33, u120_34, u120_37, u120_38, u120_39, u120_40, u120_42, u120_43, u120_46, u120_47, u120_48, u120_51, u120_52, u120_55, u120_56, u120_59, u120_60, u120_63, u120_65, u120_66, u120_67, u120_68, u120_71, u120_72, u120_75, u120_76, u120_77, u120_80, u120_83, u120_84, u120_87, u120_88, u120_91, u120_92, u120_95, u120_96, u120_97, u120_98, u120_99, u120_100, u120_101, k0', k1', k2', g1, wr_id, rng, rngp, if_pos, if_neg, if_true, if_false, reduceCtorEq, true_and, and_true, and_self, Option.toList_some, Option.toList_none, List.cons_append, List.nil_append, Int.toNat_natCast]
      exact ⟨hm1.setg (k := 1) (by omega) (by omega), hf1.tr MF.sI⟩
  obtain ⟨r, h', hw, rfl, hm, hf⟩ := big.evE
  exact ⟨h', hw, hm, hf⟩
/-- all that a step needs of the works -/
def okT (σ : sS) : Prop := (∀ k, k ≤ sN σ → okS (sActs k σ)) ∧ ∀ n, sN σ ≤ n → n < 8 → (sr (sActs (sN σ) σ) n 6).length ≤ 100 ∧ (sr (sActs (sN σ) σ) n 5).length ≤ 128 ∧ (0 ≤ sf (sActs (sN σ) σ) n 24 ∧ sf (sActs (sN σ) σ) n 24 ≤ 1000)
theorem m_goes {sc : av_S} {d : Nat} {h : av_H} {x k : Nat} {σ : sS} (K : MK h x) (H : MR h x σ) (hk : k ≤ 1000) (ok : ∀ j, j < k → okT (sSteps j σ)) : ∃ h', (∀ Q, WP sc (d + 9) 126 0 [(0, .inr (.inl x)), (1, .inl (k : Int))] [] h Q ↔ Q (some (.inl (sg (sSteps k σ) 1))) h') ∧ MR h' x (sSteps k σ) ∧ MF h h' x := by
  have loop : ∀ (t j : Nat) (hj : av_H), t = k - j → j ≤ k → MF h hj x → MR hj x (sSteps j σ) → WP sc (d + 9) 126 2 [(0, .inr (.inl x)), (1, .inl (k : Int)), (2, .inl (j : Int))] [] hj (fun r h' => r = some (.inl (sg (sSteps k σ) 1)) ∧ MR h' x (sSteps k σ) ∧ MF h h' x) := by
    intro t
    induction t with
    | zero =>
      intro j hj ht hjk hf hm
      obtain ⟨k0', ⟨k1', k2'⟩, -⟩ := id (K.mf hf)
      have e : j = k := by omega
      subst e
      have g1 := hm.g (i := 1) (k := 1) (by omega) rfl
      rw [u126_2]
      simp (disch := omega) only [u126_0, u126_1, u126_3, u126_4, u126_7, u126_8, u126_11, u126_14, u126_17, u126_18, u126_21, u126_22, u126_23, k0', k1', k2', g1, wr_id, rng, rngp, if_pos, if_neg, if_true, if_false, reduceCtorEq, true_and, and_true, and_self, Option.toList_some, Option.toList_none, List.cons_append, List.nil_append, Int.toNat_natCast]
      exact ⟨hm, hf⟩
    | succ t ih =>
      intro j hj ht hjk hf hm
      obtain ⟨k0', ⟨k1', k2'⟩, -⟩ := id (K.mf hf)
      obtain ⟨o1, o2⟩ := ok j (by omega)
      obtain ⟨h2, hw2, hm2, hf2⟩ := @m_step sc d hj x _ (K.mf hf) hm o1 o2
      rw [u126_2]
      simp (disch := omega) only [u126_0, u126_1, u126_3, u126_4, u126_7, u126_8, u126_11, u126_14, u126_17, u126_18, u126_21, u126_22, u126_23, k0', hw2, wr_id, rng, rngp, if_pos, if_neg, if_true, if_false, reduceCtorEq, true_and, and_true, and_self, Option.toList_some, Option.toList_none, List.cons_append, List.nil_append, Int.toNat_natCast]
      rw [show (j : Int) + 1 = ((j + 1 : Nat) : Int) by omega]
      exact ih (j + 1) h2 (by omega) (by omega) (hf.tr hf2) hm2
  have big : WP sc (d + 9) 126 0 [(0, .inr (.inl x)), (1, .inl (k : Int))] [] h (fun r h' => r = some (.inl (sg (sSteps k σ) 1)) ∧ MR h' x (sSteps k σ) ∧ MF h h' x) := by
    simp only [u126_0, u126_1, u126_3, u126_4, u126_7, u126_8, u126_11, u126_14, u126_17, u126_18, u126_21, u126_22, u126_23]
    exact loop _ 0 h rfl (by omega) MF.rf H
  obtain ⟨r, h', hw, rfl, hm, hf⟩ := big.evE
  exact ⟨h', hw, hm, hf⟩
