def capN (σ : sS) (n : Nat) : Prop := (sr σ n 2).length < 128 ∧ (sr σ n 4).length < 128 ∧ (sr σ n 5).length + (sr σ n 4).length ≤ 128
theorem okN.take {σ : sS} {n i : Nat} (ok : okN σ n) (hi : i < 2) : okN (sTake σ n i) n := by
  obtain ⟨o1, o2, o3, o4, o5, o6, o7, o8, o9, o10⟩ := ok
  have e : ∀ k, k ≠ 6 → sf (sTake σ n i) n k = sf σ n k := by
    intro k hk
    unfold sTake
    rw [sf_uf, if_neg (fun q => hk q.2), sf_ur]
  refine ⟨by rw [e 0 (by omega)]; exact o1, by rw [e 3 (by omega)]; exact o2, by rw [e 4 (by omega)]; exact o3, ?_, by rw [e 7 (by omega)]; exact o5, by rw [e 8 (by omega)]; exact o6, by rw [e 0 (by omega), e 1 (by omega)]; exact o7, by rw [e 0 (by omega), e 3 (by omega)]; exact o8, fun k hk => by rw [e (10 + k) (by omega)]; exact o9 k hk, ?_⟩
  · unfold sTake
    rw [sf_uf, if_pos ⟨rfl, rfl⟩]
    split
    · omega
    · omega
  · intro j hj v hv
    unfold sTake at hv
    rw [sr_uf, sr_ur] at hv
    split at hv
    · next q => exact o10 i hi v (List.mem_of_mem_drop hv)
    · exact o10 j hj v hv
theorem sIn_cases {σ : sS} {n : Nat} (ok : okN σ n) (h : sIn σ n ≠ -1) : ∃ i : Nat, i < 2 ∧ sIn σ n = (i : Int) ∧ (sr σ n i).length ≠ 0 := by
  obtain ⟨o1, o2, o3, o4, o5, o6, o7, o8, o9, o10⟩ := ok
  unfold sIn at h ⊢
  split
  · next h4 =>
    rw [if_pos h4] at h
    split
    · next hc =>
      have hc2 := of_decide_eq_true hc
      rcases o4 with o | o
      · rw [o] at hc2; exact ⟨0, by omega, o, hc2.1⟩
      · rw [o] at hc2; exact ⟨1, by omega, o, hc2.1⟩
    · next hc1 =>
      rw [if_neg hc1] at h
      split
      · next hc =>
        have hc2 := of_decide_eq_true hc
        rcases o4 with o | o
        · rw [o] at hc2 ⊢; exact ⟨1, by omega, rfl, hc2.1⟩
        · rw [o] at hc2 ⊢; exact ⟨0, by omega, rfl, hc2.1⟩
      · next hc2 => rw [if_neg hc2] at h; exact absurd rfl h
  · next h4 =>
    rw [if_neg h4] at h
    split
    · next hl => rw [if_pos hl] at h; exact absurd rfl h
    · next hl => exact ⟨0, by omega, rfl, hl⟩
theorem m_acts {sc : av_S} {d : Nat} {h : av_H} {x n : Nat} {σ : sS} (K : MK h x) (H : MR h x σ) (hN : 0 ≤ sg σ 0 ∧ sg σ 0 ≤ 8) (hn : n < 8) (hT : 0 ≤ sg σ 1 ∧ sg σ 1 ≤ 1000000000) (ok : okN σ n) (cap : capN σ n) : ∃ h', (∀ Q, WP sc (d + 7) 116 0 [(0, .inr (.inl x)), (1, .inl (n : Int))] [] h Q ↔ Q none h') ∧ MR h' x (sAct σ n) ∧ MF h h' x := by
  obtain ⟨k0, ⟨k1, k2⟩, -⟩ := id K
  obtain ⟨c2, c4, c5⟩ := cap
  have mk := @m_kind sc (d + 4) h x n σ K H hn
  have big : WP sc (d + 7) 116 0 [(0, .inr (.inl x)), (1, .inl (n : Int))] [] h (fun r h' => r = none ∧ MR h' x (sAct σ n) ∧ MF h h' x) := by
    unfold sAct
    by_cases q0 : sf σ n 0 = 0
    · obtain ⟨h1, hw, hm, hf⟩ := @m_source sc (d + 1) h x n σ K H hN hn hT ok q0
      simp (disch := omega) only [u116_0, u116_1, u116_2, u116_5, u116_8, u116_9, u116_10, u116_13, u116_14, u116_15, u116_16, u116_19, u116_22, u116_23, u116_24, u116_27, u116_30, u116_31, u116_32, u116_33, u116_34, u116_37, u116_38, u116_39, u116_40, u116_41, u116_44, u116_47, u116_48, u116_49, u116_52, u116_53, u116_56, u116_58, u116_59, u116_60, u116_61, u116_64, u116_65, u116_68, u116_69, u116_70, u116_71, u116_74, u116_75, u116_76, u116_77, u116_79, u116_82, u116_83, u116_84, u116_85, u116_88, u116_91, u116_92, u116_93, u116_94, u116_95, u116_98, k0, k1, k2, mk, q0, hw, wr_id, rng, rngp, if_pos, if_neg, if_true, if_false, reduceCtorEq, true_and, and_true, and_self, Option.toList_some, Option.toList_none, List.cons_append, List.nil_append, Int.toNat_natCast]
      exact ⟨hm, hf⟩
    · rw [if_neg q0]
      unfold sTaker
      have mr := @m_hasRoom sc (d + 2) h x n σ K H hN hn
      by_cases q1 : sRoom σ n = true
      · have mi := @m_inOf sc (d + 3) h x n σ K H hn ok
        by_cases q2 : sIn σ n = -1
        · rw [if_neg (fun q => q.2 q2)]
          simp (disch := omega) only [u116_0, u116_1, u116_2, u116_5, u116_8, u116_9, u116_10, u116_13, u116_14, u116_15, u116_16, u116_19, u116_22, u116_23, u116_24, u116_27, u116_30, u116_31, u116_32, u116_33, u116_34, u116_37, u116_38, u116_39, u116_40, u116_41, u116_44, u116_47, u116_48, u116_49, u116_52, u116_53, u116_56, u116_58, u116_59, u116_60, u116_61, u116_64, u116_65, u116_68, u116_69, u116_70, u116_71, u116_74, u116_75, u116_76, u116_77, u116_79, u116_82, u116_83, u116_84, u116_85, u116_88, u116_91, u116_92, u116_93, u116_94, u116_95, u116_98, k0, k1, k2, mk, mr, q1, bI_t, mi, q2, wr_id, rng, rngp, if_pos, if_neg, if_true, if_false, reduceCtorEq, true_and, and_true, and_self, Option.toList_some, Option.toList_none, List.cons_append, List.nil_append, Int.toNat_natCast]
          exact ⟨H, MF.rf⟩
        · rw [if_pos ⟨q1, q2⟩]
          obtain ⟨i, hi, ei, hl⟩ := sIn_cases ok q2
          rw [ei, Int.toNat_natCast]
          obtain ⟨h1, hw1, hm1, hf1⟩ := @m_takes sc (d + 5) h x n i σ (250 + 129 * (7 * (n : Int) + (i : Int))) K H hn (by omega) rfl hl
          have K1 := K.mf hf1
          have a0 := hf1.kd x
          have a1 := hf1.kd (x + 1)
          have a2 := hf1.gR x 0
          have mk1 := @m_kind sc (d + 4) h1 x n _ K1 hm1 hn
          have hm2 : MR (sI h1 (x + 1) (10 + 30 * (n : Int) + 6).toNat (if sf σ n 0 = 4 then 1 - (i : Int) else 0)) x (sTake σ n i) := hm1.setf (k := 6) hn (by omega) (by omega)
          have K2 : MK (sI h1 (x + 1) (10 + 30 * (n : Int) + 6).toNat (if sf σ n 0 = 4 then 1 - (i : Int) else 0)) x := K1.mf MF.sI
          have f2 : MF h (sI h1 (x + 1) (10 + 30 * (n : Int) + 6).toNat (if sf σ n 0 = 4 then 1 - (i : Int) else 0)) x := hf1.tr MF.sI
          have fd : ∀ t j, fed (sTake σ n i) n t j = true → (sr (sTake σ n i) t j).length < 128 := by
            intro t j hf
            have q9 := fed_lt hf
            have e1 : fed σ n t j = true := by
              refine decide_eq_true ⟨q9.1, q9.2.1, ?_, ?_⟩
              · have := q9.2.2.1
                unfold sTake at this
                rw [sf_uf, if_neg (by omega)] at this
                exact this
              · have := q9.2.2.2
                unfold sTake at this
                rw [sf_uf, if_neg (by omega)] at this
                exact this
            unfold sTake
            rw [sr_uf, sr_ur, if_neg (by omega)]
            have := room_of q1 e1
            omega
          have e2 : ∀ r, 2 ≤ r → sr (sTake σ n i) n r = sr σ n r := by
            intro r hr
            unfold sTake
            rw [sr_uf, sr_ur, if_neg (by omega)]
          have ok2 := ok.take hi
          have hv : 0 ≤ (sr σ n i).getD 0 0 ∧ (sr σ n i).getD 0 0 ≤ 100 := by
            obtain ⟨o1, o2, o3, o4, o5, o6, o7, o8, o9, o10⟩ := ok
            refine o10 i hi _ ?_
            rw [List.getD_eq_getElem?_getD, List.getElem?_eq_getElem (by omega)]
            exact List.getElem_mem _
          generalize hh2 : sI h1 (x + 1) (10 + 30 * (n : Int) + 6).toNat (if sf σ n 0 = 4 then 1 - (i : Int) else 0) = h2 at *
          have store : ∀ Q : Option av_V → av_H → Prop, WP sc (d + 7) 116 0 [(0, .inr (.inl x)), (1, .inl (n : Int))] [] h Q ↔ WP sc (d + 7) 116 76 [(0, .inr (.inl x)), (1, .inl (n : Int)), (2, .inl (i : Int)), (3, .inl ((sr σ n i).getD 0 0))] [] h2 Q := by
            intro Q
            have e5 : sf (ur σ n i ((sr σ n i).drop 1)) n 0 = sf σ n 0 := rfl
            simp (disch := omega) only [u116_0, u116_1, u116_2, u116_5, u116_8, u116_9, u116_10, u116_13, u116_14, u116_15, u116_16, u116_19, u116_22, u116_23, u116_24, u116_27, u116_30, u116_31, u116_32, u116_33, u116_34, u116_37, u116_38, u116_39, u116_40, u116_41, u116_44, u116_47, u116_48, u116_49, u116_52, u116_53, u116_56, u116_58, u116_59, u116_60, u116_61, u116_64, u116_65, u116_68, u116_69, u116_70, u116_71, u116_74, u116_75, u116_77, u116_79, u116_82, u116_83, u116_84, u116_85, u116_88, u116_91, u116_92, u116_93, u116_94, u116_95, u116_98, k0, k1, k2, a0, a1, a2, mk, mr, q1, bI_t, mi, ei, m_rowAt, hw1, m_at, mk1, e5, kd_sI, gR_sI, wr_id, rng, rngp, if_pos, if_neg, if_true, if_false, reduceCtorEq, true_and, and_true, and_self, Option.toList_some, Option.toList_none, List.cons_append, List.nil_append, Int.toNat_natCast]
            rw [← hh2]
            by_cases e : sf σ n 0 = 4
            · simp [e]
            · simp [e]
          rw [store]
          have e6 : (kd h2 x).1 = 7 := K2.1
          by_cases q3 : (sr σ n i).getD 0 0 = 100
          · rw [if_pos q3]
            obtain ⟨h3, hw3, hm3, hf3⟩ := @m_barrier sc d h2 x n i _ K2 hm2 hN hn hi ok2 fd (by rw [e2 5 (by omega), e2 4 (by omega)]; exact c5)
            simp (disch := omega) only [u116_0, u116_1, u116_2, u116_5, u116_8, u116_9, u116_10, u116_13, u116_14, u116_15, u116_16, u116_19, u116_22, u116_23, u116_24, u116_27, u116_30, u116_31, u116_32, u116_33, u116_34, u116_37, u116_38, u116_39, u116_40, u116_41, u116_44, u116_47, u116_48, u116_49, u116_52, u116_53, u116_56, u116_58, u116_59, u116_60, u116_61, u116_64, u116_65, u116_68, u116_69, u116_70, u116_71, u116_74, u116_75, u116_76, u116_77, u116_79, u116_82, u116_83, u116_84, u116_85, u116_88, u116_91, u116_92, u116_93, u116_94, u116_95, u116_98, e6, q3, hw3, wr_id, rng, rngp, if_pos, if_neg, if_true, if_false, reduceCtorEq, true_and, and_true, and_self, Option.toList_some, Option.toList_none, List.cons_append, List.nil_append, Int.toNat_natCast]
            exact ⟨hm3, f2.tr hf3⟩
          · rw [if_neg q3]
            obtain ⟨h3, hw3, hm3, hf3⟩ := @m_item sc (d + 1) h2 x n i _ ((sr σ n i).getD 0 0) K2 hm2 hN hn hi ok2 (by
              have : sf (sTake σ n i) n 0 = sf σ n 0 := by unfold sTake; rw [sf_uf, if_neg (by omega)]; rfl
              rw [this]; exact q0) fd (by omega) (by rw [e2 2 (by omega)]; exact c2) (by rw [e2 4 (by omega)]; exact c4)
            simp (disch := omega) only [u116_0, u116_1, u116_2, u116_5, u116_8, u116_9, u116_10, u116_13, u116_14, u116_15, u116_16, u116_19, u116_22, u116_23, u116_24, u116_27, u116_30, u116_31, u116_32, u116_33, u116_34, u116_37, u116_38, u116_39, u116_40, u116_41, u116_44, u116_47, u116_48, u116_49, u116_52, u116_53, u116_56, u116_58, u116_59, u116_60, u116_61, u116_64, u116_65, u116_68, u116_69, u116_70, u116_71, u116_74, u116_75, u116_76, u116_77, u116_79, u116_82, u116_83, u116_84, u116_85, u116_88, u116_91, u116_92, u116_93, u116_94, u116_95, u116_98, e6, hw3, wr_id, rng, rngp, if_pos, if_neg, if_true, if_false, reduceCtorEq, true_and, and_true, and_self, Option.toList_some, Option.toList_none, List.cons_append, List.nil_append, Int.toNat_natCast]
            exact ⟨hm3, f2.tr hf3⟩
      · have q1' : sRoom σ n = false := by simpa using q1
        rw [if_neg (fun q => q1 q.1)]
        simp (disch := omega) only [u116_0, u116_1, u116_2, u116_5, u116_8, u116_9, u116_10, u116_13, u116_14, u116_15, u116_16, u116_19, u116_22, u116_23, u116_24, u116_27, u116_30, u116_31, u116_32, u116_33, u116_34, u116_37, u116_38, u116_39, u116_40, u116_41, u116_44, u116_47, u116_48, u116_49, u116_52, u116_53, u116_56, u116_58, u116_59, u116_60, u116_61, u116_64, u116_65, u116_68, u116_69, u116_70, u116_71, u116_74, u116_75, u116_76, u116_77, u116_79, u116_82, u116_83, u116_84, u116_85, u116_88, u116_91, u116_92, u116_93, u116_94, u116_95, u116_98, k0, k1, k2, mk, mr, q1', bI_f, wr_id, rng, rngp, if_pos, if_neg, if_true, if_false, reduceCtorEq, true_and, and_true, and_self, Option.toList_some, Option.toList_none, List.cons_append, List.nil_append, Int.toNat_natCast]
        exact ⟨H, MF.rf⟩
  obtain ⟨r, h', hw, rfl, hm, hf⟩ := big.evE
  exact ⟨h', hw, hm, hf⟩
theorem m_copiesRow {sc : av_S} {d : Nat} {h : av_H} {x n a b : Nat} {σ : sS} {one other : Int} (K : MK h x) (H : MR h x σ) (hn : n < 8) (ha : a < 7) (hb : b < 7) (hab : a ≠ b) (h1 : one = 250 + 129 * (7 * (n : Int) + (a : Int))) (h2 : other = 250 + 129 * (7 * (n : Int) + (b : Int))) : ∃ h', (∀ Q, WP sc (d + 1) 117 0 [(0, .inr (.inl x)), (1, .inl one), (2, .inl other)] [] h Q ↔ Q none h') ∧ MR h' x (ur σ n b (sr σ n a)) ∧ MF h h' x := by
  obtain ⟨k0, ⟨k1, k2⟩, -⟩ := id K
  obtain ⟨a1, a2, a3⟩ := H.2.2 n hn a ha
  have hne : 7 * n + a ≠ 7 * n + b := by omega
  have loop : ∀ (t k : Nat) (hk : av_H), t = (sr σ n a).length + 1 - k → k ≤ (sr σ n a).length + 1 → MF h hk x → (∀ j, j < 250 + 129 * (7 * n + b) ∨ 250 + 129 * (7 * n + b) + 129 ≤ j → gI hk (x + 1) j = gI h (x + 1) j) → (∀ j, j < k → gI hk (x + 1) (250 + 129 * (7 * n + b) + j) = gI h (x + 1) (250 + 129 * (7 * n + a) + j)) → WP sc (d + 1) 117 2 [(0, .inr (.inl x)), (1, .inl one), (2, .inl other), (3, .inl (k : Int))] [] hk (fun r h' => r = none ∧ MR h' x (ur σ n b (sr σ n a)) ∧ MF h h' x) := by
    intro t
    induction t with
    | zero =>
      intro k hk ht hk2 hf c1 c2
      have q1 := hf.kd x
      have q2 := hf.gR x 0
      have q3 := hf.kd (x + 1)
      have r1 : gI hk (x + 1) one.toNat = ((sr σ n a).length : Int) := by
        rw [show one.toNat = 250 + 129 * (7 * n + a) by omega, c1 _ (by omega)]
        exact a1
      rw [u117_2]
      simp (disch := omega) only [u117_0, u117_1, u117_3, u117_4, u117_7, u117_8, u117_9, u117_12, u117_13, u117_16, u117_17, u117_18, u117_19, u117_20, u117_23, u117_24, u117_25, u117_26, u117_27, u117_28, u117_31, u117_34, k0, k1, k2, q1, q2, q3, r1, wr_id, rng, rngp, if_pos, if_neg, if_true, if_false, reduceCtorEq, true_and, and_true, and_self, Option.toList_some, Option.toList_none, List.cons_append, List.nil_append, Int.toNat_natCast]
      refine ⟨H.row hn hb c1 ?_ a2 (fun i hi => ?_), hf⟩
      · exact (c2 0 (by omega)).trans a1
      · have := c2 (1 + i) (by omega)
        rw [show 250 + 129 * (7 * n + b) + 1 + i = 250 + 129 * (7 * n + b) + (1 + i) by omega, this, show 250 + 129 * (7 * n + a) + (1 + i) = 250 + 129 * (7 * n + a) + 1 + i by omega]
        exact a3 i hi
    | succ t ih =>
      intro k hk ht hk2 hf c1 c2
      have q1 := hf.kd x
      have q2 := hf.gR x 0
      have q3 := hf.kd (x + 1)
      have r1 : gI hk (x + 1) one.toNat = ((sr σ n a).length : Int) := by
        rw [show one.toNat = 250 + 129 * (7 * n + a) by omega, c1 _ (by omega)]
        exact a1
      rw [u117_2]
      simp (disch := omega) only [u117_0, u117_1, u117_3, u117_4, u117_7, u117_8, u117_9, u117_12, u117_13, u117_16, u117_17, u117_18, u117_19, u117_20, u117_23, u117_24, u117_25, u117_26, u117_27, u117_28, u117_31, u117_34, k0, k1, k2, q1, q2, q3, r1, wr_id, rng, rngp, if_pos, if_neg, if_true, if_false, reduceCtorEq, true_and, and_true, and_self, Option.toList_some, Option.toList_none, List.cons_append, List.nil_append, Int.toNat_natCast]
      rw [show (other + (k : Int)).toNat = 250 + 129 * (7 * n + b) + k by omega, show (one + (k : Int)).toNat = 250 + 129 * (7 * n + a) + k by omega, show (k : Int) + 1 = ((k + 1 : Nat) : Int) by omega]
      refine ih (k + 1) _ (by omega) (by omega) (hf.tr MF.sI) (fun j hj => ?_) (fun j hj => ?_)
      · rw [gI_sI_ne (by omega)]; exact c1 j hj
      · by_cases e : j = k
        · subst e
          rw [gI_sI_eq rfl, c1 _ (by omega)]
        · rw [gI_sI_ne (by omega)]
          exact c2 j (by omega)
  have big : WP sc (d + 1) 117 0 [(0, .inr (.inl x)), (1, .inl one), (2, .inl other)] [] h (fun r h' => r = none ∧ MR h' x (ur σ n b (sr σ n a)) ∧ MF h h' x) := by
    simp only [u117_0, u117_1, u117_3, u117_4, u117_7, u117_8, u117_9, u117_12, u117_13, u117_16, u117_17, u117_18, u117_19, u117_20, u117_23, u117_24, u117_25, u117_26, u117_27, u117_28, u117_31, u117_34]
    exact loop _ 0 h rfl (by omega) MF.rf (fun _ _ => rfl) (fun j hj => by omega)
  obtain ⟨r, h', hw, rfl, hm, hf⟩ := big.evE
  exact ⟨h', hw, hm, hf⟩
/-- what is put out of node n's pending row -/
def sOut (σ : sS) (n : Nat) : sS := ug (ur (ur σ n 6 (sr σ n 6 ++ (sr σ n 5).take (100 - (sr σ n 6).length))) n 5 []) 8 (sg σ 8 + (((sr σ n 5).length - (100 - (sr σ n 6).length) : Nat) : Int))
theorem m_putsOut {sc : av_S} {d : Nat} {h : av_H} {x n : Nat} {σ : sS} (K : MK h x) (H : MR h x σ) (hn : n < 8) (h6 : (sr σ n 6).length ≤ 100) (h8 : 0 ≤ sg σ 8 ∧ sg σ 8 ≤ 1000000000) : ∃ h', (∀ Q, WP sc (d + 2) 119 0 [(0, .inr (.inl x)), (1, .inl (n : Int))] [] h Q ↔ Q none h') ∧ MR h' x (sOut σ n) ∧ MF h h' x := by
  have hl5 := (H.2.2 n hn 5 (by omega)).2.1
  have loop : ∀ (t k : Nat) (hk : av_H), t = (sr σ n 5).length - k → k ≤ (sr σ n 5).length → MF h hk x → MR hk x (ug (ur σ n 6 (sr σ n 6 ++ ((sr σ n 5).take k).take (100 - (sr σ n 6).length))) 8 (sg σ 8 + ((k - (100 - (sr σ n 6).length) : Nat) : Int))) → WP sc (d + 2) 119 16 [(0, .inr (.inl x)), (1, .inl (n : Int)), (2, .inl (250 + 129 * (7 * (n : Int) + 5))), (3, .inl (250 + 129 * (7 * (n : Int) + 6))), (4, .inl ((k + 1 : Nat) : Int))] [] hk (fun r h' => r = none ∧ MR h' x (sOut σ n) ∧ MF h h' x) := by
    intro t
    induction t with
    | zero =>
      intro k hk ht hk2 hf hm
      have hK := K.mf hf
      obtain ⟨k0, ⟨k1, k2⟩, -⟩ := id hK
      have r5 : gI hk (x + 1) (250 + 129 * (7 * (n : Int) + 5)).toNat = ((sr σ n 5).length : Int) := by
        have := hm.r0 (i := 250 + 129 * (7 * (n : Int) + 5)) (n := n) (r := 5) hn (by omega) (by omega)
        rw [sr_ug, sr_ur, if_neg (by omega)] at this
        exact this
      rw [u119_16]
      simp (disch := omega) only [u119_0, u119_1, u119_2, u119_5, u119_6, u119_7, u119_9, u119_12, u119_13, u119_14, u119_18, u119_19, u119_22, u119_23, u119_24, u119_27, u119_28, u119_31, u119_32, u119_33, u119_35, u119_38, u119_39, u119_40, u119_41, u119_44, u119_45, u119_47, u119_48, u119_49, u119_52, u119_55, u119_56, u119_59, u119_61, u119_62, u119_63, u119_64, u119_65, u119_66, u119_69, u119_72, u119_73, u119_76, u119_77, u119_78, u119_79, k0, k1, k2, r5, wr_id, rng, rngp, if_pos, if_neg, if_true, if_false, reduceCtorEq, true_and, and_true, and_self, Option.toList_some, Option.toList_none, List.cons_append, List.nil_append, Int.toNat_natCast]
      have hkl : k = (sr σ n 5).length := by omega
      rw [hkl, List.take_length] at hm
      have hm2 := hm.row (h' := sI hk (x + 1) (250 + 129 * (7 * (n : Int) + 5)).toNat 0) (n := n) (r := 5) (L := []) hn (by omega) (fun j hj => by rw [gI_sI_ne (by omega)]) (by rw [gI_sI_eq (by omega)]; rfl) (by simp) (fun i hi => by simp at hi)
      exact ⟨hm2.cg (fun _ _ => rfl) (fun _ _ _ _ _ => rfl) (fun _ _ _ _ => rfl), hf.tr MF.sI⟩
    | succ t ih =>
      intro k hk ht hk2 hf hm
      have hK := K.mf hf
      obtain ⟨k0, ⟨k1, k2⟩, -⟩ := id hK
      have r5 : gI hk (x + 1) (250 + 129 * (7 * (n : Int) + 5)).toNat = ((sr σ n 5).length : Int) := by
        have := hm.r0 (i := 250 + 129 * (7 * (n : Int) + 5)) (n := n) (r := 5) hn (by omega) (by omega)
        rw [sr_ug, sr_ur, if_neg (by omega)] at this
        exact this
      have r5k : gI hk (x + 1) (250 + 129 * (7 * (n : Int) + 5) + ((k + 1 : Nat) : Int)).toNat = (sr σ n 5).getD k 0 := by
        have := (hm.2.2 n hn 5 (by omega)).2.2 k
        rw [sr_ug, sr_ur, if_neg (by omega)] at this
        rw [show (250 + 129 * (7 * (n : Int) + 5) + ((k + 1 : Nat) : Int)).toNat = 250 + 129 * (7 * n + 5) + 1 + k by omega]
        exact this (by omega)
      have r6 : gI hk (x + 1) (250 + 129 * (7 * (n : Int) + 6)).toNat = ((sr σ n 6 ++ ((sr σ n 5).take k).take (100 - (sr σ n 6).length)).length : Int) := by
        have := hm.r0 (i := 250 + 129 * (7 * (n : Int) + 6)) (n := n) (r := 6) hn (by omega) (by omega)
        rw [sr_ug, sr_ur, if_pos ⟨rfl, rfl⟩] at this
        exact this
      have hlen : (sr σ n 6 ++ ((sr σ n 5).take k).take (100 - (sr σ n 6).length)).length = (sr σ n 6).length + min (100 - (sr σ n 6).length) k := by
        simp only [List.length_append, List.length_take]
        omega
      have g8 := hm.g (i := 8) (k := 8) (by omega) rfl
      rw [sg_ug, if_pos rfl] at g8
      rw [u119_16]
      by_cases c : (sr σ n 6).length + k < 100
      · have hsr : sr (ug (ur σ n 6 (sr σ n 6 ++ ((sr σ n 5).take k).take (100 - (sr σ n 6).length))) 8 (sg σ 8 + ((k - (100 - (sr σ n 6).length) : Nat) : Int))) n 6 = sr σ n 6 ++ ((sr σ n 5).take k).take (100 - (sr σ n 6).length) := by
          rw [sr_ug, sr_ur, if_pos ⟨rfl, rfl⟩]
        obtain ⟨h2', hw, hm', hf'⟩ := @m_puts sc d hk x n 6 _ (250 + 129 * (7 * (n : Int) + 6)) ((sr σ n 5).getD k 0) hK hm hn (by omega) (by omega) (by rw [hsr, hlen]; omega)
        simp (disch := omega) only [u119_0, u119_1, u119_2, u119_5, u119_6, u119_7, u119_9, u119_12, u119_13, u119_14, u119_18, u119_19, u119_22, u119_23, u119_24, u119_27, u119_28, u119_31, u119_32, u119_33, u119_35, u119_38, u119_39, u119_40, u119_41, u119_44, u119_45, u119_47, u119_48, u119_49, u119_52, u119_55, u119_56, u119_59, u119_61, u119_62, u119_63, u119_64, u119_65, u119_66, u119_69, u119_72, u119_73, u119_76, u119_77, u119_78, u119_79, k0, k1, k2, r5, r5k, r6, hlen, hw, wr_id, rng, rngp, if_pos, if_neg, if_true, if_false, reduceCtorEq, true_and, and_true, and_self, Option.toList_some, Option.toList_none, List.cons_append, List.nil_append, Int.toNat_natCast]
        rw [show ((k + 1 : Nat) : Int) + 1 = ((k + 1 + 1 : Nat) : Int) by omega]
        refine ih (k + 1) h2' (by omega) (by omega) (hf.tr hf') (hm'.cg (fun j hj => ?_) (fun _ _ _ _ _ => rfl) (fun n2 hn2 r hr => ?_))
        · simp only [sg_ug, sg_ur]
          by_cases e : j = 8
          · rw [if_pos e, if_pos e, show k + 1 - (100 - (sr σ n 6).length) = 0 by omega, show k - (100 - (sr σ n 6).length) = 0 by omega]
          · rw [if_neg e, if_neg e]
        · rw [hsr, sr_ug, sr_ur, sr_ur, sr_ug, sr_ur]
          by_cases e : n2 = n ∧ r = 6
          · rw [if_pos e, if_pos e, List.append_assoc]
            congr 1
            rw [List.take_take, List.take_take, Nat.min_eq_right (by omega), Nat.min_eq_right (by omega), List.take_add_one, List.getD_eq_getElem?_getD, List.getElem?_eq_getElem (by omega)]
            rfl
          · rw [if_neg e, if_neg e, if_neg e]
      · simp (disch := omega) only [u119_0, u119_1, u119_2, u119_5, u119_6, u119_7, u119_9, u119_12, u119_13, u119_14, u119_18, u119_19, u119_22, u119_23, u119_24, u119_27, u119_28, u119_31, u119_32, u119_33, u119_35, u119_38, u119_39, u119_40, u119_41, u119_44, u119_45, u119_47, u119_48, u119_49, u119_52, u119_55, u119_56, u119_59, u119_61, u119_62, u119_63, u119_64, u119_65, u119_66, u119_69, u119_72, u119_73, u119_76, u119_77, u119_78, u119_79, k0, k1, k2, r5, r5k, r6, hlen, g8, wr_id, rng, rngp, if_pos, if_neg, if_true, if_false, reduceCtorEq, true_and, and_true, and_self, Option.toList_some, Option.toList_none, List.cons_append, List.nil_append, Int.toNat_natCast]
        rw [show ((k + 1 : Nat) : Int) + 1 = ((k + 1 + 1 : Nat) : Int) by omega]
        have hm2 := hm.setg (k := 8) (v := sg σ 8 + ((k - (100 - (sr σ n 6).length) : Nat) : Int) + 1) (by omega) (by omega)
        refine ih (k + 1) _ (by omega) (by omega) (hf.tr MF.sI) (hm2.cg (fun j hj => ?_) (fun _ _ _ _ _ => rfl) (fun n2 hn2 r hr => ?_))
        · rw [sg_ug, sg_ug]
          by_cases e : j = 8
          · rw [if_pos e, if_pos e]
            omega
          · rw [if_neg e, if_neg e, sg_ug, if_neg e]; rfl
        · rw [sr_ug, sr_ug, sr_ug, sr_ur, sr_ur]
          by_cases e : n2 = n ∧ r = 6
          · rw [if_pos e, if_pos e]
            congr 1
            rw [List.take_take, List.take_take, Nat.min_eq_left (by omega), Nat.min_eq_left (by omega)]
          · rw [if_neg e, if_neg e]
  obtain ⟨k0, ⟨k1, k2⟩, -⟩ := id K
  have big : WP sc (d + 2) 119 0 [(0, .inr (.inl x)), (1, .inl (n : Int))] [] h (fun r h' => r = none ∧ MR h' x (sOut σ n) ∧ MF h h' x) := by
    simp (disch := omega) only [u119_0, u119_1, u119_2, u119_5, u119_6, u119_7, u119_9, u119_12, u119_13, u119_14, u119_18, u119_19, u119_22, u119_23, u119_24, u119_27, u119_28, u119_31, u119_32, u119_33, u119_35, u119_38, u119_39, u119_40, u119_41, u119_44, u119_45, u119_47, u119_48, u119_49, u119_52, u119_55, u119_56, u119_59, u119_61, u119_62, u119_63, u119_64, u119_65, u119_66, u119_69, u119_72, u119_73, u119_76, u119_77, u119_78, u119_79, m_rowAt, wr_id, rng, rngp, if_pos, if_neg, if_true, if_false, reduceCtorEq, true_and, and_true, and_self, Option.toList_some, Option.toList_none, List.cons_append, List.nil_append, Int.toNat_natCast]
    refine loop _ 0 h rfl (by omega) MF.rf (H.cg (fun j hj => ?_) (fun _ _ _ _ _ => rfl) (fun n2 hn2 r hr => ?_))
    · rw [sg_ug]
      by_cases e : j = 8
      · rw [if_pos e, e]; simp
      · rw [if_neg e]; rfl
    · rw [sr_ug, sr_ur]
      by_cases e : n2 = n ∧ r = 6
      · rw [if_pos e, e.1, e.2]; simp
      · rw [if_neg e]
  obtain ⟨r, h', hw, rfl, hm, hf⟩ := big.evE
  exact ⟨h', hw, hm, hf⟩
