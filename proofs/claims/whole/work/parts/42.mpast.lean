/-! the reference keeps its state and goes back to one -/
def sKp (ps : List sS) (σ : sS) : List sS := if ps.length = 5 then ps.drop 1 ++ [σ] else ps ++ [σ]
theorem gS_l {l m : List sS} {i : Nat} {e : sS} (h : i < l.length) : (l ++ m).getD i e = l.getD i e := by
  rw [List.getD_eq_getElem?_getD, List.getD_eq_getElem?_getD, List.getElem?_append_left h]
theorem gS_r {l : List sS} {σ e : sS} : (l ++ [σ]).getD l.length e = σ := by
  rw [List.getD_eq_getElem?_getD, List.getElem?_append_right (by omega)]
  simp
theorem gS_d {l : List sS} {k i : Nat} {e : sS} : (l.drop k).getD i e = l.getD (k + i) e := by
  rw [List.getD_eq_getElem?_getD, List.getD_eq_getElem?_getD, List.getElem?_drop]
theorem m_keeps {sc : av_S} {d : Nat} {h : av_H} {x : Nat} {σ : sS} {ps : List sS} {rf : Nat → Int} {tx : List Int} (S : MS h x σ ps rf tx) : ∃ h', (∀ Q, WP sc (d + 1) 98 0 [(0, .inr (.inl x))] [] h Q ↔ Q none h') ∧ MS h' x σ (sKp ps σ) rf tx ∧ MG h h' x := by
  have two : ∀ (g : av_H) (qs : List sS), MS g x σ qs rf tx → qs.length ≤ 4 → MG h g x → WP sc (d + 1) 98 49 [(0, .inr (.inl x))] [] g (fun r h' => r = none ∧ MS h' x σ (qs ++ [σ]) rf tx ∧ MG h h' x) := by
    intro g qs T hq hg
    obtain ⟨K, H, ⟨s1, s2, s3⟩, r1, t1, t2, t3⟩ := T
    have loop : ∀ (t n : Nat) (hk : av_H), t = 7474 - n → n ≤ 7474 → MG g hk x → (∀ a i, a ≠ x + 2 → gI hk a i = gI g a i) → (∀ i, i < 7474 * qs.length → gI hk (x + 2) i = gI g (x + 2) i) → (∀ j, j < n → gI hk (x + 2) (7474 * qs.length + j) = gI g (x + 1) j) → WP sc (d + 1) 98 51 [(0, .inr (.inl x)), (1, .inl (n : Int))] [] hk (fun r h' => r = none ∧ MS h' x σ (qs ++ [σ]) rf tx ∧ MG h h' x) := by
      intro t
      induction t with
      | zero =>
        intro n hk ht hn hf ha hb hc
        obtain ⟨k0, ⟨k1, k2⟩, ⟨k3, k4⟩, -⟩ := id (K.mg hf)
        have e : n = 7474 := by omega
        subst e
        have q2 : gI hk x 2 = (qs.length : Int) := (ha x 2 (by omega)).trans s1
        rw [u98_51]
        simp (disch := omega) only [u98_0, u98_1, u98_4, u98_5, u98_8, u98_9, u98_11, u98_14, u98_17, u98_18, u98_21, u98_22, u98_23, u98_26, u98_27, u98_30, u98_31, u98_32, u98_33, u98_36, u98_39, u98_40, u98_41, u98_44, u98_45, u98_46, u98_49, u98_50, u98_52, u98_55, u98_58, u98_59, u98_62, u98_65, u98_66, u98_69, u98_70, u98_71, u98_72, u98_73, u98_76, u98_77, u98_78, u98_79, u98_82, u98_85, u98_86, u98_87, u98_90, u98_91, u98_92, u98_95, k0, k1, k2, k3, k4, q2, kd_sI, gR_sI, wr_id, rng, rngp, if_pos, if_neg, if_true, if_false, reduceCtorEq, true_and, and_true, and_self, Option.toList_some, Option.toList_none, List.cons_append, List.nil_append, Int.toNat_natCast]
        have G : MG hk (sI hk x 2 ((qs.length : Int) + 1)) x := MG.sI (by omega)
        refine ⟨⟨(K.mg hf).mg G, ?_, ⟨by rw [gI_sI_eq rfl, List.length_append]; simp, by rw [List.length_append]; simp; omega, fun j hj => ?_⟩, fun k hk' => ?_, ?_, t2, fun i hi => ?_⟩, (hg.tr hf).tr G⟩
        · exact MR_MV.mpr ((MR_MV.mp H).cg (fun k _ => by rw [gI_sI_nb (by omega)]; exact ha _ _ (by omega)))
        · rw [List.length_append] at hj
          simp at hj
          by_cases e : j = qs.length
          · subst e
            rw [gS_r]
            exact (MR_MV.mp H).cg (fun k hk' => by rw [gI_sI_nb (by omega)]; exact hc k hk')
          · rw [gS_l (by omega)]
            exact (s3 j (by omega)).cg (fun k hk' => by rw [gI_sI_nb (by omega)]; exact hb _ (by omega))
        · rw [gI_sI_nb (by omega), ha _ _ (by omega)]; exact r1 k hk'
        · rw [gI_sI_ne (by omega), ha _ _ (by omega)]; exact t1
        · rw [gI_sI_nb (by omega), ha _ _ (by omega)]; exact t3 i hi
      | succ t ih =>
        intro n hk ht hn hf ha hb hc
        obtain ⟨k0, ⟨k1, k2⟩, ⟨k3, k4⟩, -⟩ := id (K.mg hf)
        have q2 : gI hk x 2 = (qs.length : Int) := (ha x 2 (by omega)).trans s1
        rw [u98_51]
        simp (disch := omega) only [u98_0, u98_1, u98_4, u98_5, u98_8, u98_9, u98_11, u98_14, u98_17, u98_18, u98_21, u98_22, u98_23, u98_26, u98_27, u98_30, u98_31, u98_32, u98_33, u98_36, u98_39, u98_40, u98_41, u98_44, u98_45, u98_46, u98_49, u98_50, u98_52, u98_55, u98_58, u98_59, u98_62, u98_65, u98_66, u98_69, u98_70, u98_71, u98_72, u98_73, u98_76, u98_77, u98_78, u98_79, u98_82, u98_85, u98_86, u98_87, u98_90, u98_91, u98_92, u98_95, k0, k1, k2, k3, k4, q2, kd_sI, gR_sI, wr_id, rng, rngp, if_pos, if_neg, if_true, if_false, reduceCtorEq, true_and, and_true, and_self, Option.toList_some, Option.toList_none, List.cons_append, List.nil_append, Int.toNat_natCast]
        rw [show (n : Int) + 1 = ((n + 1 : Nat) : Int) by omega, show (7474 * (qs.length : Int) + (n : Int)).toNat = 7474 * qs.length + n by omega, ha (x + 1) n (by omega)]
        refine ih (n + 1) _ (by omega) (by omega) (hf.tr (MG.sI (by omega))) (fun a i e => by rw [gI_sI_nb e]; exact ha a i e) (fun i hi => by rw [gI_sI_ne (by omega)]; exact hb i hi) (fun j hj => ?_)
        by_cases e : j = n
        · rw [gI_sI_eq (by omega), e]
        · rw [gI_sI_ne (by omega)]; exact hc j (by omega)
    simp (disch := omega) only [u98_0, u98_1, u98_4, u98_5, u98_8, u98_9, u98_11, u98_14, u98_17, u98_18, u98_21, u98_22, u98_23, u98_26, u98_27, u98_30, u98_31, u98_32, u98_33, u98_36, u98_39, u98_40, u98_41, u98_44, u98_45, u98_46, u98_49, u98_50, u98_52, u98_55, u98_58, u98_59, u98_62, u98_65, u98_66, u98_69, u98_70, u98_71, u98_72, u98_73, u98_76, u98_77, u98_78, u98_79, u98_82, u98_85, u98_86, u98_87, u98_90, u98_91, u98_92, u98_95, wr_id, rng, rngp, if_pos, if_neg, if_true, if_false, reduceCtorEq, true_and, and_true, and_self, Option.toList_some, Option.toList_none, List.cons_append, List.nil_append, Int.toNat_natCast]
    rw [show (0 : Int) = ((0 : Nat) : Int) from rfl]
    exact loop _ 0 g rfl (by omega) MG.rf (fun _ _ _ => rfl) (fun _ _ => rfl) (fun j hj => by omega)
  obtain ⟨K, H, ⟨s1, s2, s3⟩, r1, t1, t2, t3⟩ := id S
  have big : WP sc (d + 1) 98 0 [(0, .inr (.inl x))] [] h (fun r h' => r = none ∧ MS h' x σ (sKp ps σ) rf tx ∧ MG h h' x) := by
    obtain ⟨k0, -⟩ := id K
    by_cases c : ps.length = 5
    · rw [show sKp ps σ = ps.drop 1 ++ [σ] by unfold sKp; rw [if_pos c]]
      have loop : ∀ (t n : Nat) (hk : av_H), t = 29896 - n → n ≤ 29896 → MG h hk x → (∀ a i, a ≠ x + 2 → gI hk a i = gI h a i) → (∀ i, n ≤ i → gI hk (x + 2) i = gI h (x + 2) i) → (∀ i, i < n → gI hk (x + 2) i = gI h (x + 2) (i + 7474)) → WP sc (d + 1) 98 10 [(0, .inr (.inl x)), (1, .inl (n : Int))] [] hk (fun r h' => r = none ∧ MS h' x σ (ps.drop 1 ++ [σ]) rf tx ∧ MG h h' x) := by
        intro t
        induction t with
        | zero =>
          intro n hk ht hn hf ha hb hc
          obtain ⟨k0, ⟨k1, k2⟩, ⟨k3, k4⟩, -⟩ := id (K.mg hf)
          have e : n = 29896 := by omega
          subst e
          have q2 : gI hk x 2 = 5 := by rw [ha x 2 (by omega), s1, c]; rfl
          rw [u98_10]
          simp (disch := omega) only [u98_0, u98_1, u98_4, u98_5, u98_8, u98_9, u98_11, u98_14, u98_17, u98_18, u98_21, u98_22, u98_23, u98_26, u98_27, u98_30, u98_31, u98_32, u98_33, u98_36, u98_39, u98_40, u98_41, u98_44, u98_45, u98_46, u98_50, u98_52, u98_55, u98_58, u98_59, u98_62, u98_65, u98_66, u98_69, u98_70, u98_71, u98_72, u98_73, u98_76, u98_77, u98_78, u98_79, u98_82, u98_85, u98_86, u98_87, u98_90, u98_91, u98_92, u98_95, k0, k1, k2, k3, k4, q2, kd_sI, gR_sI, wr_id, rng, rngp, if_pos, if_neg, if_true, if_false, reduceCtorEq, true_and, and_true, and_self, Option.toList_some, Option.toList_none, List.cons_append, List.nil_append, Int.toNat_natCast]
          have G : MG hk (sI hk x 2 (5 - 1)) x := MG.sI (by omega)
          refine two _ _ ⟨(K.mg hf).mg G, ?_, ⟨by rw [gI_sI_eq rfl, List.length_drop, c]; rfl, by rw [List.length_drop]; omega, fun j hj => ?_⟩, fun k hk' => ?_, ?_, t2, fun i hi => ?_⟩ (by rw [List.length_drop]; omega) (hf.tr G)
          · exact MR_MV.mpr ((MR_MV.mp H).cg (fun k _ => by rw [gI_sI_nb (by omega)]; exact ha _ _ (by omega)))
          · rw [List.length_drop] at hj
            rw [gS_d]
            refine (s3 (1 + j) (by omega)).cg (fun k hk' => ?_)
            rw [gI_sI_nb (by omega), hc _ (by omega)]
            congr 1
            omega
          · rw [gI_sI_nb (by omega), ha _ _ (by omega)]; exact r1 k hk'
          · rw [gI_sI_ne (by omega), ha _ _ (by omega)]; exact t1
          · rw [gI_sI_nb (by omega), ha _ _ (by omega)]; exact t3 i hi
        | succ t ih =>
          intro n hk ht hn hf ha hb hc
          obtain ⟨k0, ⟨k1, k2⟩, ⟨k3, k4⟩, -⟩ := id (K.mg hf)
          rw [u98_10]
          simp (disch := omega) only [u98_0, u98_1, u98_4, u98_5, u98_8, u98_9, u98_11, u98_14, u98_17, u98_18, u98_21, u98_22, u98_23, u98_26, u98_27, u98_30, u98_31, u98_32, u98_33, u98_36, u98_39, u98_40, u98_41, u98_44, u98_45, u98_46, u98_49, u98_50, u98_52, u98_55, u98_58, u98_59, u98_62, u98_65, u98_66, u98_69, u98_70, u98_71, u98_72, u98_73, u98_76, u98_77, u98_78, u98_79, u98_82, u98_85, u98_86, u98_87, u98_90, u98_91, u98_92, u98_95, k0, k1, k2, k3, k4, kd_sI, gR_sI, wr_id, rng, rngp, if_pos, if_neg, if_true, if_false, reduceCtorEq, true_and, and_true, and_self, Option.toList_some, Option.toList_none, List.cons_append, List.nil_append, Int.toNat_natCast]
          rw [show (n : Int) + 1 = ((n + 1 : Nat) : Int) by omega, show ((n : Int) + 7474).toNat = n + 7474 by omega, hb (n + 7474) (by omega)]
          refine ih (n + 1) _ (by omega) (by omega) (hf.tr (MG.sI (by omega))) (fun a i e => by rw [gI_sI_nb e]; exact ha a i e) (fun i hi => by rw [gI_sI_ne (by omega)]; exact hb i (by omega)) (fun j hj => ?_)
          by_cases e : j = n
          · rw [gI_sI_eq (by omega), e]
          · rw [gI_sI_ne (by omega)]; exact hc j (by omega)
      have q2 : gI h x 2 = 5 := by rw [s1, c]; rfl
      simp (disch := omega) only [u98_0, u98_1, u98_4, u98_5, u98_8, u98_9, u98_11, u98_14, u98_17, u98_18, u98_21, u98_22, u98_23, u98_26, u98_27, u98_30, u98_31, u98_32, u98_33, u98_36, u98_39, u98_40, u98_41, u98_44, u98_45, u98_46, u98_49, u98_50, u98_52, u98_55, u98_58, u98_59, u98_62, u98_65, u98_66, u98_69, u98_70, u98_71, u98_72, u98_73, u98_76, u98_77, u98_78, u98_79, u98_82, u98_85, u98_86, u98_87, u98_90, u98_91, u98_92, u98_95, k0, q2, wr_id, rng, rngp, if_pos, if_neg, if_true, if_false, reduceCtorEq, true_and, and_true, and_self, Option.toList_some, Option.toList_none, List.cons_append, List.nil_append, Int.toNat_natCast]
      rw [show (0 : Int) = ((0 : Nat) : Int) from rfl]
      exact loop _ 0 h rfl (by omega) MG.rf (fun _ _ _ => rfl) (fun _ _ => rfl) (fun j hj => by omega)
    · rw [show sKp ps σ = ps ++ [σ] by unfold sKp; rw [if_neg c]]
      simp (disch := omega) only [u98_0, u98_1, u98_4, u98_5, u98_8, u98_9, u98_11, u98_14, u98_17, u98_18, u98_21, u98_22, u98_23, u98_26, u98_27, u98_30, u98_31, u98_32, u98_33, u98_36, u98_39, u98_40, u98_41, u98_44, u98_45, u98_46, u98_50, u98_52, u98_55, u98_58, u98_59, u98_62, u98_65, u98_66, u98_69, u98_70, u98_71, u98_72, u98_73, u98_76, u98_77, u98_78, u98_79, u98_82, u98_85, u98_86, u98_87, u98_90, u98_91, u98_92, u98_95, k0, s1, wr_id, rng, rngp, if_pos, if_neg, if_true, if_false, reduceCtorEq, true_and, and_true, and_self, Option.toList_some, Option.toList_none, List.cons_append, List.nil_append, Int.toNat_natCast]
      exact two h ps S (by omega) MG.rf
  obtain ⟨r, h', hw, rfl, hm, hf⟩ := big.evE
  exact ⟨h', hw, hm, hf⟩
theorem m_back {sc : av_S} {d : Nat} {h : av_H} {x : Nat} {σ τ : sS} {qs : List sS} {rf : Nat → Int} {tx : List Int} (S : MS h x σ (qs ++ [τ]) rf tx) : ∃ h', (∀ Q, WP sc (d + 1) 153 0 [(0, .inr (.inl x))] [] h Q ↔ Q (some (.inl (qs.length : Int))) h') ∧ MS h' x τ qs rf tx ∧ MG h h' x := by
  obtain ⟨K, H, ⟨s1, s2, s3⟩, r1, t1, t2, t3⟩ := id S
  rw [List.length_append] at s1 s2 s3
  simp only [List.length_singleton] at s1 s2 s3
  have loop : ∀ (t n : Nat) (hk : av_H), t = 7474 - n → n ≤ 7474 → MG h hk x → (∀ a i, a ≠ x + 1 → ¬ (a = x ∧ i = 2) → gI hk a i = gI h a i) → gI hk x 2 = (qs.length : Int) → (∀ j, j < n → gI hk (x + 1) j = gI h (x + 2) (7474 * qs.length + j)) → WP sc (d + 1) 153 26 [(0, .inr (.inl x)), (1, .inl (n : Int))] [] hk (fun r h' => r = some (.inl (qs.length : Int)) ∧ MS h' x τ qs rf tx ∧ MG h h' x) := by
    intro t
    induction t with
    | zero =>
      intro n hk ht hn hf ha hb hc
      obtain ⟨k0, ⟨k1, k2⟩, ⟨k3, k4⟩, -⟩ := id (K.mg hf)
      have e : n = 7474 := by omega
      subst e
      rw [u153_26]
      simp (disch := omega) only [u153_0, u153_1, u153_4, u153_7, u153_8, u153_10, u153_13, u153_14, u153_15, u153_16, u153_19, u153_20, u153_21, u153_24, u153_25, u153_27, u153_30, u153_33, u153_34, u153_37, u153_38, u153_39, u153_42, u153_45, u153_46, u153_49, u153_50, u153_51, u153_52, u153_53, u153_54, u153_57, u153_60, u153_61, u153_64, k0, k1, k2, k3, k4, hb, kd_sI, gR_sI, wr_id, rng, rngp, if_pos, if_neg, if_true, if_false, reduceCtorEq, true_and, and_true, and_self, Option.toList_some, Option.toList_none, List.cons_append, List.nil_append, Int.toNat_natCast]
      refine ⟨⟨K.mg hf, ?_, ⟨hb, by omega, fun j hj => ?_⟩, fun k hk' => ?_, ?_, t2, fun i hi => ?_⟩, hf⟩
      · have := s3 qs.length (by omega)
        rw [gS_r] at this
        exact MR_MV.mpr (this.cg (fun k hk' => hc k hk'))
      · have := s3 j (by omega)
        rw [gS_l hj] at this
        exact this.cg (fun k hk' => ha _ _ (by omega) (by omega))
      · rw [ha _ _ (by omega) (by omega)]; exact r1 k hk'
      · rw [ha _ _ (by omega) (by omega)]; exact t1
      · rw [ha _ _ (by omega) (by omega)]; exact t3 i hi
    | succ t ih =>
      intro n hk ht hn hf ha hb hc
      obtain ⟨k0, ⟨k1, k2⟩, ⟨k3, k4⟩, -⟩ := id (K.mg hf)
      rw [u153_26]
      simp (disch := omega) only [u153_0, u153_1, u153_4, u153_7, u153_8, u153_10, u153_13, u153_14, u153_15, u153_16, u153_19, u153_20, u153_21, u153_24, u153_25, u153_27, u153_30, u153_33, u153_34, u153_37, u153_38, u153_39, u153_42, u153_45, u153_46, u153_49, u153_50, u153_51, u153_52, u153_53, u153_54, u153_57, u153_60, u153_61, u153_64, k0, k1, k2, k3, k4, hb, kd_sI, gR_sI, wr_id, rng, rngp, if_pos, if_neg, if_true, if_false, reduceCtorEq, true_and, and_true, and_self, Option.toList_some, Option.toList_none, List.cons_append, List.nil_append, Int.toNat_natCast]
      rw [show (n : Int) + 1 = ((n + 1 : Nat) : Int) by omega, show (7474 * (qs.length : Int) + (n : Int)).toNat = 7474 * qs.length + n by omega, ha (x + 2) _ (by omega) (by omega)]
      refine ih (n + 1) _ (by omega) (by omega) (hf.tr (MG.sI (by omega))) (fun a i e e2 => by rw [gI_sI_nb e]; exact ha a i e e2) (by rw [gI_sI_nb (by omega)]; exact hb) (fun j hj => ?_)
      by_cases e : j = n
      · rw [gI_sI_eq (by omega), e]
      · rw [gI_sI_ne (by omega)]; exact hc j (by omega)
  have big : WP sc (d + 1) 153 0 [(0, .inr (.inl x))] [] h (fun r h' => r = some (.inl (qs.length : Int)) ∧ MS h' x τ qs rf tx ∧ MG h h' x) := by
    obtain ⟨k0, -⟩ := id K
    simp (disch := omega) only [u153_0, u153_1, u153_4, u153_7, u153_8, u153_10, u153_13, u153_14, u153_15, u153_16, u153_19, u153_20, u153_21, u153_24, u153_25, u153_27, u153_30, u153_33, u153_34, u153_37, u153_38, u153_39, u153_42, u153_45, u153_46, u153_49, u153_50, u153_51, u153_52, u153_53, u153_54, u153_57, u153_60, u153_61, u153_64, k0, s1, kd_sI, gR_sI, wr_id, rng, rngp, if_pos, if_neg, if_true, if_false, reduceCtorEq, true_and, and_true, and_self, Option.toList_some, Option.toList_none, List.cons_append, List.nil_append, Int.toNat_natCast]
    rw [show (0 : Int) = ((0 : Nat) : Int) from rfl]
    refine loop _ 0 _ rfl (by omega) (MG.sI (by omega)) (fun a i e1 e2 => by rw [gI_sI, if_neg e2]) (by rw [gI_sI_eq rfl]; omega) (fun j hj => by omega)
  obtain ⟨r, h', hw, rfl, hm, hf⟩ := big.evE
  exact ⟨h', hw, hm, hf⟩
