/-! the works of the class go on (2) -/
def okD (σ : sS) : Prop := (∀ k, k < sN σ → okC (sActs k σ) k) ∧ (∀ n, n < sN σ → sf (sActs (sN σ) σ) n 9 = 0 ∨ sf (sActs (sN σ) σ) n 9 = 1) ∧ ∀ n, n < sN σ → sf (sActs (sN σ) σ) n 9 = 1 → sf (sActs (sN σ) σ) n 8 = 0
theorem w_acts {sc : av_S} {d : Nat} {h0 : av_H} {w : Nat} {σ : sS} {a b : Int} {Q : Option av_V → av_H → Prop} (okt : okT σ) (okd : okD σ) (hq : ∀ hk, CW hk w (sActs (sN σ) σ) → Fr h0 hk w (w + 162) → WP sc (d + 5) 63 48 [(0, .inr (.inl w)), (1, .inl a), (2, .inl b), (3, .inl (sN σ : Int))] [] hk Q) : ∀ (u n : Nat) (hk : av_H), u = sN σ - n → n ≤ sN σ → CW hk w (sActs n σ) → Fr h0 hk w (w + 162) → WP sc (d + 5) 63 9 [(0, .inr (.inl w)), (1, .inl a), (2, .inl b), (3, .inl (n : Int))] [] hk Q := by
  intro u
  have okS0 := okt.1 0 (by omega)
  have hs : (sN σ : Int) = sg σ 0 ∧ sN σ ≤ 8 := by
    have := okS0.1
    have e : sg (sActs 0 σ) 0 = sg σ 0 := rfl
    unfold sN
    omega
  induction u with
  | zero =>
    intro n hk hu hn C F
    have e : n = sN σ := by omega
    subst e
    have := hq hk C F
    obtain ⟨⟨j0, -⟩, ⟨y1, -⟩, -⟩ := id C
    rw [sg_acts] at y1
    rw [u63_9]
    simp (disch := omega) only [u63_0, u63_1, u63_3, u63_4, u63_7, u63_8, u63_10, u63_11, u63_14, u63_17, u63_18, u63_21, u63_22, u63_23, u63_26, u63_29, u63_30, u63_31, u63_34, u63_37, u63_38, u63_39, u63_42, u63_45, u63_49, u63_52, u63_55, u63_56, u63_59, u63_62, u63_63, u63_66, u63_67, u63_68, u63_71, u63_72, u63_73, u63_76, u63_79, u63_82, u63_83, u63_86, j0, y1, wr_id, rng, rngp, if_pos, if_neg, if_true, if_false, reduceCtorEq, true_and, and_true, and_self, Option.toList_some, Option.toList_none, List.cons_append, List.nil_append, Int.toNat_natCast]
    exact this
  | succ u ih =>
    intro n hk hu hn C F
    have hn' : n < sN σ := by omega
    obtain ⟨⟨j0, j1, j2, j3⟩, ⟨y1, -⟩, -, cn, -⟩ := id C
    have N := cn n (by rw [sN_acts]; exact hn')
    rw [sg_acts] at y1
    have j3' := j3 n (by omega)
    obtain ⟨pa, la, K, P, L, I, -⟩ := N.to
    have kn := K.1
    have v0 := I.1
    have ok := okd.1 n hn'
    have okS1 := okt.1 n hn
    obtain ⟨s0, s1, -⟩ := okS1
    rw [sg_acts] at s1
    by_cases c : sf (sActs n σ) n 0 = 0
    · obtain ⟨h1, w1, C1, F1⟩ := w_source (sc := sc) (d := d) C (by rw [sN_acts]; exact hn') ok c (by rw [sg_acts]; omega)
      have C2 : CW h1 w (sActs (n + 1) σ) := by
        show CW h1 w (sAct (sActs n σ) n)
        unfold sAct
        rw [if_pos c]; exact C1
      have nx := ih (n + 1) h1 (by omega) (by omega) C2 (F.tr (F1.wd (by omega) (Nat.le_refl _)))
      rw [u63_9]
      simp (disch := omega) only [u63_0, u63_1, u63_3, u63_4, u63_7, u63_8, u63_10, u63_11, u63_14, u63_17, u63_18, u63_21, u63_22, u63_23, u63_26, u63_29, u63_30, u63_31, u63_34, u63_37, u63_38, u63_39, u63_42, u63_45, u63_49, u63_52, u63_55, u63_56, u63_59, u63_62, u63_63, u63_66, u63_67, u63_68, u63_71, u63_72, u63_73, u63_76, u63_79, u63_82, u63_83, u63_86, j0, j1, j2, j3', y1, kn, v0, c, w1, true_or, or_true, wr_id, rng, rngp, if_pos, if_neg, if_true, if_false, reduceCtorEq, true_and, and_true, and_self, Option.toList_some, Option.toList_none, List.cons_append, List.nil_append, Int.toNat_natCast]
      rw [show (n : Int) + 1 = ((n + 1 : Nat) : Int) by omega]
      exact nx
    · obtain ⟨h1, w1, C1, F1⟩ := w_taker (sc := sc) (d := d) C (by rw [sN_acts]; exact hn') ok c
      have C2 : CW h1 w (sActs (n + 1) σ) := by
        show CW h1 w (sAct (sActs n σ) n)
        unfold sAct
        rw [if_neg c]; exact C1
      have nx := ih (n + 1) h1 (by omega) (by omega) C2 (F.tr (F1.wd (by omega) (Nat.le_refl _)))
      rw [u63_9]
      simp (disch := omega) only [u63_0, u63_1, u63_3, u63_4, u63_7, u63_8, u63_10, u63_11, u63_14, u63_17, u63_18, u63_21, u63_22, u63_23, u63_26, u63_29, u63_30, u63_31, u63_34, u63_37, u63_38, u63_39, u63_42, u63_45, u63_49, u63_52, u63_55, u63_56, u63_59, u63_62, u63_63, u63_66, u63_67, u63_68, u63_71, u63_72, u63_73, u63_76, u63_79, u63_82, u63_83, u63_86, j0, j1, j2, j3', y1, kn, v0, c, w1, true_or, or_true, wr_id, rng, rngp, if_pos, if_neg, if_true, if_false, reduceCtorEq, true_and, and_true, and_self, Option.toList_some, Option.toList_none, List.cons_append, List.nil_append, Int.toNat_natCast]
      rw [show (n : Int) + 1 = ((n + 1 : Nat) : Int) by omega]
      exact nx
theorem w_step {sc : av_S} {d : Nat} {h0 : av_H} {w : Nat} {σ : sS} {a : Int} {b : Nat} {Q : Option av_V → av_H → Prop} (okt : okT σ) (okd : okD σ) (hb : (b : Int) < a ∧ a ≤ 1000) (hq : ∀ hk, CW hk w (sStep σ) → Fr h0 hk w (w + 162) → WP sc (d + 5) 63 2 [(0, .inr (.inl w)), (1, .inl a), (2, .inl ((b : Int) + 1))] [] hk Q) (hk : av_H) (C : CW hk w σ) (F : Fr h0 hk w (w + 162)) : WP sc (d + 5) 63 2 [(0, .inr (.inl w)), (1, .inl a), (2, .inl (b : Int))] [] hk Q := by
  rw [u63_2]
  simp (disch := omega) only [u63_0, u63_1, u63_3, u63_4, u63_7, u63_8, u63_10, u63_11, u63_14, u63_17, u63_18, u63_21, u63_22, u63_23, u63_26, u63_29, u63_30, u63_31, u63_34, u63_37, u63_38, u63_39, u63_42, u63_45, u63_48, u63_49, u63_52, u63_55, u63_56, u63_59, u63_62, u63_63, u63_66, u63_67, u63_68, u63_71, u63_72, u63_73, u63_76, u63_79, u63_82, u63_83, u63_86, wr_id, rng, rngp, if_pos, if_neg, if_true, if_false, reduceCtorEq, true_and, and_true, and_self, Option.toList_some, Option.toList_none, List.cons_append, List.nil_append, Int.toNat_natCast]
  refine w_acts okt okd (fun hk2 C2 F2 => ?_) (sN σ - 0) 0 hk rfl (by omega) C F
  obtain ⟨⟨j0, j1, j2, j3⟩, ⟨y1, y2, y3, y4, y5, y6, -⟩, -⟩ := id C2
  rw [sg_acts] at y6 y3
  obtain ⟨o0, o1, o4, o3, o8, on⟩ := okt.1 (sN σ) (Nat.le_refl _)
  rw [sg_acts] at o1 o4 o3 o8
  have tm : ∀ (g : av_H) (τ : sS), CW g w τ → Fr h0 g w (w + 162) → sg τ 1 = sg σ 1 → CW (sI g w 3 (sg σ 1 + 1)) w (ug τ 1 (sg σ 1 + 1)) ∧ Fr h0 (sI g w 3 (sg σ 1 + 1)) w (w + 162) := by
    intro g τ Cg Fg e
    exact ⟨Cg.set (by omega), Fg.tr ((fr1 (a := w)).wd (Nat.le_refl _) (by omega))⟩
  by_cases c : sg σ 4 = 1 ∧ sAll (sActs (sN σ) σ) = true
  · have wa : ∀ Q, WP sc (d + 4) 68 0 [(0, .inr (.inl w))] [] hk2 Q ↔ Q (some (.inl (bI (sAll (sActs (sN σ) σ))))) hk2 := fun Q => w_allWhole (d := d + 3) C2 (fun n hn => okd.2.1 n (by rw [← sN_acts σ (sN σ)]; exact hn)) Q
    rw [c.2] at wa
    have all := List.all_eq_true.mp c.2
    obtain ⟨h3, w3, C3, F3⟩ := w_settle (sc := sc) (d := d + 1) C2 (fun n hn => by
        have e1 := of_decide_eq_true (all n (List.mem_range.mpr hn))
        rw [sN_acts] at hn
        exact ⟨e1, okd.2.2 n hn e1⟩) (fun n hn => by
        by_cases q : n < sN σ
        · have := on n (by rw [sN_acts]; exact q)
          exact ⟨this.2.2.2.1, this.2.2.2.2⟩
        · have := okt.2 n (by omega) hn
          exact this.2) (by rw [sg_acts]; exact o3) (by rw [sg_acts]; exact o8)
    have w3' : ∀ Q, WP sc (d + 4) 69 0 [(0, .inr (.inl w))] [] hk2 Q ↔ Q none h3 := w3
    have e1 : sg (sWhole (sActs (sN σ) σ)) 1 = sg σ 1 := by
      have hs := @settles_g (ug (ug (ug (sActs (sN σ) σ) 3 (sg (sActs (sN σ) σ) 3 + 1)) 4 0) 6 0) (fun n hn => by
        by_cases q : n < sN σ
        · have := on n (by rw [sN_acts]; exact q)
          exact ⟨this.2.2.2.1, this.2.2.2.2⟩
        · have := okt.2 n (by omega) hn
          exact this.2) (sN (sActs (sN σ) σ)) (by rw [sN_acts]; unfold sN; rw [sg_acts] at o0; omega)
      exact (hs.1 1 (by decide) (by decide)).trans (sg_acts σ (sN σ) 1)
    obtain ⟨C4, F4⟩ := tm h3 _ C3 (F2.tr F3) e1
    have C5 : CW (sI h3 w 3 (sg σ 1 + 1)) w (sStep σ) := by
      unfold sStep
      rw [if_pos c]; exact C4
    have nx := hq _ C5 F4
    obtain ⟨⟨l0, -⟩, ⟨-, -, x3, -⟩, -⟩ := id C3
    rw [e1] at x3
    clear C3 C4 C5
    simp (disch := omega) only [u63_0, u63_1, u63_3, u63_4, u63_7, u63_8, u63_10, u63_11, u63_14, u63_17, u63_18, u63_21, u63_22, u63_23, u63_26, u63_29, u63_30, u63_31, u63_34, u63_37, u63_38, u63_39, u63_42, u63_45, u63_48, u63_49, u63_52, u63_55, u63_56, u63_59, u63_62, u63_63, u63_66, u63_67, u63_68, u63_71, u63_72, u63_73, u63_76, u63_79, u63_82, u63_83, u63_86, j0, y6, c.1, wa, w3', l0, x3, bI_t, wr_id, rng, rngp, if_pos, if_neg, if_true, if_false, reduceCtorEq, true_and, and_true, and_self, Option.toList_some, Option.toList_none, List.cons_append, List.nil_append, Int.toNat_natCast]
    exact nx
  · obtain ⟨C4, F4⟩ := tm hk2 _ C2 F2 (sg_acts σ (sN σ) 1)
    have C5 : CW (sI hk2 w 3 (sg σ 1 + 1)) w (sStep σ) := by
      unfold sStep
      rw [if_neg c]; exact C4
    have nx := hq _ C5 F4
    rcases o4 with o4 | o4
    · clear C4 C5
      simp (disch := omega) only [u63_0, u63_1, u63_3, u63_4, u63_7, u63_8, u63_10, u63_11, u63_14, u63_17, u63_18, u63_21, u63_22, u63_23, u63_26, u63_29, u63_30, u63_31, u63_34, u63_37, u63_38, u63_39, u63_42, u63_45, u63_48, u63_49, u63_52, u63_55, u63_56, u63_59, u63_62, u63_63, u63_66, u63_67, u63_68, u63_71, u63_72, u63_73, u63_76, u63_79, u63_82, u63_83, u63_86, j0, y6, o4, y3, wr_id, rng, rngp, if_pos, if_neg, if_true, if_false, reduceCtorEq, true_and, and_true, and_self, Option.toList_some, Option.toList_none, List.cons_append, List.nil_append, Int.toNat_natCast]
      exact nx
    · have wa : ∀ Q, WP sc (d + 4) 68 0 [(0, .inr (.inl w))] [] hk2 Q ↔ Q (some (.inl (bI (sAll (sActs (sN σ) σ))))) hk2 := fun Q => w_allWhole (d := d + 3) C2 (fun n hn => okd.2.1 n (by rw [← sN_acts σ (sN σ)]; exact hn)) Q
      rw [Bool.eq_false_iff.mpr (fun q => c ⟨o4, q⟩)] at wa
      clear C4 C5
      simp (disch := omega) only [u63_0, u63_1, u63_3, u63_4, u63_7, u63_8, u63_10, u63_11, u63_14, u63_17, u63_18, u63_21, u63_22, u63_23, u63_26, u63_29, u63_30, u63_31, u63_34, u63_37, u63_38, u63_39, u63_42, u63_45, u63_48, u63_49, u63_52, u63_55, u63_56, u63_59, u63_62, u63_63, u63_66, u63_67, u63_68, u63_71, u63_72, u63_73, u63_76, u63_79, u63_82, u63_83, u63_86, j0, y6, o4, wa, y3, bI_f, wr_id, rng, rngp, if_pos, if_neg, if_true, if_false, reduceCtorEq, true_and, and_true, and_self, Option.toList_some, Option.toList_none, List.cons_append, List.nil_append, Int.toNat_natCast]
      exact nx
theorem w_goOn {sc : av_S} {d : Nat} {h : av_H} {w k : Nat} {σ : sS} (C : CW h w σ) (hk : k ≤ 1000) (ok : ∀ j, j < k → okT (sSteps j σ) ∧ okD (sSteps j σ)) : ∃ h', (∀ Q, WP sc (d + 5) 63 0 [(0, .inr (.inl w)), (1, .inl (k : Int))] [] h Q ↔ Q (some (.inl (sg (sSteps k σ) 1))) h') ∧ CW h' w (sSteps k σ) ∧ Fr h h' w (w + 162) := by
  have lp : ∀ (u j : Nat) (hj : av_H), u = k - j → j ≤ k → CW hj w (sSteps j σ) → Fr h hj w (w + 162) → WP sc (d + 5) 63 2 [(0, .inr (.inl w)), (1, .inl (k : Int)), (2, .inl (j : Int))] [] hj (fun r h' => r = some (.inl (sg (sSteps k σ) 1)) ∧ CW h' w (sSteps k σ) ∧ Fr h h' w (w + 162)) := by
    intro u
    induction u with
    | zero =>
      intro j hj hu hjk C1 F1
      have e : j = k := by omega
      subst e
      obtain ⟨⟨j0, -⟩, ⟨-, -, y3, -⟩, -⟩ := id C1
      rw [u63_2]
      simp (disch := omega) only [u63_0, u63_1, u63_3, u63_4, u63_7, u63_8, u63_10, u63_11, u63_14, u63_17, u63_18, u63_21, u63_22, u63_23, u63_26, u63_29, u63_30, u63_31, u63_34, u63_37, u63_38, u63_39, u63_42, u63_45, u63_48, u63_49, u63_52, u63_55, u63_56, u63_59, u63_62, u63_63, u63_66, u63_67, u63_68, u63_71, u63_72, u63_73, u63_76, u63_79, u63_82, u63_83, u63_86, j0, y3, wr_id, rng, rngp, if_pos, if_neg, if_true, if_false, reduceCtorEq, true_and, and_true, and_self, Option.toList_some, Option.toList_none, List.cons_append, List.nil_append, Int.toNat_natCast]
      exact ⟨C1, F1⟩
    | succ u ih =>
      intro j hj hu hjk C1 F1
      obtain ⟨o1, o2⟩ := ok j (by omega)
      refine w_step (h0 := h) o1 o2 (by omega) (fun hk2 C2 F2 => ?_) hj C1 F1
      exact ih (j + 1) hk2 (by omega) (by omega) C2 F2
  have big : WP sc (d + 5) 63 0 [(0, .inr (.inl w)), (1, .inl (k : Int))] [] h (fun r h' => r = some (.inl (sg (sSteps k σ) 1)) ∧ CW h' w (sSteps k σ) ∧ Fr h h' w (w + 162)) := by
    have := lp _ 0 h rfl (by omega) C Fr.rf
    simp (disch := omega) only [u63_0, u63_1, u63_3, u63_4, u63_7, u63_8, u63_10, u63_11, u63_14, u63_17, u63_18, u63_21, u63_22, u63_23, u63_26, u63_29, u63_30, u63_31, u63_34, u63_37, u63_38, u63_39, u63_42, u63_45, u63_48, u63_49, u63_52, u63_55, u63_56, u63_59, u63_62, u63_63, u63_66, u63_67, u63_68, u63_71, u63_72, u63_73, u63_76, u63_79, u63_82, u63_83, u63_86, wr_id, rng, rngp, if_pos, if_neg, if_true, if_false, reduceCtorEq, true_and, and_true, and_self, Option.toList_some, Option.toList_none, List.cons_append, List.nil_append, Int.toNat_natCast]
    exact this
  obtain ⟨r, h', hw, rfl, b⟩ := big.evE
  exact ⟨h', hw, b⟩
