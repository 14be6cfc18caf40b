/-! the reference's marks, failures, nodes -/
theorem sI_comm {h : av_H} {a k j : Nat} {z w : Int} (e : k ≠ j) : sI (sI h a k z) a j w = sI (sI h a j w) a k z := by
  have h1 : (fun b i => if b = a ∧ i = j then w else (fun b i => if b = a ∧ i = k then z else h.2.2.1 b i) b i) = (fun b i => if b = a ∧ i = k then z else (fun b i => if b = a ∧ i = j then w else h.2.2.1 b i) b i) := by
    funext b i
    dsimp only
    by_cases c1 : b = a ∧ i = j
    · rw [if_pos c1, if_neg (by omega), if_pos c1]
    · rw [if_neg c1]
      by_cases c2 : b = a ∧ i = k
      · rw [if_pos c2, if_pos c2]
      · rw [if_neg c2, if_neg c2, if_neg c1]
  show (h.1, h.2.1, _, h.2.2.2) = (h.1, h.2.1, _, h.2.2.2)
  exact congrArg (fun f => (h.1, h.2.1, f, h.2.2.2)) h1
def sMk (σ : sS) (m : Nat) : sS := (σ.1, fun a k => if a < m then (if k = 5 then (if sf σ a 0 = 0 then 1 else 0) else if k = 9 then 0 else sf σ a k) else sf σ a k, σ.2.2)
theorem sf_sMk (σ : sS) (m a k : Nat) : sf (sMk σ m) a k = if a < m then (if k = 5 then (if sf σ a 0 = 0 then 1 else 0) else if k = 9 then 0 else sf σ a k) else sf σ a k := rfl
theorem m_beginsOne {sc : av_S} {d : Nat} {h : av_H} {x : Nat} {σ : sS} (K : MK h x) (H : MR h x σ) (hN : 0 ≤ sg σ 0 ∧ sg σ 0 ≤ 8) (h3 : 0 ≤ sg σ 3 ∧ sg σ 3 ≤ 1000000000) (hu : sg σ 4 = 0) : ∃ h', (∀ Q, WP sc (d + 3) 127 0 [(0, .inr (.inl x))] [] h Q ↔ Q (some (.inl (sg σ 3 + 1))) h') ∧ MR h' x (sMarks σ) ∧ MF h h' x := by
  have hsN : (sN σ : Int) = sg σ 0 := by unfold sN; omega
  have loop : ∀ (t n : Nat) (hk : av_H), t = sN σ - n → n ≤ sN σ → MF h hk x → MR (sI hk (x + 1) 4 0) x (sMk σ n) → gI hk (x + 1) 4 = 1 → (∀ j, j < n → gI hk (x + 1) (10 + 30 * j + 9) = 0) → WP sc (d + 3) 127 9 [(0, .inr (.inl x)), (1, .inl (n : Int))] [] hk (fun r h' => r = some (.inl (sg σ 3 + 1)) ∧ MR h' x (sMarks σ) ∧ MF h h' x) := by
    intro t
    induction t with
    | zero =>
      intro n hk ht hn hf hm c4 c9
      obtain ⟨k0, ⟨k1, k2⟩, -⟩ := id (K.mf hf)
      have e : n = sN σ := by omega
      subst e
      have g0 : gI hk (x + 1) (Int.toNat 0) = sg σ 0 := by
        have := hm.1 0 (by omega)
        rw [gI_sI_ne (by omega)] at this
        exact this
      have g3 : gI hk (x + 1) (Int.toNat 3) = sg σ 3 := by
        have := hm.1 3 (by omega)
        rw [gI_sI_ne (by omega)] at this
        exact this
      rw [u127_9]
      simp (disch := omega) only [u127_0, u127_1, u127_4, u127_5, u127_6, u127_7, u127_8, u127_10, u127_11, u127_14, u127_15, u127_16, u127_19, u127_20, u127_23, u127_24, u127_27, u127_28, u127_29, u127_30, u127_31, u127_34, u127_37, u127_38, u127_41, u127_42, u127_43, u127_44, u127_47, u127_48, u127_51, u127_53, u127_54, u127_55, u127_56, u127_59, u127_62, u127_63, u127_66, u127_67, u127_68, u127_69, u127_70, k0, k1, k2, g0, g3, wr_id, rng, rngp, if_pos, if_neg, if_true, if_false, reduceCtorEq, true_and, and_true, and_self, Option.toList_some, Option.toList_none, List.cons_append, List.nil_append, Int.toNat_natCast]
      refine ⟨⟨fun k hk9 => ?_, fun a ha k hk27 h9 => ?_, fun a ha r hr => ?_⟩, hf⟩
      · show gI hk (x + 1) k = sg (ug σ 4 1) k
        rw [sg_ug]
        by_cases e : k = 4
        · rw [if_pos e, e]; exact c4
        · rw [if_neg e]
          have := hm.1 k hk9
          rw [gI_sI_ne e] at this
          exact this
      · show _ = sf (sMk σ (sN σ)) a k
        by_cases e : k = 9 ∧ a < sN σ
        · obtain ⟨rfl, e2⟩ := e
          rw [sf_sMk, if_pos e2, if_neg (by omega), if_pos rfl]
          exact c9 a e2
        · have := hm.2.1 a ha k hk27 (fun q => Or.inr (by show sg σ 0 ≤ _; omega))
          rw [gI_sI_ne (by omega)] at this
          exact this
      · have := hm.2.2 a ha r hr
        obtain ⟨p1, p2, p3⟩ := this
        rw [gI_sI_ne (by omega)] at p1
        refine ⟨p1, p2, fun i hi => ?_⟩
        have p4 := p3 i hi
        rw [gI_sI_ne (by omega)] at p4
        exact p4
    | succ t ih =>
      intro n hk ht hn hf hm c4 c9
      have hn8 : n < 8 := by omega
      obtain ⟨k0, ⟨k1, k2⟩, -⟩ := id (K.mf hf)
      have g0 : gI hk (x + 1) (Int.toNat 0) = sg σ 0 := by
        have := hm.1 0 (by omega)
        rw [gI_sI_ne (by omega)] at this
        exact this
      have f0 : gI hk (x + 1) (10 + 30 * (n : Int) + 0).toNat = sf σ n 0 := by
        have := hm.2.1 n hn8 0 (by omega) (by omega)
        rw [gI_sI_ne (by omega)] at this
        rw [show (10 + 30 * (n : Int) + 0).toNat = 10 + 30 * n + 0 by omega, this, sf_sMk, if_neg (by omega)]
      have mk : ∀ Q, WP sc (d + 2) 102 0 [(0, .inr (.inl x)), (1, .inl (n : Int))] [] hk Q ↔ Q (some (.inl (sf σ n 0))) hk := by
        intro Q
        simp (disch := omega) only [u102_0, u102_1, u102_4, u102_5, u102_8, u102_9, u102_10, u102_11, k0, k1, k2, m_at, f0, wr_id, rng, rngp, if_pos, if_neg, if_true, if_false, reduceCtorEq, true_and, and_true, and_self, Option.toList_some, Option.toList_none, List.cons_append, List.nil_append, Int.toNat_natCast]
      have fin : ∀ v : Int, v = (if sf σ n 0 = 0 then 1 else 0) → WP sc (d + 3) 127 9 [(0, .inr (.inl x)), (1, .inl ((n + 1 : Nat) : Int))] [] (sI (sI hk (x + 1) (10 + 30 * n + 5) v) (x + 1) (10 + 30 * n + 9) 0) (fun r h' => r = some (.inl (sg σ 3 + 1)) ∧ MR h' x (sMarks σ) ∧ MF h h' x) := by
        intro v hv
        refine ih (n + 1) _ (by omega) (by omega) ((hf.tr MF.sI).tr MF.sI) ?_ ?_ ?_
        · rw [sI_comm (by omega), sI_comm (h := hk) (by omega)]
          refine ((hm.setf (k := 5) hn8 (by omega) rfl).setf (k := 9) hn8 (by omega) rfl).cg (fun _ _ => rfl) (fun a ha k hk27 _ => ?_) (fun _ _ _ _ => rfl)
          rw [sf_uf, sf_uf, sf_sMk, sf_sMk]
          by_cases ca : a = n
          · subst ca
            by_cases c9' : k = 9
            · subst c9'; simp
            · by_cases c5 : k = 5
              · subst c5; simp [hv]
              · simp [c9', c5]
          · by_cases cb : a < n
            · simp [ca, cb, show a < n + 1 by omega]
            · simp [ca, cb, show ¬ a < n + 1 by omega]
        · rw [gI_sI_ne (by omega), gI_sI_ne (by omega)]; exact c4
        · intro j hj
          by_cases e : j = n
          · subst e; rw [gI_sI_eq rfl]
          · rw [gI_sI_ne (by omega), gI_sI_ne (by omega)]
            exact c9 j (by omega)
      rw [u127_9]
      by_cases c : sf σ n 0 = 0
      · simp (disch := omega) only [u127_0, u127_1, u127_4, u127_5, u127_6, u127_7, u127_8, u127_10, u127_11, u127_14, u127_15, u127_16, u127_19, u127_20, u127_23, u127_24, u127_27, u127_28, u127_29, u127_30, u127_31, u127_34, u127_37, u127_38, u127_41, u127_42, u127_43, u127_44, u127_47, u127_48, u127_51, u127_53, u127_54, u127_55, u127_56, u127_59, u127_62, u127_63, u127_66, u127_67, u127_68, u127_69, u127_70, k0, k1, k2, g0, m_at, mk, c, kd_sI, gR_sI, wr_id, rng, rngp, if_pos, if_neg, if_true, if_false, reduceCtorEq, true_and, and_true, and_self, Option.toList_some, Option.toList_none, List.cons_append, List.nil_append, Int.toNat_natCast]
        rw [show (10 + 30 * (n : Int) + 5).toNat = 10 + 30 * n + 5 by omega, show (10 + 30 * (n : Int) + 9).toNat = 10 + 30 * n + 9 by omega, show (n : Int) + 1 = ((n + 1 : Nat) : Int) by omega]
        exact fin 1 (by rw [if_pos c])
      · simp (disch := omega) only [u127_0, u127_1, u127_4, u127_5, u127_6, u127_7, u127_8, u127_10, u127_11, u127_14, u127_15, u127_16, u127_19, u127_20, u127_23, u127_24, u127_27, u127_28, u127_29, u127_30, u127_31, u127_34, u127_37, u127_38, u127_41, u127_42, u127_43, u127_44, u127_47, u127_48, u127_51, u127_53, u127_54, u127_55, u127_56, u127_59, u127_62, u127_63, u127_66, u127_67, u127_68, u127_69, u127_70, k0, k1, k2, g0, m_at, mk, c, kd_sI, gR_sI, wr_id, rng, rngp, if_pos, if_neg, if_true, if_false, reduceCtorEq, true_and, and_true, and_self, Option.toList_some, Option.toList_none, List.cons_append, List.nil_append, Int.toNat_natCast]
        rw [show (10 + 30 * (n : Int) + 5).toNat = 10 + 30 * n + 5 by omega, show (10 + 30 * (n : Int) + 9).toNat = 10 + 30 * n + 9 by omega, show (n : Int) + 1 = ((n + 1 : Nat) : Int) by omega]
        exact fin 0 (by rw [if_neg c])
  obtain ⟨k0, ⟨k1, k2⟩, -⟩ := id K
  have big : WP sc (d + 3) 127 0 [(0, .inr (.inl x))] [] h (fun r h' => r = some (.inl (sg σ 3 + 1)) ∧ MR h' x (sMarks σ) ∧ MF h h' x) := by
    simp (disch := omega) only [u127_0, u127_1, u127_4, u127_5, u127_6, u127_7, u127_8, u127_10, u127_11, u127_14, u127_15, u127_16, u127_19, u127_20, u127_23, u127_24, u127_27, u127_28, u127_29, u127_30, u127_31, u127_34, u127_37, u127_38, u127_41, u127_42, u127_43, u127_44, u127_47, u127_48, u127_51, u127_53, u127_54, u127_55, u127_56, u127_59, u127_62, u127_63, u127_66, u127_67, u127_68, u127_69, u127_70, k0, k1, k2, wr_id, rng, rngp, if_pos, if_neg, if_true, if_false, reduceCtorEq, true_and, and_true, and_self, Option.toList_some, Option.toList_none, List.cons_append, List.nil_append, Int.toNat_natCast]
    rw [show (0 : Int) = ((0 : Nat) : Int) from rfl]
    refine loop _ 0 _ rfl (by omega) MF.sI ?_ (gI_sI_eq rfl) (fun j hj => by omega)
    have : sI (sI h (x + 1) (Int.toNat 4) 1) (x + 1) 4 0 = sI h (x + 1) 4 0 := by
      have h1 : (fun b i => if b = x + 1 ∧ i = 4 then (0 : Int) else (fun b i => if b = x + 1 ∧ i = 4 then (1 : Int) else h.2.2.1 b i) b i) = (fun b i => if b = x + 1 ∧ i = 4 then (0 : Int) else h.2.2.1 b i) := by
        funext b i
        dsimp only
        by_cases c : b = x + 1 ∧ i = 4
        · rw [if_pos c, if_pos c]
        · rw [if_neg c, if_neg c, if_neg c]
      exact congrArg (fun f => (h.1, h.2.1, f, h.2.2.2)) h1
    rw [this]
    refine (H.setg (k := 4) (v := 0) (by omega) (by omega)).cg (fun k hk => ?_) (fun a ha k hk _ => ?_) (fun _ _ _ _ => rfl)
    · show sg σ k = _
      rw [sg_ug]
      by_cases e : k = 4
      · rw [if_pos e, e]; exact hu
      · rw [if_neg e]
    · rw [sf_sMk, if_neg (by omega)]; rfl
  obtain ⟨r, h', hw, rfl, hm, hf⟩ := big.evE
  exact ⟨h', hw, hm, hf⟩
theorem m_comes {sc : av_S} {d : Nat} {h : av_H} {x : Nat} {σ : sS} {kind a b k : Int} (K : MK h x) (H : MR h x σ) (hN : 0 ≤ sg σ 0 ∧ sg σ 0 < 8) : ∃ h', (∀ Q, WP sc (d + 2) 125 0 [(0, .inr (.inl x)), (1, .inl kind), (2, .inl a), (3, .inl b), (4, .inl k)] [] h Q ↔ Q (some (.inl (sg σ 0))) h') ∧ MR h' x (sNode σ kind a b k) ∧ MF h h' x := by
  obtain ⟨k0, ⟨k1, k2⟩, -⟩ := id K
  have hsN : (sN σ : Int) = sg σ 0 := by unfold sN; omega
  have g0 : gI h (x + 1) (Int.toNat 0) = ((sN σ : Nat) : Int) := by rw [hsN]; exact H.g (i := 0) (k := 0) (by omega) rfl
  have big : WP sc (d + 2) 125 0 [(0, .inr (.inl x)), (1, .inl kind), (2, .inl a), (3, .inl b), (4, .inl k)] [] h (fun r h' => r = some (.inl (sg σ 0)) ∧ MR h' x (sNode σ kind a b k) ∧ MF h h' x) := by
    simp (disch := omega) only [u125_0, u125_1, u125_4, u125_5, u125_6, u125_9, u125_11, u125_12, u125_15, u125_17, u125_18, u125_19, u125_20, u125_21, u125_22, u125_25, u125_27, u125_28, u125_29, u125_30, u125_31, u125_32, u125_35, u125_37, u125_38, u125_39, u125_40, u125_41, u125_42, u125_45, u125_47, u125_48, u125_49, u125_51, u125_52, u125_53, u125_56, u125_57, u125_58, u125_59, u125_60, u125_61, u125_62, u125_63, u125_66, u125_67, u125_68, u125_69, u125_70, k0, k1, k2, g0, m_at, kd_sI, gR_sI, gI_sI_ne, gI_sI_eq, wr_id, rng, rngp, if_pos, if_neg, if_true, if_false, reduceCtorEq, true_and, and_true, and_self, Option.toList_some, Option.toList_none, List.cons_append, List.nil_append, Int.toNat_natCast]
    refine ⟨by rw [hsN]; congr 2; omega, ?_, ((((MF.sI.tr MF.sI).tr MF.sI).tr MF.sI).tr MF.sI)⟩
    unfold sNode
    rw [← hsN]
    exact ((((H.setf (k := 0) (n := sN σ) (by omega) (by omega) (by omega)).setf (k := 1) (n := sN σ) (by omega) (by omega) (by omega)).setf (k := 2) (n := sN σ) (by omega) (by omega) (by omega)).setf (k := 3) (n := sN σ) (by omega) (by omega) (by omega)).setg (k := 0) (by omega) (by omega) (fun _ => by show sg σ 0 ≤ _; omega)
  obtain ⟨r, h', hw, rfl, hm, hf⟩ := big.evE
  exact ⟨h', hw, hm, hf⟩
theorem m_become {sc : av_S} {d : Nat} {h : av_H} {x k : Nat} {σ : sS} {v : Int} (K : MK h x) (H : MR h x σ) (hk : k = 2 ∨ k = 5) : ∃ h', (∀ Q, WP sc (d + 1) 129 0 [(0, .inr (.inl x)), (1, .inl (k : Int)), (2, .inl v)] [] h Q ↔ Q (some (.inl (sg σ k))) h') ∧ MR h' x (ug σ k v) ∧ MF h h' x := by
  obtain ⟨k0, ⟨k1, k2⟩, -⟩ := id K
  have g0 := H.1 k (by omega)
  have big : WP sc (d + 1) 129 0 [(0, .inr (.inl x)), (1, .inl (k : Int)), (2, .inl v)] [] h (fun r h' => r = some (.inl (sg σ k)) ∧ MR h' x (ug σ k v) ∧ MF h h' x) := by
    simp (disch := omega) only [u129_0, u129_1, u129_4, u129_5, u129_6, u129_7, u129_8, u129_11, u129_12, u129_13, u129_14, u129_15, k0, k1, k2, g0, wr_id, rng, rngp, if_pos, if_neg, if_true, if_false, reduceCtorEq, true_and, and_true, and_self, Option.toList_some, Option.toList_none, List.cons_append, List.nil_append, Int.toNat_natCast]
    exact ⟨H.setg (by omega) (by omega) (by omega), MF.sI⟩
  obtain ⟨r, h', hw, rfl, hm, hf⟩ := big.evE
  exact ⟨h', hw, hm, hf⟩
theorem m_isIn {sc : av_S} {d : Nat} {h : av_H} {x : Nat} {σ : sS} {n : Int} (K : MK h x) (H : MR h x σ) (hN : 0 ≤ sg σ 0 ∧ sg σ 0 ≤ 8) (Q : Option av_V → av_H → Prop) : WP sc (d + 3) 121 0 [(0, .inr (.inl x)), (1, .inl n)] [] h Q ↔ Q (some (.inl (bI (canF σ n)))) h := by
  have k0 := K.1
  simp (disch := omega) only [u121_0, u121_1, u121_2, u121_5, u121_8, u121_9, u121_10, u121_13, u121_14, u121_17, u121_18, u121_21, u121_22, k0, m_isNode K H hN, wr_id, rng, rngp, if_pos, if_neg, if_true, if_false, reduceCtorEq, true_and, and_true, and_self, Option.toList_some, Option.toList_none, List.cons_append, List.nil_append, Int.toNat_natCast]
  unfold canF
  by_cases c : isNd σ n = true
  · have c2 : 0 ≤ n ∧ n < sg σ 0 := of_decide_eq_true c
    have e : n = ((n.toNat : Nat) : Int) := by omega
    have mk := @m_kind sc (d) h x n.toNat σ K H (by omega)
    rw [← e] at mk
    simp (disch := omega) only [c, mk, u121_0, u121_1, u121_2, u121_5, u121_8, u121_9, u121_10, u121_13, u121_14, u121_17, u121_18, u121_21, u121_22, if_true, wr_id, rng, rngp, if_pos, if_neg, if_true, if_false, reduceCtorEq, true_and, and_true, and_self, Option.toList_some, Option.toList_none, List.cons_append, List.nil_append, Int.toNat_natCast]
    by_cases c5 : sf σ n.toNat 0 = 5
    · simp [c5, bI]
    · simp [c5, bI]
  · have c' : isNd σ n = false := by simpa using c
    simp [c', bI]
theorem m_joins {sc : av_S} {d : Nat} {h : av_H} {x : Nat} {σ : sS} (K : MK h x) (H : MR h x σ) (hN : 0 ≤ sg σ 0 ∧ sg σ 0 ≤ 8) (Q : Option av_V → av_H → Prop) : WP sc (d + 3) 123 0 [(0, .inr (.inl x))] [] h Q ↔ Q (some (.inl (sJoins σ))) h := by
  obtain ⟨k0, ⟨k1, k2⟩, -⟩ := id K
  have hsN : (sN σ : Int) = sg σ 0 := by unfold sN; omega
  have g0 := H.g (i := 0) (k := 0) (by omega) rfl
  have bd : ∀ n, 0 ≤ sumN (fun n => if sf σ n 0 = 4 then 1 else 0) n ∧ sumN (fun n => if sf σ n 0 = 4 then 1 else 0) n ≤ n := by
    intro n
    induction n with
    | zero => simp [sumN]
    | succ n ih =>
      simp only [sumN]
      split <;> omega
  have loop : ∀ (t n : Nat), t = sN σ - n → n ≤ sN σ → (WP sc (d + 3) 123 4 [(0, .inr (.inl x)), (1, .inl (sumN (fun n => if sf σ n 0 = 4 then 1 else 0) n)), (2, .inl (n : Int))] [] h Q ↔ Q (some (.inl (sJoins σ))) h) := by
    intro t
    induction t with
    | zero =>
      intro n ht hn
      have e : n = sN σ := by omega
      subst e
      rw [u123_4]
      simp (disch := omega) only [u123_0, u123_1, u123_2, u123_3, u123_5, u123_6, u123_9, u123_10, u123_11, u123_14, u123_15, u123_16, u123_17, u123_20, u123_21, u123_24, u123_25, u123_28, u123_29, u123_30, u123_31, u123_34, u123_37, u123_38, k0, k1, k2, g0, wr_id, rng, rngp, if_pos, if_neg, if_true, if_false, reduceCtorEq, true_and, and_true, and_self, Option.toList_some, Option.toList_none, List.cons_append, List.nil_append, Int.toNat_natCast]
      rfl
    | succ t ih =>
      intro n ht hn
      have b := bd n
      rw [← ih (n + 1) (by omega) (by omega), u123_4]
      by_cases c : sf σ n 0 = 4
      · simp (disch := omega) only [u123_0, u123_1, u123_2, u123_3, u123_5, u123_6, u123_9, u123_10, u123_11, u123_14, u123_15, u123_16, u123_17, u123_20, u123_21, u123_24, u123_25, u123_28, u123_29, u123_30, u123_31, u123_34, u123_37, u123_38, k0, k1, k2, g0, m_kind K H (show n < 8 by omega), c, wr_id, rng, rngp, if_pos, if_neg, if_true, if_false, reduceCtorEq, true_and, and_true, and_self, Option.toList_some, Option.toList_none, List.cons_append, List.nil_append, Int.toNat_natCast]
        simp [sumN, c]
      · simp (disch := omega) only [u123_0, u123_1, u123_2, u123_3, u123_5, u123_6, u123_9, u123_10, u123_11, u123_14, u123_15, u123_16, u123_17, u123_20, u123_21, u123_24, u123_25, u123_28, u123_29, u123_30, u123_31, u123_34, u123_37, u123_38, k0, k1, k2, g0, m_kind K H (show n < 8 by omega), wr_id, rng, rngp, if_pos, if_neg, if_true, if_false, reduceCtorEq, true_and, and_true, and_self, Option.toList_some, Option.toList_none, List.cons_append, List.nil_append, Int.toNat_natCast]
        simp [sumN, c]
  simp only [u123_0, u123_1, u123_2, u123_3, u123_5, u123_6, u123_9, u123_10, u123_11, u123_14, u123_15, u123_16, u123_17, u123_20, u123_21, u123_24, u123_25, u123_28, u123_29, u123_30, u123_31, u123_34, u123_37, u123_38]
  exact loop _ 0 rfl (by omega)
