/-! the reference's channels: room, sending -/
theorem MR.cg {h : av_H} {x : Nat} {σ τ : sS} (H : MR h x σ) (h1 : ∀ k, k < 9 → sg τ k = sg σ k) (h2 : ∀ n : Nat, n < 8 → ∀ k : Nat, k < 27 → (k = 9 → sg σ 4 = 1 ∨ sg σ 0 ≤ (n : Int)) → sf τ n k = sf σ n k) (h3 : ∀ n, n < 8 → ∀ r, r < 7 → sr τ n r = sr σ n r) : MR h x τ := by
  obtain ⟨a1, a2, a3⟩ := H
  refine ⟨fun k hk => by rw [h1 k hk]; exact a1 k hk, fun n hn k hk h9 => ?_, fun n hn r hr => by rw [h3 n hn r hr]; exact a3 n hn r hr⟩
  have h9' : k = 9 → sg σ 4 = 1 ∨ sg σ 0 ≤ (n : Int) := fun q => by rw [← h1 4 (by omega), ← h1 0 (by omega)]; exact h9 q
  rw [h2 n hn k hk h9']
  exact a2 n hn k hk h9'
def bI (b : Bool) : Int := if b = true then 1 else 0
theorem bI_t : bI true = 1 := rfl
theorem bI_f : bI false = 0 := rfl
def rm1 (σ : sS) (n t i : Nat) : Bool := !(fed σ n t i) || decide ((sr σ t i).length < 6)
def rmT (σ : sS) (n T : Nat) : Bool := (List.range T).all fun t => (List.range 2).all fun i => rm1 σ n t i
theorem rmT_s (σ : sS) (n T : Nat) : rmT σ n (T + 1) = (rmT σ n T && (rm1 σ n T 0 && rm1 σ n T 1)) := by
  unfold rmT
  rw [List.range_succ, List.all_append]
  simp [List.range_succ]
theorem rm1_le {σ : sS} {n t i : Nat} (h : t ≤ n) : rm1 σ n t i = true := by
  unfold rm1 fed
  simp [show ¬ n < t by omega]
theorem rmT_le {σ : sS} {n : Nat} : ∀ {T : Nat}, T ≤ n + 1 → rmT σ n T = true := by
  intro T
  induction T with
  | zero => intro _; rfl
  | succ T ih => intro h; rw [rmT_s, ih (by omega), rm1_le (by omega), rm1_le (by omega)]; rfl
theorem rm1_nin {σ : sS} {n t i : Nat} (h : nin (sf σ t 0) ≤ i) : rm1 σ n t i = true := by
  unfold rm1 fed
  simp [show ¬ i < nin (sf σ t 0) by omega]
theorem rm1_at {σ : sS} {n t i : Nat} (h1 : n < t) (h2 : t < sN σ) (h3 : i < nin (sf σ t 0)) : rm1 σ n t i = (decide (sf σ t (1 + i) ≠ (n : Int)) || decide ((sr σ t i).length < 6)) := by
  unfold rm1 fed
  simp [h1, h2, h3]
theorem nin_le (k : Int) : nin k ≤ 2 := by unfold nin; split <;> (try split) <;> omega
theorem m_hasRoom {sc : av_S} {d : Nat} {h : av_H} {x n : Nat} {σ : sS} (K : MK h x) (H : MR h x σ) (hN : 0 ≤ sg σ 0 ∧ sg σ 0 ≤ 8) (hn : n < 8) (Q : Option av_V → av_H → Prop) : WP sc (d + 4) 108 0 [(0, .inr (.inl x)), (1, .inl (n : Int))] [] h Q ↔ Q (some (.inl (bI (sRoom σ n)))) h := by
  obtain ⟨k0, ⟨k1, k2⟩, -⟩ := id K
  have g0 := H.g (i := 0) (k := 0) (by omega) rfl
  have hsN : (sN σ : Int) = sg σ 0 := by unfold sN; omega
  have one : ∀ (t i : Nat) (b : Bool), n < t → t < sN σ → i < nin (sf σ t 0) → ∀ Q, WP sc (d + 4) 108 19 [(0, .inr (.inl x)), (1, .inl (n : Int)), (2, .inl (bI b)), (3, .inl (t : Int)), (4, .inl (i : Int))] [] h Q ↔ WP sc (d + 4) 108 19 [(0, .inr (.inl x)), (1, .inl (n : Int)), (2, .inl (bI (b && rm1 σ n t i))), (3, .inl (t : Int)), (4, .inl ((i + 1 : Nat) : Int))] [] h Q := by
    intro t i b h1 h2 h3 Q
    have hi2 := nin_le (sf σ t 0)
    have e1 : gI h (x + 1) (250 + 129 * (7 * (t : Int) + (i : Int))).toNat = ((sr σ t i).length : Int) := by
      rw [← (H.2.2 t (by omega) i (by omega)).1]
      congr 1
    rw [u108_19]
    simp (disch := omega) only [u108_0, u108_1, u108_2, u108_3, u108_4, u108_5, u108_7, u108_8, u108_11, u108_12, u108_13, u108_16, u108_17, u108_21, u108_22, u108_23, u108_26, u108_29, u108_30, u108_33, u108_34, u108_35, u108_37, u108_40, u108_41, u108_44, u108_45, u108_48, u108_49, u108_51, u108_54, u108_55, u108_57, u108_60, u108_61, u108_64, u108_65, u108_66, u108_69, u108_72, u108_75, u108_78, u108_79, k0, k1, k2, m_ins K H (show t < 8 by omega), m_from K H (show t < 8 by omega) (show i < 2 by omega), m_rowAt, e1, wr_id, rng, rngp, if_pos, if_neg, if_true, if_false, reduceCtorEq, true_and, and_true, and_self, Option.toList_some, Option.toList_none, List.cons_append, List.nil_append, Int.toNat_natCast]
    rw [rm1_at h1 h2 h3, show (i : Int) + 1 = ((i + 1 : Nat) : Int) by omega]
    cases b
    · simp [bI]
    · by_cases hf : sf σ t (1 + i) = (n : Int)
      · by_cases hl : (sr σ t i).length < 6
        · simp [bI, hf, hl, show ((sr σ t i).length : Int) < 6 by omega]
        · simp [bI, hf, hl, show ¬ ((sr σ t i).length : Int) < 6 by omega]
      · simp [bI, hf]
  have out : ∀ (t i : Nat) (b : Bool), t < sN σ → i < 3 → nin (sf σ t 0) ≤ i → ∀ Q, WP sc (d + 4) 108 19 [(0, .inr (.inl x)), (1, .inl (n : Int)), (2, .inl (bI b)), (3, .inl (t : Int)), (4, .inl (i : Int))] [] h Q ↔ WP sc (d + 4) 108 6 [(0, .inr (.inl x)), (1, .inl (n : Int)), (2, .inl (bI b)), (3, .inl ((t + 1 : Nat) : Int))] [] h Q := by
    intro t i b h2 h3 h4 Q
    rw [u108_19]
    simp (disch := omega) only [u108_0, u108_1, u108_2, u108_3, u108_4, u108_5, u108_7, u108_8, u108_11, u108_12, u108_13, u108_16, u108_17, u108_21, u108_22, u108_23, u108_26, u108_29, u108_30, u108_33, u108_34, u108_35, u108_37, u108_40, u108_41, u108_44, u108_45, u108_48, u108_49, u108_51, u108_54, u108_55, u108_57, u108_60, u108_61, u108_64, u108_65, u108_66, u108_69, u108_72, u108_75, u108_78, u108_79, k0, k1, k2, m_ins K H (show t < 8 by omega), wr_id, rng, rngp, if_pos, if_neg, if_true, if_false, reduceCtorEq, true_and, and_true, and_self, Option.toList_some, Option.toList_none, List.cons_append, List.nil_append, Int.toNat_natCast]
    rw [show (t : Int) + 1 = ((t + 1 : Nat) : Int) by omega]
  have node : ∀ (t : Nat) (b : Bool), n < t → t < sN σ → ∀ Q, WP sc (d + 4) 108 6 [(0, .inr (.inl x)), (1, .inl (n : Int)), (2, .inl (bI b)), (3, .inl (t : Int))] [] h Q ↔ WP sc (d + 4) 108 6 [(0, .inr (.inl x)), (1, .inl (n : Int)), (2, .inl (bI (b && (rm1 σ n t 0 && rm1 σ n t 1)))), (3, .inl ((t + 1 : Nat) : Int))] [] h Q := by
    intro t b h1 h2 Q
    have hi2 := nin_le (sf σ t 0)
    rw [u108_6]
    simp (disch := omega) only [u108_0, u108_1, u108_2, u108_3, u108_4, u108_5, u108_7, u108_8, u108_11, u108_12, u108_13, u108_16, u108_17, u108_21, u108_22, u108_23, u108_26, u108_29, u108_30, u108_33, u108_34, u108_35, u108_37, u108_40, u108_41, u108_44, u108_45, u108_48, u108_49, u108_51, u108_54, u108_55, u108_57, u108_60, u108_61, u108_64, u108_65, u108_66, u108_69, u108_72, u108_75, u108_78, u108_79, k0, k1, k2, g0, wr_id, rng, rngp, if_pos, if_neg, if_true, if_false, reduceCtorEq, true_and, and_true, and_self, Option.toList_some, Option.toList_none, List.cons_append, List.nil_append, Int.toNat_natCast]
    rw [show (0 : Int) = ((0 : Nat) : Int) by omega]
    by_cases c0 : nin (sf σ t 0) = 0
    · rw [out t 0 b h2 (by omega) (by omega), rm1_nin (by omega), rm1_nin (by omega)]
      simp
    · rw [one t 0 b h1 h2 (by omega)]
      by_cases c1 : nin (sf σ t 0) = 1
      · rw [out t 1 _ h2 (by omega) (by omega), rm1_nin (i := 1) (by omega)]
        simp
      · rw [one t 1 _ h1 h2 (by omega), out t 2 _ h2 (by omega) (by omega), Bool.and_assoc]
  have fin : ∀ (u t : Nat), u = sN σ - t → n < t → t ≤ sN σ → ∀ Q, WP sc (d + 4) 108 6 [(0, .inr (.inl x)), (1, .inl (n : Int)), (2, .inl (bI (rmT σ n t))), (3, .inl (t : Int))] [] h Q ↔ Q (some (.inl (bI (sRoom σ n)))) h := by
    intro u
    induction u with
    | zero =>
      intro t hu h1 h2 Q
      have ht : t = sN σ := by omega
      subst ht
      rw [u108_6]
      simp (disch := omega) only [u108_0, u108_1, u108_2, u108_3, u108_4, u108_5, u108_7, u108_8, u108_11, u108_12, u108_13, u108_16, u108_17, u108_21, u108_22, u108_23, u108_26, u108_29, u108_30, u108_33, u108_34, u108_35, u108_37, u108_40, u108_41, u108_44, u108_45, u108_48, u108_49, u108_51, u108_54, u108_55, u108_57, u108_60, u108_61, u108_64, u108_65, u108_66, u108_69, u108_72, u108_75, u108_78, u108_79, k0, k1, k2, g0, wr_id, rng, rngp, if_pos, if_neg, if_true, if_false, reduceCtorEq, true_and, and_true, and_self, Option.toList_some, Option.toList_none, List.cons_append, List.nil_append, Int.toNat_natCast]
      show (bI (rmT σ n (sN σ)) = 0 ∨ bI (rmT σ n (sN σ)) = 1) ∧ Q (some (.inl (bI (rmT σ n (sN σ))))) h ↔ _
      have : rmT σ n (sN σ) = sRoom σ n := rfl
      rw [this]
      cases sRoom σ n <;> simp [bI]
    | succ u ih =>
      intro t hu h1 h2 Q
      rw [node t _ h1 (by omega), ← rmT_s]
      exact ih (t + 1) (by omega) (by omega) (by omega) Q
  simp (disch := omega) only [u108_0, u108_1, u108_2, u108_3, u108_4, u108_5, u108_7, u108_8, u108_11, u108_12, u108_13, u108_16, u108_17, u108_21, u108_22, u108_23, u108_26, u108_29, u108_30, u108_33, u108_34, u108_35, u108_37, u108_40, u108_41, u108_44, u108_45, u108_48, u108_49, u108_51, u108_54, u108_55, u108_57, u108_60, u108_61, u108_64, u108_65, u108_66, u108_69, u108_72, u108_75, u108_78, u108_79, wr_id, rng, rngp, if_pos, if_neg, if_true, if_false, reduceCtorEq, true_and, and_true, and_self, Option.toList_some, Option.toList_none, List.cons_append, List.nil_append, Int.toNat_natCast]
  have e0 : (1 : Int) = bI (rmT σ n (n + 1)) := by rw [rmT_le (Nat.le_refl _)]; rfl
  by_cases hc : n + 1 ≤ sN σ
  · rw [show ((n : Int) + 1) = ((n + 1 : Nat) : Int) by omega]
    have := fin _ (n + 1) rfl (by omega) hc Q
    rw [← e0] at this
    exact this
  · rw [u108_6]
    simp (disch := omega) only [u108_0, u108_1, u108_2, u108_3, u108_4, u108_5, u108_7, u108_8, u108_11, u108_12, u108_13, u108_16, u108_17, u108_21, u108_22, u108_23, u108_26, u108_29, u108_30, u108_33, u108_34, u108_35, u108_37, u108_40, u108_41, u108_44, u108_45, u108_48, u108_49, u108_51, u108_54, u108_55, u108_57, u108_60, u108_61, u108_64, u108_65, u108_66, u108_69, u108_72, u108_75, u108_78, u108_79, k0, k1, k2, g0, wr_id, rng, rngp, if_pos, if_neg, if_true, if_false, reduceCtorEq, true_and, and_true, and_self, Option.toList_some, Option.toList_none, List.cons_append, List.nil_append, Int.toNat_natCast]
    have : sRoom σ n = true := rmT_le (σ := σ) (n := n) (T := sN σ) (by omega)
    rw [this]
    simp [bI]
/-- what is sent so far: all before node T, of it the ins before I -/
def sP (σ : sS) (n : Nat) (v : Int) (T I : Nat) : sS := (σ.1, σ.2.1, fun t i => if fed σ n t i = true ∧ (t < T ∨ (t = T ∧ i < I)) then sr σ t i ++ [v] else sr σ t i)
theorem sr_sP (σ : sS) (n : Nat) (v : Int) (T I t i : Nat) : sr (sP σ n v T I) t i = if fed σ n t i = true ∧ (t < T ∨ (t = T ∧ i < I)) then sr σ t i ++ [v] else sr σ t i := rfl
theorem fed_lt {σ : sS} {n t i : Nat} (h : fed σ n t i = true) : n < t ∧ t < sN σ ∧ i < nin (sf σ t 0) ∧ sf σ t (1 + i) = (n : Int) := of_decide_eq_true h
theorem m_sends {sc : av_S} {d : Nat} {h : av_H} {x n : Nat} {σ : sS} {v : Int} (K : MK h x) (H : MR h x σ) (hN : 0 ≤ sg σ 0 ∧ sg σ 0 ≤ 8) (hn : n < 8) (hroom : ∀ t i, fed σ n t i = true → (sr σ t i).length < 128) : ∃ h', (∀ Q, WP sc (d + 4) 109 0 [(0, .inr (.inl x)), (1, .inl (n : Int)), (2, .inl v)] [] h Q ↔ Q none h') ∧ MR h' x (sSend σ n v) ∧ MF h h' x := by
  have hsN : (sN σ : Int) = sg σ 0 := by unfold sN; omega
  have loop : ∀ (u t i : Nat) (hk : av_H), u = 3 * (sN σ - t) + 3 - i → n < t → t < sN σ → i ≤ nin (sf σ t 0) → MF h hk x → MR hk x (sP σ n v t i) → WP sc (d + 4) 109 17 [(0, .inr (.inl x)), (1, .inl (n : Int)), (2, .inl v), (3, .inl (t : Int)), (4, .inl (i : Int))] [] hk (fun r h' => r = none ∧ MR h' x (sSend σ n v) ∧ MF h h' x) := by
    intro u
    induction u using Nat.strongRecOn with
    | _ u ih =>
      intro t i hk hu h1 h2 h3 hf hm
      have hK := K.mf hf
      obtain ⟨k0, ⟨k1, k2⟩, -⟩ := id hK
      have hi2 := nin_le (sf σ t 0)
      have g0 := hm.g (i := 0) (k := 0) (by omega) rfl
      have m1 := @m_ins sc (d) hk x t (sP σ n v t i) hK hm (by omega)
      rw [u109_17]
      by_cases c : i < nin (sf σ t 0)
      · have m2 := @m_from sc (d + 1) hk x t i (sP σ n v t i) hK hm (by omega) (by omega)
        by_cases cf : sf σ t (1 + i) = (n : Int)
        · have hfd : fed σ n t i = true := decide_eq_true ⟨h1, h2, c, cf⟩
          have hrow : sr (sP σ n v t i) t i = sr σ t i := by rw [sr_sP, if_neg (by omega)]
          obtain ⟨h2', hw, hm', hf'⟩ := @m_puts sc (d + 2) hk x t i (sP σ n v t i) (250 + 129 * (7 * (t : Int) + (i : Int))) v hK hm (by omega) (by omega) rfl (by rw [hrow]; exact hroom t i hfd)
          have e1 : sf (sP σ n v t i) t 0 = sf σ t 0 := rfl
          have e2 : sf (sP σ n v t i) t (1 + i) = sf σ t (1 + i) := rfl
          simp (disch := omega) only [u109_0, u109_1, u109_2, u109_3, u109_5, u109_6, u109_9, u109_10, u109_11, u109_14, u109_15, u109_19, u109_20, u109_21, u109_24, u109_27, u109_28, u109_29, u109_31, u109_34, u109_35, u109_38, u109_39, u109_40, u109_42, u109_45, u109_46, u109_49, u109_52, u109_55, u109_58, u109_61, k0, m1, m2, e1, e2, cf, m_rowAt, hw, wr_id, rng, rngp, if_pos, if_neg, if_true, if_false, reduceCtorEq, true_and, and_true, and_self, Option.toList_some, Option.toList_none, List.cons_append, List.nil_append, Int.toNat_natCast]
          rw [show (i : Int) + 1 = ((i + 1 : Nat) : Int) by omega]
          refine ih _ (by omega) t (i + 1) h2' rfl h1 h2 (by omega) (hf.tr hf') (hm'.cg (fun _ _ => rfl) (fun _ _ _ _ _ => rfl) (fun a ha r hr => ?_))
          rw [sr_ur, hrow, sr_sP, sr_sP]
          by_cases e : a = t ∧ r = i
          · obtain ⟨rfl, rfl⟩ := e
            rw [if_pos ⟨hfd, Or.inr ⟨rfl, by omega⟩⟩, if_pos ⟨rfl, rfl⟩]
          · rw [if_neg e]
            by_cases e2 : fed σ n a r = true ∧ (a < t ∨ a = t ∧ r < i)
            · rw [if_pos e2, if_pos ⟨e2.1, by omega⟩]
            · rw [if_neg e2, if_neg (fun q => e2 ⟨q.1, by omega⟩)]
        · have e1 : sf (sP σ n v t i) t 0 = sf σ t 0 := rfl
          have e2 : sf (sP σ n v t i) t (1 + i) = sf σ t (1 + i) := rfl
          simp (disch := omega) only [u109_0, u109_1, u109_2, u109_3, u109_5, u109_6, u109_9, u109_10, u109_11, u109_14, u109_15, u109_19, u109_20, u109_21, u109_24, u109_27, u109_28, u109_29, u109_31, u109_34, u109_35, u109_38, u109_39, u109_40, u109_42, u109_45, u109_46, u109_49, u109_52, u109_55, u109_58, u109_61, k0, m1, m2, e1, e2, wr_id, rng, rngp, if_pos, if_neg, if_true, if_false, reduceCtorEq, true_and, and_true, and_self, Option.toList_some, Option.toList_none, List.cons_append, List.nil_append, Int.toNat_natCast]
          rw [show (i : Int) + 1 = ((i + 1 : Nat) : Int) by omega]
          refine ih _ (by omega) t (i + 1) hk rfl h1 h2 (by omega) hf (hm.cg (fun _ _ => rfl) (fun _ _ _ _ _ => rfl) (fun a ha r hr => ?_))
          rw [sr_sP, sr_sP]
          by_cases e2 : fed σ n a r = true ∧ (a < t ∨ a = t ∧ r < i)
          · rw [if_pos e2, if_pos ⟨e2.1, by omega⟩]
          · rw [if_neg e2, if_neg]
            rintro ⟨q1, q2⟩
            apply e2
            refine ⟨q1, ?_⟩
            have q3 := fed_lt q1
            by_cases q4 : a = t ∧ r = i
            · exact absurd (by rw [← q4.1, ← q4.2]; exact q3.2.2.2) cf
            · omega
      · have e1 : sf (sP σ n v t i) t 0 = sf σ t 0 := rfl
        simp (disch := omega) only [u109_0, u109_1, u109_2, u109_3, u109_5, u109_6, u109_9, u109_10, u109_11, u109_14, u109_15, u109_19, u109_20, u109_21, u109_24, u109_27, u109_28, u109_29, u109_31, u109_34, u109_35, u109_38, u109_39, u109_40, u109_42, u109_45, u109_46, u109_49, u109_52, u109_55, u109_58, u109_61, k0, m1, e1, wr_id, rng, rngp, if_pos, if_neg, if_true, if_false, reduceCtorEq, true_and, and_true, and_self, Option.toList_some, Option.toList_none, List.cons_append, List.nil_append, Int.toNat_natCast]
        have hm2 : MR hk x (sP σ n v (t + 1) 0) := by
          refine hm.cg (fun _ _ => rfl) (fun _ _ _ _ _ => rfl) (fun a ha r hr => ?_)
          rw [sr_sP, sr_sP]
          by_cases e2 : fed σ n a r = true ∧ (a < t ∨ a = t ∧ r < i)
          · rw [if_pos e2, if_pos ⟨e2.1, by omega⟩]
          · rw [if_neg e2, if_neg]
            rintro ⟨q1, q2⟩
            apply e2
            have q3 := fed_lt q1
            refine ⟨q1, ?_⟩
            by_cases q4 : a = t
            · subst q4
              exact Or.inr ⟨rfl, by omega⟩
            · omega
        have g1 := hm2.g (i := 0) (k := 0) (by omega) rfl
        have g2 : sg (sP σ n v (t + 1) 0) 0 = sg σ 0 := rfl
        rw [u109_4, show (t : Int) + 1 = ((t + 1 : Nat) : Int) by omega]
        by_cases ct : t + 1 < sN σ
        · simp (disch := omega) only [u109_0, u109_1, u109_2, u109_3, u109_5, u109_6, u109_9, u109_10, u109_11, u109_14, u109_15, u109_19, u109_20, u109_21, u109_24, u109_27, u109_28, u109_29, u109_31, u109_34, u109_35, u109_38, u109_39, u109_40, u109_42, u109_45, u109_46, u109_49, u109_52, u109_55, u109_58, u109_61, k0, k1, k2, g1, g2, wr_id, rng, rngp, if_pos, if_neg, if_true, if_false, reduceCtorEq, true_and, and_true, and_self, Option.toList_some, Option.toList_none, List.cons_append, List.nil_append, Int.toNat_natCast]
          rw [show (0 : Int) = ((0 : Nat) : Int) by omega]
          exact ih _ (by omega) (t + 1) 0 hk rfl (by omega) ct (by omega) hf hm2
        · simp (disch := omega) only [u109_0, u109_1, u109_2, u109_3, u109_5, u109_6, u109_9, u109_10, u109_11, u109_14, u109_15, u109_19, u109_20, u109_21, u109_24, u109_27, u109_28, u109_29, u109_31, u109_34, u109_35, u109_38, u109_39, u109_40, u109_42, u109_45, u109_46, u109_49, u109_52, u109_55, u109_58, u109_61, k0, k1, k2, g1, g2, wr_id, rng, rngp, if_pos, if_neg, if_true, if_false, reduceCtorEq, true_and, and_true, and_self, Option.toList_some, Option.toList_none, List.cons_append, List.nil_append, Int.toNat_natCast]
          refine ⟨hm2.cg (fun _ _ => rfl) (fun _ _ _ _ _ => rfl) (fun a ha r hr => ?_), hf⟩
          rw [sr_sP]
          show (if fed σ n a r = true then sr σ a r ++ [v] else sr σ a r) = _
          by_cases e2 : fed σ n a r = true
          · have q3 := fed_lt e2
            rw [if_pos e2, if_pos ⟨e2, by omega⟩]
          · rw [if_neg e2, if_neg (fun q => e2 q.1)]
  obtain ⟨k0, ⟨k1, k2⟩, -⟩ := id K
  have g0 := H.g (i := 0) (k := 0) (by omega) rfl
  have big : WP sc (d + 4) 109 0 [(0, .inr (.inl x)), (1, .inl (n : Int)), (2, .inl v)] [] h (fun r h' => r = none ∧ MR h' x (sSend σ n v) ∧ MF h h' x) := by
    simp (disch := omega) only [u109_0, u109_1, u109_2, u109_3, u109_5, u109_6, u109_9, u109_10, u109_11, u109_14, u109_15, u109_19, u109_20, u109_21, u109_24, u109_27, u109_28, u109_29, u109_31, u109_34, u109_35, u109_38, u109_39, u109_40, u109_42, u109_45, u109_46, u109_49, u109_52, u109_55, u109_58, u109_61, wr_id, rng, rngp, if_pos, if_neg, if_true, if_false, reduceCtorEq, true_and, and_true, and_self, Option.toList_some, Option.toList_none, List.cons_append, List.nil_append, Int.toNat_natCast]
    rw [u109_4, show (n : Int) + 1 = ((n + 1 : Nat) : Int) by omega]
    by_cases ct : n + 1 < sN σ
    · simp (disch := omega) only [u109_0, u109_1, u109_2, u109_3, u109_5, u109_6, u109_9, u109_10, u109_11, u109_14, u109_15, u109_19, u109_20, u109_21, u109_24, u109_27, u109_28, u109_29, u109_31, u109_34, u109_35, u109_38, u109_39, u109_40, u109_42, u109_45, u109_46, u109_49, u109_52, u109_55, u109_58, u109_61, k0, k1, k2, g0, wr_id, rng, rngp, if_pos, if_neg, if_true, if_false, reduceCtorEq, true_and, and_true, and_self, Option.toList_some, Option.toList_none, List.cons_append, List.nil_append, Int.toNat_natCast]
      rw [show (0 : Int) = ((0 : Nat) : Int) by omega]
      refine loop _ (n + 1) 0 h rfl (by omega) ct (by omega) MF.rf (H.cg (fun _ _ => rfl) (fun _ _ _ _ _ => rfl) (fun a ha r hr => ?_))
      rw [sr_sP, if_neg]
      rintro ⟨q1, q2⟩
      have q3 := fed_lt q1
      omega
    · simp (disch := omega) only [u109_0, u109_1, u109_2, u109_3, u109_5, u109_6, u109_9, u109_10, u109_11, u109_14, u109_15, u109_19, u109_20, u109_21, u109_24, u109_27, u109_28, u109_29, u109_31, u109_34, u109_35, u109_38, u109_39, u109_40, u109_42, u109_45, u109_46, u109_49, u109_52, u109_55, u109_58, u109_61, k0, k1, k2, g0, wr_id, rng, rngp, if_pos, if_neg, if_true, if_false, reduceCtorEq, true_and, and_true, and_self, Option.toList_some, Option.toList_none, List.cons_append, List.nil_append, Int.toNat_natCast]
      refine ⟨H.cg (fun _ _ => rfl) (fun _ _ _ _ _ => rfl) (fun a ha r hr => ?_), MF.rf⟩
      show (if fed σ n a r = true then sr σ a r ++ [v] else sr σ a r) = _
      rw [if_neg]
      intro q1
      have q3 := fed_lt q1
      omega
  obtain ⟨r, h', hw, rfl, hm, hf⟩ := big.evE
  exact ⟨h', hw, hm, hf⟩
