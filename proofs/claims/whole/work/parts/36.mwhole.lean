/-! the reference's whole snapshots and steps -/
theorem sg_send (σ : sS) (n : Nat) (v : Int) (j : Nat) : sg (sSend σ n v) j = sg σ j := rfl
theorem sg_part (σ : sS) (n : Nat) (a b : Int) (j : Nat) : sg (sPart σ n a b) j = sg σ j := rfl
theorem sg_act (σ : sS) (n j : Nat) : sg (sAct σ n) j = sg σ j := by
  unfold sAct sSource sTaker sBarrier sItem sTake
  repeat' split
  all_goals rfl
theorem sg_acts (σ : sS) (k j : Nat) : sg (sActs k σ) j = sg σ j := by
  induction k with
  | zero => rfl
  | succ k ih => show sg (sAct (sActs k σ) k) j = _; rw [sg_act, ih]
theorem sN_acts (σ : sS) (k : Nat) : sN (sActs k σ) = sN σ := by unfold sN; rw [sg_acts]
def okS (σ : sS) : Prop := (0 ≤ sg σ 0 ∧ sg σ 0 ≤ 8) ∧ (0 ≤ sg σ 1 ∧ sg σ 1 ≤ 999999999) ∧ (sg σ 4 = 0 ∨ sg σ 4 = 1) ∧ (0 ≤ sg σ 3 ∧ sg σ 3 ≤ 999999999) ∧ (0 ≤ sg σ 8 ∧ sg σ 8 ≤ 999000000) ∧ ∀ n, n < sN σ → okN σ n ∧ capN σ n ∧ (sr σ n 6).length ≤ 100 ∧ (sr σ n 5).length ≤ 128 ∧ (0 ≤ sf σ n 24 ∧ sf σ n 24 ≤ 1000)
theorem sf_settle (σ : sS) (n a k : Nat) : sf (sSettle σ n) a k = if a = n then (if k = 14 then sf σ n 19 else if k = 15 then sf σ n 20 else if k = 16 then sf σ n 21 else if k = 17 then sf σ n 22 else if k = 18 then sf σ n 23 else if k = 26 then sf σ n 25 else if k = 27 then sf σ n 24 else if k = 9 then 0 else sf σ n k) else sf σ a k := rfl
theorem sr_settle (σ : sS) (n a k : Nat) : sr (sSettle σ n) a k = if a = n then (if k = 3 then sr σ n 2 else if k = 6 then sr σ n 6 ++ (sr σ n 5).take (100 - (sr σ n 6).length) else if k = 5 then [] else sr σ n k) else sr σ a k := rfl
theorem sg_settle (σ : sS) (n k : Nat) : sg (sSettle σ n) k = if k = 6 then sg σ 6 + sf σ n 24 else if k = 8 then sg σ 8 + (((sr σ n 5).length - (100 - (sr σ n 6).length) : Nat) : Int) else sg σ k := rfl
theorem settles_n {σ : sS} : ∀ {k a : Nat}, k ≤ a → (∀ j, sf (sSettles k σ) a j = sf σ a j) ∧ ∀ j, sr (sSettles k σ) a j = sr σ a j := by
  intro k
  induction k with
  | zero => intro a _; exact ⟨fun _ => rfl, fun _ => rfl⟩
  | succ k ih =>
    intro a h
    obtain ⟨i1, i2⟩ := @ih a (by omega)
    constructor
    · intro j
      show sf (sSettle (sSettles k σ) k) a j = _
      rw [sf_settle, if_neg (by omega)]
      exact i1 j
    · intro j
      show sr (sSettle (sSettles k σ) k) a j = _
      rw [sr_settle, if_neg (by omega)]
      exact i2 j
theorem settles_g {σ : sS} (hb : ∀ n, n < 8 → (sr σ n 5).length ≤ 128 ∧ (0 ≤ sf σ n 24 ∧ sf σ n 24 ≤ 1000)) : ∀ {k : Nat}, k ≤ 8 → (∀ j, j ≠ 6 → j ≠ 8 → sg (sSettles k σ) j = sg σ j) ∧ (sg σ 8 ≤ sg (sSettles k σ) 8 ∧ sg (sSettles k σ) 8 ≤ sg σ 8 + 128 * k) ∧ (sg σ 6 ≤ sg (sSettles k σ) 6 ∧ sg (sSettles k σ) 6 ≤ sg σ 6 + 1000 * k) := by
  intro k
  induction k with
  | zero => intro _; exact ⟨fun _ _ _ => rfl, by show sg σ 8 ≤ sg σ 8 ∧ sg σ 8 ≤ _; omega, by show sg σ 6 ≤ sg σ 6 ∧ sg σ 6 ≤ _; omega⟩
  | succ k ih =>
    intro h
    obtain ⟨i1, i2, i3⟩ := ih (by omega)
    obtain ⟨j1, j2⟩ := @settles_n σ k k (Nat.le_refl _)
    have hk := hb k (by omega)
    refine ⟨fun j h6 h8 => ?_, ?_, ?_⟩
    · show sg (sSettle (sSettles k σ) k) j = _
      rw [sg_settle, if_neg h6, if_neg h8]
      exact i1 j h6 h8
    · have e : sg (sSettles (k + 1) σ) 8 = sg (sSettles k σ) 8 + (((sr (sSettles k σ) k 5).length - (100 - (sr (sSettles k σ) k 6).length) : Nat) : Int) := by
        show sg (sSettle (sSettles k σ) k) 8 = _
        rw [sg_settle, if_neg (by omega), if_pos rfl]
      rw [e, j2, j2]
      omega
    · have e : sg (sSettles (k + 1) σ) 6 = sg (sSettles k σ) 6 + sf (sSettles k σ) k 24 := by
        show sg (sSettle (sSettles k σ) k) 6 = _
        rw [sg_settle, if_pos rfl]
      rw [e, j1]
      omega
theorem m_isWhole {sc : av_S} {d : Nat} {h : av_H} {x : Nat} {σ : sS} (K : MK h x) (H : MR h x σ) (ok : okS σ) (hall : ∀ n, n < 8 → (sr σ n 6).length ≤ 100 ∧ (sr σ n 5).length ≤ 128 ∧ (0 ≤ sf σ n 24 ∧ sf σ n 24 ≤ 1000)) : ∃ h', (∀ Q, WP sc (d + 3) 118 0 [(0, .inr (.inl x))] [] h Q ↔ Q none h') ∧ MR h' x (sWhole σ) ∧ MF h h' x := by
  obtain ⟨k0, ⟨k1, k2⟩, -⟩ := id K
  obtain ⟨b0, b1, b4, b3, b8, -⟩ := ok
  have hsN : (sN σ : Int) = sg σ 0 := by unfold sN; omega
  generalize hσ0 : ug (ug (ug σ 3 (sg σ 3 + 1)) 4 0) 6 0 = σ0 at *
  have z0 : sg σ0 0 = sg σ 0 := by rw [← hσ0]; rfl
  have z4 : sg σ0 4 = 0 := by rw [← hσ0]; rfl
  have z6 : sg σ0 6 = 0 := by rw [← hσ0]; rfl
  have z8 : sg σ0 8 = sg σ 8 := by rw [← hσ0]; rfl
  have zf : ∀ a j, sf σ0 a j = sf σ a j := by intro a j; rw [← hσ0]; rfl
  have zr : ∀ a j, sr σ0 a j = sr σ a j := by intro a j; rw [← hσ0]; rfl
  have gb := fun k (hk : k ≤ 8) => @settles_g σ0 (fun n hn => by rw [zr, zf]; exact (hall n hn).2) k hk
  have loop : ∀ (t n : Nat) (hk : av_H), t = sN σ - n → n ≤ sN σ → MF h hk x → MR hk x (sSettles n σ0) → WP sc (d + 3) 118 27 [(0, .inr (.inl x)), (1, .inl (n : Int))] [] hk (fun r h' => r = none ∧ MR h' x (sWhole σ) ∧ MF h h' x) := by
    intro t
    induction t with
    | zero =>
      intro n hk ht hn hf hm
      have hK := K.mf hf
      obtain ⟨k0', ⟨k1', k2'⟩, -⟩ := id hK
      obtain ⟨g1, g2, g3⟩ := gb n (by omega)
      have g0 := hm.g (i := 0) (k := 0) (by omega) rfl
      rw [g1 0 (by omega) (by omega), z0] at g0
      rw [u118_27]
      simp (disch := omega) only [u118_0, u118_1, u118_4, u118_5, u118_6, u118_7, u118_8, u118_9, u118_10, u118_11, u118_14, u118_15, u118_16, u118_17, u118_18, u118_21, u118_23, u118_24, u118_25, u118_26, u118_28, u118_29, u118_32, u118_33, u118_34, u118_37, u118_38, u118_41, u118_42, u118_43, u118_46, u118_48, u118_49, u118_50, u118_51, u118_54, u118_55, u118_57, u118_58, u118_59, u118_60, u118_61, u118_62, u118_65, u118_66, u118_68, u118_69, u118_70, u118_73, u118_74, u118_76, u118_77, u118_78, u118_79, u118_80, u118_82, u118_83, u118_86, u118_87, u118_90, u118_91, u118_93, u118_94, u118_95, u118_96, u118_97, u118_100, u118_101, u118_103, u118_104, u118_105, u118_106, u118_107, u118_108, u118_111, u118_114, u118_115, u118_118, u118_119, u118_121, u118_122, u118_123, u118_126, u118_127, u118_129, u118_130, u118_131, u118_132, u118_133, u118_134, u118_135, u118_138, u118_139, u118_140, u118_143, u118_146, u118_147, u118_148, u118_151, u118_154, u118_157, k0', k1', k2', g0, wr_id, rng, rngp, if_pos, if_neg, if_true, if_false, reduceCtorEq, true_and, and_true, and_self, Option.toList_some, Option.toList_none, List.cons_append, List.nil_append, Int.toNat_natCast]
      have e : n = sN σ := by omega
      subst e
      unfold sWhole
      rw [hσ0]
      exact ⟨hm, hf⟩
    | succ t ih =>
      intro n hk ht hn hf hm
      have hn8 : n < 8 := by omega
      have hK := K.mf hf
      obtain ⟨k0', ⟨k1', k2'⟩, -⟩ := id hK
      obtain ⟨g1, g2, g3⟩ := gb n (by omega)
      obtain ⟨j1, j2⟩ := @settles_n σ0 n n (Nat.le_refl _)
      have ha := hall n hn8
      have g0 := hm.g (i := 0) (k := 0) (by omega) rfl
      rw [g1 0 (by omega) (by omega), z0] at g0
      have g00 : sg (sSettles n σ0) 0 = sg σ 0 := by rw [g1 0 (by omega) (by omega)]; exact z0
      have g4 : sg (sSettles n σ0) 4 = 0 := by rw [g1 4 (by omega) (by omega)]; exact z4
      have g6 := hm.g (i := 6) (k := 6) (by omega) rfl
      have f24 := hm.f (i := 10 + 30 * (n : Int) + 24) (n := n) (k := 24) hn8 (by omega) (by omega) (by omega)
      have f19 := hm.f (i := 10 + 30 * (n : Int) + 19) (n := n) (k := 19) hn8 (by omega) (by omega) (by omega)
      have b24 : 0 ≤ sf (sSettles n σ0) n 24 ∧ sf (sSettles n σ0) n 24 ≤ 1000 := by rw [j1, zf]; exact ha.2.2
      generalize hτ : sSettles n σ0 = τ at *
      have hm1 := hm.setg (k := 6) (v := sg τ 6 + sf τ n 24) (by omega) (by omega)
      have hm2 : MR (sI (sI hk (x + 1) 6 (sg τ 6 + sf τ n 24)) (x + 1) (10 + 30 * n + 14) (sf τ n 19)) x (uf (ug τ 6 (sg τ 6 + sf τ n 24)) n 14 (sf τ n 19)) := hm1.setf hn8 (by omega) rfl
      have f2 : MF h (sI (sI hk (x + 1) 6 (sg τ 6 + sf τ n 24)) (x + 1) (10 + 30 * n + 14) (sf τ n 19)) x := (hf.tr MF.sI).tr MF.sI
      rw [u118_27]
      simp (disch := omega) only [u118_0, u118_1, u118_4, u118_5, u118_6, u118_7, u118_8, u118_9, u118_10, u118_11, u118_14, u118_15, u118_16, u118_17, u118_18, u118_21, u118_23, u118_24, u118_25, u118_26, u118_28, u118_29, u118_32, u118_33, u118_34, u118_37, u118_38, u118_41, u118_42, u118_43, u118_46, u118_48, u118_49, u118_50, u118_51, u118_54, u118_55, u118_57, u118_58, u118_59, u118_60, u118_61, u118_62, u118_65, u118_66, u118_68, u118_69, u118_70, u118_73, u118_74, u118_76, u118_77, u118_78, u118_79, u118_80, u118_82, u118_83, u118_86, u118_87, u118_90, u118_91, u118_93, u118_94, u118_95, u118_96, u118_97, u118_100, u118_101, u118_103, u118_104, u118_105, u118_106, u118_107, u118_108, u118_111, u118_114, u118_115, u118_118, u118_119, u118_121, u118_122, u118_123, u118_126, u118_127, u118_129, u118_130, u118_131, u118_132, u118_133, u118_134, u118_135, u118_138, u118_139, u118_140, u118_143, u118_146, u118_147, u118_148, u118_151, u118_154, u118_157, k0', k1', k2', g0, m_at, g6, f24, f19, kd_sI, gR_sI, gI_sI_ne, wr_id, rng, rngp, if_pos, if_neg, if_true, if_false, reduceCtorEq, true_and, and_true, and_self, Option.toList_some, Option.toList_none, List.cons_append, List.nil_append, Int.toNat_natCast]
      rw [show (10 + 30 * (n : Int) + 14).toNat = 10 + 30 * n + 14 by omega, show Int.toNat 6 = 6 from rfl]
      have one : ∀ (k : Nat) (ρ : sS) (hq : av_H) (Q : Option av_V → av_H → Prop), k < 4 → MF h hq x → MR hq x ρ → (WP sc (d + 3) 118 81 [(0, .inr (.inl x)), (1, .inl (n : Int)), (2, .inl (10 + 30 * (n : Int))), (3, .inl (k : Int))] [] hq Q ↔ WP sc (d + 3) 118 81 [(0, .inr (.inl x)), (1, .inl (n : Int)), (2, .inl (10 + 30 * (n : Int))), (3, .inl ((k + 1 : Nat) : Int))] [] (sI hq (x + 1) (10 + 30 * n + 15 + k) (sf ρ n (20 + k))) Q) ∧ MR (sI hq (x + 1) (10 + 30 * n + 15 + k) (sf ρ n (20 + k))) x (uf ρ n (15 + k) (sf ρ n (20 + k))) ∧ MF h (sI hq (x + 1) (10 + 30 * n + 15 + k) (sf ρ n (20 + k))) x := by
        intro k ρ hq Q c1 c4 c6
        obtain ⟨k0', ⟨k1', k2'⟩, -⟩ := K.mf c4
        have fa := c6.f (i := 10 + 30 * (n : Int) + 20 + (k : Int)) (n := n) (k := 20 + k) hn8 (by omega) (by omega) (by omega)
        refine ⟨?_, c6.setf hn8 (by omega) (by omega), c4.tr MF.sI⟩
        rw [u118_81]
        simp (disch := omega) only [u118_0, u118_1, u118_4, u118_5, u118_6, u118_7, u118_8, u118_9, u118_10, u118_11, u118_14, u118_15, u118_16, u118_17, u118_18, u118_21, u118_23, u118_24, u118_25, u118_26, u118_28, u118_29, u118_32, u118_33, u118_34, u118_37, u118_38, u118_41, u118_42, u118_43, u118_46, u118_48, u118_49, u118_50, u118_51, u118_54, u118_55, u118_57, u118_58, u118_59, u118_60, u118_61, u118_62, u118_65, u118_66, u118_68, u118_69, u118_70, u118_73, u118_74, u118_76, u118_77, u118_78, u118_79, u118_80, u118_82, u118_83, u118_86, u118_87, u118_90, u118_91, u118_93, u118_94, u118_95, u118_96, u118_97, u118_100, u118_101, u118_103, u118_104, u118_105, u118_106, u118_107, u118_108, u118_111, u118_114, u118_115, u118_118, u118_119, u118_121, u118_122, u118_123, u118_126, u118_127, u118_129, u118_130, u118_131, u118_132, u118_133, u118_134, u118_135, u118_138, u118_139, u118_140, u118_143, u118_146, u118_147, u118_148, u118_151, u118_154, u118_157, k0', k1', k2', fa, kd_sI, gR_sI, gI_sI_ne, wr_id, rng, rngp, if_pos, if_neg, if_true, if_false, reduceCtorEq, true_and, and_true, and_self, Option.toList_some, Option.toList_none, List.cons_append, List.nil_append, Int.toNat_natCast]
        rw [show (10 + 30 * (n : Int) + 15 + (k : Int)).toNat = 10 + 30 * n + 15 + k by omega, show (k : Int) + 1 = ((k + 1 : Nat) : Int) by omega]
      generalize sI (sI hk (x + 1) 6 (sg τ 6 + sf τ n 24)) (x + 1) (10 + 30 * n + 14) (sf τ n 19) = h2 at *
      generalize ht2 : uf (ug τ 6 (sg τ 6 + sf τ n 24)) n 14 (sf τ n 19) = t2 at *
      rw [show (0 : Int) = ((0 : Nat) : Int) from rfl]
      obtain ⟨w3, hm3, f3⟩ := one 0 t2 h2 (fun r h' => r = none ∧ MR h' x (sWhole σ) ∧ MF h h' x) (by omega) f2 hm2
      refine w3.mpr ?_
      generalize sI h2 (x + 1) (10 + 30 * n + 15 + 0) (sf t2 n (20 + 0)) = h3 at *
      generalize ht3 : uf t2 n (15 + 0) (sf t2 n (20 + 0)) = t3 at *
      obtain ⟨w4, hm4, f4⟩ := one 1 t3 h3 (fun r h' => r = none ∧ MR h' x (sWhole σ) ∧ MF h h' x) (by omega) f3 hm3
      refine w4.mpr ?_
      generalize sI h3 (x + 1) (10 + 30 * n + 15 + 1) (sf t3 n (20 + 1)) = h4 at *
      generalize ht4 : uf t3 n (15 + 1) (sf t3 n (20 + 1)) = t4 at *
      obtain ⟨w5, hm5, f5⟩ := one 2 t4 h4 (fun r h' => r = none ∧ MR h' x (sWhole σ) ∧ MF h h' x) (by omega) f4 hm4
      refine w5.mpr ?_
      generalize sI h4 (x + 1) (10 + 30 * n + 15 + 2) (sf t4 n (20 + 2)) = h5 at *
      generalize ht5 : uf t4 n (15 + 2) (sf t4 n (20 + 2)) = t5 at *
      obtain ⟨w6, hm6, f6⟩ := one 3 t5 h5 (fun r h' => r = none ∧ MR h' x (sWhole σ) ∧ MF h h' x) (by omega) f5 hm5
      refine w6.mpr ?_
      generalize sI h5 (x + 1) (10 + 30 * n + 15 + 3) (sf t5 n (20 + 3)) = h6 at *
      generalize ht6 : uf t5 n (15 + 3) (sf t5 n (20 + 3)) = t6 at *
      obtain ⟨k6, ⟨k7, k8⟩, -⟩ := K.mf f6
      have e6 : ∀ a j, sf t6 a j = if a = n ∧ j = 18 then sf τ n 23 else if a = n ∧ j = 17 then sf τ n 22 else if a = n ∧ j = 16 then sf τ n 21 else if a = n ∧ j = 15 then sf τ n 20 else if a = n ∧ j = 14 then sf τ n 19 else sf τ a j := by
        intro a j
        subst ht2 ht3 ht4 ht5 ht6
        simp [sf_uf, sf_ug]
      have eg6 : ∀ j, sg t6 j = if j = 6 then sg τ 6 + sf τ n 24 else sg τ j := by
        intro j
        subst ht2 ht3 ht4 ht5 ht6
        rfl
      have er6 : ∀ a j, sr t6 a j = sr τ a j := by
        intro a j
        subst ht2 ht3 ht4 ht5 ht6
        rfl
      have f25 := hm6.f (i := 10 + 30 * (n : Int) + 25) (n := n) (k := 25) hn8 (by omega) (by omega) (by omega)
      have hm7 : MR (sI h6 (x + 1) (10 + 30 * (n : Int) + 26).toNat (sf t6 n 25)) x (uf t6 n 26 (sf t6 n 25)) := hm6.setf hn8 (by omega) (by omega)
      obtain ⟨h8, hw8, hm8, hf8⟩ := @m_copiesRow sc (d + 1) _ x n 2 3 _ (250 + 129 * (7 * (n : Int) + 2)) (250 + 129 * (7 * (n : Int) + 3)) ((K.mf f6).mf MF.sI) hm7 hn8 (by omega) (by omega) (by omega) rfl rfl
      obtain ⟨h9, hw9, hm9, hf9⟩ := @m_putsOut sc d h8 x n _ (((K.mf f6).mf MF.sI).mf hf8) hm8 hn8 (by rw [sr_ur, if_neg (by omega), sr_uf, er6, j2, zr]; exact ha.1) (by rw [sg_ur, sg_uf, eg6, if_neg (by omega)]; omega)
      have e8 := hf8.kd x
      rw [u118_81]
      simp (disch := omega) only [u118_0, u118_1, u118_4, u118_5, u118_6, u118_7, u118_8, u118_9, u118_10, u118_11, u118_14, u118_15, u118_16, u118_17, u118_18, u118_21, u118_23, u118_24, u118_25, u118_26, u118_28, u118_29, u118_32, u118_33, u118_34, u118_37, u118_38, u118_41, u118_42, u118_43, u118_46, u118_48, u118_49, u118_50, u118_51, u118_54, u118_55, u118_57, u118_58, u118_59, u118_60, u118_61, u118_62, u118_65, u118_66, u118_68, u118_69, u118_70, u118_73, u118_74, u118_76, u118_77, u118_78, u118_79, u118_80, u118_82, u118_83, u118_86, u118_87, u118_90, u118_91, u118_93, u118_94, u118_95, u118_96, u118_97, u118_100, u118_101, u118_103, u118_104, u118_105, u118_106, u118_107, u118_108, u118_111, u118_114, u118_115, u118_118, u118_119, u118_121, u118_122, u118_123, u118_126, u118_127, u118_129, u118_130, u118_131, u118_132, u118_133, u118_134, u118_135, u118_138, u118_139, u118_140, u118_143, u118_146, u118_147, u118_148, u118_151, u118_154, u118_157, k6, k7, k8, e8, f25, kd_sI, gR_sI, m_rowAt, hw8, hw9, wr_id, rng, rngp, if_pos, if_neg, if_true, if_false, reduceCtorEq, true_and, and_true, and_self, Option.toList_some, Option.toList_none, List.cons_append, List.nil_append, Int.toNat_natCast]
      rw [show (n : Int) + 1 = ((n + 1 : Nat) : Int) by omega]
      refine ih (n + 1) h9 (by omega) (by omega) (((f6.tr MF.sI).tr hf8).tr hf9) (hm9.cg (fun k hk => ?_) (fun a ha k hk h9' => ?_) (fun a ha r hr => ?_))
      · show sg (sSettle (sSettles n σ0) n) k = _
        rw [hτ, sg_settle]
        unfold sOut
        simp only [sg_ug, sg_ur, sg_uf, eg6, sr_ur, sr_uf, er6]
        by_cases c6 : k = 6
        · subst c6; simp
        · by_cases c8 : k = 8
          · subst c8; simp
          · simp [c6, c8]
      · show sf (sSettle (sSettles n σ0) n) a k = _
        rw [hτ, sf_settle]
        have hk9 : a = n → k ≠ 9 := by
          intro qa q
          have := h9' q
          unfold sOut at this
          simp only [sg_ug, sg_ur, sg_uf, eg6] at this
          simp [g4] at this
          rw [g00] at this
          omega
        unfold sOut
        simp only [sf_ug, sf_ur, sf_uf, e6]
        by_cases ca : a = n
        · subst ca
          by_cases c14 : k = 14
          · subst c14; simp
          · by_cases c15 : k = 15
            · subst c15; simp
            · by_cases c16 : k = 16
              · subst c16; simp
              · by_cases c17 : k = 17
                · subst c17; simp
                · by_cases c18 : k = 18
                  · subst c18; simp
                  · by_cases c26 : k = 26
                    · subst c26; simp
                    · simp [c14, c15, c16, c17, c18, c26, hk9 rfl, show k ≠ 27 by omega]
        · simp [ca]
      · show sr (sSettle (sSettles n σ0) n) a r = _
        rw [hτ, sr_settle]
        unfold sOut
        simp only [sr_ug, sr_ur, sr_uf, er6]
        by_cases ca : a = n
        · subst ca
          by_cases c3 : r = 3
          · subst c3; simp
          · by_cases c6 : r = 6
            · subst c6; simp
            · by_cases c5 : r = 5
              · subst c5; simp
              · simp [c3, c5, c6]
        · simp [ca]
  have g3 := H.g (i := 3) (k := 3) (by omega) rfl
  have big : WP sc (d + 3) 118 0 [(0, .inr (.inl x))] [] h (fun r h' => r = none ∧ MR h' x (sWhole σ) ∧ MF h h' x) := by
    simp (disch := omega) only [u118_0, u118_1, u118_4, u118_5, u118_6, u118_7, u118_8, u118_9, u118_10, u118_11, u118_14, u118_15, u118_16, u118_17, u118_18, u118_21, u118_23, u118_24, u118_25, u118_26, u118_28, u118_29, u118_32, u118_33, u118_34, u118_37, u118_38, u118_41, u118_42, u118_43, u118_46, u118_48, u118_49, u118_50, u118_51, u118_54, u118_55, u118_57, u118_58, u118_59, u118_60, u118_61, u118_62, u118_65, u118_66, u118_68, u118_69, u118_70, u118_73, u118_74, u118_76, u118_77, u118_78, u118_79, u118_80, u118_82, u118_83, u118_86, u118_87, u118_90, u118_91, u118_93, u118_94, u118_95, u118_96, u118_97, u118_100, u118_101, u118_103, u118_104, u118_105, u118_106, u118_107, u118_108, u118_111, u118_114, u118_115, u118_118, u118_119, u118_121, u118_122, u118_123, u118_126, u118_127, u118_129, u118_130, u118_131, u118_132, u118_133, u118_134, u118_135, u118_138, u118_139, u118_140, u118_143, u118_146, u118_147, u118_148, u118_151, u118_154, u118_157, k0, k1, k2, g3, kd_sI, gR_sI, wr_id, rng, rngp, if_pos, if_neg, if_true, if_false, reduceCtorEq, true_and, and_true, and_self, Option.toList_some, Option.toList_none, List.cons_append, List.nil_append, Int.toNat_natCast]
    rw [show (0 : Int) = ((0 : Nat) : Int) from rfl]
    refine loop _ 0 _ rfl (by omega) ((MF.sI.tr MF.sI).tr MF.sI) ?_
    show MR _ x σ0
    rw [← hσ0]
    exact ((H.setg (k := 3) (by omega) (by omega)).setg (k := 4) (by omega) (by omega)).setg (k := 6) (by omega) (by omega)
  obtain ⟨r, h', hw, rfl, hm, hf⟩ := big.evE
  exact ⟨h', hw, hm, hf⟩
