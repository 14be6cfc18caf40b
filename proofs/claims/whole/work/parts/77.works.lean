/-! the works of the class: what they are, what they tell -/
def WK (h : av_H) (w : Nat) : Prop := (kd h w).1 = 5 ∧ gR h w 0 = w + 1 ∧ kd h (w + 1) = (11, 8) ∧ ∀ n, n < 8 → gR h (w + 1) n = w + 2 + 20 * n
def WI (h : av_H) (w : Nat) (σ : sS) : Prop := gI h w 1 = sg σ 0 ∧ gI h w 2 = sJoins σ ∧ gI h w 3 = sg σ 1 ∧ gI h w 4 = sg σ 2 ∧ gI h w 5 = sg σ 3 ∧ gI h w 6 = sg σ 4 ∧ gI h w 7 = sg σ 5 ∧ gI h w 8 = sg σ 7 ∧ gI h w 9 = sg σ 8
def CW (h : av_H) (w : Nat) (σ : sS) : Prop := WK h w ∧ WI h w σ ∧ (0 ≤ sg σ 0 ∧ sg σ 0 ≤ 8) ∧ (∀ n, n < sN σ → CN h (w + 2 + 20 * n) (sf σ n) (sr σ n)) ∧ ∀ n, n < 8 → NW h (w + 2 + 20 * n)
theorem WK.fr {h h' : av_H} {lo hi w : Nat} (K : WK h w) (F : Fr h h' lo hi) (e : w + 2 ≤ lo ∨ hi ≤ w) : WK h' w := by
  obtain ⟨a, b, c, q⟩ := K
  exact ⟨by rw [F.k]; exact a, by rw [F.r (by omega)]; exact b, by rw [F.k]; exact c, fun n hn => by rw [F.r (by omega)]; exact q n hn⟩
theorem WI.fr {h h' : av_H} {lo hi w : Nat} {σ : sS} (K : WI h w σ) (F : Fr h h' lo hi) (e : w + 1 ≤ lo ∨ hi ≤ w) : WI h' w σ := by
  have e' : w < lo ∨ hi ≤ w := e
  unfold WI at K ⊢
  rw [F.i e', F.i e', F.i e', F.i e', F.i e', F.i e', F.i e', F.i e', F.i e']
  exact K
theorem CW.fr {h h' : av_H} {lo hi w : Nat} {σ : sS} (C : CW h w σ) (F : Fr h h' lo hi) (e : w + 162 ≤ lo ∨ hi ≤ w) : CW h' w σ := by
  obtain ⟨K, I, hN, cn, nw⟩ := C
  have sz : sN σ ≤ 8 := by unfold sN; omega
  exact ⟨K.fr F (by omega), I.fr F (by omega), hN, fun n hn => (cn n hn).fr F (by omega), fun n hn => (nw n hn).fr F (by omega)⟩
theorem CW.sz {h : av_H} {w : Nat} {σ : sS} (C : CW h w σ) : (sN σ : Int) = sg σ 0 ∧ sN σ ≤ 8 := by
  obtain ⟨K, I, hN, -⟩ := C
  unfold sN
  omega
theorem w_hasNode {sc : av_S} {d : Nat} {h : av_H} {w : Nat} {σ : sS} {n : Int} (C : CW h w σ) (Q : Option av_V → av_H → Prop) : WP sc (d + 1) 49 0 [(0, .inr (.inl w)), (1, .inl n)] [] h Q ↔ Q (some (.inl (bI (isNd σ n)))) h := by
  obtain ⟨⟨k0, -⟩, ⟨i1, -⟩, -⟩ := C
  unfold isNd
  by_cases c1 : 0 ≤ n
  · by_cases c2 : n < sg σ 0
    · rw [show decide (0 ≤ n ∧ n < sg σ 0) = true from decide_eq_true ⟨c1, c2⟩]
      simp (disch := omega) only [u49_0, u49_1, u49_4, u49_5, u49_6, u49_9, u49_12, u49_13, u49_16, u49_17, k0, i1, true_or, or_true, bI_t, wr_id, rng, rngp, if_pos, if_neg, if_true, if_false, reduceCtorEq, true_and, and_true, and_self, Option.toList_some, Option.toList_none, List.cons_append, List.nil_append, Int.toNat_natCast]
    · rw [show decide (0 ≤ n ∧ n < sg σ 0) = false from decide_eq_false (fun q => c2 q.2)]
      simp (disch := omega) only [u49_0, u49_1, u49_4, u49_5, u49_6, u49_9, u49_12, u49_13, u49_16, u49_17, k0, i1, true_or, or_true, bI_f, wr_id, rng, rngp, if_pos, if_neg, if_true, if_false, reduceCtorEq, true_and, and_true, and_self, Option.toList_some, Option.toList_none, List.cons_append, List.nil_append, Int.toNat_natCast]
  · rw [show decide (0 ≤ n ∧ n < sg σ 0) = false from decide_eq_false (fun q => c1 q.1)]
    simp (disch := omega) only [u49_0, u49_1, u49_4, u49_5, u49_6, u49_9, u49_12, u49_13, u49_16, u49_17, k0, i1, true_or, or_true, bI_f, wr_id, rng, rngp, if_pos, if_neg, if_true, if_false, reduceCtorEq, true_and, and_true, and_self, Option.toList_some, Option.toList_none, List.cons_append, List.nil_append, Int.toNat_natCast]
theorem sumN_b {f : Nat → Int} {B : Int} : ∀ {n : Nat}, (∀ k, k < n → 0 ≤ f k ∧ f k ≤ B) → 0 ≤ sumN f n ∧ sumN f n ≤ (n : Int) * B := by
  intro n
  induction n with
  | zero => intro _; exact ⟨Int.le_refl _, by rw [show ((0 : Nat) : Int) * B = 0 by simp]; exact Int.le_refl _⟩
  | succ n ih =>
    intro hf
    have h1 := ih (fun k hk => hf k (by omega))
    have h2 := hf n (by omega)
    have e : ((n + 1 : Nat) : Int) * B = (n : Int) * B + B := by rw [show ((n + 1 : Nat) : Int) = (n : Int) + 1 from rfl, Int.add_mul, Int.one_mul]
    show 0 ≤ sumN f n + f n ∧ sumN f n + f n ≤ _
    rw [e]
    omega
theorem w_numbers {sc : av_S} {d : Nat} {h : av_H} {w : Nat} {σ : sS} (C : CW h w σ) (hb : ∀ n, n < sN σ → 0 ≤ sf σ n 27 ∧ sf σ n 27 ≤ 1000) (Q : Option av_V → av_H → Prop) : WP sc (d + 1) 51 0 [(0, .inr (.inl w))] [] h Q ↔ Q (some (.inl (sumN (fun n => sf σ n 27) (sN σ)))) h := by
  obtain ⟨z1, z2⟩ := C.sz
  obtain ⟨⟨k0, k1, k2, k3⟩, ⟨i1, -⟩, -, cn, -⟩ := id C
  have lp : ∀ (t n : Nat), t = sN σ - n → n ≤ sN σ → (WP sc (d + 1) 51 4 [(0, .inr (.inl w)), (1, .inl (sumN (fun n => sf σ n 27) n)), (2, .inl (n : Int))] [] h Q ↔ Q (some (.inl (sumN (fun n => sf σ n 27) (sN σ)))) h) := by
    intro t
    induction t with
    | zero =>
      intro n ht hn
      have e : n = sN σ := by omega
      subst e
      rw [u51_4]
      simp (disch := omega) only [u51_0, u51_1, u51_2, u51_3, u51_5, u51_6, u51_9, u51_12, u51_13, u51_14, u51_17, u51_18, u51_19, u51_22, u51_25, u51_26, u51_27, u51_30, u51_33, u51_34, k0, i1, wr_id, rng, rngp, if_pos, if_neg, if_true, if_false, reduceCtorEq, true_and, and_true, and_self, Option.toList_some, Option.toList_none, List.cons_append, List.nil_append, Int.toNat_natCast]
    | succ t ih =>
      intro n ht hn
      obtain ⟨pa, la, K, P, L, I, S, R, p, l⟩ := (cn n (by omega)).to
      have a0 := K.1
      have a1 := K.2.2.2.2.2.2.2.2.1
      have l0 := L.1
      have l4 := l.2.2.2.1
      have k3' := k3 n (by omega)
      have b1 := sumN_b (f := fun n => sf σ n 27) (B := 1000) (n := n) (fun k hk => hb k (by omega))
      have b2 := hb n (by omega)
      rw [← ih (n + 1) (by omega) (by omega), u51_4]
      simp (disch := omega) only [u51_0, u51_1, u51_2, u51_3, u51_5, u51_6, u51_9, u51_12, u51_13, u51_14, u51_17, u51_18, u51_19, u51_22, u51_25, u51_26, u51_27, u51_30, u51_33, u51_34, k0, k1, k2, i1, k3', a0, a1, l0, l4, true_or, or_true, wr_id, rng, rngp, if_pos, if_neg, if_true, if_false, reduceCtorEq, true_and, and_true, and_self, Option.toList_some, Option.toList_none, List.cons_append, List.nil_append, Int.toNat_natCast]
      rw [show (n : Int) + 1 = ((n + 1 : Nat) : Int) by omega]
      rfl
  have l0 := lp _ 0 rfl (by omega)
  rw [← l0]
  simp (disch := omega) only [u51_0, u51_1, u51_2, u51_3, u51_5, u51_6, u51_9, u51_12, u51_13, u51_14, u51_17, u51_18, u51_19, u51_22, u51_25, u51_26, u51_27, u51_30, u51_33, u51_34, wr_id, rng, rngp, if_pos, if_neg, if_true, if_false, reduceCtorEq, true_and, and_true, and_self, Option.toList_some, Option.toList_none, List.cons_append, List.nil_append, Int.toNat_natCast]
  rfl
theorem w_letters {sc : av_S} {d : Nat} {h : av_H} {w : Nat} {σ : sS} (C : CW h w σ) (Q : Option av_V → av_H → Prop) : WP sc (d + 1) 52 0 [(0, .inr (.inl w))] [] h Q ↔ Q (some (.inl (sLet σ))) h := by
  obtain ⟨z1, z2⟩ := C.sz
  obtain ⟨⟨k0, k1, k2, k3⟩, ⟨i1, -⟩, -, cn, -⟩ := id C
  have hb : ∀ n, n < sN σ → 0 ≤ ((sr σ n 0).length : Int) + ((sr σ n 1).length : Int) ∧ ((sr σ n 0).length : Int) + ((sr σ n 1).length : Int) ≤ 120 := by
    intro n hn
    obtain ⟨pa, la, K, P, L, I, S, ⟨r0, r1, -⟩, p, l⟩ := (cn n hn).to
    have := r0.2.2.1
    have := r1.2.2.1
    omega
  have lp : ∀ (t n : Nat), t = sN σ - n → n ≤ sN σ → (WP sc (d + 1) 52 4 [(0, .inr (.inl w)), (1, .inl (sumN (fun n => ((sr σ n 0).length : Int) + ((sr σ n 1).length : Int)) n)), (2, .inl (n : Int))] [] h Q ↔ Q (some (.inl (sLet σ))) h) := by
    intro t
    induction t with
    | zero =>
      intro n ht hn
      have e : n = sN σ := by omega
      subst e
      rw [u52_4]
      simp (disch := omega) only [u52_0, u52_1, u52_2, u52_3, u52_5, u52_6, u52_9, u52_12, u52_13, u52_14, u52_17, u52_18, u52_19, u52_22, u52_25, u52_26, u52_29, u52_30, u52_31, u52_34, u52_37, u52_38, u52_39, u52_40, u52_43, u52_46, u52_47, k0, i1, wr_id, rng, rngp, if_pos, if_neg, if_true, if_false, reduceCtorEq, true_and, and_true, and_self, Option.toList_some, Option.toList_none, List.cons_append, List.nil_append, Int.toNat_natCast]
      rfl
    | succ t ih =>
      intro n ht hn
      obtain ⟨pa, la, K, P, L, I, S, ⟨r0, r1, -⟩, p, l⟩ := (cn n (by omega)).to
      have a0 := K.1
      have a1 := K.2.2.1
      have a2 := K.2.2.2.1
      have m0 : (kd h (w + 2 + 20 * n + 2)).1 = 3 := r0.1.1
      have m1 : (kd h (w + 2 + 20 * n + 4)).1 = 3 := r1.1.1
      have s0 := r0.2.1
      have s1 := r1.2.1
      have k3' := k3 n (by omega)
      have b1 := sumN_b (f := fun n => ((sr σ n 0).length : Int) + ((sr σ n 1).length : Int)) (B := 120) (n := n) (fun k hk => hb k (by omega))
      have b2 := hb n (by omega)
      rw [← ih (n + 1) (by omega) (by omega), u52_4]
      simp (disch := omega) only [u52_0, u52_1, u52_2, u52_3, u52_5, u52_6, u52_9, u52_12, u52_13, u52_14, u52_17, u52_18, u52_19, u52_22, u52_25, u52_26, u52_29, u52_30, u52_31, u52_34, u52_37, u52_38, u52_39, u52_40, u52_43, u52_46, u52_47, k0, k1, k2, i1, k3', a0, a1, a2, m0, m1, s0, s1, true_or, or_true, wr_id, rng, rngp, if_pos, if_neg, if_true, if_false, reduceCtorEq, true_and, and_true, and_self, Option.toList_some, Option.toList_none, List.cons_append, List.nil_append, Int.toNat_natCast]
      rw [show (n : Int) + 1 = ((n + 1 : Nat) : Int) by omega]
      rfl
  have l0 := lp _ 0 rfl (by omega)
  rw [← l0]
  simp (disch := omega) only [u52_0, u52_1, u52_2, u52_3, u52_5, u52_6, u52_9, u52_12, u52_13, u52_14, u52_17, u52_18, u52_19, u52_22, u52_25, u52_26, u52_29, u52_30, u52_31, u52_34, u52_37, u52_38, u52_39, u52_40, u52_43, u52_46, u52_47, wr_id, rng, rngp, if_pos, if_neg, if_true, if_false, reduceCtorEq, true_and, and_true, and_self, Option.toList_some, Option.toList_none, List.cons_append, List.nil_append, Int.toNat_natCast]
  rfl
theorem w_tally {sc : av_S} {d : Nat} {h : av_H} {w k : Nat} {σ : sS} (C : CW h w σ) (hk : k < 10) (hb : ∀ n, n < sN σ → 0 ≤ sf σ n 27 ∧ sf σ n 27 ≤ 1000) (h6 : sg σ 6 = sumN (fun n => sf σ n 27) (sN σ)) (h4 : sg σ 4 = 0 ∨ sg σ 4 = 1) (h5 : sg σ 5 = 0 ∨ sg σ 5 = 1) (Q : Option av_V → av_H → Prop) : WP sc (d + 2) 50 0 [(0, .inr (.inl w)), (1, .inl (k : Int))] [] h Q ↔ Q (some (.inl (sCount σ k))) h := by
  have w1 : ∀ Q, WP sc (d + 1) 51 0 [(0, .inr (.inl w))] [] h Q ↔ Q (some (.inl (sumN (fun n => sf σ n 27) (sN σ)))) h := fun Q => w_numbers C hb Q
  have w2 : ∀ Q, WP sc (d + 1) 52 0 [(0, .inr (.inl w))] [] h Q ↔ Q (some (.inl (sLet σ))) h := fun Q => w_letters C Q
  obtain ⟨⟨k0, k1, k2, k3⟩, ⟨i1, i2, i3, i4, i5, i6, i7, i8, i9⟩, -⟩ := id C
  have c : k = 0 ∨ k = 1 ∨ k = 2 ∨ k = 3 ∨ k = 4 ∨ k = 5 ∨ k = 6 ∨ k = 7 ∨ k = 8 ∨ k = 9 := by omega
  rcases c with rfl | rfl | rfl | rfl | rfl | rfl | rfl | rfl | rfl | rfl
  · simp (disch := omega) only [u50_0, u50_1, u50_52, u50_53, u50_56, u50_57, u50_58, u50_61, u50_62, u50_63, u50_66, u50_67, u50_68, u50_71, u50_72, u50_73, u50_76, u50_79, u50_80, u50_83, u50_84, u50_85, u50_86, u50_89, u50_92, u50_93, u50_96, u50_97, u50_98, u50_99, u50_102, u50_103, u50_104, u50_107, u50_108, u50_109, u50_112, u50_113, u50_114, u50_117, k0, i1, wr_id, rng, rngp, if_pos, if_neg, if_true, if_false, reduceCtorEq, true_and, and_true, and_self, Option.toList_some, Option.toList_none, List.cons_append, List.nil_append, Int.toNat_natCast] <;> rfl
  · simp (disch := omega) only [u50_0, u50_1, u50_52, u50_53, u50_56, u50_57, u50_58, u50_61, u50_62, u50_63, u50_66, u50_67, u50_68, u50_71, u50_72, u50_73, u50_76, u50_79, u50_80, u50_83, u50_84, u50_85, u50_86, u50_89, u50_92, u50_93, u50_96, u50_97, u50_98, u50_99, u50_102, u50_103, u50_104, u50_107, u50_108, u50_109, u50_112, u50_113, u50_114, u50_117, k0, i3, wr_id, rng, rngp, if_pos, if_neg, if_true, if_false, reduceCtorEq, true_and, and_true, and_self, Option.toList_some, Option.toList_none, List.cons_append, List.nil_append, Int.toNat_natCast] <;> rfl
  · simp (disch := omega) only [u50_0, u50_1, u50_52, u50_53, u50_56, u50_57, u50_58, u50_61, u50_62, u50_63, u50_66, u50_67, u50_68, u50_71, u50_72, u50_73, u50_76, u50_79, u50_80, u50_83, u50_84, u50_85, u50_86, u50_89, u50_92, u50_93, u50_96, u50_97, u50_98, u50_99, u50_102, u50_103, u50_104, u50_107, u50_108, u50_109, u50_112, u50_113, u50_114, u50_117, k0, i4, wr_id, rng, rngp, if_pos, if_neg, if_true, if_false, reduceCtorEq, true_and, and_true, and_self, Option.toList_some, Option.toList_none, List.cons_append, List.nil_append, Int.toNat_natCast] <;> rfl
  · simp (disch := omega) only [u50_0, u50_1, u50_52, u50_53, u50_56, u50_57, u50_58, u50_61, u50_62, u50_63, u50_66, u50_67, u50_68, u50_71, u50_72, u50_73, u50_76, u50_79, u50_80, u50_83, u50_84, u50_85, u50_86, u50_89, u50_92, u50_93, u50_96, u50_97, u50_98, u50_99, u50_102, u50_103, u50_104, u50_107, u50_108, u50_109, u50_112, u50_113, u50_114, u50_117, k0, i5, wr_id, rng, rngp, if_pos, if_neg, if_true, if_false, reduceCtorEq, true_and, and_true, and_self, Option.toList_some, Option.toList_none, List.cons_append, List.nil_append, Int.toNat_natCast] <;> rfl
  · have e : sCount σ 4 = sg σ 4 := rfl
    rw [e]
    rcases h4 with c | c <;> simp (disch := omega) only [u50_0, u50_1, u50_52, u50_53, u50_56, u50_57, u50_58, u50_61, u50_62, u50_63, u50_66, u50_67, u50_68, u50_71, u50_72, u50_73, u50_76, u50_79, u50_80, u50_83, u50_84, u50_85, u50_86, u50_89, u50_92, u50_93, u50_96, u50_97, u50_98, u50_99, u50_102, u50_103, u50_104, u50_107, u50_108, u50_109, u50_112, u50_113, u50_114, u50_117, k0, i6, c, wr_id, rng, rngp, if_pos, if_neg, if_true, if_false, reduceCtorEq, true_and, and_true, and_self, Option.toList_some, Option.toList_none, List.cons_append, List.nil_append, Int.toNat_natCast]
  · have e : sCount σ 5 = sg σ 5 := rfl
    rw [e]
    rcases h5 with c | c <;> simp (disch := omega) only [u50_0, u50_1, u50_52, u50_53, u50_56, u50_57, u50_58, u50_61, u50_62, u50_63, u50_66, u50_67, u50_68, u50_71, u50_72, u50_73, u50_76, u50_79, u50_80, u50_83, u50_84, u50_85, u50_86, u50_89, u50_92, u50_93, u50_96, u50_97, u50_98, u50_99, u50_102, u50_103, u50_104, u50_107, u50_108, u50_109, u50_112, u50_113, u50_114, u50_117, k0, i7, c, wr_id, rng, rngp, if_pos, if_neg, if_true, if_false, reduceCtorEq, true_and, and_true, and_self, Option.toList_some, Option.toList_none, List.cons_append, List.nil_append, Int.toNat_natCast]
  · have e : sCount σ 6 = sumN (fun n => sf σ n 27) (sN σ) := h6
    rw [e]
    simp (disch := omega) only [u50_0, u50_1, u50_52, u50_53, u50_56, u50_57, u50_58, u50_61, u50_62, u50_63, u50_66, u50_67, u50_68, u50_71, u50_72, u50_73, u50_76, u50_79, u50_80, u50_83, u50_84, u50_85, u50_86, u50_89, u50_92, u50_93, u50_96, u50_97, u50_98, u50_99, u50_102, u50_103, u50_104, u50_107, u50_108, u50_109, u50_112, u50_113, u50_114, u50_117, k0, w1, wr_id, rng, rngp, if_pos, if_neg, if_true, if_false, reduceCtorEq, true_and, and_true, and_self, Option.toList_some, Option.toList_none, List.cons_append, List.nil_append, Int.toNat_natCast]
  · simp (disch := omega) only [u50_0, u50_1, u50_52, u50_53, u50_56, u50_57, u50_58, u50_61, u50_62, u50_63, u50_66, u50_67, u50_68, u50_71, u50_72, u50_73, u50_76, u50_79, u50_80, u50_83, u50_84, u50_85, u50_86, u50_89, u50_92, u50_93, u50_96, u50_97, u50_98, u50_99, u50_102, u50_103, u50_104, u50_107, u50_108, u50_109, u50_112, u50_113, u50_114, u50_117, k0, i8, wr_id, rng, rngp, if_pos, if_neg, if_true, if_false, reduceCtorEq, true_and, and_true, and_self, Option.toList_some, Option.toList_none, List.cons_append, List.nil_append, Int.toNat_natCast] <;> rfl
  · simp (disch := omega) only [u50_0, u50_1, u50_52, u50_53, u50_56, u50_57, u50_58, u50_61, u50_62, u50_63, u50_66, u50_67, u50_68, u50_71, u50_72, u50_73, u50_76, u50_79, u50_80, u50_83, u50_84, u50_85, u50_86, u50_89, u50_92, u50_93, u50_96, u50_97, u50_98, u50_99, u50_102, u50_103, u50_104, u50_107, u50_108, u50_109, u50_112, u50_113, u50_114, u50_117, k0, i9, wr_id, rng, rngp, if_pos, if_neg, if_true, if_false, reduceCtorEq, true_and, and_true, and_self, Option.toList_some, Option.toList_none, List.cons_append, List.nil_append, Int.toNat_natCast] <;> rfl
  · simp (disch := omega) only [u50_0, u50_1, u50_52, u50_53, u50_56, u50_57, u50_58, u50_61, u50_62, u50_63, u50_66, u50_67, u50_68, u50_71, u50_72, u50_73, u50_76, u50_79, u50_80, u50_83, u50_84, u50_85, u50_86, u50_89, u50_92, u50_93, u50_96, u50_97, u50_98, u50_99, u50_102, u50_103, u50_104, u50_107, u50_108, u50_109, u50_112, u50_113, u50_114, u50_117, k0, w2, wr_id, rng, rngp, if_pos, if_neg, if_true, if_false, reduceCtorEq, true_and, and_true, and_self, Option.toList_some, Option.toList_none, List.cons_append, List.nil_append, Int.toNat_natCast] <;> rfl
