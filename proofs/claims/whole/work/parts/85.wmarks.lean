/-! the works of the class begin a snapshot, go back -/
theorem CN.n9 {h : av_H} {a : Nat} {f : Nat → Int} {r : Nat → List Int} (N : CN h a f r) : CN (sI h a 9 0) a (ud f 9 0) r := by
  obtain ⟨pa, la, K, P, L, I, S, R, p, l⟩ := N.to
  have pl := K.pl
  have F : Fr h (sI h a 9 0) a (a + 1) := fr1
  have w1 : pa + 4 ≤ a ∨ a + 1 ≤ pa := by omega
  have w2 : la + 4 ≤ a ∨ a + 1 ≤ la := by omega
  have p' := p.fr F w1
  refine CN.mk K (P.fr F w1) (L.fr F w2) (I.set (by omega) rfl) ((S.fr F (by omega)).cg rfl (fun k hk => ud_ne (n10 hk (by decide)))) (R.fr F (by omega)) ⟨fun q => absurd q (by decide : ¬ (0 : Int) = 1), fun q => q.elim (fun q => absurd q.1 (by decide : ¬ (0 : Int) = 1)) (fun q => p'.2.1 (Or.inr q)), p'.2.2⟩ ((l.fr F w2).cg rfl rfl (fun k hk => ud_ne (n15 hk (by decide))) rfl rfl rfl)
def sMkP (σ : sS) (m : Nat) : sS := ((ug σ 4 1).1, fun a k => if a < m then (if k = 5 then (if sf σ a 0 = 0 then 1 else 0) else if k = 9 then 0 else sf σ a k) else sf σ a k, σ.2.2)
theorem w_marks {sc : av_S} {d : Nat} {h : av_H} {w : Nat} {σ : sS} (C : CW h w σ) (h3 : 0 ≤ sg σ 3 ∧ sg σ 3 ≤ 1000000000) : ∃ h', (∀ Q, WP sc (d + 1) 61 0 [(0, .inr (.inl w))] [] h Q ↔ Q (some (.inl (sg σ 3 + 1))) h') ∧ CW h' w (sMarks σ) ∧ Fr h h' w (w + 162) := by
  obtain ⟨z1, z2⟩ := C.sz
  have lp : ∀ (u n : Nat) (hk : av_H), u = sN σ - n → n ≤ sN σ → CW hk w (sMkP σ n) → Fr h hk w (w + 162) → WP sc (d + 1) 61 7 [(0, .inr (.inl w)), (1, .inl (n : Int))] [] hk (fun r h' => r = some (.inl (sg σ 3 + 1)) ∧ CW h' w (sMkP σ (sN σ)) ∧ Fr h h' w (w + 162)) := by
    intro u
    induction u with
    | zero =>
      intro n hk hu hn C2 F2
      have e : n = sN σ := by omega
      subst e
      obtain ⟨⟨j0, -⟩, ⟨y1, y2, y3, y4, y5, -⟩, -⟩ := id C2
      have e0 : sg (sMkP σ (sN σ)) 0 = sg σ 0 := rfl
      have e3 : sg (sMkP σ (sN σ)) 3 = sg σ 3 := rfl
      rw [u61_7]
      simp (disch := omega) only [u61_0, u61_1, u61_2, u61_5, u61_6, u61_8, u61_9, u61_12, u61_15, u61_16, u61_19, u61_20, u61_21, u61_22, u61_25, u61_26, u61_27, u61_30, u61_33, u61_34, u61_37, u61_38, u61_41, u61_42, u61_45, u61_46, u61_47, u61_48, u61_51, u61_54, u61_57, u61_58, u61_61, u61_62, u61_63, j0, y1, y5, e0, e3, wr_id, rng, rngp, if_pos, if_neg, if_true, if_false, reduceCtorEq, true_and, and_true, and_self, Option.toList_some, Option.toList_none, List.cons_append, List.nil_append, Int.toNat_natCast]
      exact ⟨C2, F2⟩
    | succ u ih =>
      intro n hk hu hn C2 F2
      have hn' : n < sN σ := by omega
      obtain ⟨⟨j0, j1, j2, j3⟩, ⟨y1, -⟩, -, cn, -⟩ := id C2
      have N := cn n hn'
      have e0 : sg (sMkP σ n) 0 = sg σ 0 := rfl
      have j3' := j3 n (by omega)
      obtain ⟨pa, la, K, P, L, I, -⟩ := N.to
      have kn := K.1
      have v0 := I.1
      have fe : ∀ k, sf (sMkP σ n) n k = sf σ n k := fun k => if_neg (Nat.lt_irrefl n)
      have re : ∀ t k, sr (sMkP σ n) t k = sr σ t k := fun _ _ => rfl
      rw [fe] at v0
      obtain ⟨z, hz, hz2⟩ : ∃ z : Int, z = (if sf σ n 0 = 0 then 1 else 0) ∧ (z = 0 ∨ z = 1) := ⟨_, rfl, by split <;> omega⟩
      have N1 : CN (sI hk (w + 2 + 20 * n) 5 z) (w + 2 + 20 * n) (ud (sf (sMkP σ n) n) 5 z) (sr (sMkP σ n) n) := N.num (Or.inr (Or.inl rfl)) (by rw [if_neg (by decide), ud_eq]) (fun j hj => ud_ne hj)
      have N2 := N1.n9
      have F3 : Fr hk (sI (sI hk (w + 2 + 20 * n) 5 z) (w + 2 + 20 * n) 9 0) (w + 2 + 20 * n) (w + 2 + 20 * n + 1) := fr1.tr fr1
      have C3 := C2.node (by omega) (F3.wd (Nat.le_refl _) (by omega)) N2 (fun _ => rfl)
      have C4 : CW (sI (sI hk (w + 2 + 20 * n) 5 z) (w + 2 + 20 * n) 9 0) w (sMkP σ (n + 1)) := by
        refine C3.cg (fun _ _ => rfl) (fun t _ k => ?_) (fun t _ k => ?_)
        · show (if t < n + 1 then (if k = 5 then (if sf σ t 0 = 0 then 1 else 0) else if k = 9 then 0 else sf σ t k) else sf σ t k) = if t = n then ud (ud (sf (sMkP σ n) n) 5 z) 9 0 k else (if t < n then (if k = 5 then (if sf σ t 0 = 0 then 1 else 0) else if k = 9 then 0 else sf σ t k) else sf σ t k)
          by_cases e : t = n
          · rw [if_pos e, if_pos (by omega), e]
            unfold ud
            rw [fe, hz]
            by_cases e9 : k = 9
            · rw [if_pos e9, if_neg (by omega), if_pos e9]
            · rw [if_neg e9, if_neg e9]
          · rw [if_neg e]
            by_cases e2 : t < n
            · rw [if_pos e2, if_pos (by omega)]
            · rw [if_neg e2, if_neg (by omega)]
        · show sr σ t k = if t = n then sr σ n k else sr σ t k
          by_cases e : t = n
          · rw [if_pos e, e]
          · rw [if_neg e]
      have nx := ih (n + 1) _ (by omega) (by omega) C4 (F2.tr (F3.wd (by omega) (by omega)))
      rw [u61_7]
      have ne : w + 2 + 20 * n ≠ w := by omega
      clear C3 C4 N N1 N2
      by_cases c : sf σ n 0 = 0
      · rw [if_pos c] at hz
        subst hz
        simp (disch := omega) only [u61_0, u61_1, u61_2, u61_5, u61_6, u61_8, u61_9, u61_12, u61_15, u61_16, u61_19, u61_20, u61_21, u61_22, u61_25, u61_26, u61_27, u61_30, u61_33, u61_34, u61_37, u61_38, u61_41, u61_42, u61_45, u61_46, u61_47, u61_48, u61_51, u61_54, u61_57, u61_58, u61_61, u61_62, u61_63, j0, j1, j2, j3', y1, e0, kn, v0, c, kd_sI, gR_sI, true_or, or_true, wr_id, rng, rngp, if_pos, if_neg, if_true, if_false, reduceCtorEq, true_and, and_true, and_self, Option.toList_some, Option.toList_none, List.cons_append, List.nil_append, Int.toNat_natCast]
        rw [show (n : Int) + 1 = ((n + 1 : Nat) : Int) by omega]
        exact nx
      · rw [if_neg c] at hz
        subst hz
        simp (disch := omega) only [u61_0, u61_1, u61_2, u61_5, u61_6, u61_8, u61_9, u61_12, u61_15, u61_16, u61_19, u61_20, u61_21, u61_22, u61_25, u61_26, u61_27, u61_30, u61_33, u61_34, u61_37, u61_38, u61_41, u61_42, u61_45, u61_46, u61_47, u61_48, u61_51, u61_54, u61_57, u61_58, u61_61, u61_62, u61_63, j0, j1, j2, j3', y1, e0, kn, v0, c, kd_sI, gR_sI, true_or, or_true, wr_id, rng, rngp, if_pos, if_neg, if_true, if_false, reduceCtorEq, true_and, and_true, and_self, Option.toList_some, Option.toList_none, List.cons_append, List.nil_append, Int.toNat_natCast]
        rw [show (n : Int) + 1 = ((n + 1 : Nat) : Int) by omega]
        exact nx
  obtain ⟨⟨k0, -⟩, -⟩ := id C
  have big : WP sc (d + 1) 61 0 [(0, .inr (.inl w))] [] h (fun r h' => r = some (.inl (sg σ 3 + 1)) ∧ CW h' w (sMkP σ (sN σ)) ∧ Fr h h' w (w + 162)) := by
    have C1 : CW (sI h w 6 1) w (sMkP σ 0) := (C.set (k := 6) (j := 4) (z := 1) (by omega)).cg (fun _ _ => rfl) (fun t _ k => rfl) (fun _ _ _ => rfl)
    have F1 : Fr h (sI h w 6 1) w (w + 162) := fr1.wd (Nat.le_refl _) (by omega)
    have := lp _ 0 _ rfl (by omega) C1 F1
    clear C1 lp
    simp (disch := omega) only [u61_0, u61_1, u61_2, u61_5, u61_6, u61_8, u61_9, u61_12, u61_15, u61_16, u61_19, u61_20, u61_21, u61_22, u61_25, u61_26, u61_27, u61_30, u61_33, u61_34, u61_37, u61_38, u61_41, u61_42, u61_45, u61_46, u61_47, u61_48, u61_51, u61_54, u61_57, u61_58, u61_61, u61_62, u61_63, k0, true_or, or_true, wr_id, rng, rngp, if_pos, if_neg, if_true, if_false, reduceCtorEq, true_and, and_true, and_self, Option.toList_some, Option.toList_none, List.cons_append, List.nil_append, Int.toNat_natCast]
    exact this
  obtain ⟨r, h', hw, rfl, b1, b2⟩ := big.evE
  refine ⟨h', hw, b1.cg (fun _ _ => rfl) (fun t _ k => rfl) (fun _ _ _ => rfl), b2⟩
def sFlP (σ : sS) (m : Nat) : sS := (fun k => if k = 4 then 0 else if k = 7 then sg σ 7 + 1 else sg σ k, fun a k => if a < m then nGf (sf σ a) k else sf σ a k, fun a k => if a < m then nGr (sf σ a) (sr σ a) k else sr σ a k)
theorem w_fails {sc : av_S} {d : Nat} {h : av_H} {w : Nat} {σ : sS} (C : CW h w σ) (h7 : 0 ≤ sg σ 7 ∧ sg σ 7 ≤ 1000000000) (h26 : ∀ n, n < sN σ → sf σ n 26 = 0 ∨ sf σ n 26 = 1 ∨ sf σ n 26 = 2) : ∃ h', (∀ Q, WP sc (d + 3) 62 0 [(0, .inr (.inl w))] [] h Q ↔ Q (some (.inl (sg σ 3))) h') ∧ CW h' w (sFails σ) ∧ Fr h h' w (w + 162) := by
  obtain ⟨z1, z2⟩ := C.sz
  have lp : ∀ (u n : Nat) (hk : av_H), u = sN σ - n → n ≤ sN σ → CW hk w (sFlP σ n) → Fr h hk w (w + 162) → WP sc (d + 3) 62 17 [(0, .inr (.inl w)), (1, .inl (n : Int))] [] hk (fun r h' => r = some (.inl (sg σ 3)) ∧ CW h' w (sFlP σ (sN σ)) ∧ Fr h h' w (w + 162)) := by
    intro u
    induction u with
    | zero =>
      intro n hk hu hn C2 F2
      have e : n = sN σ := by omega
      subst e
      obtain ⟨⟨j0, -⟩, ⟨y1, y2, y3, y4, y5, -⟩, -⟩ := id C2
      have e0 : sg (sFlP σ (sN σ)) 0 = sg σ 0 := rfl
      have e3 : sg (sFlP σ (sN σ)) 3 = sg σ 3 := rfl
      rw [u62_17]
      simp (disch := omega) only [u62_0, u62_1, u62_2, u62_5, u62_6, u62_7, u62_10, u62_11, u62_12, u62_15, u62_16, u62_18, u62_19, u62_22, u62_25, u62_26, u62_29, u62_30, u62_31, u62_34, u62_37, u62_40, u62_41, u62_44, j0, y1, y5, e0, e3, wr_id, rng, rngp, if_pos, if_neg, if_true, if_false, reduceCtorEq, true_and, and_true, and_self, Option.toList_some, Option.toList_none, List.cons_append, List.nil_append, Int.toNat_natCast]
      exact ⟨C2, F2⟩
    | succ u ih =>
      intro n hk hu hn C2 F2
      have hn' : n < sN σ := by omega
      obtain ⟨⟨j0, j1, j2, j3⟩, ⟨y1, -⟩, -, cn, -⟩ := id C2
      have N := cn n hn'
      have e0 : sg (sFlP σ n) 0 = sg σ 0 := rfl
      have j3' := j3 n (by omega)
      have kn : (kd hk (w + 2 + 20 * n)).1 = 1 := by obtain ⟨pa, la, K, -⟩ := N.to; exact K.1
      have fe : sf (sFlP σ n) n = sf σ n := funext fun k => if_neg (Nat.lt_irrefl n)
      have re : sr (sFlP σ n) n = sr σ n := funext fun k => if_neg (Nat.lt_irrefl n)
      rw [fe, re] at N
      obtain ⟨h1, w1, N1, F3⟩ := n_goBack (sc := sc) (d := d) N (h26 n hn')
      have C3 := C2.node (by omega) F3 N1 (fun _ => by rw [fe]; rfl)
      have C4 : CW h1 w (sFlP σ (n + 1)) := by
        refine C3.cg (fun _ _ => rfl) (fun t _ k => ?_) (fun t _ k => ?_)
        · show (if t < n + 1 then nGf (sf σ t) k else sf σ t k) = if t = n then nGf (sf σ n) k else (if t < n then nGf (sf σ t) k else sf σ t k)
          by_cases e : t = n
          · rw [if_pos e, if_pos (by omega), e]
          · rw [if_neg e]
            by_cases e2 : t < n
            · rw [if_pos e2, if_pos (by omega)]
            · rw [if_neg e2, if_neg (by omega)]
        · show (if t < n + 1 then nGr (sf σ t) (sr σ t) k else sr σ t k) = if t = n then nGr (sf σ n) (sr σ n) k else (if t < n then nGr (sf σ t) (sr σ t) k else sr σ t k)
          by_cases e : t = n
          · rw [if_pos e, if_pos (by omega), e]
          · rw [if_neg e]
            by_cases e2 : t < n
            · rw [if_pos e2, if_pos (by omega)]
            · rw [if_neg e2, if_neg (by omega)]
      have nx := ih (n + 1) _ (by omega) (by omega) C4 (F2.tr (F3.wd (by omega) (by omega)))
      rw [u62_17]
      clear C3 C4 N N1
      simp (disch := omega) only [u62_0, u62_1, u62_2, u62_5, u62_6, u62_7, u62_10, u62_11, u62_12, u62_15, u62_16, u62_18, u62_19, u62_22, u62_25, u62_26, u62_29, u62_30, u62_31, u62_34, u62_37, u62_40, u62_41, u62_44, j0, j1, j2, j3', y1, e0, kn, w1, true_or, or_true, wr_id, rng, rngp, if_pos, if_neg, if_true, if_false, reduceCtorEq, true_and, and_true, and_self, Option.toList_some, Option.toList_none, List.cons_append, List.nil_append, Int.toNat_natCast]
      rw [show (n : Int) + 1 = ((n + 1 : Nat) : Int) by omega]
      exact nx
  obtain ⟨⟨k0, -⟩, ⟨i1, i2, i3, i4, i5, i6, i7, i8, i9⟩, -⟩ := id C
  have big : WP sc (d + 3) 62 0 [(0, .inr (.inl w))] [] h (fun r h' => r = some (.inl (sg σ 3)) ∧ CW h' w (sFlP σ (sN σ)) ∧ Fr h h' w (w + 162)) := by
    have C1 : CW (sI (sI h w 6 0) w 8 (sg σ 7 + 1)) w (sFlP σ 0) := by
      refine ((C.set (k := 6) (j := 4) (z := 0) (by omega)).set (k := 8) (j := 7) (z := sg σ 7 + 1) (by omega)).cg (fun k hk => ?_) (fun t _ k => rfl) (fun t _ k => rfl)
      show (if k = 4 then 0 else if k = 7 then sg σ 7 + 1 else sg σ k) = if k = 7 then sg σ 7 + 1 else if k = 4 then 0 else sg σ k
      by_cases e : k = 4
      · rw [if_pos e, if_neg (by omega), if_pos e]
      · rw [if_neg e, if_neg e]
    have F1 : Fr h (sI (sI h w 6 0) w 8 (sg σ 7 + 1)) w (w + 162) := (fr1.tr fr1).wd (Nat.le_refl _) (by omega)
    have := lp _ 0 _ rfl (by omega) C1 F1
    have e8 : gI (sI h w 6 0) w 8 = sg σ 7 := by rw [gI_sI_ne (by decide)]; exact i8
    clear C1 lp
    simp (disch := omega) only [u62_0, u62_1, u62_2, u62_5, u62_6, u62_7, u62_10, u62_11, u62_12, u62_15, u62_16, u62_18, u62_19, u62_22, u62_25, u62_26, u62_29, u62_30, u62_31, u62_34, u62_37, u62_40, u62_41, u62_44, k0, kd_sI, e8, true_or, or_true, wr_id, rng, rngp, if_pos, if_neg, if_true, if_false, reduceCtorEq, true_and, and_true, and_self, Option.toList_some, Option.toList_none, List.cons_append, List.nil_append, Int.toNat_natCast]
    exact this
  obtain ⟨r, h', hw, rfl, b1, b2⟩ := big.evE
  refine ⟨h', hw, b1.cg (fun _ _ => rfl) (fun t _ k => rfl) (fun _ _ _ => rfl), b2⟩
