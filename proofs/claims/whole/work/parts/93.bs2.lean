/-! the calls of the class -/
def Cb (sc : av_S) (d m : Nat) (as : av_L) (h : av_H) (r : Int × SS) : Prop := ∃ h', (∀ Q, WP sc d m 0 ((0, .inr (.inl 2)) :: as) [] h Q ↔ Q (some (.inl r.1)) h') ∧ CB h' r.2 ∧ Fr h h' 2 980
theorem CB.works {h h' : av_H} {σ ρ : sS} {ps : List sS} {rf : Nat → Int} {tx : List Int} (S : CB h (σ, ps, rf, tx)) (C : CW h' 3 ρ) (F : Fr h h' 3 165) : CB h' (ρ, ps, rf, tx) := by
  obtain ⟨K, C0, a1, B, R, p, o, T⟩ := S
  exact ⟨K.fr F (by omega), C, by rw [F.i (by omega)]; exact a1, B.fr F (by omega), fun k hk => by rw [F.i (by omega)]; exact R k hk, p, o, T.fr F (by omega)⟩
theorem rfs_c (σ : sS) (s p a b k : Int) : rfs σ s p a b k = 0 ∨ rfs σ s p a b k = -2 ∨ rfs σ s p a b k = -3 ∨ rfs σ s p a b k = -4 := by
  unfold rfs whyN
  split
  · split
    · split
      · split <;> omega
      · omega
    · omega
  · split
    · split <;> omega
    · split
      · split <;> omega
      · split
        · split
          · split <;> omega
          · omega
        · split
          · split <;> omega
          · split <;> omega
theorem b_order {sc : av_S} {d : Nat} {h : av_H} {s : SS} {w p a b k : Int} (S : CB h s) (ok : okY s.1) (hr : okR s.2.2.1) : Cb sc (d + 7) 89 [(1, .inl w), (2, .inl p), (3, .inl a), (4, .inl b), (5, .inl k)] h (if rfs s.1 w p a b k = 0 then xGo s (cry s.1 w p a b k).1 (cry s.1 w p a b k).2 else xRef s (rfs s.1 w p a b k)) := by
  obtain ⟨K, C, -⟩ := id S
  obtain ⟨k0, k1, -⟩ := id K
  have w0 : (kd h 3).1 = 5 := C.1.1
  have wr : ∀ Q, WP sc (d + 6) 53 0 [(0, .inr (.inl 3)), (1, .inl w), (2, .inl p), (3, .inl a), (4, .inl b), (5, .inl k)] [] h Q ↔ Q (some (.inl (rfs s.1 w p a b k))) h := fun Q => w_refusal (d := d + 1) C ok.2.2.2.2.2.1 ok.1.2.2.1 Q
  by_cases c : rfs s.1 w p a b k = 0
  · rw [if_pos c]
    rw [c] at wr
    obtain ⟨h1, w1, S1, F1⟩ := b_keep (sc := sc) (d := d + 1) S ok.b
    have w1' : ∀ Q, WP sc (d + 6) 92 0 [(0, .inr (.inl 2))] [] h Q ↔ Q none h1 := w1
    obtain ⟨K1, C1, -⟩ := id S1
    obtain ⟨j0, j1, -⟩ := id K1
    have v0 : (kd h1 3).1 = 5 := C1.1.1
    obtain ⟨h2, w2, C2, F2⟩ := w_carry (sc := sc) (d := d) C1 ok c
    refine ⟨h2, fun Q => ?_, S1.works C2 F2, (F1.wd (Nat.le_refl _) (by omega)).tr (F2.wd (by omega) (by omega))⟩
    have w2' : ∀ Q, WP sc (d + 6) 57 0 [(0, .inr (.inl 3)), (1, .inl w), (2, .inl p), (3, .inl a), (4, .inl b), (5, .inl k)] [] h1 Q ↔ Q (some (.inl (cry s.1 w p a b k).1)) h2 := w2
    clear S S1 C C1 C2
    simp (disch := omega) only [u89_0, u89_1, u89_4, u89_5, u89_6, u89_7, u89_9, u89_11, u89_14, u89_16, u89_18, u89_21, u89_22, u89_24, u89_27, u89_28, u89_29, u89_32, u89_33, u89_36, u89_37, u89_38, u89_39, u89_41, u89_43, u89_46, k0, k1, w0, wr, w1', j0, j1, v0, w2', wr_id, rng, rngp, if_pos, if_neg, if_true, if_false, reduceCtorEq, true_and, and_true, and_self, Option.toList_some, Option.toList_none, List.cons_append, List.nil_append, Int.toNat_natCast]
    rfl
  · rw [if_neg c]
    obtain ⟨h1, w1, S1, F1⟩ := b_refuse (sc := sc) (d := d + 5) (how := rfs s.1 w p a b k) S hr (by have := rfs_c s.1 w p a b k; omega)
    have w1' : ∀ Q, WP sc (d + 6) 90 0 [(0, .inr (.inl 2)), (1, .inl (rfs s.1 w p a b k))] [] h Q ↔ Q (some (.inl (rfs s.1 w p a b k))) h1 := w1
    refine ⟨h1, fun Q => ?_, S1, F1⟩
    clear S S1 C
    simp (disch := omega) only [u89_0, u89_1, u89_4, u89_5, u89_6, u89_7, u89_9, u89_11, u89_14, u89_16, u89_18, u89_21, u89_22, u89_24, u89_27, u89_28, u89_29, u89_32, u89_33, u89_36, u89_37, u89_38, u89_39, u89_41, u89_43, u89_46, k0, k1, w0, wr, c, w1', wr_id, rng, rngp, if_pos, if_neg, if_true, if_false, reduceCtorEq, true_and, and_true, and_self, Option.toList_some, Option.toList_none, List.cons_append, List.nil_append, Int.toNat_natCast]
    rfl
theorem b_begins {sc : av_S} {d : Nat} {h : av_H} {s : SS} (S : CB h s) (ok : okY s.1) : Cb sc (d + 12) 71 [] h (xBegins s) := by
  obtain ⟨K, C, -⟩ := id S
  obtain ⟨k0, k1, -⟩ := id K
  have w0 : (kd h 3).1 = 5 := C.1.1
  have i1 := C.2.1.1
  obtain ⟨h1, w1, S1, F1⟩ := b_keep (sc := sc) (d := d + 6) S ok.b
  have w1' : ∀ Q, WP sc (d + 11) 92 0 [(0, .inr (.inl 2))] [] h Q ↔ Q none h1 := w1
  obtain ⟨K1, C1, -⟩ := id S1
  obtain ⟨j0, j1, -⟩ := id K1
  have v0 : (kd h1 3).1 = 5 := C1.1.1
  obtain ⟨h2, w2, C2, F2⟩ := w_startAnew (sc := sc) (d := d + 10) C1.ww
  have w2' : ∀ Q, WP sc (d + 11) 47 0 [(0, .inr (.inl 3))] [] h1 Q ↔ Q none h2 := w2
  refine ⟨h2, fun Q => ?_, S1.works C2 F2, (F1.wd (Nat.le_refl _) (by omega)).tr (F2.wd (by omega) (by omega))⟩
  clear S S1 C C1 C2
  simp (disch := omega) only [u71_0, u71_1, u71_4, u71_7, u71_8, u71_9, u71_12, u71_13, u71_16, u71_19, u71_20, k0, k1, w0, i1, w1', j0, j1, v0, w2', wr_id, rng, rngp, if_pos, if_neg, if_true, if_false, reduceCtorEq, true_and, and_true, and_self, Option.toList_some, Option.toList_none, List.cons_append, List.nil_append, Int.toNat_natCast]
  rfl
theorem b_node {sc : av_S} {d : Nat} {h : av_H} {s : SS} {kind a b k : Int} (S : CB h s) (ok : okY s.1) (hr : okR s.2.2.1) : Cb sc (d + 12) 72 [(1, .inl kind), (2, .inl a), (3, .inl b), (4, .inl k)] h (xNode s kind a b k) := by
  obtain ⟨h1, w1, S1, F1⟩ := b_order (sc := sc) (d := d + 4) (w := 110) (p := kind) (a := a) (b := b) (k := k) S ok hr
  have k0 := S.1.1
  have e : (if rfs s.1 110 kind a b k = 0 then xGo s (cry s.1 110 kind a b k).1 (cry s.1 110 kind a b k).2 else xRef s (rfs s.1 110 kind a b k)) = xNode s kind a b k := rfl
  rw [e] at w1 S1
  refine ⟨h1, fun Q => ?_, S1, F1⟩
  have w1' : ∀ Q, WP sc (d + 11) 89 0 [(0, .inr (.inl 2)), (1, .inl 110), (2, .inl kind), (3, .inl a), (4, .inl b), (5, .inl k)] [] h Q ↔ Q (some (.inl (xNode s kind a b k).1)) h1 := w1
  clear S S1
  simp (disch := omega) only [u72_0, u72_1, u72_3, u72_4, u72_5, u72_6, u72_8, u72_11, k0, w1', wr_id, rng, rngp, if_pos, if_neg, if_true, if_false, reduceCtorEq, true_and, and_true, and_self, Option.toList_some, Option.toList_none, List.cons_append, List.nil_append, Int.toNat_natCast]
theorem b_len {sc : av_S} {d : Nat} {h : av_H} {s : SS} {n : Int} (S : CB h s) (ok : okY s.1) (hr : okR s.2.2.1) : Cb sc (d + 12) 73 [(1, .inl n)] h (xLen s n) := by
  obtain ⟨h1, w1, S1, F1⟩ := b_order (sc := sc) (d := d + 4) (w := 108) (p := n) (a := -1) (b := -1) (k := -1) S ok hr
  have k0 := S.1.1
  have e : (if rfs s.1 108 n (-1) (-1) (-1) = 0 then xGo s (cry s.1 108 n (-1) (-1) (-1)).1 (cry s.1 108 n (-1) (-1) (-1)).2 else xRef s (rfs s.1 108 n (-1) (-1) (-1))) = xLen s n := by
    have e1 : rfs s.1 108 n (-1) (-1) (-1) = if 0 ≤ n ∧ n ≤ 30 then 0 else -2 := rfl
    rw [e1]
    unfold xLen
    by_cases c : 0 ≤ n ∧ n ≤ 30
    · rw [if_pos c, if_pos c, if_pos rfl]; rfl
    · rw [if_neg c, if_neg c, if_neg (by decide)]
  rw [e] at w1 S1
  refine ⟨h1, fun Q => ?_, S1, F1⟩
  have w1' : ∀ Q, WP sc (d + 11) 89 0 [(0, .inr (.inl 2)), (1, .inl 108), (2, .inl n), (3, .inl (-1)), (4, .inl (-1)), (5, .inl (-1))] [] h Q ↔ Q (some (.inl (xLen s n).1)) h1 := w1
  clear S S1
  simp (disch := omega) only [u73_0, u73_1, u73_3, u73_4, u73_5, u73_6, u73_7, u73_10, k0, w1', wr_id, rng, rngp, if_pos, if_neg, if_true, if_false, reduceCtorEq, true_and, and_true, and_self, Option.toList_some, Option.toList_none, List.cons_append, List.nil_append, Int.toNat_natCast]
theorem b_ali {sc : av_S} {d : Nat} {h : av_H} {s : SS} {n : Int} (S : CB h s) (ok : okY s.1) (hr : okR s.2.2.1) : Cb sc (d + 12) 74 [(1, .inl n)] h (xAli s n) := by
  obtain ⟨h1, w1, S1, F1⟩ := b_order (sc := sc) (d := d + 4) (w := 97) (p := n) (a := -1) (b := -1) (k := -1) S ok hr
  have k0 := S.1.1
  have e : (if rfs s.1 97 n (-1) (-1) (-1) = 0 then xGo s (cry s.1 97 n (-1) (-1) (-1)).1 (cry s.1 97 n (-1) (-1) (-1)).2 else xRef s (rfs s.1 97 n (-1) (-1) (-1))) = xAli s n := by
    have e1 : rfs s.1 97 n (-1) (-1) (-1) = if 0 ≤ n ∧ n ≤ 1 then (if sg s.1 4 = 1 then -3 else 0) else -2 := rfl
    rw [e1]
    unfold xAli
    by_cases c : 0 ≤ n ∧ n ≤ 1
    · rw [if_pos c, if_pos c]
      by_cases c4 : sg s.1 4 = 1
      · rw [if_pos c4, if_pos c4, if_neg (by decide)]
      · rw [if_neg c4, if_neg c4, if_pos rfl]; rfl
    · rw [if_neg c, if_neg c, if_neg (by decide)]
  rw [e] at w1 S1
  refine ⟨h1, fun Q => ?_, S1, F1⟩
  have w1' : ∀ Q, WP sc (d + 11) 89 0 [(0, .inr (.inl 2)), (1, .inl 97), (2, .inl n), (3, .inl (-1)), (4, .inl (-1)), (5, .inl (-1))] [] h Q ↔ Q (some (.inl (xAli s n).1)) h1 := w1
  clear S S1
  simp (disch := omega) only [u74_0, u74_1, u74_3, u74_4, u74_5, u74_6, u74_7, u74_10, k0, w1', wr_id, rng, rngp, if_pos, if_neg, if_true, if_false, reduceCtorEq, true_and, and_true, and_self, Option.toList_some, Option.toList_none, List.cons_append, List.nil_append, Int.toNat_natCast]
theorem b_steps {sc : av_S} {d : Nat} {h : av_H} {s : SS} {n : Int} (S : CB h s) (ok : okY s.1) (hr : okR s.2.2.1) : Cb sc (d + 12) 75 [(1, .inl n)] h (xSteps s n) := by
  obtain ⟨h1, w1, S1, F1⟩ := b_order (sc := sc) (d := d + 4) (w := 115) (p := n) (a := -1) (b := -1) (k := -1) S ok hr
  have k0 := S.1.1
  have e : (if rfs s.1 115 n (-1) (-1) (-1) = 0 then xGo s (cry s.1 115 n (-1) (-1) (-1)).1 (cry s.1 115 n (-1) (-1) (-1)).2 else xRef s (rfs s.1 115 n (-1) (-1) (-1))) = xSteps s n := by
    have e1 : rfs s.1 115 n (-1) (-1) (-1) = if 1 ≤ n ∧ n ≤ 60 then 0 else -2 := rfl
    rw [e1]
    unfold xSteps
    by_cases c : 1 ≤ n ∧ n ≤ 60
    · rw [if_pos c, if_pos c, if_pos rfl]; rfl
    · rw [if_neg c, if_neg c, if_neg (by decide)]
  rw [e] at w1 S1
  refine ⟨h1, fun Q => ?_, S1, F1⟩
  have w1' : ∀ Q, WP sc (d + 11) 89 0 [(0, .inr (.inl 2)), (1, .inl 115), (2, .inl n), (3, .inl (-1)), (4, .inl (-1)), (5, .inl (-1))] [] h Q ↔ Q (some (.inl (xSteps s n).1)) h1 := w1
  clear S S1
  simp (disch := omega) only [u75_0, u75_1, u75_3, u75_4, u75_5, u75_6, u75_7, u75_10, k0, w1', wr_id, rng, rngp, if_pos, if_neg, if_true, if_false, reduceCtorEq, true_and, and_true, and_self, Option.toList_some, Option.toList_none, List.cons_append, List.nil_append, Int.toNat_natCast]
theorem b_marks {sc : av_S} {d : Nat} {h : av_H} {s : SS} (S : CB h s) (ok : okY s.1) (hr : okR s.2.2.1) : Cb sc (d + 12) 76 [] h (xMarks s) := by
  obtain ⟨h1, w1, S1, F1⟩ := b_order (sc := sc) (d := d + 4) (w := 109) (p := -1) (a := -1) (b := -1) (k := -1) S ok hr
  have k0 := S.1.1
  have e : (if rfs s.1 109 (-1) (-1) (-1) (-1) = 0 then xGo s (cry s.1 109 (-1) (-1) (-1) (-1)).1 (cry s.1 109 (-1) (-1) (-1) (-1)).2 else xRef s (rfs s.1 109 (-1) (-1) (-1) (-1))) = xMarks s := by
    have e1 : rfs s.1 109 (-1) (-1) (-1) (-1) = if sg s.1 4 = 1 then -3 else 0 := rfl
    rw [e1]
    unfold xMarks
    by_cases c4 : sg s.1 4 = 1
    · rw [if_pos c4, if_pos c4, if_neg (by decide)]
    · rw [if_neg c4, if_neg c4, if_pos rfl]; rfl
  rw [e] at w1 S1
  refine ⟨h1, fun Q => ?_, S1, F1⟩
  have w1' : ∀ Q, WP sc (d + 11) 89 0 [(0, .inr (.inl 2)), (1, .inl 109), (2, .inl (-1)), (3, .inl (-1)), (4, .inl (-1)), (5, .inl (-1))] [] h Q ↔ Q (some (.inl (xMarks s).1)) h1 := w1
  clear S S1
  simp (disch := omega) only [u76_0, u76_1, u76_3, u76_4, u76_5, u76_6, u76_7, u76_10, k0, w1', wr_id, rng, rngp, if_pos, if_neg, if_true, if_false, reduceCtorEq, true_and, and_true, and_self, Option.toList_some, Option.toList_none, List.cons_append, List.nil_append, Int.toNat_natCast]
theorem b_fails {sc : av_S} {d : Nat} {h : av_H} {s : SS} (S : CB h s) (ok : okY s.1) (hr : okR s.2.2.1) : Cb sc (d + 12) 77 [] h (xFails s) := by
  obtain ⟨h1, w1, S1, F1⟩ := b_order (sc := sc) (d := d + 4) (w := 102) (p := -1) (a := -1) (b := -1) (k := -1) S ok hr
  have k0 := S.1.1
  have e : (if rfs s.1 102 (-1) (-1) (-1) (-1) = 0 then xGo s (cry s.1 102 (-1) (-1) (-1) (-1)).1 (cry s.1 102 (-1) (-1) (-1) (-1)).2 else xRef s (rfs s.1 102 (-1) (-1) (-1) (-1))) = xFails s := if_pos rfl
  rw [e] at w1 S1
  refine ⟨h1, fun Q => ?_, S1, F1⟩
  have w1' : ∀ Q, WP sc (d + 11) 89 0 [(0, .inr (.inl 2)), (1, .inl 102), (2, .inl (-1)), (3, .inl (-1)), (4, .inl (-1)), (5, .inl (-1))] [] h Q ↔ Q (some (.inl (xFails s).1)) h1 := w1
  clear S S1
  simp (disch := omega) only [u77_0, u77_1, u77_3, u77_4, u77_5, u77_6, u77_7, u77_10, k0, w1', wr_id, rng, rngp, if_pos, if_neg, if_true, if_false, reduceCtorEq, true_and, and_true, and_self, Option.toList_some, Option.toList_none, List.cons_append, List.nil_append, Int.toNat_natCast]
