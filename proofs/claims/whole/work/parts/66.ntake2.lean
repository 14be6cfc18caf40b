/-! a node of the class takes a letter (2) -/
theorem CN.ch {h : av_H} {a i : Nat} {f : Nat → Int} {r : Nat → List Int} (N : CN h a f r) (hi : i < 2) : RowIs h (a + 2 + 2 * i) 60 (r i) := by
  obtain ⟨pa, la, K, P, L, ii, s, rr, p, l⟩ := N
  have c : i = 0 ∨ i = 1 := by omega
  rcases c with rfl | rfl
  · exact rr.1
  · exact rr.2.1
theorem n_take {sc : av_S} {d : Nat} {h : av_H} {a i : Nat} {f : Nat → Int} {r : Nat → List Int} (N : CN h a f r) (hi : i < 2) (hl : (r i).length ≠ 0) (h6 : f 0 ≠ 4 → f 6 = 0) : ∃ h', (∀ Q, WP sc (d + 2) 12 0 [(0, .inr (.inl a)), (1, .inl (i : Int))] [] h Q ↔ Q (some (.inl ((r i).getD 0 0))) h') ∧ CN h' a (fun k => if k = 6 then (if f 0 = 4 then 1 - (i : Int) else 0) else f k) (fun k => if k = i then (r i).drop 1 else r k) ∧ Fr h h' a (a + 20) := by
  have main : ∀ g : av_H, CN g a (fun k => if k = 6 then (if f 0 = 4 then 1 - (i : Int) else 0) else f k) r → Fr h g a (a + 20) → ∃ h', (∀ Q, WP sc (d + 2) 12 15 [(0, .inr (.inl a)), (1, .inl (i : Int))] [] g Q ↔ Q (some (.inl ((r i).getD 0 0))) h') ∧ CN h' a (fun k => if k = 6 then (if f 0 = 4 then 1 - (i : Int) else 0) else f k) (fun k => if k = i then (r i).drop 1 else r k) ∧ Fr h h' a (a + 20) := by
    intro g N1 F
    have R := N1.ch hi
    obtain ⟨g2, w2, R2, F2⟩ := r_take (sc := sc) (d := d) R hl (by omega)
    have F2' : Fr g g2 (a + 2 + 2 * i) (a + 4 + 2 * i) := F2.wd (Nat.le_refl _) (by omega)
    have F2'' : Fr g g2 a (a + 20) := F2.wd (by omega) (by omega)
    have N2 := N1.chan hi F2' R2
    obtain ⟨pa, la, K, -⟩ := id N1
    have k0 := K.1
    have m1 : (kd g (a + 2 + 2 * i)).1 = 3 := R.1.1
    have ch : ∀ Q, WP sc (d + 1) 5 0 [(0, .inr (.inl a)), (1, .inl (i : Int))] [] g Q ↔ Q (some (.inr (.inl (a + 2 + 2 * i)))) g := by
      intro Q
      refine (n_channel K Q).trans ?_
      have e : (if (i : Int) = 1 then a + 4 else a + 2) = a + 2 + 2 * i := by split <;> omega
      rw [e]
    refine ⟨g2, fun Q => ?_, N2, F.tr F2''⟩
    simp (disch := omega) only [u12_0, u12_1, u12_4, u12_5, u12_8, u12_9, u12_10, u12_11, u12_12, u12_15, u12_16, u12_17, u12_20, u12_23, k0, ch, m1, w2, wr_id, rng, rngp, if_pos, if_neg, if_true, if_false, reduceCtorEq, true_and, and_true, and_self, Option.toList_some, Option.toList_none, List.cons_append, List.nil_append, Int.toNat_natCast]
  obtain ⟨pa, la, K, P, L, ⟨i0, -⟩, -⟩ := id N
  have k0 := K.1
  by_cases c : f 0 = 4
  · have N1 : CN (sI h a 6 (1 - (i : Int))) a (fun k => if k = 6 then (if f 0 = 4 then 1 - (i : Int) else 0) else f k) r := by
      refine N.num (Or.inr (Or.inr (Or.inl rfl))) ?_ (fun j hj => if_neg hj)
      rw [if_neg (by decide), if_pos rfl, if_pos c]
    obtain ⟨g, w, N2, F2⟩ := main _ N1 (Fr.sI ⟨Nat.le_refl _, by omega⟩)
    refine ⟨g, fun Q => ?_, N2, F2⟩
    rw [← w Q]
    simp (disch := omega) only [u12_0, u12_1, u12_4, u12_5, u12_8, u12_9, u12_10, u12_11, u12_12, u12_16, u12_17, u12_20, u12_23, k0, i0, c, wr_id, rng, rngp, if_pos, if_neg, if_true, if_false, reduceCtorEq, true_and, and_true, and_self, Option.toList_some, Option.toList_none, List.cons_append, List.nil_append, Int.toNat_natCast]
  · have e : (fun k => if k = 6 then (if f 0 = 4 then 1 - (i : Int) else 0) else f k) = f := by
      funext k
      by_cases c6 : k = 6
      · rw [if_pos c6, if_neg c, c6, h6 c]
      · rw [if_neg c6]
    obtain ⟨g, w, N2, F2⟩ := main h (by rw [e]; exact N) Fr.rf
    refine ⟨g, fun Q => ?_, N2, F2⟩
    rw [← w Q]
    simp (disch := omega) only [u12_0, u12_1, u12_4, u12_5, u12_8, u12_9, u12_10, u12_11, u12_12, u12_16, u12_17, u12_20, u12_23, k0, i0, c, wr_id, rng, rngp, if_pos, if_neg, if_true, if_false, reduceCtorEq, true_and, and_true, and_self, Option.toList_some, Option.toList_none, List.cons_append, List.nil_append, Int.toNat_natCast]
