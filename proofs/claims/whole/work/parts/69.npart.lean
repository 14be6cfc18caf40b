/-! a node of the class completes its part -/
def ud {α : Type} (f : Nat → α) (k : Nat) (v : α) : Nat → α := fun j => if j = k then v else f j
theorem ud_ne {α : Type} {f : Nat → α} {k j : Nat} {v : α} (h : j ≠ k) : ud f k v j = f j := if_neg h
theorem ud_eq {α : Type} {f : Nat → α} {k : Nat} {v : α} : ud f k v k = v := if_pos rfl
theorem NI.set {h : av_H} {a k : Nat} {f : Nat → Int} {z w : Int} (N : NI h a f) (hk : 4 ≤ k ∧ k < 10) (hz : z = if k = 7 ∨ k = 8 then w - 1 else w) : NI (sI h a k z) a (ud f k w) := by
  obtain ⟨i0, i1, i2, i3, i4, i5, i6, i7, i8, i9⟩ := N
  have ex : ∀ j, j ≠ k → gI (sI h a k z) a j = gI h a j := fun j hj => gI_sI_ne hj
  have eq : gI (sI h a k z) a k = z := gI_sI_eq rfl
  have c : k = 4 ∨ k = 5 ∨ k = 6 ∨ k = 7 ∨ k = 8 ∨ k = 9 := by clear ex eq; omega
  rcases c with rfl | rfl | rfl | rfl | rfl | rfl
  · exact ⟨(ex 0 (by decide)).trans i0, (ex 1 (by decide)).trans i1, (ex 2 (by decide)).trans i2, (ex 3 (by decide)).trans i3, fun q => eq.trans (hz.trans (if_neg (by decide))), (ex 5 (by decide)).trans i5, (ex 6 (by decide)).trans i6, (ex 7 (by decide)).trans i7, (ex 8 (by decide)).trans i8, (ex 9 (by decide)).trans i9⟩
  · exact ⟨(ex 0 (by decide)).trans i0, (ex 1 (by decide)).trans i1, (ex 2 (by decide)).trans i2, (ex 3 (by decide)).trans i3, fun q => (ex 4 (by decide)).trans (i4 q), eq.trans (hz.trans (if_neg (by decide))), (ex 6 (by decide)).trans i6, (ex 7 (by decide)).trans i7, (ex 8 (by decide)).trans i8, (ex 9 (by decide)).trans i9⟩
  · exact ⟨(ex 0 (by decide)).trans i0, (ex 1 (by decide)).trans i1, (ex 2 (by decide)).trans i2, (ex 3 (by decide)).trans i3, fun q => (ex 4 (by decide)).trans (i4 q), (ex 5 (by decide)).trans i5, eq.trans (hz.trans (if_neg (by decide))), (ex 7 (by decide)).trans i7, (ex 8 (by decide)).trans i8, (ex 9 (by decide)).trans i9⟩
  · exact ⟨(ex 0 (by decide)).trans i0, (ex 1 (by decide)).trans i1, (ex 2 (by decide)).trans i2, (ex 3 (by decide)).trans i3, fun q => (ex 4 (by decide)).trans (i4 q), (ex 5 (by decide)).trans i5, (ex 6 (by decide)).trans i6, eq.trans (hz.trans (if_pos (by decide))), (ex 8 (by decide)).trans i8, (ex 9 (by decide)).trans i9⟩
  · exact ⟨(ex 0 (by decide)).trans i0, (ex 1 (by decide)).trans i1, (ex 2 (by decide)).trans i2, (ex 3 (by decide)).trans i3, fun q => (ex 4 (by decide)).trans (i4 q), (ex 5 (by decide)).trans i5, (ex 6 (by decide)).trans i6, (ex 7 (by decide)).trans i7, eq.trans (hz.trans (if_pos (by decide))), (ex 9 (by decide)).trans i9⟩
  · exact ⟨(ex 0 (by decide)).trans i0, (ex 1 (by decide)).trans i1, (ex 2 (by decide)).trans i2, (ex 3 (by decide)).trans i3, fun q => (ex 4 (by decide)).trans (i4 q), (ex 5 (by decide)).trans i5, (ex 6 (by decide)).trans i6, (ex 7 (by decide)).trans i7, (ex 8 (by decide)).trans i8, eq.trans (hz.trans (if_neg (by decide)))⟩
def oth (f : Nat → Int) : Int := (if f 10 = f 15 then 0 else 1) + (if f 11 = f 16 then 0 else 1) + (if f 12 = f 17 then 0 else 1) + (if f 13 = f 18 then 0 else 1)
theorem n_complete {sc : av_S} {d : Nat} {h : av_H} {a pa la : Nat} {z : Int} (K : NK h a pa la) (P : PK h pa) (Q : Option av_V → av_H → Prop) : WP sc (d + 1) 19 0 [(0, .inr (.inl a)), (1, .inl z)] [] h Q ↔ Q none (sI (sI h pa 4 z) a 9 1) := by
  have k0 := K.1
  have k6 := K.2.2.2.2.2.2.2.1
  have q0 := P.1
  simp (disch := omega) only [u19_0, u19_1, u19_4, u19_5, u19_8, u19_9, u19_10, u19_13, k0, k6, q0, kd_sI, true_or, or_true, wr_id, rng, rngp, if_pos, if_neg, if_true, if_false, reduceCtorEq, true_and, and_true, and_self, Option.toList_some, Option.toList_none, List.cons_append, List.nil_append, Int.toNat_natCast]
theorem PK.si {h : av_H} {p k : Nat} {z : Int} (P : PK h p) : PK (sI h p k z) p := by
  obtain ⟨a, b, c, q, L, r⟩ := P
  exact ⟨a, b, c, q, L, r.fr (Fr.sI (lo := p) (hi := p + 1) ⟨Nat.le_refl _, Nat.lt_succ_self _⟩) (Or.inr (Nat.le_succ _))⟩
theorem n_storeSums {sc : av_S} {d : Nat} {h : av_H} {a pa la : Nat} {f : Nat → Int} (K : NK h a pa la) (P : PK h pa) (L : PK h la) (s1 : ∀ k, k < 4 → gI h (a + 1) k = f (10 + k)) (s2 : ∀ k, k < 4 → gI h (la + 1) k = f (15 + k)) : ∃ h', (∀ Q, WP sc (d + 1) 18 0 [(0, .inr (.inl a))] [] h Q ↔ Q (some (.inl (oth f))) h') ∧ (∀ k, k < 4 → gI h' (pa + 1) k = f (10 + k)) ∧ Fr h h' (pa + 1) (pa + 2) := by
  have pl := K.pl
  have x1 : a + 1 < pa + 1 ∨ pa + 2 ≤ a + 1 := by omega
  have x2 : la + 1 < pa + 1 ∨ pa + 2 ≤ la + 1 := by omega
  have x3 : a < pa + 1 ∨ pa + 2 ≤ a := by omega
  have x4 : la < pa + 1 ∨ pa + 2 ≤ la := by omega
  have x5 : a + 1 ≠ pa + 1 := by omega
  have x6 : la + 1 ≠ pa + 1 := by omega
  have k0 := K.1
  have ks := K.2.1.1
  have kt := K.2.1.2
  have k6 := K.2.2.2.2.2.2.2.1
  have k7 := K.2.2.2.2.2.2.2.2.1
  clear pl
  have loop : ∀ (t n : Nat) (hk : av_H) (z : Int), t = 4 - n → n ≤ 4 → Fr h hk (pa + 1) (pa + 2) → (∀ j, j < n → gI hk (pa + 1) j = f (10 + j)) → z = sumN (fun k => if f (10 + k) = f (15 + k) then 0 else 1) n → (0 ≤ z ∧ z ≤ (n : Int)) → WP sc (d + 1) 18 4 [(0, .inr (.inl a)), (1, .inl z), (2, .inl (n : Int))] [] hk (fun r h' => r = some (.inl (sumN (fun k => if f (10 + k) = f (15 + k) then 0 else 1) 4)) ∧ (∀ k, k < 4 → gI h' (pa + 1) k = f (10 + k)) ∧ Fr h h' (pa + 1) (pa + 2)) := by
    intro t
    induction t with
    | zero =>
      intro n hk z ht hn F z1 hz hz2
      have e : n = 4 := by omega
      subst e
      rw [u18_4]
      simp (disch := omega) only [u18_0, u18_1, u18_2, u18_3, u18_5, u18_6, u18_9, u18_10, u18_13, u18_16, u18_17, u18_18, u18_21, u18_22, u18_23, u18_24, u18_25, u18_28, u18_29, u18_30, u18_31, u18_34, u18_37, u18_38, u18_39, u18_42, u18_45, u18_48, u18_51, u18_52, wr_id, rng, rngp, if_pos, if_neg, if_true, if_false, reduceCtorEq, true_and, and_true, and_self, Option.toList_some, Option.toList_none, List.cons_append, List.nil_append, Int.toNat_natCast]
      exact ⟨by rw [hz], z1, F⟩
    | succ t ih =>
      intro n hk z ht hn F z1 hz hz2
      have j0 : (kd hk a).1 = 1 := by rw [F.k]; exact k0
      have js : gR hk a 10 = a + 1 := by rw [F.r x3]; exact ks
      have jt : kd hk (a + 1) = (10, 4) := by rw [F.k]; exact kt
      have j6 : gR hk a 16 = pa := by rw [F.r x3]; exact k6
      have j7 : gR hk a 17 = la := by rw [F.r x3]; exact k7
      have p0 : (kd hk pa).1 = 2 := by rw [F.k]; exact P.1
      have p1 : gR hk pa 1 = pa + 1 := by rw [F.r (by omega)]; exact P.2.1
      have p2 : kd hk (pa + 1) = (10, 4) := by rw [F.k]; exact P.2.2.1
      have l0 : (kd hk la).1 = 2 := by rw [F.k]; exact L.1
      have l1 : gR hk la 1 = la + 1 := by rw [F.r x4]; exact L.2.1
      have l2 : kd hk (la + 1) = (10, 4) := by rw [F.k]; exact L.2.2.1
      have n4 : n < 4 := by omega
      have v1 : gI hk (a + 1) n = f (10 + n) := by rw [F.i x1]; exact s1 n n4
      have v2 : gI hk (la + 1) n = f (15 + n) := by rw [F.i x2]; exact s2 n n4
      have y1 : gI (sI hk (pa + 1) n (f (10 + n))) (a + 1) n = f (10 + n) := by rw [gI_sI_nb x5]; exact v1
      have y2 : gI (sI hk (pa + 1) n (f (10 + n))) (la + 1) n = f (15 + n) := by rw [gI_sI_nb x6]; exact v2
      have F2 : Fr h (sI hk (pa + 1) n (f (10 + n))) (pa + 1) (pa + 2) := F.tr (Fr.sI ⟨Nat.le_refl _, Nat.lt_succ_self _⟩)
      have z2 : ∀ j, j < n + 1 → gI (sI hk (pa + 1) n (f (10 + n))) (pa + 1) j = f (10 + j) := by
        intro j hj
        by_cases e : j = n
        · rw [gI_sI_eq e, e]
        · rw [gI_sI_ne e]; exact z1 j (by clear y1 y2 v1 v2; omega)
      rw [u18_4]
      by_cases c : f (10 + n) = f (15 + n)
      · rw [c] at v1 y1 y2 F2 z2
        simp (disch := (clear y1 y2 v1 v2 z2; omega)) only [u18_0, u18_1, u18_2, u18_3, u18_5, u18_6, u18_9, u18_10, u18_13, u18_16, u18_17, u18_18, u18_21, u18_22, u18_23, u18_24, u18_25, u18_28, u18_29, u18_30, u18_31, u18_34, u18_37, u18_38, u18_39, u18_42, u18_45, u18_48, u18_51, u18_52, j0, js, jt, j6, j7, p0, p1, p2, l0, l1, l2, v1, y1, y2, kd_sI, gR_sI, le_t, lt_t, wr_id, rng, rngp, if_pos, if_neg, if_true, if_false, reduceCtorEq, true_and, and_true, and_self, Option.toList_some, Option.toList_none, List.cons_append, List.nil_append, Int.toNat_natCast]
        rw [show (n : Int) + 1 = ((n + 1 : Nat) : Int) from rfl]
        exact ih (n + 1) _ _ (by omega) (by omega) F2 z2 (by show z = sumN _ n + (if _ then _ else _); rw [if_pos c, Int.add_zero]; exact hz) (by omega)
      · simp (disch := (clear y1 y2 v1 v2 z2; omega)) only [u18_0, u18_1, u18_2, u18_3, u18_5, u18_6, u18_9, u18_10, u18_13, u18_16, u18_17, u18_18, u18_21, u18_22, u18_23, u18_24, u18_25, u18_28, u18_29, u18_30, u18_31, u18_34, u18_37, u18_38, u18_39, u18_42, u18_45, u18_48, u18_51, u18_52, j0, js, jt, j6, j7, p0, p1, p2, l0, l1, l2, v1, y1, y2, c, kd_sI, gR_sI, le_t, lt_t, wr_id, rng, rngp, if_pos, if_neg, if_true, if_false, reduceCtorEq, true_and, and_true, and_self, Option.toList_some, Option.toList_none, List.cons_append, List.nil_append, Int.toNat_natCast]
        rw [show (n : Int) + 1 = ((n + 1 : Nat) : Int) from rfl]
        exact ih (n + 1) _ _ (by omega) (by omega) F2 z2 (by show z + 1 = sumN _ n + (if _ then _ else _); rw [if_neg c, hz]) (by omega)
  have o : oth f = sumN (fun k => if f (10 + k) = f (15 + k) then 0 else 1) 4 := by
    show _ = ((((0 : Int) + _) + _) + _) + _
    unfold oth
    rw [Int.zero_add]
  have big : WP sc (d + 1) 18 0 [(0, .inr (.inl a))] [] h (fun r h' => r = some (.inl (oth f)) ∧ (∀ k, k < 4 → gI h' (pa + 1) k = f (10 + k)) ∧ Fr h h' (pa + 1) (pa + 2)) := by
    rw [o]
    simp (disch := omega) only [u18_0, u18_1, u18_2, u18_3, u18_5, u18_6, u18_9, u18_10, u18_13, u18_16, u18_17, u18_18, u18_21, u18_22, u18_23, u18_24, u18_25, u18_28, u18_29, u18_30, u18_31, u18_34, u18_37, u18_38, u18_39, u18_42, u18_45, u18_48, u18_51, u18_52, wr_id, rng, rngp, if_pos, if_neg, if_true, if_false, reduceCtorEq, true_and, and_true, and_self, Option.toList_some, Option.toList_none, List.cons_append, List.nil_append, Int.toNat_natCast]
    have := loop _ 0 h 0 rfl (by omega) Fr.rf (fun j hj => absurd hj (Nat.not_lt_zero j)) rfl (by omega)
    exact this
  obtain ⟨r, h', hw, rfl, b⟩ := big.evE
  exact ⟨h', hw, b⟩
