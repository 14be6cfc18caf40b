/-! a node of the class settles, or goes back -/
def nSf (f : Nat → Int) : Nat → Int := fun k => if k = 14 then f 19 else if k = 15 then f 20 else if k = 16 then f 21 else if k = 17 then f 22 else if k = 18 then f 23 else if k = 26 then f 25 else if k = 27 then f 24 else if k = 9 then 0 else f k
def nSr (r : Nat → List Int) : Nat → List Int := fun k => if k = 3 then r 2 else if k = 6 then r 6 ++ (r 5).take (100 - (r 6).length) else if k = 5 then [] else r k
theorem nSf_s {f : Nat → Int} {k : Nat} (h : k < 4) : nSf f (15 + k) = f (20 + k) := by
  have c : k = 0 ∨ k = 1 ∨ k = 2 ∨ k = 3 := by omega
  rcases c with rfl | rfl | rfl | rfl <;> rfl
theorem nSf_t {f : Nat → Int} {k : Nat} (h : k < 4) : nSf f (10 + k) = f (10 + k) := by
  have c : k = 0 ∨ k = 1 ∨ k = 2 ∨ k = 3 := by omega
  rcases c with rfl | rfl | rfl | rfl <;> rfl
theorem NK.swap {h : av_H} {a pa la : Nat} (K : NK h a pa la) : NK (sR (sR h a 17 pa) a 16 la) a la pa := by
  obtain ⟨k0, ⟨k1, k2⟩, k3, k4, k5, k6, k7, k8, k9, k10⟩ := K
  have q : ∀ j, j ≠ 17 → j ≠ 16 → gR (sR (sR h a 17 pa) a 16 la) a j = gR h a j := by
    intro j h1 h2
    rw [gR_sR_ne (fun e => h2 e.2), gR_sR_ne (fun e => h1 e.2)]
  refine ⟨k0, ⟨(q 10 (by decide) (by decide)).trans k1, k2⟩, (q 11 (by decide) (by decide)).trans k3, (q 12 (by decide) (by decide)).trans k4, (q 13 (by decide) (by decide)).trans k5, (q 14 (by decide) (by decide)).trans k6, (q 15 (by decide) (by decide)).trans k7, gR_sR_eq ⟨rfl, rfl⟩, (gR_sR_ne (fun e => by omega)).trans (gR_sR_eq ⟨rfl, rfl⟩), ?_⟩
  omega
theorem n_settle {sc : av_S} {d : Nat} {h : av_H} {a : Nat} {f : Nat → Int} {r : Nat → List Int} (N : CN h a f r) (h9 : f 9 = 1) (h8 : f 8 = 0) : ∃ h', (∀ Q, WP sc (d + 2) 20 0 [(0, .inr (.inl a))] [] h Q ↔ Q (some (.inl (((r 5).length - (100 - (r 6).length) : Nat) : Int))) h') ∧ CN h' a (nSf f) (nSr r) ∧ Fr h h' a (a + 20) := by
  obtain ⟨pa, la, K, P, L, I, S, R, p, l⟩ := N.to
  have pl := K.pl
  have F0 : Fr h (sI (sR (sR h a 17 pa) a 16 la) a 9 0) a (a + 1) := ((Fr.sR ⟨Nat.le_refl _, Nat.lt_succ_self _⟩).tr (Fr.sR ⟨Nat.le_refl _, Nat.lt_succ_self _⟩)).tr fr1
  have Ka : NK (sI (sR (sR h a 17 pa) a 16 la) a 9 0) a la pa := K.swap
  have Ia : NI (sI (sR (sR h a 17 pa) a 16 la) a 9 0) a (ud f 9 0) := NI.set (h := sR (sR h a 17 pa) a 16 la) I (by omega) rfl
  obtain ⟨r0, r1, r4, r5, r6⟩ := R
  obtain ⟨g1, w1, R1, F1⟩ := r_append (sc := sc) (d := d) (r6.fr F0 (by omega)) (r5.fr F0 (by omega)) (by omega) (by omega) (by omega)
  obtain ⟨g2, w2, R2, F2⟩ := r_drop (sc := sc) (d := d) ((r5.fr F0 (by omega)).fr F1 (by omega)).1
  have Ka1 := Ka.fr F1 (by omega)
  have Ka2 := Ka1.fr F2 (by omega)
  have P2 := ((P.fr F0 (by omega)).fr F1 (by omega)).fr F2 (by omega)
  have L2 := ((L.fr F0 (by omega)).fr F1 (by omega)).fr F2 (by omega)
  have I2 := (Ia.fr F1 (by omega)).fr F2 (by omega)
  have S2 := ((S.fr F0 (by omega)).fr F1 (by omega)).fr F2 (by omega)
  have l2 := ((l.fr F0 (by omega)).fr F1 (by omega)).fr F2 (by omega)
  have p2 := ((p.fr F0 (by omega)).fr F1 (by omega)).fr F2 (by omega)
  obtain ⟨b1, b2, b3⟩ := p2
  obtain ⟨c1, c2, c3, c4⟩ := b1 h9
  refine ⟨g2, fun Q => ?_, CN.mk Ka2 L2 P2 (I2.cg ?_) (S2.cg rfl (fun k hk => nSf_t hk)) ⟨((r0.fr F0 (by omega)).fr F1 (by omega)).fr F2 (by omega), ((r1.fr F0 (by omega)).fr F1 (by omega)).fr F2 (by omega), ((r4.fr F0 (by omega)).fr F1 (by omega)).fr F2 (by omega), R2, R1.fr F2 (by omega)⟩ ⟨fun q => ?_, fun q => ?_, l2.2.2.2.2.2⟩ ⟨c1, fun z k hk => (c2 z k hk).trans (nSf_s hk).symm, c4, c3, fun z => b2 (Or.inl ⟨h9, z⟩), b3⟩, ((F0.wd (by omega) (by omega)).tr (F1.wd (by omega) (by omega))).tr (F2.wd (by omega) (by omega))⟩
  · have k0 := K.1
    have k6 := K.2.2.2.2.2.2.2.1
    have k7 := K.2.2.2.2.2.2.2.2.1
    have k6' : gR (sR h a 17 pa) a 16 = pa := (gR_sR_ne (fun e => by omega)).trans k6
    have a0 : (kd (sI (sR (sR h a 17 pa) a 16 la) a 9 0) a).1 = 1 := Ka.1
    have a4 : gR (sR (sR h a 17 pa) a 16 la) a 14 = a + 8 := Ka.2.2.2.2.2.1
    have a5 : gR (sR (sR h a 17 pa) a 16 la) a 15 = a + 10 := Ka.2.2.2.2.2.2.1
    have b0 := Ka1.1
    have b4 := Ka1.2.2.2.2.2.1
    have m5 : (kd h (a + 8)).1 = 3 := r5.1.1
    have m6 : (kd h (a + 10)).1 = 3 := r6.1.1
    have m5' : (kd g1 (a + 8)).1 = 3 := by rw [F1.k]; exact m5
    clear b1 b2 b3 c1 c2 c3 c4 R1 R2 I2 S2 l2 P2 L2 F2 F1 F0 Ia
    simp (disch := omega) only [u20_0, u20_1, u20_4, u20_5, u20_6, u20_7, u20_10, u20_13, u20_14, u20_15, u20_18, u20_19, u20_20, u20_23, u20_24, u20_27, u20_28, u20_31, u20_34, u20_35, u20_36, u20_39, u20_42, u20_43, k0, k6, k7, k6', a0, a4, a5, b0, b4, m5, m6, m5', kd_sI, kd_sR, gR_sI, w1, w2, true_or, or_true, wr_id, rng, rngp, if_pos, if_neg, if_true, if_false, reduceCtorEq, true_and, and_true, and_self, Option.toList_some, Option.toList_none, List.cons_append, List.nil_append, Int.toNat_natCast]
  · intro k hk
    have c : k = 0 ∨ k = 1 ∨ k = 2 ∨ k = 3 ∨ k = 4 ∨ k = 5 ∨ k = 6 ∨ k = 7 ∨ k = 8 ∨ k = 9 := by clear b1 b2 b3 c1 c2 c3 c4 R1 R2 I2 S2 l2 P2 L2 F2 F1 F0 Ia; omega
    rcases c with rfl | rfl | rfl | rfl | rfl | rfl | rfl | rfl | rfl | rfl <;> rfl
  · exact absurd q (by decide : ¬ (0 : Int) = 1)
  · rcases q with q | q
    · exact absurd q.1 (by decide : ¬ (0 : Int) = 1)
    · exact absurd h8 q
