/-! the objects of the class are made -/
/-- all below lo but cell a is as it was; n cells and at most s slots are new -/
def Ga (h h' : av_H) (lo a n s : Nat) : Prop := h'.1.1 = h.1.1 + n ∧ h'.1.2 ≤ h.1.2 + s ∧ (∀ b, b < lo → kd h' b = kd h b) ∧ (∀ b j, b < lo → b ≠ a → gI h' b j = gI h b j) ∧ ∀ b j, b < lo → b ≠ a → gR h' b j = gR h b j
theorem Ga.tr {h h1 h2 : av_H} {lo lo2 a n s n2 s2 : Nat} (x : Ga h h1 lo a n s) (y : Ga h1 h2 lo2 a n2 s2) (e : lo ≤ lo2) : Ga h h2 lo a (n + n2) (s + s2) := ⟨by rw [y.1, x.1]; omega, by have := x.2.1; have := y.2.1; omega, fun b hb => (y.2.2.1 b (by omega)).trans (x.2.2.1 b hb), fun b j hb q => (y.2.2.2.1 b j (by omega) q).trans (x.2.2.2.1 b j hb q), fun b j hb q => (y.2.2.2.2 b j (by omega) q).trans (x.2.2.2.2 b j hb q)⟩
theorem Ga.lo {h h1 : av_H} {lo lo2 a n s : Nat} (x : Ga h h1 lo a n s) (e : lo2 ≤ lo) : Ga h h1 lo2 a n s := ⟨x.1, x.2.1, fun b hb => x.2.2.1 b (by omega), fun b j hb q => x.2.2.2.1 b j (by omega) q, fun b j hb q => x.2.2.2.2 b j (by omega) q⟩
theorem Ga.at {h h1 : av_H} {lo a b n s : Nat} (x : Ga h h1 lo a n s) (e : lo ≤ a) : Ga h h1 lo b n s := ⟨x.1, x.2.1, x.2.2.1, fun c j hc _ => x.2.2.2.1 c j hc (by omega), fun c j hc _ => x.2.2.2.2 c j hc (by omega)⟩
theorem RowIs.ga {h h' : av_H} {lo a n s r cap : Nat} {L : List Int} (R : RowIs h r cap L) (G : Ga h h' lo a n s) (e1 : r + 2 ≤ lo) (e2 : a < r ∨ r + 2 ≤ a) : RowIs h' r cap L := by
  obtain ⟨⟨a1, a2, a3⟩, b, c, q⟩ := R
  exact ⟨⟨by rw [G.2.2.1 _ (by omega)]; exact a1, by rw [G.2.2.2.2 _ _ (by omega) (by omega)]; exact a2, by rw [G.2.2.1 _ (by omega)]; exact a3⟩, by rw [G.2.2.2.1 _ _ (by omega) (by omega)]; exact b, c, fun i hi => by rw [G.2.2.2.1 _ _ (by omega) (by omega)]; exact q i hi⟩
theorem PK.ga {h h' : av_H} {lo a n s p : Nat} (P : PK h p) (G : Ga h h' lo a n s) (e1 : p + 4 ≤ lo) (e2 : a < p ∨ p + 4 ≤ a) : PK h' p := by
  obtain ⟨a1, a2, a3, a4, L, r⟩ := P
  exact ⟨by rw [G.2.2.1 _ (by omega)]; exact a1, by rw [G.2.2.2.2 _ _ (by omega) (by omega)]; exact a2, by rw [G.2.2.1 _ (by omega)]; exact a3, by rw [G.2.2.2.2 _ _ (by omega) (by omega)]; exact a4, L, r.ga G (by omega) (by omega)⟩
theorem NW.ga {h h' : av_H} {lo a n s x : Nat} (N : NW h x) (G : Ga h h' lo a n s) (e1 : x + 20 ≤ lo) (e2 : a < x ∨ x + 20 ≤ a) : NW h' x := by
  obtain ⟨pa, la, ⟨k0, ⟨k1, k2⟩, k3, k4, k5, k6, k7, k8, k9, pl⟩, P, L, ⟨_, r0⟩, ⟨_, r1⟩, ⟨_, r4⟩, ⟨_, r5⟩, ⟨_, r6⟩⟩ := N
  have r : ∀ j, gR h' x j = gR h x j := fun j => G.2.2.2.2 _ _ (by omega) (by omega)
  exact ⟨pa, la, ⟨by rw [G.2.2.1 _ (by omega)]; exact k0, ⟨(r _).trans k1, by rw [G.2.2.1 _ (by omega)]; exact k2⟩, (r _).trans k3, (r _).trans k4, (r _).trans k5, (r _).trans k6, (r _).trans k7, (r _).trans k8, (r _).trans k9, pl⟩, P.ga G (by omega) (by omega), L.ga G (by omega) (by omega), ⟨_, r0.ga G (by omega) (by omega)⟩, ⟨_, r1.ga G (by omega) (by omega)⟩, ⟨_, r4.ga G (by omega) (by omega)⟩, ⟨_, r5.ga G (by omega) (by omega)⟩, ⟨_, r6.ga G (by omega) (by omega)⟩⟩
theorem Ga.al {h : av_H} {q n a : Nat} : Ga h (al h q n) (h.1.1 + 2) a 1 n := ⟨rfl, Nat.le_refl _, fun b hb => by rw [kd_aL, if_neg (by omega)], fun b j hb _ => by rw [gI_al, if_neg (by omega)], fun b j hb _ => by rw [gR_al, if_neg (by omega)]⟩
theorem Ga.sR {h : av_H} {a k r lo : Nat} : Ga h (sR h a k r) lo a 0 0 := ⟨rfl, Nat.le_refl _, fun _ _ => rfl, fun _ _ _ _ => rfl, fun b j _ q => by rw [gR_sR, if_neg (fun z => q z.1)]⟩
theorem Ga.sI {h : av_H} {a k lo : Nat} {z : Int} : Ga h (sI h a k z) lo a 0 0 := ⟨rfl, Nat.le_refl _, fun _ _ => rfl, fun b j _ q => by rw [gI_sI, if_neg (fun z => q z.1)], fun _ _ _ _ => rfl⟩
theorem i_row {sc : av_S} {d : Nat} {h : av_H} {x cap : Nat} (hx : h.1.1 + 1 = x) (hx1 : 1 < x) (hk : (kd h x).1 = 3) (h0 : gI h x 1 = 0) (hc : cap < 100000) : ∃ h', (∀ Q, WP sc (d + 1) 25 0 [(0, .inr (.inl x)), (1, .inl (cap : Int))] [] h Q ↔ Q none h') ∧ RowIs h' x cap [] ∧ Ga h h' x x 1 cap := by
  refine ⟨sR (al h 10 cap) x 0 (h.1.1 + 2), fun Q => ?_, ⟨⟨?_, ?_, ?_⟩, ?_, Nat.zero_le _, fun i hi => absurd hi (Nat.not_lt_zero i)⟩, ((Ga.al (a := x)).lo (by omega)).tr (Ga.sR (lo := x)) (Nat.le_refl _)⟩
  · have hx1' := eq_true hx1
    simp (disch := omega) only [u25_0, u25_1, u25_4, u25_5, u25_6, u25_8, u25_11, kd_aL, hk, hx1', wr_id, rng, rngp, if_pos, if_neg, if_true, if_false, reduceCtorEq, true_and, and_true, and_self, Option.toList_some, Option.toList_none, List.cons_append, List.nil_append, Int.toNat_natCast]
  · rw [kd_sR, kd_aL, if_neg (by omega)]; exact hk
  · rw [gR_sR_eq ⟨rfl, rfl⟩]; omega
  · rw [kd_sR, kd_aL, if_pos (by omega)]
  · rw [gI_sR, gI_al, if_neg (by omega)]; exact h0
/-- a new row in field k of a -/
theorem s_row {sc : av_S} {d : Nat} {g : av_H} {a c k cap : Nat} (hg : g.1.1 + 2 = c) (ha : a < c) (hc : cap < 100000) : ∃ h1, (∀ Q, WP sc (d + 1) 25 0 [(0, .inr (.inl c)), (1, .inl (cap : Int))] [] (al g 3 2) Q ↔ Q none h1) ∧ (kd (al g 3 2) c).1 = 3 ∧ (∀ b, b < c → kd h1 b = kd g b) ∧ RowIs (sR h1 a k c) c cap [] ∧ (∀ j, gR (sR h1 a k c) a j = if j = k then c else gR g a j) ∧ (∀ j, gI (sR h1 a k c) a j = gI g a j) ∧ Ga g (sR h1 a k c) c a 2 (2 + cap) := by
  have e : (al g 3 2).1.1 + 1 = c := by rw [h11_al]; omega
  have hk : (kd (al g 3 2) c).1 = 3 := by rw [kd_aL, if_pos (by omega)]
  obtain ⟨h1, w1, R1, G1⟩ := i_row (sc := sc) (d := d) (cap := cap) e (by omega) hk (by rw [gI_al, if_pos (by omega)]) hc
  have G0 : Ga g (al g 3 2) c c 1 2 := Ga.al.lo (by omega)
  have G2 : Ga g h1 c c 2 (2 + cap) := G0.tr G1 (Nat.le_refl _)
  refine ⟨h1, w1, hk, fun b hb => G2.2.2.1 b hb, R1.ga (Ga.sR (lo := c + 2)) (by omega) (by omega), fun j => ?_, fun j => ?_, (G2.at (Nat.le_refl _)).tr (Ga.sR (lo := c)) (Nat.le_refl _)⟩
  · rw [gR_sR]
    by_cases q : j = k
    · rw [if_pos ⟨rfl, q⟩, if_pos q]
    · rw [if_neg (fun z => q z.2), if_neg q]
      exact G2.2.2.2.2 a j ha (by omega)
  · rw [gI_sR]
    exact G2.2.2.2.1 a j ha (by omega)
theorem i_part {sc : av_S} {d : Nat} {h : av_H} {x : Nat} (hx : h.1.1 + 1 = x) (hx1 : 1 < x) (hk : (kd h x).1 = 2) : ∃ h', (∀ Q, WP sc (d + 2) 22 0 [(0, .inr (.inl x))] [] h Q ↔ Q none h') ∧ PK h' x ∧ Ga h h' x x 3 66 := by
  obtain ⟨g, eg⟩ : ∃ g, g = sR (al h 10 (Int.toNat 4)) x 1 (h.1.1 + 2) := ⟨_, rfl⟩
  have Gg : Ga h g (x + 1) x 1 4 := by
    rw [eg]
    exact ((Ga.al (h := h) (q := 10) (n := 4) (a := x)).lo (by omega)).tr (Ga.sR (lo := x + 1)) (Nat.le_refl _)
  have g11 : g.1.1 + 2 = x + 2 := by rw [Gg.1]; omega
  have gk : (kd g x).1 = 2 := by rw [Gg.2.2.1 x (by omega)]; exact hk
  have gk1 : kd g (x + 1) = (10, 4) := by rw [eg, kd_sR, kd_aL, if_pos (by omega)]; rfl
  have gr1 : gR g x 1 = x + 1 := by rw [eg, gR_sR_eq ⟨rfl, rfl⟩]; omega
  obtain ⟨h1, w1, k1, b1, R1, r1, i1, G1⟩ := s_row (sc := sc) (d := d) (a := x) (k := 2) (cap := 60) g11 (by omega) (by omega)
  refine ⟨sI (sR h1 x 2 (x + 2)) x 3 (-1), fun Q => ?_, ⟨?_, ?_, ?_, ?_, _, R1.ga (Ga.sI (lo := x + 4)) (by omega) (by omega)⟩, ?_⟩
  · have hx1' := eq_true hx1
    have k0 : (kd h1 x).1 = 2 := by rw [b1 x (by omega)]; exact gk
    have w1' : ∀ Q, WP sc (d + 1) 25 0 [(0, .inr (.inl (x + 2))), (1, .inl 60)] [] (al g 3 2) Q ↔ Q none h1 := w1
    clear r1 i1 R1 G1 b1
    simp (disch := omega) only [u22_0, u22_1, u22_4, u22_5, u22_6, u22_8, u22_12, u22_15, u22_16, u22_18, u22_21, u22_24, u22_25, u22_26, u22_29, kd_aL, hk, hx1', wr_id, rng, rngp, if_pos, if_neg, if_true, if_false, reduceCtorEq, true_and, and_true, and_self, Option.toList_some, Option.toList_none, List.cons_append, List.nil_append, Int.toNat_natCast]
    rw [← eg]
    simp (disch := omega) only [u22_0, u22_1, u22_4, u22_5, u22_6, u22_8, u22_11, u22_12, u22_15, u22_16, u22_18, u22_21, u22_24, u22_25, u22_26, u22_29, g11, k1, w1', k0, kd_sR, wr_id, rng, rngp, if_pos, if_neg, if_true, if_false, reduceCtorEq, true_and, and_true, and_self, Option.toList_some, Option.toList_none, List.cons_append, List.nil_append, Int.toNat_natCast]
  · rw [kd_sI, kd_sR, b1 x (by omega)]; exact gk
  · rw [gR_sI, r1, if_neg (by decide)]; exact gr1
  · rw [kd_sI, kd_sR, b1 _ (by omega)]; exact gk1
  · rw [gR_sI, r1, if_pos rfl]
  · exact ((Gg.lo (by omega)).tr (G1.lo (by omega)) (Nat.le_refl _)).tr (Ga.sI (lo := x)) (Nat.le_refl _)
theorem s_part {sc : av_S} {d : Nat} {g : av_H} {a c k : Nat} (hg : g.1.1 + 2 = c) (ha : a < c) (hc1 : 1 < c) : ∃ h1, (∀ Q, WP sc (d + 2) 22 0 [(0, .inr (.inl c))] [] (al g 2 5) Q ↔ Q none h1) ∧ (kd (al g 2 5) c).1 = 2 ∧ (∀ b, b < c → kd h1 b = kd g b) ∧ PK (sR h1 a k c) c ∧ (∀ j, gR (sR h1 a k c) a j = if j = k then c else gR g a j) ∧ (∀ j, gI (sR h1 a k c) a j = gI g a j) ∧ Ga g (sR h1 a k c) c a 4 71 := by
  have e : (al g 2 5).1.1 + 1 = c := by rw [h11_al]; omega
  have hk : (kd (al g 2 5) c).1 = 2 := by rw [kd_aL, if_pos (by omega)]
  obtain ⟨h1, w1, R1, G1⟩ := i_part (sc := sc) (d := d) e hc1 hk
  have G0 : Ga g (al g 2 5) c c 1 5 := Ga.al.lo (by omega)
  have G2 : Ga g h1 c c 4 71 := G0.tr G1 (Nat.le_refl _)
  refine ⟨h1, w1, hk, fun b hb => G2.2.2.1 b hb, R1.ga (Ga.sR (lo := c + 4)) (by omega) (by omega), fun j => ?_, fun j => ?_, (G2.at (Nat.le_refl _)).tr (Ga.sR (lo := c)) (Nat.le_refl _)⟩
  · rw [gR_sR]
    by_cases q : j = k
    · rw [if_pos ⟨rfl, q⟩, if_pos q]
    · rw [if_neg (fun z => q z.2), if_neg q]
      exact G2.2.2.2.2 a j ha (by omega)
  · rw [gI_sR]
    exact G2.2.2.2.1 a j ha (by omega)
theorem i_node {sc : av_S} {d : Nat} {h : av_H} {a : Nat} (hx : h.1.1 + 1 = a) (hx1 : 1 < a) (hk : (kd h a).1 = 1) : ∃ h', (∀ Q, WP sc (d + 3) 0 0 [(0, .inr (.inl a))] [] h Q ↔ Q none h') ∧ NW h' a ∧ Ga h h' a a 19 616 := by
  obtain ⟨g, eg⟩ : ∃ g, g = sR (al (sI (sI h a 7 (-1)) a 8 (-1)) 10 (Int.toNat 4)) a 10 (h.1.1 + 2) := ⟨_, rfl⟩
  have Gg : Ga h g (a + 1) a 1 4 := by
    rw [eg]
    have x1 : Ga h (sI (sI h a 7 (-1)) a 8 (-1)) (a + 1) a 0 0 := (Ga.sI (lo := a + 1)).tr (Ga.sI (lo := a + 1)) (Nat.le_refl _)
    have x2 : Ga (sI (sI h a 7 (-1)) a 8 (-1)) (al (sI (sI h a 7 (-1)) a 8 (-1)) 10 (Int.toNat 4)) (a + 1) a 1 4 := Ga.al.lo (by show a + 1 ≤ h.1.1 + 2; omega)
    exact ((x1.tr x2 (Nat.le_refl _)).tr (Ga.sR (lo := a + 1)) (Nat.le_refl _))
  have g11 : g.1.1 + 2 = a + 2 := by rw [Gg.1]; omega
  have gk : (kd g a).1 = 1 := by rw [Gg.2.2.1 a (by omega)]; exact hk
  have gk1 : kd g (a + 1) = (10, 4) := by rw [eg, kd_sR, kd_aL, if_pos (by show a + 1 = h.1.1 + 2; omega)]; rfl
  have gr : gR g a 10 = a + 1 := by rw [eg, gR_sR_eq ⟨rfl, rfl⟩]; omega
  obtain ⟨h1, w1, k1, b1, R1, r1, -, G1⟩ := s_row (sc := sc) (d := d + 1) (a := a) (k := 11) (cap := 60) g11 (by omega) (by omega)
  obtain ⟨h2, w2, k2, b2, R2, r2, -, G2⟩ := s_row (sc := sc) (d := d + 1) (a := a) (c := a + 4) (k := 12) (cap := 60) (g := sR h1 a 11 (a + 2)) (by rw [G1.1]; omega) (by omega) (by omega)
  obtain ⟨h3, w3, k3, b3, R3, r3, -, G3⟩ := s_row (sc := sc) (d := d + 1) (a := a) (c := a + 6) (k := 13) (cap := 120) (g := sR h2 a 12 (a + 4)) (by rw [G2.1, G1.1]; omega) (by omega) (by omega)
  obtain ⟨h4, w4, k4, b4, R4, r4, -, G4⟩ := s_row (sc := sc) (d := d + 1) (a := a) (c := a + 8) (k := 14) (cap := 120) (g := sR h3 a 13 (a + 6)) (by rw [G3.1, G2.1, G1.1]; omega) (by omega) (by omega)
  obtain ⟨h5, w5, k5, b5, R5, r5, -, G5⟩ := s_row (sc := sc) (d := d + 1) (a := a) (c := a + 10) (k := 15) (cap := 100) (g := sR h4 a 14 (a + 8)) (by rw [G4.1, G3.1, G2.1, G1.1]; omega) (by omega) (by omega)
  obtain ⟨h6, w6, k6, b6, P6, r6, -, G6⟩ := s_part (sc := sc) (d := d) (a := a) (c := a + 12) (k := 16) (g := sR h5 a 15 (a + 10)) (by rw [G5.1, G4.1, G3.1, G2.1, G1.1]; omega) (by omega) (by omega)
  obtain ⟨h7, w7, k7, b7, P7, r7, -, G7⟩ := s_part (sc := sc) (d := d) (a := a) (c := a + 16) (k := 17) (g := sR h6 a 16 (a + 12)) (by rw [G6.1, G5.1, G4.1, G3.1, G2.1, G1.1]; omega) (by omega) (by omega)
  have kk : ∀ b, b < a + 2 → kd h7 b = kd g b := by
    intro b hb
    rw [b7 b (by omega), kd_sR, b6 b (by omega), kd_sR, b5 b (by omega), kd_sR, b4 b (by omega), kd_sR, b3 b (by omega), kd_sR, b2 b (by omega), kd_sR, b1 b (by omega)]
  refine ⟨sR h7 a 17 (a + 16), fun Q => ?_, ⟨a + 12, a + 16, ⟨?_, ⟨?_, ?_⟩, ?_, ?_, ?_, ?_, ?_, ?_, ?_, Or.inl ⟨rfl, rfl⟩⟩, P6.ga G7 (by omega) (by omega), P7, ⟨_, (((((R1.ga G2 (by omega) (by omega)).ga G3 (by omega) (by omega)).ga G4 (by omega) (by omega)).ga G5 (by omega) (by omega)).ga G6 (by omega) (by omega)).ga G7 (by omega) (by omega)⟩, ⟨_, ((((R2.ga G3 (by omega) (by omega)).ga G4 (by omega) (by omega)).ga G5 (by omega) (by omega)).ga G6 (by omega) (by omega)).ga G7 (by omega) (by omega)⟩, ⟨_, (((R3.ga G4 (by omega) (by omega)).ga G5 (by omega) (by omega)).ga G6 (by omega) (by omega)).ga G7 (by omega) (by omega)⟩, ⟨_, ((R4.ga G5 (by omega) (by omega)).ga G6 (by omega) (by omega)).ga G7 (by omega) (by omega)⟩, ⟨_, (R5.ga G6 (by omega) (by omega)).ga G7 (by omega) (by omega)⟩⟩, ?_⟩
  · have hx1' := eq_true hx1
    have e1 : g.1.1 + 2 = a + 2 := g11
    have e2 : (sR h1 a 11 (a + 2)).1.1 + 2 = a + 4 := by rw [G1.1]; omega
    have e3 : (sR h2 a 12 (a + 4)).1.1 + 2 = a + 6 := by rw [G2.1, G1.1]; omega
    have e4 : (sR h3 a 13 (a + 6)).1.1 + 2 = a + 8 := by rw [G3.1, G2.1, G1.1]; omega
    have e5 : (sR h4 a 14 (a + 8)).1.1 + 2 = a + 10 := by rw [G4.1, G3.1, G2.1, G1.1]; omega
    have e6 : (sR h5 a 15 (a + 10)).1.1 + 2 = a + 12 := by rw [G5.1, G4.1, G3.1, G2.1, G1.1]; omega
    have e7 : (sR h6 a 16 (a + 12)).1.1 + 2 = a + 16 := by rw [G6.1, G5.1, G4.1, G3.1, G2.1, G1.1]; omega
    have q1 : (kd h1 a).1 = 1 := by rw [b1 a (by omega)]; exact gk
    have q2 : (kd h2 a).1 = 1 := by rw [b2 a (by omega), kd_sR]; exact q1
    have q3 : (kd h3 a).1 = 1 := by rw [b3 a (by omega), kd_sR]; exact q2
    have q4 : (kd h4 a).1 = 1 := by rw [b4 a (by omega), kd_sR]; exact q3
    have q5 : (kd h5 a).1 = 1 := by rw [b5 a (by omega), kd_sR]; exact q4
    have q6 : (kd h6 a).1 = 1 := by rw [b6 a (by omega), kd_sR]; exact q5
    have q7 : (kd h7 a).1 = 1 := by rw [b7 a (by omega), kd_sR]; exact q6
    have w1' : ∀ Q, WP sc (d + 2) 25 0 [(0, .inr (.inl (a + 2))), (1, .inl 60)] [] (al g 3 2) Q ↔ Q none h1 := w1
    have w2' : ∀ Q, WP sc (d + 2) 25 0 [(0, .inr (.inl (a + 4))), (1, .inl 60)] [] (al (sR h1 a 11 (a + 2)) 3 2) Q ↔ Q none h2 := w2
    have w3' : ∀ Q, WP sc (d + 2) 25 0 [(0, .inr (.inl (a + 6))), (1, .inl 120)] [] (al (sR h2 a 12 (a + 4)) 3 2) Q ↔ Q none h3 := w3
    have w4' : ∀ Q, WP sc (d + 2) 25 0 [(0, .inr (.inl (a + 8))), (1, .inl 120)] [] (al (sR h3 a 13 (a + 6)) 3 2) Q ↔ Q none h4 := w4
    have w5' : ∀ Q, WP sc (d + 2) 25 0 [(0, .inr (.inl (a + 10))), (1, .inl 100)] [] (al (sR h4 a 14 (a + 8)) 3 2) Q ↔ Q none h5 := w5
    clear r1 r2 r3 r4 r5 r6 r7 R1 R2 R3 R4 R5 P6 P7 G1 G2 G3 G4 G5 G6 G7 b1 b2 b3 b4 b5 b6 b7 kk gr gk1 w1 w2 w3 w4 w5
    have ea : (sI (sI h a 7 (-1)) a 8 (-1)).1.1 = h.1.1 := rfl
    simp (disch := omega) only [u0_0, u0_1, u0_4, u0_5, u0_6, u0_9, u0_10, u0_11, u0_14, u0_15, u0_16, u0_18, u0_22, u0_25, u0_26, u0_28, u0_31, u0_34, u0_35, u0_38, u0_39, u0_41, u0_44, u0_47, u0_48, u0_51, u0_52, u0_54, u0_57, u0_60, u0_61, u0_64, u0_65, u0_67, u0_70, u0_73, u0_74, u0_77, u0_78, u0_80, u0_83, u0_86, u0_87, u0_90, u0_91, u0_94, u0_97, u0_98, u0_101, u0_102, u0_105, u0_108, kd_aL, kd_sI, hk, hx1', ea, wr_id, rng, rngp, if_pos, if_neg, if_true, if_false, reduceCtorEq, true_and, and_true, and_self, Option.toList_some, Option.toList_none, List.cons_append, List.nil_append, Int.toNat_natCast]
    rw [← eg]
    simp (disch := omega) only [u0_0, u0_1, u0_4, u0_5, u0_6, u0_9, u0_10, u0_11, u0_14, u0_15, u0_16, u0_18, u0_21, u0_22, u0_25, u0_26, u0_28, u0_31, u0_34, u0_35, u0_38, u0_39, u0_41, u0_44, u0_47, u0_48, u0_51, u0_52, u0_54, u0_57, u0_60, u0_61, u0_64, u0_65, u0_67, u0_70, u0_73, u0_74, u0_77, u0_78, u0_80, u0_83, u0_86, u0_87, u0_90, u0_91, u0_94, u0_97, u0_98, u0_101, u0_102, u0_105, u0_108, e1, k1, w1', q1, e2, k2, w2', q2, e3, k3, w3', q3, e4, k4, w4', q4, e5, k5, w5', q5, e6, k6, w6, q6, e7, k7, w7, q7, wr_id, rng, rngp, if_pos, if_neg, if_true, if_false, reduceCtorEq, true_and, and_true, and_self, Option.toList_some, Option.toList_none, List.cons_append, List.nil_append, Int.toNat_natCast]
  · rw [kd_sR, kk a (by omega)]; exact gk
  · rw [r7, if_neg (by decide), r6, if_neg (by decide), r5, if_neg (by decide), r4, if_neg (by decide), r3, if_neg (by decide), r2, if_neg (by decide), r1, if_neg (by decide)]; exact gr
  · rw [kd_sR, kk _ (by omega)]; exact gk1
  · rw [r7, if_neg (by decide), r6, if_neg (by decide), r5, if_neg (by decide), r4, if_neg (by decide), r3, if_neg (by decide), r2, if_neg (by decide), r1, if_pos rfl]
  · rw [r7, if_neg (by decide), r6, if_neg (by decide), r5, if_neg (by decide), r4, if_neg (by decide), r3, if_neg (by decide), r2, if_pos rfl]
  · rw [r7, if_neg (by decide), r6, if_neg (by decide), r5, if_neg (by decide), r4, if_neg (by decide), r3, if_pos rfl]
  · rw [r7, if_neg (by decide), r6, if_neg (by decide), r5, if_neg (by decide), r4, if_pos rfl]
  · rw [r7, if_neg (by decide), r6, if_neg (by decide), r5, if_pos rfl]
  · rw [r7, if_neg (by decide), r6, if_pos rfl]
  · rw [r7, if_pos rfl]
  · exact (((((((Gg.lo (Nat.le_succ a)).tr (G1.lo (by omega)) (Nat.le_refl _)).tr (G2.lo (by omega)) (Nat.le_refl _)).tr (G3.lo (by omega)) (Nat.le_refl _)).tr (G4.lo (by omega)) (Nat.le_refl _)).tr (G5.lo (by omega)) (Nat.le_refl _)).tr (G6.lo (by omega)) (Nat.le_refl _)).tr (G7.lo (by omega)) (Nat.le_refl _)
