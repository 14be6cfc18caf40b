/-! the objects of the class are made (2) -/
theorem Fr.ga {h h' : av_H} {lo hi : Nat} (F : Fr h h' lo hi) : Ga h h' lo lo 0 0 := ⟨by rw [F.1]; rfl, by rw [F.1]; exact Nat.le_refl _, fun b _ => F.k b, fun b j hb _ => F.i (Or.inl hb), fun b j hb _ => F.r (Or.inl hb)⟩
theorem WW.ga {h h' : av_H} {lo a n s w : Nat} (W : WW h w) (G : Ga h h' lo a n s) (e1 : w + 162 ≤ lo) (e2 : a < w ∨ w + 162 ≤ a) : WW h' w := by
  obtain ⟨⟨k0, k1, k2, k3⟩, nw⟩ := W
  exact ⟨⟨by rw [G.2.2.1 _ (by omega)]; exact k0, by rw [G.2.2.2.2 _ _ (by omega) (by omega)]; exact k1, by rw [G.2.2.1 _ (by omega)]; exact k2, fun m hm => by rw [G.2.2.2.2 _ _ (by omega) (by omega)]; exact k3 m hm⟩, fun m hm => (nw m hm).ga G (by omega) (by omega)⟩
theorem CW.ga {h h' : av_H} {lo a n s w : Nat} (W : CW h w sNew) (G : Ga h h' lo a n s) (e1 : w + 162 ≤ lo) (e2 : a < w ∨ w + 162 ≤ a) : CW h' w sNew := by
  have W2 := W.ww.ga G e1 e2
  obtain ⟨-, ⟨i1, i2, i3, i4, i5, i6, i7, i8, i9⟩, hN, -⟩ := W
  have e : ∀ j, gI h' w j = gI h w j := fun j => G.2.2.2.1 _ _ (by omega) (by omega)
  exact ⟨W2.1, ⟨(e _).trans i1, (e _).trans i2, (e _).trans i3, (e _).trans i4, (e _).trans i5, (e _).trans i6, (e _).trans i7, (e _).trans i8, (e _).trans i9⟩, hN, fun n hn => absurd hn (Nat.not_lt_zero n), W2.2⟩
theorem i_works {sc : av_S} {d : Nat} {h : av_H} {w : Nat} (hx : h.1.1 + 1 = w) (hx1 : 1 < w) (hk : (kd h w).1 = 5) : ∃ h', (∀ Q, WP sc (d + 4) 46 0 [(0, .inr (.inl w))] [] h Q ↔ Q none h') ∧ CW h' w sNew ∧ Ga h h' w w 161 5080 := by
  obtain ⟨g, eg⟩ : ∃ g, g = sR (al h 11 (Int.toNat 8)) w 0 (h.1.1 + 2) := ⟨_, rfl⟩
  have Gg : Ga h g (w + 1) w 1 8 := by
    rw [eg]
    exact ((Ga.al (h := h) (q := 11) (n := 8) (a := w)).lo (by omega)).tr (Ga.sR (lo := w + 1)) (Nat.le_refl _)
  have gk : (kd g w).1 = 5 := by rw [Gg.2.2.1 w (by omega)]; exact hk
  have gk1 : kd g (w + 1) = (11, 8) := by rw [eg, kd_sR, kd_aL, if_pos (by omega)]; rfl
  have gr : gR g w 0 = w + 1 := by rw [eg, gR_sR_eq ⟨rfl, rfl⟩]; omega
  have lp : ∀ (u n : Nat) (hk : av_H), u = 8 - n → n ≤ 8 → (kd hk w).1 = 5 → kd hk (w + 1) = (11, 8) → gR hk w 0 = w + 1 → (∀ m, m < n → gR hk (w + 1) m = w + 2 + 20 * m ∧ NW hk (w + 2 + 20 * m)) → Ga h hk w w (1 + 20 * n) (8 + 634 * n) → WP sc (d + 4) 46 15 [(0, .inr (.inl w)), (1, .inl (n : Int))] [] hk (fun r h' => r = none ∧ CW h' w sNew ∧ Ga h h' w w 161 5080) := by
    intro u
    induction u with
    | zero =>
      intro n hk hu hn k0 k1 k2 c G
      have e : n = 8 := by omega
      subst e
      obtain ⟨h1, w1, C1, F1⟩ := w_startAnew (sc := sc) (d := d + 2) (h := hk) (w := w) ⟨⟨k0, k2, k1, fun m hm => (c m hm).1⟩, fun m hm => (c m hm).2⟩
      have w1' : ∀ Q, WP sc (d + 3) 47 0 [(0, .inr (.inl w))] [] hk Q ↔ Q none h1 := w1
      have G1 : Ga h h1 w w 161 5080 := G.tr F1.ga (Nat.le_refl _)
      rw [u46_15]
      clear c
      simp (disch := omega) only [u46_0, u46_1, u46_4, u46_5, u46_7, u46_10, u46_13, u46_14, u46_16, u46_18, u46_21, u46_22, u46_25, u46_26, u46_29, u46_30, u46_33, u46_34, u46_37, u46_40, u46_41, u46_44, k0, w1', wr_id, rng, rngp, if_pos, if_neg, if_true, if_false, reduceCtorEq, true_and, and_true, and_self, Option.toList_some, Option.toList_none, List.cons_append, List.nil_append, Int.toNat_natCast]
      exact ⟨C1, G1⟩
    | succ u ih =>
      intro n hk hu hn k0 k1 k2 c G
      have g11 : hk.1.1 + 2 = w + 2 + 20 * n := by rw [G.1]; omega
      have e1 : (al hk 1 18).1.1 + 1 = w + 2 + 20 * n := by rw [h11_al]; omega
      have kn : (kd (al hk 1 18) (w + 2 + 20 * n)).1 = 1 := by rw [kd_aL, if_pos (by omega)]
      obtain ⟨h1, w1, N1, G1⟩ := i_node (sc := sc) (d := d) e1 (by omega) kn
      have Ga1 : Ga hk (al hk 1 18) (w + 2 + 20 * n) (w + 2 + 20 * n) 1 18 := Ga.al.lo (by omega)
      have Ga2 : Ga hk h1 (w + 2 + 20 * n) (w + 2 + 20 * n) 20 634 := Ga1.tr G1 (Nat.le_refl _)
      have Ga3 : Ga h1 (sR h1 (w + 1) n (w + 2 + 20 * n)) (w + 2 + 20 * n + 20) (w + 1) 0 0 := Ga.sR
      have j0 : (kd h1 w).1 = 5 := by rw [Ga2.2.2.1 w (by omega)]; exact k0
      have j1 : kd h1 (w + 1) = (11, 8) := by rw [Ga2.2.2.1 _ (by omega)]; exact k1
      have j2 : gR h1 w 0 = w + 1 := by rw [Ga2.2.2.2.2 _ _ (by omega) (by omega)]; exact k2
      have G4 : Ga h (sR h1 (w + 1) n (w + 2 + 20 * n)) w w (1 + 20 * (n + 1)) (8 + 634 * (n + 1)) := by
        have := (G.tr ((Ga2.lo (lo2 := w) (by omega)).at (by omega)) (Nat.le_refl _)).tr ((Ga3.lo (lo2 := w) (by omega)).at (by omega)) (Nat.le_refl _)
        rw [show 1 + 20 * n + 20 + 0 = 1 + 20 * (n + 1) by omega, show 8 + 634 * n + 634 + 0 = 8 + 634 * (n + 1) by omega] at this
        exact this
      have nx := ih (n + 1) (sR h1 (w + 1) n (w + 2 + 20 * n)) (by omega) (by omega) j0 j1 (by rw [gR_sR_ne (fun q => by omega)]; exact j2) (fun m hm => by
        by_cases q : m = n
        · subst q
          exact ⟨gR_sR_eq ⟨rfl, rfl⟩, N1.ga Ga3 (by omega) (by omega)⟩
        · obtain ⟨c1, c2⟩ := c m (by omega)
          exact ⟨by rw [gR_sR_ne (fun z => q z.2), Ga2.2.2.2.2 _ _ (by omega) (by omega)]; exact c1, (c2.ga Ga2 (by omega) (by omega)).ga Ga3 (by omega) (by omega)⟩) G4
      have kn1 : (kd h1 (w + 2 + 20 * n)).1 = 1 := by obtain ⟨pa, la, K, -⟩ := N1; exact K.1
      have e2 : (hk.1.1 + 2 : Nat) = w + 2 + 20 * n := g11
      have z0 : (kd hk w).1 = 5 := k0
      rw [u46_15]
      clear c N1 G4 Ga3
      simp (disch := omega) only [u46_0, u46_1, u46_4, u46_5, u46_7, u46_10, u46_13, u46_14, u46_16, u46_18, u46_21, u46_22, u46_25, u46_26, u46_29, u46_30, u46_33, u46_34, u46_37, u46_40, u46_41, u46_44, k0, k2, e2, kn, w1, j1, kn1, true_or, or_true, wr_id, rng, rngp, if_pos, if_neg, if_true, if_false, reduceCtorEq, true_and, and_true, and_self, Option.toList_some, Option.toList_none, List.cons_append, List.nil_append, Int.toNat_natCast]
      rw [show (n : Int) + 1 = ((n + 1 : Nat) : Int) by omega]
      exact nx
  have big : WP sc (d + 4) 46 0 [(0, .inr (.inl w))] [] h (fun r h' => r = none ∧ CW h' w sNew ∧ Ga h h' w w 161 5080) := by
    have := lp 8 0 g rfl (by omega) gk gk1 gr (fun m hm => absurd hm (Nat.not_lt_zero m)) (Gg.lo (by omega))
    have hx1' := eq_true hx1
    clear lp
    simp (disch := omega) only [u46_0, u46_1, u46_4, u46_5, u46_7, u46_10, u46_13, u46_14, u46_16, u46_18, u46_21, u46_22, u46_25, u46_26, u46_29, u46_30, u46_33, u46_34, u46_37, u46_40, u46_41, u46_44, kd_aL, hk, hx1', wr_id, rng, rngp, if_pos, if_neg, if_true, if_false, reduceCtorEq, true_and, and_true, and_self, Option.toList_some, Option.toList_none, List.cons_append, List.nil_append, Int.toNat_natCast]
    rw [← eg]
    exact this
  obtain ⟨r, h', hw, rfl, b⟩ := big.evE
  exact ⟨h', hw, b⟩
theorem i_text {sc : av_S} {d : Nat} {h : av_H} {t : Nat} (hx : h.1.1 + 1 = t) (hx1 : 1 < t) (hk : (kd h t).1 = 4) (h0 : ∀ j, gI h t j = 0) : ∃ h', (∀ Q, WP sc (d + 1) 33 0 [(0, .inr (.inl t))] [] h Q ↔ Q none h') ∧ XT h' t [] 0 0 ∧ Ga h h' t t 2 420 := by
  have e1 : (sR (al h 10 (Int.toNat 120)) t 0 (h.1.1 + 2)).1.1 = t := by rw [h11_sR, h11_al]; omega
  refine ⟨sR (al (sR (al h 10 (Int.toNat 120)) t 0 (h.1.1 + 2)) 10 (Int.toNat 300)) t 2 (t + 2), fun Q => ?_, ⟨⟨?_, ?_, ?_, ?_, ?_⟩, ?_, by decide, fun i hi => absurd hi (Nat.not_lt_zero i), ?_, ?_⟩, ?_⟩
  · have hx1' := eq_true hx1
    simp (disch := omega) only [u33_0, u33_1, u33_4, u33_5, u33_7, u33_9, u33_12, u33_13, u33_16, u33_18, u33_21, kd_aL, kd_sR, hk, hx1', e1, wr_id, rng, rngp, if_pos, if_neg, if_true, if_false, reduceCtorEq, true_and, and_true, and_self, Option.toList_some, Option.toList_none, List.cons_append, List.nil_append, Int.toNat_natCast]
  · rw [kd_sR, kd_aL, if_neg (by omega), kd_sR, kd_aL, if_neg (by omega)]; exact hk
  · rw [gR_sR_ne (fun q => by omega), gR_al, if_neg (by omega), gR_sR_eq ⟨rfl, rfl⟩]; omega
  · rw [kd_sR, kd_aL, if_neg (by omega), kd_sR, kd_aL, if_pos (by omega)]; rfl
  · rw [gR_sR_eq ⟨rfl, rfl⟩]
  · rw [kd_sR, kd_aL, if_pos (by omega)]; rfl
  · rw [gI_sR, gI_al, if_neg (by omega), gI_sR, gI_al, if_neg (by omega), h0]; rfl
  · rw [gI_sR, gI_al, if_neg (by omega), gI_sR, gI_al, if_neg (by omega), h0]; rfl
  · rw [gI_sR, gI_al, if_neg (by omega), gI_sR, gI_al, if_neg (by omega), h0]; rfl
  · have x1 : Ga h (al h 10 (Int.toNat 120)) t t 1 120 := Ga.al.lo (by omega)
    have x2 : Ga (al h 10 (Int.toNat 120)) (sR (al h 10 (Int.toNat 120)) t 0 (h.1.1 + 2)) t t 0 0 := Ga.sR
    have x3 : Ga (sR (al h 10 (Int.toNat 120)) t 0 (h.1.1 + 2)) (al (sR (al h 10 (Int.toNat 120)) t 0 (h.1.1 + 2)) 10 (Int.toNat 300)) t t 1 300 := Ga.al.lo (by omega)
    exact ((x1.tr x2 (Nat.le_refl _)).tr x3 (Nat.le_refl _)).tr Ga.sR (Nat.le_refl _)
