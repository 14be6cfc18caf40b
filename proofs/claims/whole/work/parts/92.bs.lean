/-! the whole object of the class -/
theorem x_read {sc : av_S} {d : Nat} {h : av_H} {t p o : Nat} {tx : List Int} (T : XT h t tx p o) : ∃ h', (∃ p' o', XT h' t tx p' o') ∧ Fr h h' t (t + 3) ∧ (skp tx 0 < tx.length → (∀ e, pAll 121 tx 0 = .inl e → ∀ Q, WP sc (d + 6) 39 0 [(0, .inr (.inl t))] [] h Q ↔ Q (some (.inl (e : Int))) h') ∧ ∀ os, pAll 121 tx 0 = .inr os → (∀ Q, WP sc (d + 6) 39 0 [(0, .inr (.inl t))] [] h Q ↔ Q (some (.inl (-1))) h') ∧ gI h' t 3 = (os.length : Int) ∧ os.length ≤ 60 ∧ ∀ j, j < os.length → gI h' (t + 2) (5 * j) = (os.getD j (0, [])).1 ∧ (∀ i, i < (os.getD j (0, [])).2.length → gI h' (t + 2) (5 * j + 1 + i) = (os.getD j (0, [])).2.getD i 0) ∧ ∃ ms, arN (os.getD j (0, [])).1 = some ms ∧ (os.getD j (0, [])).2.length = ms.length) ∧ (¬ skp tx 0 < tx.length → ∀ Q, WP sc (d + 6) 39 0 [(0, .inr (.inl t))] [] h Q ↔ Q (some (.inl (skp tx 0 : Int))) h') := by
  have tl := T.2.2.1
  have k0 := T.1.1
  have T1 : XT (sI h t 3 0) t tx p 0 := T.o rfl
  have T2 : XT (sI (sI h t 3 0) t 4 0) t tx 0 0 := T1.p rfl
  have F2 : XF h (sI (sI h t 3 0) t 4 0) t 0 := (XF.pl (Or.inl rfl)).tr (XF.pl (Or.inr rfl)) (Nat.le_refl _)
  obtain ⟨h3, w3, T3, F3⟩ := x_skip (sc := sc) (d := d + 3) T2 (by omega)
  have w3' : ∀ Q, WP sc (d + 5) 45 0 [(0, .inr (.inl t))] [] (sI (sI h t 3 0) t 4 0) Q ↔ Q none h3 := w3
  have start : ∀ Q, WP sc (d + 6) 39 0 [(0, .inr (.inl t))] [] h Q ↔ WP sc (d + 6) 39 16 [(0, .inr (.inl t)), (1, .inl ((0 : Nat) : Int))] [] h3 Q := by
    intro Q
    clear T1 T2 T3
    simp (disch := omega) only [u39_0, u39_1, u39_2, u39_5, u39_6, u39_7, u39_10, u39_11, u39_14, u39_15, u39_17, u39_19, u39_22, u39_23, u39_26, u39_29, u39_30, u39_33, u39_34, u39_37, u39_40, u39_41, u39_44, u39_47, u39_48, u39_51, u39_52, u39_53, u39_56, u39_59, u39_62, u39_63, k0, kd_sI, w3', wr_id, rng, rngp, if_pos, if_neg, if_true, if_false, reduceCtorEq, true_and, and_true, and_self, Option.toList_some, Option.toList_none, List.cons_append, List.nil_append, Int.toNat_natCast]
    rfl
  by_cases c : skp tx 0 < tx.length
  · obtain ⟨h4, X4, F4, A4, B4⟩ := x_loop (sc := sc) (d := d + 1) 121 0 0 h3 (by omega) (by omega) (by omega) T3 (fun _ => c)
    refine ⟨h4, X4, ((F2.tr F3 (by omega)).tr F4 (by omega)).fr, fun _ => ⟨fun e he Q => by rw [start Q]; exact A4 e he Q, fun os hos => ?_⟩, fun q => absurd c q⟩
    obtain ⟨b1, b2, b3, b4⟩ := B4 os hos
    rw [Nat.zero_add] at b2 b3
    refine ⟨fun Q => by rw [start Q]; exact b1 Q, b2, b3, fun j hj => ?_⟩
    have := b4 j hj
    rw [Nat.zero_add] at this
    exact this
  · obtain ⟨h4, w4, T4, F4, -⟩ := x_order (sc := sc) (d := d + 1) T3 (skp_le (by omega)) (by omega)
    have hp : pOrd tx (skp tx 0) = (false, skp tx 0, []) := by
      have := tb_out (tx := tx) (p := skp tx 0) (by omega)
      unfold pOrd
      rw [this]
      rfl
    rw [hp] at w4 T4
    refine ⟨h4, ⟨_, _, T4⟩, ((F2.tr F3 (by omega)).tr F4 (by omega)).fr, fun q => absurd q c, fun _ Q => ?_⟩
    rw [start Q, u39_16]
    have j0 := T3.1.1
    have j3 := T3.2.2.2.2.2
    have l0 := T4.1.1
    have l4 := T4.2.2.2.2.1
    have w4' : ∀ Q, WP sc (d + 5) 40 0 [(0, .inr (.inl t))] [] h3 Q ↔ Q (some (.inl (bI false))) h4 := w4
    clear T1 T2 T3 T4
    simp (disch := omega) only [u39_0, u39_1, u39_2, u39_5, u39_6, u39_7, u39_10, u39_11, u39_14, u39_15, u39_17, u39_19, u39_22, u39_23, u39_26, u39_29, u39_30, u39_33, u39_34, u39_37, u39_40, u39_41, u39_44, u39_47, u39_48, u39_51, u39_52, u39_53, u39_56, u39_59, u39_62, u39_63, j0, j3, w4', l0, l4, bI_f, wr_id, rng, rngp, if_pos, if_neg, if_true, if_false, reduceCtorEq, true_and, and_true, and_self, Option.toList_some, Option.toList_none, List.cons_append, List.nil_append, Int.toNat_natCast]
theorem x_put {sc : av_S} {d : Nat} {h : av_H} {t p o : Nat} {tx : List Int} {v : Int} (T : XT h t tx p o) (hl : tx.length < 120) : ∃ h', (∀ Q, WP sc (d + 1) 34 0 [(0, .inr (.inl t)), (1, .inl v)] [] h Q ↔ Q none h') ∧ XT h' t (tx ++ [v]) p o ∧ Fr h h' t (t + 3) := by
  obtain ⟨⟨k0, k1, k2, k3, k4⟩, a, b, c, f, g⟩ := T
  have ne : t + 1 ≠ t := by omega
  have ne' : t ≠ t + 1 := by omega
  refine ⟨sI (sI h (t + 1) tx.length v) t 1 ((tx.length : Int) + 1), fun Q => ?_, ⟨⟨k0, k1, k2, k3, k4⟩, ?_, ?_, fun i hi => ?_, ?_, ?_⟩, (Fr.sI (by omega)).tr (Fr.sI (by omega))⟩
  · simp (disch := omega) only [u34_0, u34_1, u34_4, u34_6, u34_9, u34_10, u34_13, u34_14, u34_17, u34_18, u34_19, u34_20, u34_21, u34_24, u34_25, u34_26, u34_29, k0, k1, k2, a, kd_sI, gR_sI, gI_sI_nb, wr_id, rng, rngp, if_pos, if_neg, if_true, if_false, reduceCtorEq, true_and, and_true, and_self, Option.toList_some, Option.toList_none, List.cons_append, List.nil_append, Int.toNat_natCast]
  · rw [gI_sI_eq rfl, List.length_append]; rfl
  · rw [List.length_append]; show _ + 1 ≤ _; omega
  · rw [List.length_append] at hi
    have hi : i < tx.length + 1 := hi
    rw [gI_sI_nb ne]
    by_cases e : i = tx.length
    · rw [gI_sI_eq e, e]
      have := gd_r (l := tx) (m := [v]) (i := 0)
      rw [Nat.add_zero] at this
      rw [this]; rfl
    · rw [gI_sI_ne e, gd_l (by omega)]
      exact c i (by omega)
  · rw [gI_sI_ne (by decide), gI_sI_nb ne']; exact f
  · rw [gI_sI_ne (by decide), gI_sI_nb ne']; exact g
def BK (h : av_H) : Prop := (kd h 2).1 = 6 ∧ gR h 2 0 = 3 ∧ gR h 2 1 = 165 ∧ kd h 165 = (15, 5) ∧ gR h 2 3 = 976 ∧ gR h 2 4 = 979 ∧ kd h 979 = (10, 3)
/-- where the states lie -/
def BP (h : av_H) (π : Nat → Nat) : Prop := (∀ i, i < 5 → π i < 5 ∧ gR h 165 i = 166 + 162 * π i ∧ WW h (166 + 162 * π i)) ∧ ∀ i j, i < 5 → j < 5 → π i = π j → i = j
def BS (h : av_H) (ps : List sS) : Prop := ps.length ≤ 5 ∧ ∃ π : Nat → Nat, BP h π ∧ ∀ j, j < ps.length → CW h (166 + 162 * π j) (ps.getD j sNew)
/-- the object of the class is as the state says -/
def CB (h : av_H) (s : SS) : Prop := BK h ∧ CW h 3 s.1 ∧ gI h 2 2 = (s.2.1.length : Int) ∧ BS h s.2.1 ∧ (∀ k, k < 3 → gI h 979 k = s.2.2.1 k) ∧ ∃ p o, XT h 976 s.2.2.2 p o
theorem BK.fr {h h' : av_H} {lo hi : Nat} (K : BK h) (F : Fr h h' lo hi) (e : 2 < lo ∨ hi ≤ 2) : BK h' := by
  obtain ⟨a, b, c, q, r, s, t⟩ := K
  exact ⟨by rw [F.k]; exact a, by rw [F.r e]; exact b, by rw [F.r e]; exact c, by rw [F.k]; exact q, by rw [F.r e]; exact r, by rw [F.r e]; exact s, by rw [F.k]; exact t⟩
theorem BS.fr {h h' : av_H} {lo hi : Nat} {ps : List sS} (K : BS h ps) (F : Fr h h' lo hi) (e : hi ≤ 165 ∨ 976 ≤ lo) : BS h' ps := by
  obtain ⟨a, π, ⟨b, c⟩, q⟩ := K
  refine ⟨a, π, ⟨fun i hi' => ?_, c⟩, fun j hj => ?_⟩
  · obtain ⟨x, y, z⟩ := b i hi'
    exact ⟨x, by rw [F.r (by omega)]; exact y, z.fr F (by omega)⟩
  · have := (b j (by omega)).1
    exact (q j hj).fr F (by omega)
theorem XT.fr {h h' : av_H} {lo hi t p o : Nat} {tx : List Int} (T : XT h t tx p o) (F : Fr h h' lo hi) (e : t + 3 ≤ lo ∨ hi ≤ t) : XT h' t tx p o := by
  obtain ⟨⟨t0, t1, t2, t3, t4⟩, u1, u2, u3, u4, u5⟩ := T
  exact ⟨⟨by rw [F.k]; exact t0, by rw [F.r (by omega)]; exact t1, by rw [F.k]; exact t2, by rw [F.r (by omega)]; exact t3, by rw [F.k]; exact t4⟩, by rw [F.i (by omega)]; exact u1, u2, fun i hi => by rw [F.i (by omega)]; exact u3 i hi, by rw [F.i (by omega)]; exact u4, by rw [F.i (by omega)]; exact u5⟩
theorem b_refuse {sc : av_S} {d : Nat} {h : av_H} {s : SS} {how : Int} (S : CB h s) (hr : okR s.2.2.1) (hh : how = -2 ∨ how = -3 ∨ how = -4) : ∃ h', (∀ Q, WP sc (d + 1) 90 0 [(0, .inr (.inl 2)), (1, .inl how)] [] h Q ↔ Q (some (.inl how)) h') ∧ CB h' (xRef s how).2 ∧ Fr h h' 2 980 := by
  obtain ⟨⟨k0, k1, k2, k3, k4, k5, k6⟩, C, a1, B, R, p, o, T⟩ := S
  obtain ⟨k, hk, ek⟩ : ∃ k : Nat, k < 3 ∧ -2 - how = (k : Int) := ⟨(-2 - how).toNat, by omega, by omega⟩
  have rk := R k hk
  have bk := hr k hk
  have F : Fr h (sI h 979 k (s.2.2.1 k + 1)) 979 980 := fr1
  refine ⟨sI h 979 k (s.2.2.1 k + 1), fun Q => ?_, ⟨⟨k0, k1, k2, k3, k4, k5, k6⟩, C.fr F (by omega), by rw [F.i (by omega)]; exact a1, B.fr F (by omega), fun j hj => ?_, p, o, T.fr F (by omega)⟩, F.wd (by omega) (by omega)⟩
  · simp (disch := omega) only [u90_0, u90_2, u90_3, u90_4, u90_5, u90_6, u90_9, u90_10, u90_11, u90_14, u90_15, u90_18, u90_19, u90_20, u90_21, u90_22, u90_23, u90_24, u90_25, k0, k5, k6, ek, rk, wr_id, rng, rngp, if_pos, if_neg, if_true, if_false, reduceCtorEq, true_and, and_true, and_self, Option.toList_some, Option.toList_none, List.cons_append, List.nil_append, Int.toNat_natCast]
  · show gI (sI h 979 k (s.2.2.1 k + 1)) 979 j = if j = (if how = -2 then 0 else if how = -3 then 1 else 2) then s.2.2.1 j + 1 else s.2.2.1 j
    have ek2 : (if how = -2 then 0 else if how = -3 then 1 else 2) = k := by
      rcases hh with c | c | c
      · rw [if_pos c]; omega
      · rw [if_neg (by omega), if_pos c]; omega
      · rw [if_neg (by omega), if_neg (by omega)]; omega
    rw [ek2]
    by_cases e : j = k
    · rw [if_pos e, gI_sI_eq e, e]
    · rw [if_neg e, gI_sI_ne e]; exact R j hj
theorem b_told {sc : av_S} {d : Nat} {h : av_H} {s : SS} {k : Nat} (S : CB h s) (hk : k < 5) (Q : Option av_V → av_H → Prop) : WP sc (d + 1) 91 0 [(0, .inr (.inl 2)), (1, .inl (k : Int))] [] h Q ↔ Q (some (.inl (sToldF s.2.1 s.2.2.1 s.2.2.2 k))) h := by
  obtain ⟨⟨k0, k1, k2, k3, k4, k5, k6⟩, C, a1, B, R, p, o, T⟩ := S
  have t0 := T.1.1
  have t1 := T.2.1
  unfold sToldF
  by_cases c : k < 3
  · rw [if_pos c]
    have rk := R k c
    simp (disch := omega) only [u91_0, u91_1, u91_4, u91_5, u91_6, u91_9, u91_10, u91_13, u91_14, u91_15, u91_16, u91_17, u91_18, u91_21, u91_22, u91_25, u91_28, u91_31, u91_32, u91_35, k0, k5, k6, rk, wr_id, rng, rngp, if_pos, if_neg, if_true, if_false, reduceCtorEq, true_and, and_true, and_self, Option.toList_some, Option.toList_none, List.cons_append, List.nil_append, Int.toNat_natCast]
  · rw [if_neg c]
    by_cases c3 : k = 3
    · rw [if_pos c3]
      subst c3
      simp (disch := omega) only [u91_0, u91_1, u91_4, u91_5, u91_6, u91_9, u91_10, u91_13, u91_14, u91_15, u91_16, u91_17, u91_18, u91_21, u91_22, u91_25, u91_28, u91_31, u91_32, u91_35, k0, k4, t0, t1, wr_id, rng, rngp, if_pos, if_neg, if_true, if_false, reduceCtorEq, true_and, and_true, and_self, Option.toList_some, Option.toList_none, List.cons_append, List.nil_append, Int.toNat_natCast]
    · rw [if_neg c3]
      simp (disch := omega) only [u91_0, u91_1, u91_4, u91_5, u91_6, u91_9, u91_10, u91_13, u91_14, u91_15, u91_16, u91_17, u91_18, u91_21, u91_22, u91_25, u91_28, u91_31, u91_32, u91_35, k0, a1, wr_id, rng, rngp, if_pos, if_neg, if_true, if_false, reduceCtorEq, true_and, and_true, and_self, Option.toList_some, Option.toList_none, List.cons_append, List.nil_append, Int.toNat_natCast]
/-- what the class needs of a state that it keeps or takes back -/
def okB (σ : sS) : Prop := (sg σ 4 = 0 ∨ sg σ 4 = 1) ∧ (sg σ 5 = 0 ∨ sg σ 5 = 1) ∧ ∀ n, n < sN σ → (sf σ n 5 = 0 ∨ sf σ n 5 = 1) ∧ (sf σ n 9 = 0 ∨ sf σ n 9 = 1)
theorem okY.b {σ : sS} (ok : okY σ) : okB σ := ⟨ok.1.2.2.1, ok.2.2.1, fun n hn => ⟨(ok.2.2.2.1 n hn).1, (ok.2.2.2.1 n hn).2.1⟩⟩
theorem b_drop {sc : av_S} {d : Nat} {h : av_H} {π : Nat → Nat} (K : BK h) (B : BP h π) : ∃ h' ρ, (∀ Q, WP sc (d + 1) 93 0 [(0, .inr (.inl 2))] [] h Q ↔ Q none h') ∧ BK h' ∧ BP h' ρ ∧ (∀ i, i < 4 → ρ i = π (i + 1)) ∧ gI h' 2 2 = 4 ∧ ∃ X, Fr h X 165 166 ∧ Fr X h' 2 3 := by
  obtain ⟨k0, k1, k2, k3, k4, k5, k6⟩ := id K
  obtain ⟨b, c⟩ := B
  obtain ⟨p0, q0, w0⟩ := b 0 (by decide)
  obtain ⟨p1, q1, w1⟩ := b 1 (by decide)
  obtain ⟨p2, q2, w2⟩ := b 2 (by decide)
  obtain ⟨p3, q3, w3⟩ := b 3 (by decide)
  obtain ⟨p4, q4, w4⟩ := b 4 (by decide)
  obtain ⟨X, eX⟩ : ∃ X, X = sR (sR (sR (sR (sR h 165 0 (166 + 162 * π 1)) 165 1 (166 + 162 * π 2)) 165 2 (166 + 162 * π 3)) 165 3 (166 + 162 * π 4)) 165 4 (166 + 162 * π 0) := ⟨_, rfl⟩
  have FX : Fr h X 165 166 := by rw [eX]; exact ((((Fr.sR (by omega)).tr (Fr.sR (by omega))).tr (Fr.sR (by omega))).tr (Fr.sR (by omega))).tr (Fr.sR (by omega))
  have F2 : Fr X (sI X 2 2 4) 2 3 := fr1
  have r0 : gR X 165 0 = 166 + 162 * π 1 := by rw [eX]; simp (disch := omega) only [gR_sR_ne, gR_sR_eq]
  have r1 : gR X 165 1 = 166 + 162 * π 2 := by rw [eX]; simp (disch := omega) only [gR_sR_ne, gR_sR_eq]
  have r2 : gR X 165 2 = 166 + 162 * π 3 := by rw [eX]; simp (disch := omega) only [gR_sR_ne, gR_sR_eq]
  have r3 : gR X 165 3 = 166 + 162 * π 4 := by rw [eX]; simp (disch := omega) only [gR_sR_ne, gR_sR_eq]
  have r4 : gR X 165 4 = 166 + 162 * π 0 := by rw [eX]; simp (disch := omega) only [gR_sR_ne, gR_sR_eq]
  refine ⟨sI X 2 2 4, fun i => if i = 4 then π 0 else π (i + 1), fun Q => ?_, ?_, ⟨fun i hi => ?_, fun i j hi hj e => ?_⟩, fun i hi => if_neg (by omega), gI_sI_eq rfl, X, FX, F2⟩
  · have y0 := w0.1.1
    have y1 := w1.1.1
    have y2 := w2.1.1
    have y3 := w3.1.1
    have y4 := w4.1.1
    clear r0 r1 r2 r3 r4 F2 FX
    have kX : (kd X 2).1 = 6 := by rw [eX]; exact k0
    have q0' : gR h 165 (Int.toNat 0) = 166 + 162 * π 0 := q0
    have q1' : gR h 165 (Int.toNat 1) = 166 + 162 * π 1 := q1
    have q2' : gR h 165 ((1 : Int) + 1).toNat = 166 + 162 * π 2 := q2
    have q3' : gR h 165 ((1 : Int) + 1 + 1).toNat = 166 + 162 * π 3 := q3
    have q4' : gR h 165 ((1 : Int) + 1 + 1 + 1).toNat = 166 + 162 * π 4 := q4
    have eX' : X = sR (sR (sR (sR (sR h 165 ((1 : Int) - 1).toNat (166 + 162 * π 1)) 165 ((1 : Int) + 1 - 1).toNat (166 + 162 * π 2)) 165 ((1 : Int) + 1 + 1 - 1).toNat (166 + 162 * π 3)) 165 ((1 : Int) + 1 + 1 + 1 - 1).toNat (166 + 162 * π 4)) 165 (Int.toNat 4) (166 + 162 * π 0) := eX
    simp (disch := omega) only [u93_0, u93_1, u93_4, u93_5, u93_6, u93_7, u93_8, u93_10, u93_11, u93_14, u93_15, u93_18, u93_19, u93_20, u93_21, u93_22, u93_25, u93_26, u93_27, u93_28, u93_31, u93_34, u93_35, u93_38, u93_39, u93_40, u93_41, u93_42, u93_43, u93_46, k0, k2, k3, q0', true_or, or_true, wr_id, rng, rngp, if_pos, if_neg, if_true, if_false, reduceCtorEq, true_and, and_true, and_self, Option.toList_some, Option.toList_none, List.cons_append, List.nil_append, Int.toNat_natCast]
    rw [u93_9]
    simp (disch := omega) only [u93_0, u93_1, u93_4, u93_5, u93_6, u93_7, u93_8, u93_10, u93_11, u93_14, u93_15, u93_18, u93_19, u93_20, u93_21, u93_22, u93_25, u93_26, u93_27, u93_28, u93_31, u93_34, u93_35, u93_38, u93_39, u93_40, u93_41, u93_42, u93_43, u93_46, k0, k2, k3, q1', y1, kd_sR, gR_sR_ne, or_true, wr_id, rng, rngp, if_pos, if_neg, if_true, if_false, reduceCtorEq, true_and, and_true, and_self, Option.toList_some, Option.toList_none, List.cons_append, List.nil_append, Int.toNat_natCast]
    rw [u93_9]
    simp (disch := omega) only [u93_0, u93_1, u93_4, u93_5, u93_6, u93_7, u93_8, u93_10, u93_11, u93_14, u93_15, u93_18, u93_19, u93_20, u93_21, u93_22, u93_25, u93_26, u93_27, u93_28, u93_31, u93_34, u93_35, u93_38, u93_39, u93_40, u93_41, u93_42, u93_43, u93_46, k0, k2, k3, q2', y2, kd_sR, gR_sR_ne, or_true, wr_id, rng, rngp, if_pos, if_neg, if_true, if_false, reduceCtorEq, true_and, and_true, and_self, Option.toList_some, Option.toList_none, List.cons_append, List.nil_append, Int.toNat_natCast]
    rw [u93_9]
    simp (disch := omega) only [u93_0, u93_1, u93_4, u93_5, u93_6, u93_7, u93_8, u93_10, u93_11, u93_14, u93_15, u93_18, u93_19, u93_20, u93_21, u93_22, u93_25, u93_26, u93_27, u93_28, u93_31, u93_34, u93_35, u93_38, u93_39, u93_40, u93_41, u93_42, u93_43, u93_46, k0, k2, k3, q3', y3, kd_sR, gR_sR_ne, or_true, wr_id, rng, rngp, if_pos, if_neg, if_true, if_false, reduceCtorEq, true_and, and_true, and_self, Option.toList_some, Option.toList_none, List.cons_append, List.nil_append, Int.toNat_natCast]
    rw [u93_9]
    simp (disch := omega) only [u93_0, u93_1, u93_4, u93_5, u93_6, u93_7, u93_8, u93_10, u93_11, u93_14, u93_15, u93_18, u93_19, u93_20, u93_21, u93_22, u93_25, u93_26, u93_27, u93_28, u93_31, u93_34, u93_35, u93_38, u93_39, u93_40, u93_41, u93_42, u93_43, u93_46, k0, k2, k3, q4', y4, kd_sR, gR_sR_ne, or_true, wr_id, rng, rngp, if_pos, if_neg, if_true, if_false, reduceCtorEq, true_and, and_true, and_self, Option.toList_some, Option.toList_none, List.cons_append, List.nil_append, Int.toNat_natCast]
    rw [u93_9]
    simp (disch := omega) only [u93_0, u93_1, u93_4, u93_5, u93_6, u93_7, u93_8, u93_10, u93_11, u93_14, u93_15, u93_18, u93_19, u93_20, u93_21, u93_22, u93_25, u93_26, u93_27, u93_28, u93_31, u93_34, u93_35, u93_38, u93_39, u93_40, u93_42, u93_43, u93_46, k0, k2, k3, y0, kd_sR, gR_sR_ne, or_true, wr_id, rng, rngp, if_pos, if_neg, if_true, if_false, reduceCtorEq, true_and, and_true, and_self, Option.toList_some, Option.toList_none, List.cons_append, List.nil_append, Int.toNat_natCast]
    rw [← eX']
    simp (disch := omega) only [u93_0, u93_1, u93_4, u93_5, u93_6, u93_7, u93_8, u93_10, u93_11, u93_14, u93_15, u93_18, u93_19, u93_20, u93_21, u93_22, u93_25, u93_26, u93_27, u93_28, u93_31, u93_34, u93_35, u93_38, u93_39, u93_40, u93_41, u93_42, u93_43, u93_46, kX, wr_id, rng, rngp, if_pos, if_neg, if_true, if_false, reduceCtorEq, true_and, and_true, and_self, Option.toList_some, Option.toList_none, List.cons_append, List.nil_append, Int.toNat_natCast]
  · exact (⟨by rw [FX.k]; exact k0, by rw [FX.r (by omega)]; exact k1, by rw [FX.r (by omega)]; exact k2, by rw [FX.k]; exact k3, by rw [FX.r (by omega)]; exact k4, by rw [FX.r (by omega)]; exact k5, by rw [FX.k]; exact k6⟩ : BK X)
  · have ci : i = 0 ∨ i = 1 ∨ i = 2 ∨ i = 3 ∨ i = 4 := by omega
    have wf : ∀ j, j < 5 → WW (sI X 2 2 4) (166 + 162 * π j) := fun j hj => ((b j hj).2.2.fr FX (by omega)).fr F2 (by omega)
    rcases ci with rfl | rfl | rfl | rfl | rfl
    · exact ⟨p1, r0, wf 1 (by decide)⟩
    · exact ⟨p2, r1, wf 2 (by decide)⟩
    · exact ⟨p3, r2, wf 3 (by decide)⟩
    · exact ⟨p4, r3, wf 4 (by decide)⟩
    · exact ⟨p0, r4, wf 0 (by decide)⟩
  · have e : (if i = 4 then π 0 else π (i + 1)) = (if j = 4 then π 0 else π (j + 1)) := e
    by_cases c1 : i = 4
    · by_cases c2 : j = 4
      · omega
      · rw [if_pos c1, if_neg c2] at e
        have := c 0 (j + 1) (by omega) (by omega) e
        omega
    · by_cases c2 : j = 4
      · rw [if_neg c1, if_pos c2] at e
        have := c (i + 1) 0 (by omega) (by omega) e
        omega
      · rw [if_neg c1, if_neg c2] at e
        have := c (i + 1) (j + 1) (by omega) (by omega) e
        omega
theorem b_keep {sc : av_S} {d : Nat} {h : av_H} {s : SS} (S : CB h s) (ok : okB s.1) : ∃ h', (∀ Q, WP sc (d + 5) 92 0 [(0, .inr (.inl 2))] [] h Q ↔ Q none h') ∧ CB h' (s.1, sKp s.2.1 s.1, s.2.2.1, s.2.2.2) ∧ Fr h h' 2 976 := by
  obtain ⟨σ, ps, rf, tx⟩ := s
  obtain ⟨K, C, a1, ⟨b1, π, B, b2⟩, R, p, o, T⟩ := S
  change CW h 3 σ at C
  change gI h 2 2 = (ps.length : Int) at a1
  change ps.length ≤ 5 at b1
  change ∀ j, j < ps.length → CW h (166 + 162 * π j) (ps.getD j sNew) at b2
  change ∀ k, k < 3 → gI h 979 k = rf k at R
  change XT h 976 tx p o at T
  have main : ∀ (h1 : av_H) (ρ : Nat → Nat) (qs : List sS), BK h1 → CW h1 3 σ → gI h1 2 2 = (qs.length : Int) → qs.length < 5 → BP h1 ρ → (∀ j, j < qs.length → CW h1 (166 + 162 * ρ j) (qs.getD j sNew)) → (∀ k, k < 3 → gI h1 979 k = rf k) → XT h1 976 tx p o → Fr h h1 2 976 → ∃ h', (∀ Q, WP sc (d + 5) 92 12 [(0, .inr (.inl 2))] [] h1 Q ↔ Q none h') ∧ CB h' (σ, qs ++ [σ], rf, tx) ∧ Fr h h' 2 976 := by
    intro h1 ρ qs K1 C1 c1 c2 B1 c3 R1 T1 F1
    obtain ⟨l0, l1, l2, l3, l4, l5, l6⟩ := id K1
    obtain ⟨e1, e2⟩ := id B1
    obtain ⟨x1, x2, x3⟩ := e1 qs.length c2
    obtain ⟨h2, w2, C2, F2⟩ := w_become (sc := sc) (d := d) x3 C1 (by omega) ok.1 ok.2.1 ok.2.2
    have F3 : Fr h2 (sI h2 2 2 ((qs.length : Int) + 1)) 2 3 := fr1
    have K2 := K1.fr F2 (by omega)
    have y0 : (kd h1 (166 + 162 * ρ qs.length)).1 = 5 := x3.1.1
    have y2 : gI h2 2 2 = (qs.length : Int) := by rw [F2.i (by omega)]; exact c1
    have el : (qs ++ [σ]).length = qs.length + 1 := by rw [List.length_append]; rfl
    refine ⟨sI h2 2 2 ((qs.length : Int) + 1), fun Q => ?_, ⟨K2, (C1.fr F2 (by omega)).fr F3 (by omega), ?_, ⟨by show (qs ++ [σ]).length ≤ 5; omega, ρ, ⟨fun i hi => ?_, e2⟩, fun j hj => ?_⟩, fun k hk => ?_, p, o, (T1.fr F2 (by omega)).fr F3 (by omega)⟩, F1.tr ((F2.wd (by omega) (by omega)).tr (F3.wd (by omega) (by omega)))⟩
    · have m0 := K2.1
      clear C2 C1
      simp (disch := omega) only [u92_0, u92_1, u92_4, u92_5, u92_8, u92_9, u92_12, u92_13, u92_16, u92_17, u92_20, u92_21, u92_22, u92_25, u92_28, u92_29, u92_30, u92_33, u92_34, u92_35, u92_38, l0, l1, l2, l3, c1, x2, y0, w2, m0, y2, true_or, or_true, wr_id, rng, rngp, if_pos, if_neg, if_true, if_false, reduceCtorEq, true_and, and_true, and_self, Option.toList_some, Option.toList_none, List.cons_append, List.nil_append, Int.toNat_natCast]
    · show gI (sI h2 2 2 ((qs.length : Int) + 1)) 2 2 = ((qs ++ [σ]).length : Int)
      rw [gI_sI_eq rfl, el]; rfl
    · obtain ⟨u1, u2, u3⟩ := e1 i hi
      refine ⟨u1, by rw [gR_sI, F2.r (by omega)]; exact u2, ?_⟩
      by_cases q : i = qs.length
      · rw [q]; exact C2.ww.fr F3 (by omega)
      · have : ρ i ≠ ρ qs.length := fun z => q (e2 i qs.length hi c2 z)
        exact (u3.fr F2 (by omega)).fr F3 (by omega)
    · change j < (qs ++ [σ]).length at hj
      show CW _ (166 + 162 * ρ j) ((qs ++ [σ]).getD j sNew)
      by_cases q : j = qs.length
      · rw [q]
        have eg : (qs ++ [σ]).getD qs.length sNew = σ := by
          rw [List.getD_eq_getElem?_getD, List.getElem?_append_right (Nat.le_refl _), Nat.sub_self]; rfl
        rw [eg]
        exact C2.fr F3 (by omega)
      · have : ρ j ≠ ρ qs.length := fun z => q (e2 j qs.length (by omega) c2 z)
        have eg : (qs ++ [σ]).getD j sNew = qs.getD j sNew := by
          rw [List.getD_eq_getElem?_getD, List.getElem?_append_left (by omega), List.getD_eq_getElem?_getD]
        rw [eg]
        exact ((c3 j (by omega)).fr F2 (by omega)).fr F3 (by omega)
    · show gI (sI h2 2 2 ((qs.length : Int) + 1)) 979 k = rf k
      rw [F3.i (by omega), F2.i (by omega)]; exact R1 k hk
  obtain ⟨k0, k1, k2, k3, k4, k5, k6⟩ := id K
  unfold sKp
  by_cases c5 : ps.length = 5
  · obtain ⟨h1, ρ, w1, K1, B1, e1, e2, X, FX, FY⟩ := b_drop (sc := sc) (d := d + 3) K B
    have w1' : ∀ Q, WP sc (d + 4) 93 0 [(0, .inr (.inl 2))] [] h Q ↔ Q none h1 := w1
    have dl : (ps.drop 1).length = 4 := by rw [List.length_drop]; omega
    obtain ⟨h', w', S', F'⟩ := main h1 ρ (ps.drop 1) K1 ((C.fr FX (by omega)).fr FY (by omega)) (by rw [dl]; exact e2) (by omega) B1 (fun j hj => by
      rw [dl] at hj
      have r1 := (B.1 (j + 1) (by omega)).1
      rw [e1 j hj, show (ps.drop 1).getD j sNew = ps.getD (j + 1) sNew by rw [List.getD_eq_getElem?_getD, List.getElem?_drop, List.getD_eq_getElem?_getD, Nat.add_comm 1 j]]
      exact ((b2 (j + 1) (by omega)).fr FX (by omega)).fr FY (by omega)) (fun k hk => by rw [FY.i (by omega), FX.i (by omega)]; exact R k hk) ((T.fr FX (by omega)).fr FY (by omega)) ((FX.wd (by omega) (by omega)).tr (FY.wd (by omega) (by omega)))
    refine ⟨h', fun Q => ?_, by show CB h' (σ, (if ps.length = 5 then ps.drop 1 ++ [σ] else ps ++ [σ]), rf, tx); rw [if_pos c5]; exact S', F'⟩
    rw [← w' Q]
    have a1' : gI h 2 2 = 5 := by rw [a1]; omega
    clear main
    simp (disch := omega) only [u92_0, u92_1, u92_4, u92_5, u92_8, u92_9, u92_13, u92_16, u92_17, u92_20, u92_21, u92_22, u92_25, u92_28, u92_29, u92_30, u92_33, u92_34, u92_35, u92_38, k0, a1', w1', wr_id, rng, rngp, if_pos, if_neg, if_true, if_false, reduceCtorEq, true_and, and_true, and_self, Option.toList_some, Option.toList_none, List.cons_append, List.nil_append, Int.toNat_natCast]
  · obtain ⟨h', w', S', F'⟩ := main h π ps K C a1 (by omega) B b2 R T Fr.rf
    refine ⟨h', fun Q => ?_, by show CB h' (σ, (if ps.length = 5 then ps.drop 1 ++ [σ] else ps ++ [σ]), rf, tx); rw [if_neg c5]; exact S', F'⟩
    rw [← w' Q]
    clear main
    simp (disch := omega) only [u92_0, u92_1, u92_4, u92_5, u92_8, u92_9, u92_13, u92_16, u92_17, u92_20, u92_21, u92_22, u92_25, u92_28, u92_29, u92_30, u92_33, u92_34, u92_35, u92_38, k0, a1, wr_id, rng, rngp, if_pos, if_neg, if_true, if_false, reduceCtorEq, true_and, and_true, and_self, Option.toList_some, Option.toList_none, List.cons_append, List.nil_append, Int.toNat_natCast]
