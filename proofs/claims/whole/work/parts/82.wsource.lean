/-! a node of the class acts as a source -/
theorem w_source {sc : av_S} {d : Nat} {h : av_H} {w n : Nat} {σ : sS} (C : CW h w σ) (hn : n < sN σ) (ok : okC σ n) (hk : sf σ n 0 = 0) (hT : 0 ≤ sg σ 1 ∧ sg σ 1 ≤ 1000000000) : ∃ h', (∀ Q, WP sc (d + 4) 65 0 [(0, .inr (.inl w)), (1, .inl (n : Int))] [] h Q ↔ Q none h') ∧ CW h' w (sSource σ n) ∧ Fr h h' (w + 2) (w + 162) := by
  obtain ⟨z1, z2⟩ := C.sz
  obtain ⟨okn, q6, qo, q2, q5, qf, qa, qm, q25⟩ := ok
  obtain ⟨o1, o2, o3, o4, o5, o6, o7, o8, o9, o10⟩ := id okn
  have o7 := o7 hk
  have q25 := q25 hk
  have n8 : n < 8 := by omega
  obtain ⟨⟨k0, k1, k2, k3⟩, ⟨i1, i2, i3, i4, -⟩, -, cn, -⟩ := id C
  have k3' := k3 n n8
  have N := cn n hn
  obtain ⟨pa, la, K, P, L, I, S, R, p, l⟩ := N.to
  have kn := K.1
  have j1 := I.2.1
  have j4 := I.2.2.2.2.1 hk
  have j5 := I.2.2.2.2.2.1
  have em := Int.emod_nonneg (sg σ 1) (show sf σ n 1 ≠ 0 by omega)
  have wr : ∀ Q, WP sc (d + 3) 66 0 [(0, .inr (.inl w)), (1, .inl (n : Int))] [] h Q ↔ Q (some (.inl (bI (sRoom σ n)))) h := fun Q => w_hasRoom (d := d + 1) C n8 Q
  unfold sSource
  by_cases c1 : sg σ 1 % sf σ n 1 = 0
  · by_cases c2 : sRoom σ n = true
    · rw [if_pos ⟨c1, c2⟩]
      rw [c2] at wr
      have room : ∀ t j, fed σ n t j = true → (sr σ t j).length < 6 := fun t j q => room_of c2 q
      by_cases c5 : sf σ n 5 = 1
      · rw [if_pos c5]
        obtain ⟨h1, wm, N1, F1⟩ := n_markPosition (sc := sc) (d := d + 1) N hk q25
        have wm' : ∀ Q, WP sc (d + 3) 17 0 [(0, .inr (.inl (w + 2 + 20 * n)))] [] h Q ↔ Q none h1 := wm
        have C1 := C.node n8 F1 N1 (fun _ => rfl)
        have lo : ∀ k, k < 4 → ud (ud (ud (ud (sf σ n) 5 0) 19 (sf σ n 4)) 24 1) 9 1 k = sf σ n k := fun k hk => by rw [ud_ne (by omega), ud_ne (by omega), ud_ne (by omega), ud_ne (by omega)]
        have fe : ∀ t j, fed (sSet σ n (ud (ud (ud (ud (sf σ n) 5 0) 19 (sf σ n 4)) 24 1) 9 1) (sr σ n)) n t j = fed σ n t j := fun t j => fed_sSet lo
        have rr : ∀ t j, sr (sSet σ n (ud (ud (ud (ud (sf σ n) 5 0) 19 (sf σ n 4)) 24 1) 9 1) (sr σ n)) t j = sr σ t j := by
          intro t j
          show (if t = n then sr σ n j else sr σ t j) = _
          by_cases e : t = n
          · rw [if_pos e, e]
          · rw [if_neg e]
        obtain ⟨h3, ws, C3, F3⟩ := w_send (sc := sc) (d := d + 1) (v := 100) C1 n8 (fun t j q => by rw [rr]; rw [fe] at q; have := room t j q; omega)
        have ws' : ∀ Q, WP sc (d + 3) 67 0 [(0, .inr (.inl w)), (1, .inl (n : Int)), (2, .inl 100)] [] h1 Q ↔ Q none h3 := ws
        refine ⟨h3, fun Q => ?_, C3.cg (fun _ _ => rfl) (fun t _ k => ?_) (fun t _ k => ?_), (F1.wd (by omega) (by omega)).tr F3⟩
        · have y0 : (kd h1 w).1 = 5 := C1.1.1
          clear C1 N1 C3
          simp (disch := omega) only [u65_0, u65_1, u65_4, u65_5, u65_6, u65_7, u65_8, u65_11, u65_12, u65_13, u65_16, u65_17, u65_20, u65_21, u65_22, u65_25, u65_26, u65_27, u65_30, u65_33, u65_34, u65_35, u65_38, u65_41, u65_42, u65_45, u65_46, u65_47, u65_49, u65_52, u65_55, u65_56, u65_59, u65_60, u65_63, u65_66, u65_67, u65_68, u65_69, u65_72, u65_75, u65_76, u65_77, u65_80, u65_81, u65_82, u65_85, k0, k1, k2, k3', kn, j1, i3, c1, wr, j5, c5, wm', y0, ws', bI_t, true_or, or_true, wr_id, rng, rngp, if_pos, if_neg, if_true, if_false, reduceCtorEq, true_and, and_true, and_self, Option.toList_some, Option.toList_none, List.cons_append, List.nil_append, Int.toNat_natCast]
        · show _ = if t = n then ud (ud (ud (ud (sf σ n) 5 0) 19 (sf σ n 4)) 24 1) 9 1 k else sf σ t k
          by_cases e : t = n
          · rw [if_pos e, e]
            simp only [sf_uf, sf_sSend, true_and, ud]
          · rw [if_neg e]
            simp only [sf_uf, sf_sSend, e, false_and, if_false]
        · rw [sr_sSend, fe, rr]
          rfl
      · rw [if_neg c5]
        have c50 : sf σ n 5 = 0 := by omega
        by_cases c4 : sf σ n 4 < sg σ 2
        · rw [if_pos c4]
          have wi : ∀ Q, WP sc (d + 3) 9 0 [(0, .inr (.inl (w + 2 + 20 * n)))] [] h Q ↔ Q (some (.inl ((sf σ n 3 * 7 + sf σ n 4 * sf σ n 4 + sf σ n 4 * 3) % 100))) h := fun Q => n_itemHere (d := d + 2) N hk o2 o3 Q
          generalize (sf σ n 3 * 7 + sf σ n 4 * sf σ n 4 + sf σ n 4 * 3) % 100 = v at *
          obtain ⟨h1, ws, C1, F1⟩ := w_send (sc := sc) (d := d + 1) (v := v) C n8 (fun t j q => by have := room t j q; omega)
          have ws' : ∀ Q, WP sc (d + 3) 67 0 [(0, .inr (.inl w)), (1, .inl (n : Int)), (2, .inl v)] [] h Q ↔ Q none h1 := ws
          have N1 := C1.2.2.2.1 n hn
          have N2 : CN (sI h1 (w + 2 + 20 * n) 4 (sf σ n 4 + 1)) (w + 2 + 20 * n) (ud (sf (sSend σ n v) n) 4 (sf σ n 4 + 1)) (sr (sSend σ n v) n) := N1.num (Or.inl rfl) (by rw [if_neg (by decide), ud_eq]) (fun j hj => ud_ne hj)
          have F2 : Fr h1 (sI h1 (w + 2 + 20 * n) 4 (sf σ n 4 + 1)) (w + 2 + 20 * n) (w + 2 + 20 * n + 1) := fr1
          have C2 := C1.node n8 (F2.wd (by omega) (by omega)) N2 (fun _ => rfl)
          refine ⟨_, fun Q => ?_, C2.cg (fun _ _ => rfl) (fun t _ k => ?_) (fun t _ k => ?_), F1.tr (F2.wd (by omega) (by omega))⟩
          · have y4 : gI h1 (w + 2 + 20 * n) 4 = sf σ n 4 := by
              obtain ⟨pa', la', K', P', L', I', -⟩ := N1.to
              exact I'.2.2.2.2.1 hk
            have yn : (kd h1 (w + 2 + 20 * n)).1 = 1 := by rw [F1.k]; exact kn
            clear C1 N1 C2 N2
            simp (disch := omega) only [u65_0, u65_1, u65_4, u65_5, u65_6, u65_7, u65_8, u65_11, u65_12, u65_13, u65_16, u65_17, u65_20, u65_21, u65_22, u65_25, u65_26, u65_27, u65_30, u65_33, u65_34, u65_35, u65_38, u65_41, u65_42, u65_45, u65_46, u65_47, u65_49, u65_52, u65_55, u65_56, u65_59, u65_60, u65_63, u65_66, u65_67, u65_68, u65_69, u65_72, u65_75, u65_76, u65_77, u65_80, u65_81, u65_82, u65_85, k0, k1, k2, k3', kn, j1, i3, i4, c1, wr, j5, j4, c50, c4, wi, ws', y4, yn, bI_t, true_or, or_true, wr_id, rng, rngp, if_pos, if_neg, if_true, if_false, reduceCtorEq, true_and, and_true, and_self, Option.toList_some, Option.toList_none, List.cons_append, List.nil_append, Int.toNat_natCast]
          · show (if t = n ∧ k = 4 then sf σ n 4 + 1 else sf σ t k) = if t = n then ud (sf σ n) 4 (sf σ n 4 + 1) k else sf σ t k
            by_cases e : t = n
            · rw [if_pos e, e]
              simp only [true_and, ud]
            · rw [if_neg e, if_neg (fun q => e q.1)]
          · show sr (sSend σ n v) t k = if t = n then sr (sSend σ n v) n k else sr (sSend σ n v) t k
            by_cases e : t = n
            · rw [if_pos e, e]
            · rw [if_neg e]
        · rw [if_neg c4]
          refine ⟨h, fun Q => ?_, C, Fr.rf⟩
          simp (disch := omega) only [u65_0, u65_1, u65_4, u65_5, u65_6, u65_7, u65_8, u65_11, u65_12, u65_13, u65_16, u65_17, u65_20, u65_21, u65_22, u65_25, u65_26, u65_27, u65_30, u65_33, u65_34, u65_35, u65_38, u65_41, u65_42, u65_45, u65_46, u65_47, u65_49, u65_52, u65_55, u65_56, u65_59, u65_60, u65_63, u65_66, u65_67, u65_68, u65_69, u65_72, u65_75, u65_76, u65_77, u65_80, u65_81, u65_82, u65_85, k0, k1, k2, k3', kn, j1, i3, i4, c1, wr, j5, j4, c50, bI_t, true_or, or_true, wr_id, rng, rngp, if_pos, if_neg, if_true, if_false, reduceCtorEq, true_and, and_true, and_self, Option.toList_some, Option.toList_none, List.cons_append, List.nil_append, Int.toNat_natCast]
    · rw [if_neg (fun q => c2 q.2)]
      refine ⟨h, fun Q => ?_, C, Fr.rf⟩
      rw [Bool.eq_false_iff.mpr c2] at wr
      simp (disch := omega) only [u65_0, u65_1, u65_4, u65_5, u65_6, u65_7, u65_8, u65_11, u65_12, u65_13, u65_16, u65_17, u65_20, u65_21, u65_22, u65_25, u65_26, u65_27, u65_30, u65_33, u65_34, u65_35, u65_38, u65_41, u65_42, u65_45, u65_46, u65_47, u65_49, u65_52, u65_55, u65_56, u65_59, u65_60, u65_63, u65_66, u65_67, u65_68, u65_69, u65_72, u65_75, u65_76, u65_77, u65_80, u65_81, u65_82, u65_85, k0, k1, k2, k3', kn, j1, i3, c1, wr, bI_f, true_or, or_true, wr_id, rng, rngp, if_pos, if_neg, if_true, if_false, reduceCtorEq, true_and, and_true, and_self, Option.toList_some, Option.toList_none, List.cons_append, List.nil_append, Int.toNat_natCast]
  · rw [if_neg (fun q => c1 q.1)]
    refine ⟨h, fun Q => ?_, C, Fr.rf⟩
    simp (disch := omega) only [u65_0, u65_1, u65_4, u65_5, u65_6, u65_7, u65_8, u65_11, u65_12, u65_13, u65_16, u65_17, u65_20, u65_21, u65_22, u65_25, u65_26, u65_27, u65_30, u65_33, u65_34, u65_35, u65_38, u65_41, u65_42, u65_45, u65_46, u65_47, u65_49, u65_52, u65_55, u65_56, u65_59, u65_60, u65_63, u65_66, u65_67, u65_68, u65_69, u65_72, u65_75, u65_76, u65_77, u65_80, u65_81, u65_82, u65_85, k0, k1, k2, k3', kn, j1, i3, c1, true_or, or_true, wr_id, rng, rngp, if_pos, if_neg, if_true, if_false, reduceCtorEq, true_and, and_true, and_self, Option.toList_some, Option.toList_none, List.cons_append, List.nil_append, Int.toNat_natCast]
