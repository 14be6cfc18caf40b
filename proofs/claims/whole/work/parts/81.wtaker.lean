/-! a node of the class acts as a taker -/
def itm (L : List Int) : Nat := (L.filter (fun v => decide (v ≠ 100))).length
theorem itm_hd {L : List Int} (h : L.length ≠ 0) (h2 : L.getD 0 0 ≠ 100) : 1 ≤ itm L := by
  cases L with
  | nil => exact absurd rfl h
  | cons a l =>
    have e : a ≠ 100 := h2
    unfold itm
    rw [List.filter_cons, if_pos (show decide (a ≠ 100) = true from decide_eq_true e)]
    simp
/-- what the class needs of a node that acts -/
def okC (σ : sS) (n : Nat) : Prop := okN σ n ∧ (sf σ n 0 ≠ 4 → sf σ n 6 = 0) ∧ (sf σ n 0 ≠ 3 → oth (sf σ n) = 0) ∧ (∀ i, i < 2 → sf σ n 0 = 4 → sf σ n 8 = ((i : Nat) : Int) + 1 → (sr σ n i).length ≠ 0 → (sr σ n i).getD 0 0 ≠ 100 → (sr σ n 2).length < 60) ∧ (sf σ n 0 = 5 → (sr σ n 4).length + (sr σ n 5).length + itm (sr σ n 0) ≤ 120) ∧ (sf σ n 0 = 5 → ∀ t i, fed σ n t i = false) ∧ (sg σ 5 = 0 ∨ sg σ 5 = 1) ∧ (sf σ n 5 = 0 ∨ sf σ n 5 = 1) ∧ (sf σ n 0 = 0 → sf σ n 25 = 0)
theorem nBf_lo {al : Int} {f : Nat → Int} {r : Nat → List Int} {i k : Nat} (hk : k < 4) : nBf al f r i k = f k := by
  have c : k = 0 ∨ k = 1 ∨ k = 2 ∨ k = 3 := by omega
  unfold nBf
  rcases c with rfl | rfl | rfl | rfl <;> (split <;> (try split) <;> (try split) <;> rfl)
theorem nIf_lo {f : Nat → Int} {v : Int} {k : Nat} (hk : k < 4) : nIf f v k = f k := if_neg (fun q => by omega)
theorem fed_sSet {σ : sS} {n m t i : Nat} {f : Nat → Int} {r : Nat → List Int} (h : ∀ k, k < 4 → f k = sf σ n k) : fed (sSet σ n f r) m t i = fed σ m t i := by
  by_cases hi : i < 2
  · have e : ∀ k, k < 4 → sf (sSet σ n f r) t k = sf σ t k := by
      intro k hk
      show (if t = n then f k else sf σ t k) = _
      by_cases q : t = n
      · rw [if_pos q, h k hk, q]
      · rw [if_neg q]
    unfold fed
    rw [e 0 (by omega), e (1 + i) (by omega)]
    rfl
  · rw [fed_hi (by omega), fed_hi (by omega)]
theorem fed_take {σ : sS} {n i t j : Nat} : fed (sTake σ n i) n t j = fed σ n t j := by
  unfold sTake
  rw [fed_uf' (by decide)]
  rfl
theorem w_taker {sc : av_S} {d : Nat} {h : av_H} {w n : Nat} {σ : sS} (C : CW h w σ) (hn : n < sN σ) (ok : okC σ n) (hk : sf σ n 0 ≠ 0) : ∃ h', (∀ Q, WP sc (d + 4) 64 0 [(0, .inr (.inl w)), (1, .inl (n : Int))] [] h Q ↔ Q none h') ∧ CW h' w (sTaker σ n) ∧ Fr h h' (w + 2) (w + 162) := by
  obtain ⟨z1, z2⟩ := C.sz
  obtain ⟨okn, q6, qo, q2, q5, qf, qa, -, -⟩ := ok
  obtain ⟨o1, o2, o3, o4, o5, o6, o7, o8, o9, o10⟩ := id okn
  have n8 : n < 8 := by omega
  obtain ⟨⟨k0, k1, k2, k3⟩, WIh, -, cn, -⟩ := id C
  have k3' := k3 n n8
  have N := cn n hn
  have kn : (kd h (w + 2 + 20 * n)).1 = 1 := by obtain ⟨pa, la, K, -⟩ := N.to; exact K.1
  have wi : ∀ Q, WP sc (d + 3) 10 0 [(0, .inr (.inl (w + 2 + 20 * n)))] [] h Q ↔ Q (some (.inl (sIn σ n))) h := fun Q => n_inToTake N o4 Q
  have wr : ∀ Q, WP sc (d + 3) 66 0 [(0, .inr (.inl w)), (1, .inl (n : Int))] [] h Q ↔ Q (some (.inl (bI (sRoom σ n)))) h := fun Q => w_hasRoom (d := d + 1) C n8 Q
  unfold sTaker
  by_cases c1 : sIn σ n = -1
  · rw [if_neg (fun q => q.2 c1)]
    refine ⟨h, fun Q => ?_, C, Fr.rf⟩
    rw [c1] at wi
    simp (disch := omega) only [u64_0, u64_1, u64_4, u64_5, u64_6, u64_7, u64_8, u64_11, u64_12, u64_13, u64_14, u64_17, u64_18, u64_19, u64_22, u64_25, u64_26, u64_27, u64_28, u64_31, u64_33, u64_35, u64_37, u64_40, u64_41, u64_42, u64_43, u64_46, u64_49, u64_52, u64_53, u64_54, u64_56, u64_59, u64_61, u64_63, u64_64, u64_67, u64_68, u64_69, u64_71, u64_74, k0, k1, k2, k3', kn, wi, true_or, or_true, wr_id, rng, rngp, if_pos, if_neg, if_true, if_false, reduceCtorEq, true_and, and_true, and_self, Option.toList_some, Option.toList_none, List.cons_append, List.nil_append, Int.toNat_natCast]
  obtain ⟨i, hi, ei, hl⟩ := sIn_cases okn c1
  by_cases c2 : sRoom σ n = true
  · rw [if_pos ⟨c2, c1⟩, ei, Int.toNat_natCast]
    rw [ei] at wi
    rw [c2] at wr
    obtain ⟨h1, wt, N1, F1⟩ := n_take (sc := sc) (d := d + 1) N hi hl q6
    have wt' : ∀ Q, WP sc (d + 3) 12 0 [(0, .inr (.inl (w + 2 + 20 * n))), (1, .inl (i : Int))] [] h Q ↔ Q (some (.inl ((sr σ n i).getD 0 0))) h1 := wt
    have C1 : CW h1 w (sTake σ n i) := by
      refine (C.node n8 F1 N1 (fun _ => rfl)).cg (fun _ _ => rfl) (fun t _ k => ?_) (fun t _ k => ?_)
      · show (if t = n ∧ k = 6 then (if sf σ n 0 = 4 then 1 - (i : Int) else 0) else sf σ t k) = if t = n then (if k = 6 then (if sf σ n 0 = 4 then 1 - (i : Int) else 0) else sf σ n k) else sf σ t k
        by_cases e : t = n
        · rw [if_pos e]
          by_cases e6 : k = 6
          · rw [if_pos e6, if_pos ⟨e, e6⟩]
          · rw [if_neg e6, if_neg (fun q => e6 q.2), e]
        · rw [if_neg e, if_neg (fun q => e q.1)]
      · show (if t = n ∧ k = i then (sr σ n i).drop 1 else sr σ t k) = if t = n then (if k = i then (sr σ n i).drop 1 else sr σ n k) else sr σ t k
        by_cases e : t = n
        · rw [if_pos e]
          by_cases e6 : k = i
          · rw [if_pos e6, if_pos ⟨e, e6⟩]
          · rw [if_neg e6, if_neg (fun q => e6 q.2), e]
        · rw [if_neg e, if_neg (fun q => e q.1)]
    have tf : ∀ k, k ≠ 6 → sf (sTake σ n i) n k = sf σ n k := fun k h6 => if_neg (fun q => h6 q.2)
    have tr : ∀ k, k ≠ i → sr (sTake σ n i) n k = sr σ n k := fun k h6 => if_neg (fun q => h6 q.2)
    have tr2 : ∀ t, t ≠ n → ∀ k, sr (sTake σ n i) t k = sr σ t k := fun t ht k => if_neg (fun q => ht q.1)
    have tfd : ∀ t j, fed (sTake σ n i) n t j = fed σ n t j := fun t j => fed_take
    have room : ∀ t j, fed σ n t j = true → (sr σ t j).length < 6 := fun t j q => room_of c2 q
    have tg : ∀ k, sg (sTake σ n i) k = sg σ k := fun k => rfl
    have hnτ : n < sN (sTake σ n i) := hn
    have N1' := C1.2.2.2.1 n hnτ
    obtain ⟨⟨j0, j1, j2, j3⟩, WI1, -⟩ := id C1
    have j3' := j3 n n8
    have jn : (kd h1 (w + 2 + 20 * n)).1 = 1 := by rw [F1.k]; exact kn
    have e5 : gI h1 w 7 = sg σ 5 := WI1.2.2.2.2.2.2.1
    have i1 : i ≠ 4 ∧ i ≠ 5 ∧ i ≠ 2 := by omega
    have k0' : sf σ n 0 = 1 ∨ sf σ n 0 = 2 ∨ sf σ n 0 = 3 ∨ sf σ n 0 = 4 ∨ sf σ n 0 = 5 := by omega
    generalize hτ : sTake σ n i = τ at *
    have t0 := tf 0 (by decide)
    by_cases cv : (sr σ n i).getD 0 0 = 100
    · rw [if_pos cv]
      rw [cv] at wt'
      have oτ : oth (sf τ n) = oth (sf σ n) := by
        unfold oth
        rw [tf 10 (by decide), tf 11 (by decide), tf 12 (by decide), tf 13 (by decide), tf 15 (by decide), tf 16 (by decide), tf 17 (by decide), tf 18 (by decide)]
      obtain ⟨h2, wm, N2, F2⟩ := n_meetBarrier (sc := sc) (d := d) (i := i) (al := sg σ 5) N1' qa hi (by rw [t0]; exact k0') (by rw [t0, oτ]; exact qo) (by rw [t0, tr 4 (fun e => i1.1 e.symm), tr 5 (fun e => i1.2.1 e.symm)]; intro q; have := q5 q; omega)
      have C2 := C1.node n8 F2 N2 (fun _ => nBf_lo (by decide))
      by_cases cs : nBv (sg σ 5) (sf τ n) = -1
      · refine ⟨h2, fun Q => ?_, C2.cg (fun k _ => bar_g τ n i k) (fun t _ k => ?_) (fun t _ k => ?_), (F1.wd (by omega) (by omega)).tr (F2.wd (by omega) (by omega))⟩
        · rw [cs] at wm
          clear N2 C2 N1' C1 C WIh WI1
          simp (disch := omega) only [u64_0, u64_1, u64_4, u64_5, u64_6, u64_7, u64_8, u64_11, u64_12, u64_13, u64_14, u64_17, u64_18, u64_19, u64_22, u64_25, u64_26, u64_27, u64_28, u64_31, u64_33, u64_35, u64_37, u64_40, u64_41, u64_42, u64_43, u64_46, u64_49, u64_52, u64_53, u64_54, u64_56, u64_59, u64_61, u64_63, u64_64, u64_67, u64_68, u64_69, u64_71, u64_74, k0, k1, k2, k3', kn, wi, wr, wt', j0, jn, e5, wm, bI_t, true_or, or_true, wr_id, rng, rngp, if_pos, if_neg, if_true, if_false, reduceCtorEq, true_and, and_true, and_self, Option.toList_some, Option.toList_none, List.cons_append, List.nil_append, Int.toNat_natCast]
        · rw [bar_f, tg]; rfl
        · rw [bar_r, tg, if_neg (show ¬ (nBv (sg σ 5) (sf τ n) ≠ -1 ∧ sf τ n 0 ≠ 5 ∧ fed τ n t k = true) from fun q => q.1 cs)]; rfl
      · have cs1 : nBv (sg σ 5) (sf τ n) = 100 := by
          unfold nBv at cs ⊢
          split at cs
          · next q =>
            rw [if_pos q]
            split at cs
            · next q2 =>
              rw [if_pos q2]
              split at cs
              · exact absurd rfl cs
              · next q3 => rw [if_neg q3]
            · next q2 =>
              rw [if_neg q2]
              split at cs
              · next q3 => rw [if_pos q3]
              · exact absurd rfl cs
          · next q => rw [if_neg q]
        have fe : ∀ t j, fed (sSet τ n (nBf (sg σ 5) (sf τ n) (sr τ n) i) (nBr (sg σ 5) (sf τ n) (sr τ n))) n t j = fed σ n t j := fun t j => (fed_sSet (fun k hk => nBf_lo hk)).trans (tfd t j)
        have hr : ∀ t j, fed (sSet τ n (nBf (sg σ 5) (sf τ n) (sr τ n) i) (nBr (sg σ 5) (sf τ n) (sr τ n))) n t j = true → (sr (sSet τ n (nBf (sg σ 5) (sf τ n) (sr τ n) i) (nBr (sg σ 5) (sf τ n) (sr τ n))) t j).length < 60 := by
          intro t j q
          rw [fe] at q
          have ht : t ≠ n := by have := fed_lt q; omega
          show (if t = n then _ else sr τ t j).length < 60
          rw [if_neg ht, tr2 t ht]
          have := room t j q
          omega
        obtain ⟨h3, ws, C3, F3⟩ := w_send (sc := sc) (d := d + 1) (v := 100) C2 n8 hr
        refine ⟨h3, fun Q => ?_, C3.cg (fun k _ => bar_g τ n i k) (fun t _ k => ?_) (fun t _ k => ?_), ((F1.wd (by omega) (by omega)).tr (F2.wd (by omega) (by omega))).tr F3⟩
        · have ws' : ∀ Q, WP sc (d + 3) 67 0 [(0, .inr (.inl w)), (1, .inl (n : Int)), (2, .inl 100)] [] h2 Q ↔ Q none h3 := ws
          rw [cs1] at wm
          have y0 : (kd h2 w).1 = 5 := C2.1.1
          clear N2 C2 N1' C1 C WIh WI1 C3
          simp (disch := omega) only [u64_0, u64_1, u64_4, u64_5, u64_6, u64_7, u64_8, u64_11, u64_12, u64_13, u64_14, u64_17, u64_18, u64_19, u64_22, u64_25, u64_26, u64_27, u64_28, u64_31, u64_33, u64_35, u64_37, u64_40, u64_41, u64_42, u64_43, u64_46, u64_49, u64_52, u64_53, u64_54, u64_56, u64_59, u64_61, u64_63, u64_64, u64_67, u64_68, u64_69, u64_71, u64_74, k0, k1, k2, k3', kn, wi, wr, wt', j0, jn, e5, wm, y0, ws', bI_t, true_or, or_true, wr_id, rng, rngp, if_pos, if_neg, if_true, if_false, reduceCtorEq, true_and, and_true, and_self, Option.toList_some, Option.toList_none, List.cons_append, List.nil_append, Int.toNat_natCast]
        · rw [bar_f, tg]; rfl
        · rw [bar_r, tg, sr_sSend, fe]
          show _ = if fed σ n t k = true then (if t = n then nBr (sg σ 5) (sf τ n) (sr τ n) k else sr τ t k) ++ [100] else (if t = n then nBr (sg σ 5) (sf τ n) (sr τ n) k else sr τ t k)
          rw [tfd]
          by_cases e : t = n
          · rw [if_pos e, if_pos e, e, fed_self, if_neg (by decide)]
          · rw [if_neg e, if_neg e]
            by_cases q : fed σ n t k = true
            · have n5 : sf τ n 0 ≠ 5 := by
                intro q5'
                rw [t0] at q5'
                rw [qf q5' t k] at q
                cases q
              rw [if_pos q, if_pos ⟨cs, n5, q⟩]
            · rw [if_neg q, if_neg (fun z => q z.2.2)]
    · rw [if_neg cv]
      generalize hv : (sr σ n i).getD 0 0 = v at *
      have bv : 0 ≤ v ∧ v ≤ 100 := by
        rw [← hv]
        refine o10 i hi _ ?_
        rw [List.getD_eq_getElem?_getD, List.getElem?_eq_getElem (show 0 < (sr σ n i).length by omega)]
        exact List.getElem_mem _
      have ih := itm_hd hl (by rw [hv]; exact cv)
      obtain ⟨h2, wm, N2, F2⟩ := n_meetItem (sc := sc) (d := d + 1) (i := i) (v := v) N1' ⟨bv.1, by omega⟩ (by rw [t0]; exact k0') (by rw [tf 3 (by decide)]; exact o2) (by rw [t0, tf 3 (by decide)]; exact o8) (fun _ k hk => by rw [tf _ (by omega)]; exact o9 k hk) (by
        rw [t0, tf 8 (by decide), tr 2 (fun e => i1.2.2 e.symm)]
        intro q4 q8
        exact q2 i hi q4 q8 hl (by rw [hv]; exact cv)) (by
        rw [t0, tr 4 (fun e => i1.1 e.symm)]
        intro q
        have e0 : i = 0 := by
          unfold sIn at ei
          rw [if_neg (by omega)] at ei
          split at ei <;> omega
        rw [e0] at ih
        have := q5 q
        omega)
      have wm' : ∀ Q, WP sc (d + 3) 13 0 [(0, .inr (.inl (w + 2 + 20 * n))), (1, .inl (i : Int)), (2, .inl v)] [] h1 Q ↔ Q (some (.inl (nIv (sf τ n) v))) h2 := wm
      have C2 := C1.node n8 F2 N2 (fun _ => nIf_lo (by decide))
      by_cases cs : nIv (sf τ n) v = -1
      · refine ⟨h2, fun Q => ?_, C2.cg (fun k _ => itm_g τ n i k v) (fun t _ k => ?_) (fun t _ k => ?_), (F1.wd (by omega) (by omega)).tr (F2.wd (by omega) (by omega))⟩
        · rw [cs] at wm'
          clear N2 C2 N1' C1 C WIh WI1
          simp (disch := omega) only [u64_0, u64_1, u64_4, u64_5, u64_6, u64_7, u64_8, u64_11, u64_12, u64_13, u64_14, u64_17, u64_18, u64_19, u64_22, u64_25, u64_26, u64_27, u64_28, u64_31, u64_33, u64_35, u64_37, u64_40, u64_41, u64_42, u64_43, u64_46, u64_49, u64_52, u64_53, u64_54, u64_56, u64_59, u64_61, u64_63, u64_64, u64_67, u64_68, u64_69, u64_71, u64_74, k0, k1, k2, k3', kn, wi, wr, wt', j0, jn, wm', cv, bI_t, true_or, or_true, wr_id, rng, rngp, if_pos, if_neg, if_true, if_false, reduceCtorEq, true_and, and_true, and_self, Option.toList_some, Option.toList_none, List.cons_append, List.nil_append, Int.toNat_natCast]
        · rw [itm_f]; rfl
        · rw [itm_r τ n i t k v bv.1 (by rw [t0]; exact k0'), if_neg (show ¬ (nIv (sf τ n) v ≠ -1 ∧ fed τ n t k = true) from fun q => q.1 cs)]; rfl
      · have fe : ∀ t j, fed (sSet τ n (nIf (sf τ n) v) (nIr (sf τ n) (sr τ n) i v)) n t j = fed σ n t j := fun t j => (fed_sSet (fun k hk => nIf_lo hk)).trans (tfd t j)
        have hr : ∀ t j, fed (sSet τ n (nIf (sf τ n) v) (nIr (sf τ n) (sr τ n) i v)) n t j = true → (sr (sSet τ n (nIf (sf τ n) v) (nIr (sf τ n) (sr τ n) i v)) t j).length < 60 := by
          intro t j q
          rw [fe] at q
          have ht : t ≠ n := by have := fed_lt q; omega
          show (if t = n then _ else sr τ t j).length < 60
          rw [if_neg ht, tr2 t ht]
          have := room t j q
          omega
        obtain ⟨h3, ws, C3, F3⟩ := w_send (sc := sc) (d := d + 1) (v := nIv (sf τ n) v) C2 n8 hr
        refine ⟨h3, fun Q => ?_, C3.cg (fun k _ => itm_g τ n i k v) (fun t _ k => ?_) (fun t _ k => ?_), ((F1.wd (by omega) (by omega)).tr (F2.wd (by omega) (by omega))).tr F3⟩
        · have ws' : ∀ Q, WP sc (d + 3) 67 0 [(0, .inr (.inl w)), (1, .inl (n : Int)), (2, .inl (nIv (sf τ n) v))] [] h2 Q ↔ Q none h3 := ws
          have y0 : (kd h2 w).1 = 5 := C2.1.1
          clear N2 C2 N1' C1 C WIh WI1 C3
          simp (disch := omega) only [u64_0, u64_1, u64_4, u64_5, u64_6, u64_7, u64_8, u64_11, u64_12, u64_13, u64_14, u64_17, u64_18, u64_19, u64_22, u64_25, u64_26, u64_27, u64_28, u64_31, u64_33, u64_35, u64_37, u64_40, u64_41, u64_42, u64_43, u64_46, u64_49, u64_52, u64_53, u64_54, u64_56, u64_59, u64_61, u64_63, u64_64, u64_67, u64_68, u64_69, u64_71, u64_74, k0, k1, k2, k3', kn, wi, wr, wt', j0, jn, wm', cv, cs, y0, ws', bI_t, true_or, or_true, wr_id, rng, rngp, if_pos, if_neg, if_true, if_false, reduceCtorEq, true_and, and_true, and_self, Option.toList_some, Option.toList_none, List.cons_append, List.nil_append, Int.toNat_natCast]
        · rw [itm_f]; rfl
        · rw [itm_r τ n i t k v bv.1 (by rw [t0]; exact k0'), sr_sSend, fe, tfd]
          show _ = if fed σ n t k = true then (if t = n then nIr (sf τ n) (sr τ n) i v k else sr τ t k) ++ [nIv (sf τ n) v] else (if t = n then nIr (sf τ n) (sr τ n) i v k else sr τ t k)
          by_cases e : t = n
          · rw [if_pos e, if_pos e, e, fed_self, if_neg (by decide)]
          · rw [if_neg e, if_neg e]
            by_cases q : fed σ n t k = true
            · rw [if_pos q, if_pos ⟨cs, q⟩]
            · rw [if_neg q, if_neg (fun z => q z.2)]
  · rw [if_neg (fun q => c2 q.1)]
    refine ⟨h, fun Q => ?_, C, Fr.rf⟩
    rw [Bool.eq_false_iff.mpr c2] at wr
    have : (i : Int) ≠ -1 := by omega
    rw [ei] at wi
    simp (disch := omega) only [u64_0, u64_1, u64_4, u64_5, u64_6, u64_7, u64_8, u64_11, u64_12, u64_13, u64_14, u64_17, u64_18, u64_19, u64_22, u64_25, u64_26, u64_27, u64_28, u64_31, u64_33, u64_35, u64_37, u64_40, u64_41, u64_42, u64_43, u64_46, u64_49, u64_52, u64_53, u64_54, u64_56, u64_59, u64_61, u64_63, u64_64, u64_67, u64_68, u64_69, u64_71, u64_74, k0, k1, k2, k3', kn, wi, wr, bI_f, true_or, or_true, wr_id, rng, rngp, if_pos, if_neg, if_true, if_false, reduceCtorEq, true_and, and_true, and_self, Option.toList_some, Option.toList_none, List.cons_append, List.nil_append, Int.toNat_natCast]
