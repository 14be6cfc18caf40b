/-! a node of the class meets an item (2) -/
def nIv (f : Nat → Int) (v : Int) : Int := if f 0 = 1 then (v + f 3) % 100 else if f 0 = 2 then (if v % f 3 = 0 then -1 else v) else if f 0 = 3 then (f (10 + (v % 4).toNat) + v) % 100 else if f 0 = 4 then v else -1
def nIf (f : Nat → Int) (v : Int) : Nat → Int := fun k => if f 0 = 3 ∧ k = 10 + (v % 4).toNat then f k + v else f k
def nIr (f : Nat → Int) (r : Nat → List Int) (i : Nat) (v : Int) : Nat → List Int := fun k => if f 0 = 4 ∧ f 8 = (i : Int) + 1 ∧ k = 2 then r 2 ++ [v] else if f 0 = 5 ∧ k = 4 then r 4 ++ [v] else r k
theorem NK.pl {h : av_H} {a pa la : Nat} (K : NK h a pa la) : pa = a + 12 ∧ la = a + 16 ∨ pa = a + 16 ∧ la = a + 12 := K.2.2.2.2.2.2.2.2.2
theorem n_meetItem {sc : av_S} {d : Nat} {h : av_H} {a i : Nat} {f : Nat → Int} {r : Nat → List Int} {v : Int} (N : CN h a f r) (hv : 0 ≤ v ∧ v < 100) (h0 : f 0 = 1 ∨ f 0 = 2 ∨ f 0 = 3 ∨ f 0 = 4 ∨ f 0 = 5) (h3 : 0 ≤ f 3 ∧ f 3 ≤ 99) (h2 : f 0 = 2 → 1 ≤ f 3) (hs : f 0 = 3 → ∀ k, k < 4 → 0 ≤ f (10 + k) ∧ f (10 + k) ≤ 1000000000) (c2 : f 0 = 4 → f 8 = (i : Int) + 1 → (r 2).length < 60) (c4 : f 0 = 5 → (r 4).length < 120) : ∃ h', (∀ Q, WP sc (d + 2) 13 0 [(0, .inr (.inl a)), (1, .inl (i : Int)), (2, .inl v)] [] h Q ↔ Q (some (.inl (nIv f v))) h') ∧ CN h' a (nIf f v) (nIr f r i v) ∧ Fr h h' a (a + 20) := by
  obtain ⟨pa, la, K, P, L, I, S, R, p, l⟩ := N.to
  have pl := K.pl
  have k0 := K.1
  have i0 := I.1
  have i3 := I.2.2.2.1
  have i8 := I.2.2.2.2.2.2.2.2.1
  rcases h0 with c | c | c | c | c
  · have e1 : nIf f v = f := funext fun k => if_neg (fun q => by omega)
    have e2 : nIr f r i v = r := funext fun k => (if_neg (fun q => by omega)).trans (if_neg (fun q => by omega))
    rw [e1, e2]
    refine ⟨h, fun Q => ?_, N, Fr.rf⟩
    unfold nIv
    simp (disch := omega) only [u13_0, u13_1, u13_4, u13_36, u13_37, u13_38, u13_41, u13_42, u13_44, u13_45, u13_46, u13_47, u13_50, u13_53, u13_54, u13_55, u13_58, u13_59, u13_62, u13_63, u13_66, u13_67, u13_68, u13_69, u13_70, u13_73, u13_74, u13_75, u13_78, u13_79, u13_80, u13_81, u13_82, u13_83, u13_84, u13_85, u13_88, u13_89, u13_90, u13_92, u13_93, u13_94, u13_95, u13_96, u13_99, u13_102, u13_103, u13_106, u13_109, u13_110, u13_113, u13_114, u13_115, u13_116, u13_119, u13_120, u13_123, u13_124, k0, i0, i3, c, wr_id, rng, rngp, if_pos, if_neg, if_true, if_false, reduceCtorEq, true_and, and_true, and_self, Option.toList_some, Option.toList_none, List.cons_append, List.nil_append, Int.toNat_natCast]
  · have e1 : nIf f v = f := funext fun k => if_neg (fun q => by omega)
    have e2 : nIr f r i v = r := funext fun k => (if_neg (fun q => by omega)).trans (if_neg (fun q => by omega))
    rw [e1, e2]
    refine ⟨h, fun Q => ?_, N, Fr.rf⟩
    have h2 := h2 c
    unfold nIv
    by_cases cm : v % f 3 = 0
    · simp (disch := omega) only [u13_0, u13_1, u13_4, u13_36, u13_37, u13_38, u13_41, u13_42, u13_44, u13_45, u13_46, u13_47, u13_50, u13_53, u13_54, u13_55, u13_58, u13_59, u13_62, u13_63, u13_66, u13_67, u13_68, u13_69, u13_70, u13_73, u13_74, u13_75, u13_78, u13_79, u13_80, u13_81, u13_82, u13_83, u13_84, u13_85, u13_88, u13_89, u13_90, u13_92, u13_93, u13_94, u13_95, u13_96, u13_99, u13_102, u13_103, u13_106, u13_109, u13_110, u13_113, u13_114, u13_115, u13_116, u13_119, u13_120, u13_123, u13_124, k0, i0, i3, c, cm, wr_id, rng, rngp, if_pos, if_neg, if_true, if_false, reduceCtorEq, true_and, and_true, and_self, Option.toList_some, Option.toList_none, List.cons_append, List.nil_append, Int.toNat_natCast]
    · simp (disch := omega) only [u13_0, u13_1, u13_4, u13_36, u13_37, u13_38, u13_41, u13_42, u13_44, u13_45, u13_46, u13_47, u13_50, u13_53, u13_54, u13_55, u13_58, u13_59, u13_62, u13_63, u13_66, u13_67, u13_68, u13_69, u13_70, u13_73, u13_74, u13_75, u13_78, u13_79, u13_80, u13_81, u13_82, u13_83, u13_84, u13_85, u13_88, u13_89, u13_90, u13_92, u13_93, u13_94, u13_95, u13_96, u13_99, u13_102, u13_103, u13_106, u13_109, u13_110, u13_113, u13_114, u13_115, u13_116, u13_119, u13_120, u13_123, u13_124, k0, i0, i3, c, cm, wr_id, rng, rngp, if_pos, if_neg, if_true, if_false, reduceCtorEq, true_and, and_true, and_self, Option.toList_some, Option.toList_none, List.cons_append, List.nil_append, Int.toNat_natCast]
  · obtain ⟨j, hj⟩ : ∃ j : Nat, v % 4 = (j : Int) := ⟨(v % 4).toNat, by omega⟩
    have hj4 : j < 4 := by omega
    have k1 := K.2.1.1
    have k2 := K.2.1.2
    have sj := S c j hj4
    have bj := hs c j hj4
    have fl : ∀ Q, WP sc (d + 1) 158 0 [(0, .inl v), (1, .inl 4)] [] h Q ↔ Q (some (.inl (j : Int))) h := fun Q => by rw [← hj]; exact x_floor hv Q
    have e2 : nIr f r i v = r := funext fun k => (if_neg (fun q => by omega)).trans (if_neg (fun q => by omega))
    have fn : ∀ k, k ≠ 10 + j → nIf f v k = f k := fun k hk => if_neg (fun q => hk (by rw [q.2, hj]; rfl))
    have fe : nIf f v (10 + j) = f (10 + j) + v := if_pos ⟨c, by rw [hj]; rfl⟩
    have F : Fr h (sI h (a + 1) j (f (10 + j) + v)) (a + 1) (a + 2) := Fr.sI ⟨Nat.le_refl _, Nat.lt_succ_self _⟩
    have F' : Fr h (sI h (a + 1) j (f (10 + j) + v)) a (a + 20) := F.wd (by omega) (by omega)
    have R' := R.fr F (by omega)
    have P' := P.fr F (by omega)
    have L' := L.fr F (by omega)
    have I' := I.fr F (by omega)
    have p' := p.fr F (by omega)
    have l' := l.fr F (by omega)
    rw [e2]
    refine ⟨sI h (a + 1) j (f (10 + j) + v), fun Q => ?_, CN.mk K P' L' (I'.cg (fun k hk => fn k (by omega))) ?_ R' (p'.cg (fn _ (by omega)) (fn _ (by omega)) (fn _ (by omega)) (fn _ (by omega)) (fun k hk => fn _ (by omega)) (fn _ (by omega)) (fn _ (by omega)) rfl) (l'.cg (fn _ (by omega)) (fn _ (by omega)) (fun k hk => fn _ (by omega)) (fn _ (by omega)) (fn _ (by omega)) rfl), F'⟩
    · unfold nIv
      rw [hj]
      simp (disch := omega) only [u13_0, u13_1, u13_4, u13_36, u13_37, u13_38, u13_41, u13_42, u13_44, u13_45, u13_46, u13_47, u13_50, u13_53, u13_54, u13_55, u13_58, u13_59, u13_62, u13_63, u13_66, u13_67, u13_68, u13_69, u13_70, u13_73, u13_74, u13_75, u13_78, u13_79, u13_80, u13_81, u13_82, u13_83, u13_84, u13_85, u13_88, u13_89, u13_90, u13_92, u13_93, u13_94, u13_95, u13_96, u13_99, u13_102, u13_103, u13_106, u13_109, u13_110, u13_113, u13_114, u13_115, u13_116, u13_119, u13_120, u13_123, u13_124, k0, i0, k1, k2, sj, c, fl, kd_sI, gR_sI, gI_sI_eq, wr_id, rng, rngp, if_pos, if_neg, if_true, if_false, reduceCtorEq, true_and, and_true, and_self, Option.toList_some, Option.toList_none, List.cons_append, List.nil_append, Int.toNat_natCast]
    · intro q k hk
      by_cases e : k = j
      · rw [gI_sI_eq e, e, fe]
      · rw [gI_sI_ne e, fn _ (by clear R' P' L' I' p' l'; omega)]
        exact S c k hk
  · have e1 : nIf f v = f := funext fun k => if_neg (fun q => by omega)
    rw [e1]
    have v4 : nIv f v = v := by unfold nIv; rw [if_neg (by omega), if_neg (by omega), if_neg (by omega), if_pos c]
    rw [v4]
    by_cases c8 : f 8 = (i : Int) + 1
    · have pr := p.2.1 (Or.inr (by omega))
      obtain ⟨h', w, R2, F2⟩ := r_put (sc := sc) (d := d) (v := v) pr (c2 c c8) (by omega)
      have k6 := K.2.2.2.2.2.2.2.1
      have q0 := P.1
      have q2 := P.2.2.2.1
      have m1 : (kd h (pa + 2)).1 = 3 := pr.1.1
      have rn : ∀ k, k ≠ 2 → nIr f r i v k = r k := fun k hk => (if_neg (fun q => hk q.2.2)).trans (if_neg (fun q => by omega))
      have re : nIr f r i v 2 = r 2 ++ [v] := if_pos ⟨c, c8, rfl⟩
      refine ⟨h', fun Q => ?_, CN.mk (K.fr F2 (by omega)) ?_ (L.fr F2 (by omega)) (I.fr F2 (by omega)) (S.fr F2 (by omega)) ((R.fr F2 (by omega)).cg (rn _ (by omega)) (rn _ (by omega)) (rn _ (by omega)) (rn _ (by omega)) (rn _ (by omega))) ?_ ((l.fr F2 (by omega)).cg rfl rfl (fun _ _ => rfl) rfl rfl (rn _ (by omega))), F2.wd (by omega) (by omega)⟩
      · have e : (i : Int) = f 8 - 1 := by omega
        simp (disch := omega) only [u13_0, u13_1, u13_4, u13_36, u13_37, u13_38, u13_41, u13_42, u13_44, u13_45, u13_46, u13_47, u13_50, u13_53, u13_54, u13_55, u13_58, u13_59, u13_62, u13_63, u13_66, u13_67, u13_68, u13_69, u13_70, u13_73, u13_74, u13_75, u13_78, u13_79, u13_80, u13_81, u13_82, u13_83, u13_84, u13_85, u13_88, u13_89, u13_90, u13_92, u13_93, u13_94, u13_95, u13_96, u13_99, u13_102, u13_103, u13_106, u13_109, u13_110, u13_113, u13_114, u13_115, u13_116, u13_119, u13_120, u13_123, u13_124, k0, i0, i8, k6, q0, q2, m1, c, e, w, wr_id, rng, rngp, if_pos, if_neg, if_true, if_false, reduceCtorEq, true_and, and_true, and_self, Option.toList_some, Option.toList_none, List.cons_append, List.nil_append, Int.toNat_natCast]
      · exact ⟨by rw [F2.k]; exact P.1, by rw [F2.r (by omega)]; exact P.2.1, by rw [F2.k]; exact P.2.2.1, by rw [F2.r (by omega)]; exact P.2.2.2.1, _, R2⟩
      · refine ⟨fun q => ?_, fun q => by rw [re]; exact R2, fun q => absurd c q⟩
        obtain ⟨a1, a2, a3, a4⟩ := p.1 q
        exact ⟨fun z => by omega, fun z => by omega, by rw [F2.i (by omega)]; exact a3, by rw [F2.i (by omega)]; exact a4⟩
    · have e2 : nIr f r i v = r := funext fun k => (if_neg (fun q => c8 q.2.1)).trans (if_neg (fun q => by omega))
      rw [e2]
      refine ⟨h, fun Q => ?_, N, Fr.rf⟩
      have e : ¬ (i : Int) = f 8 - 1 := by omega
      simp (disch := omega) only [u13_0, u13_1, u13_4, u13_36, u13_37, u13_38, u13_41, u13_42, u13_44, u13_45, u13_46, u13_47, u13_50, u13_53, u13_54, u13_55, u13_58, u13_59, u13_62, u13_63, u13_66, u13_67, u13_68, u13_69, u13_70, u13_73, u13_74, u13_75, u13_78, u13_79, u13_80, u13_81, u13_82, u13_83, u13_84, u13_85, u13_88, u13_89, u13_90, u13_92, u13_93, u13_94, u13_95, u13_96, u13_99, u13_102, u13_103, u13_106, u13_109, u13_110, u13_113, u13_114, u13_115, u13_116, u13_119, u13_120, u13_123, u13_124, k0, i0, i8, c, e, wr_id, rng, rngp, if_pos, if_neg, if_true, if_false, reduceCtorEq, true_and, and_true, and_self, Option.toList_some, Option.toList_none, List.cons_append, List.nil_append, Int.toNat_natCast]
  · have e1 : nIf f v = f := funext fun k => if_neg (fun q => by omega)
    rw [e1]
    have v4 : nIv f v = -1 := by unfold nIv; rw [if_neg (by omega), if_neg (by omega), if_neg (by omega), if_neg (by omega)]
    rw [v4]
    obtain ⟨r0, r1, r4, r5, r6⟩ := R
    obtain ⟨h', w, R2, F2⟩ := r_put (sc := sc) (d := d) (v := v) r4 (c4 c) (by omega)
    have k4 := K.2.2.2.2.1
    have m1 : (kd h (a + 6)).1 = 3 := r4.1.1
    have rn : ∀ k, k ≠ 4 → nIr f r i v k = r k := fun k hk => (if_neg (fun q => by omega)).trans (if_neg (fun q => hk q.2))
    have re : nIr f r i v 4 = r 4 ++ [v] := (if_neg (fun q => by omega)).trans (if_pos ⟨c, rfl⟩)
    refine ⟨h', fun Q => ?_, CN.mk (K.fr F2 (by omega)) (P.fr F2 (by omega)) (L.fr F2 (by omega)) (I.fr F2 (by omega)) (S.fr F2 (by omega)) ⟨?_, ?_, ?_, ?_, ?_⟩ ((p.fr F2 (by omega)).cg rfl rfl rfl rfl (fun _ _ => rfl) rfl rfl (rn _ (by omega))) ((l.fr F2 (by omega)).cg rfl rfl (fun _ _ => rfl) rfl rfl (rn _ (by omega))), F2.wd (by omega) (by omega)⟩
    · simp (disch := omega) only [u13_0, u13_1, u13_4, u13_36, u13_37, u13_38, u13_41, u13_42, u13_44, u13_45, u13_46, u13_47, u13_50, u13_53, u13_54, u13_55, u13_58, u13_59, u13_62, u13_63, u13_66, u13_67, u13_68, u13_69, u13_70, u13_73, u13_74, u13_75, u13_78, u13_79, u13_80, u13_81, u13_82, u13_83, u13_84, u13_85, u13_88, u13_89, u13_90, u13_92, u13_93, u13_94, u13_95, u13_96, u13_99, u13_102, u13_103, u13_106, u13_109, u13_110, u13_113, u13_114, u13_115, u13_116, u13_119, u13_120, u13_123, u13_124, k0, i0, k4, m1, c, w, wr_id, rng, rngp, if_pos, if_neg, if_true, if_false, reduceCtorEq, true_and, and_true, and_self, Option.toList_some, Option.toList_none, List.cons_append, List.nil_append, Int.toNat_natCast]
    · rw [rn _ (by omega)]; exact r0.fr F2 (by omega)
    · rw [rn _ (by omega)]; exact r1.fr F2 (by omega)
    · rw [re]; exact R2
    · rw [rn _ (by omega)]; exact r5.fr F2 (by omega)
    · rw [rn _ (by omega)]; exact r6.fr F2 (by omega)
