/-! any instruction that is neither a call nor a return -/
theorem sto_of {m pc len : Nat} {ins : Instr} (hm : m < 160) (hc : cd m pc = some (ins, len)) : stoB m ins = true := by
  have key : ∀ (l : List (Nat × Instr × Nat)), look l pc = some (ins, len) → (pc, ins, len) ∈ l := by
    intro l
    induction l with
    | nil => intro h; simp [look] at h
    | cons q r ih =>
      intro h
      by_cases hq : q.1 = pc
      · simp only [look, hq, if_true] at h
        obtain ⟨q1, q2⟩ := q
        dsimp only at hq h
        subst hq
        cases h
        exact List.mem_cons_self
      · simp only [look, hq, if_false] at h
        exact List.mem_cons_of_mem _ (ih h)
  have h1 := List.all_eq_true.mp (List.all_eq_true.mp sto_ok m (List.mem_range.mpr hm)) _ (key _ hc)
  exact h1
theorem chk_of {m pc len : Nat} {ins : Instr} (hm : m < 160) (hc : cd m pc = some (ins, len)) : ∃ raw, decode (mt m).2.2.1 pc = .ok (raw, len) ∧ nrm (mcl m) (mini m) (mt m).2.2.2.2.1 (decide (m = 159)) pc raw len = some ins := by
  have key : ∀ (l : List (Nat × Instr × Nat)), look l pc = some (ins, len) → (pc, ins, len) ∈ l := by
    intro l
    induction l with
    | nil => intro h; simp [look] at h
    | cons q r ih =>
      intro h
      by_cases hq : q.1 = pc
      · simp only [look, hq, if_true] at h
        obtain ⟨q1, q2⟩ := q
        dsimp only at hq h
        subst hq
        cases h
        exact List.mem_cons_self
      · simp only [look, hq, if_false] at h
        exact List.mem_cons_of_mem _ (ih h)
  have h1 : chkL (mt m).2.2.1 (mcl m) (mini m) (mt m).2.2.2.2.1 (decide (m = 159)) (ccs m) = true := chk_ok m hm
  have h2 := List.all_eq_true.mp h1 _ (key _ hc)
  dsimp only at h2
  split at h2
  next raw len' hde =>
    simp only [Bool.and_eq_true, decide_eq_true_eq] at h2
    obtain ⟨e1, e2⟩ := h2
    subst e1
    exact ⟨raw, hde, e2⟩
  next => exact absurd h2 (by decide)
theorem dm64 {c k : Nat} (h : k < 64) : (64 * c + k) / 64 = c ∧ (64 * c + k) % 64 = k := by omega
theorem nfl_lt {c : Nat} (h : c < 7) : nfl c < 64 := by
  have : ∀ c, c < 7 → nfl c < 64 := by decide
  exact this c h
section DISP
variable {p : Program} {l : Launch} {e : Env} {R : Room} {s : State} {mi : MethodId} {args : Array Value} {below : List Frame} {meth : Method} {c : Code} {Q : State → Prop} {b S : Nat} {D : va_G} {cI cN cW : ClassId} {sc : av_S} {m d : Nat} {h0 : av_H} {pc : Nat} {lv : av_L} {st : List av_V} {h : av_H}
set_option maxHeartbeats 4000000 in
theorem stepG (C : Cx p R s mi args meth c b S D cI cN cW sc m d) (hm : m < 160) {ins raw : Instr} {len pc' : Nat} {lv' : av_L} {st' : List av_V} {h' : av_H} (hc : cd m pc = some (ins, len)) (hd : decode (mt m).2.2.1 pc = .ok (raw, len)) (hn : nrm (mcl m) (mini m) (mt m).2.2.2.2.1 (decide (m = 159)) pc raw len = some ins) (ha : act sc ins pc len lv st h = some (.inl (pc', lv', st', h'))) (hr : h'.1.1 ≤ h0.1.1 + R.cells ∧ h'.1.2 ≤ h0.1.2 + R.slots) (k : Go p l e R s mi args below meth c Q b S D cI cN cW m h0 pc' lv' st' h') : Go p l e R s mi args below meth c Q b S D cI cN cW m h0 pc lv st h := by
  have hsto := sto_of hm hc
  unfold nrm at hn
  split at hn
  · next n =>
    split at hn
    · next hh =>
      cases hn
      simp only [act, nx] at ha
      cases ha
      exact g_iconst C hd (by unfold inR; omega) k
    · cases hn
  · next n =>
    split at hn
    · next hh =>
      cases hn
      simp only [act, nx] at ha
      cases ha
      exact g_bipush C hd hh k
    · cases hn
  · next n =>
    split at hn
    · next hh =>
      cases hn
      simp only [act, nx] at ha
      cases ha
      exact g_sipush C hd hh k
    · cases hn
  · next i =>
    split at hn
    · next q hq =>
      obtain ⟨q1, q2⟩ := q
      split at hn
      · next hh =>
        cases hn
        simp only [act, nx] at ha
        cases ha
        exact g_ldc C hd (fnd3_mem hq) hh k
      · cases hn
    · cases hn
  · next i =>
    split at hn
    · next q hq =>
      obtain ⟨q1, q2⟩ := q
      cases hn
      simp only [act, nx] at ha
      cases ha
      exact g_ldc2 C hd (fnd3_mem hq) k
    · cases hn
  · next i =>
    cases hn
    simp only [act, nx] at ha
    split at ha
    · next hg =>
      cases ha
      exact g_iload C hd hg k
    · cases ha
  · next i =>
    cases hn
    simp only [act, nx] at ha
    split at ha
    · next hg =>
      cases ha
      exact g_iload_n C hd hg k
    · cases ha
  · next i =>
    cases hn
    simp only [act, nx] at ha
    split at ha
    · next hg =>
      cases ha
      exact g_aload C hd hg k
    · cases ha
  · next i =>
    cases hn
    simp only [act, nx] at ha
    split at ha
    · next hg =>
      cases ha
      exact g_aload_n C hd hg k
    · cases ha
  · next i =>
    cases hn
    simp only [act, nx] at ha
    split at ha
    · next hg =>
      cases ha
      exact g_lload C hd hg k
    · cases ha
  · next i =>
    cases hn
    simp only [act, nx] at ha
    split at ha
    · next hg =>
      cases ha
      exact g_lload_n C hd hg k
    · cases ha
  · next i =>
    cases hn
    simp only [act, nx] at ha
    split at ha
    · cases ha
      exact g_istore C hd (of_decide_eq_true hsto) k
    · cases ha
  · next i =>
    cases hn
    simp only [act, nx] at ha
    split at ha
    · cases ha
      exact g_istore_n C hd (of_decide_eq_true hsto) k
    · cases ha
  · next i =>
    cases hn
    simp only [act, nx] at ha
    split at ha
    · cases ha
      exact g_astore C hd (of_decide_eq_true hsto) k
    · cases ha
  · next i =>
    cases hn
    simp only [act, nx] at ha
    split at ha
    · cases ha
      exact g_astore_n C hd (of_decide_eq_true hsto) k
    · cases ha
  · next i =>
    cases hn
    simp only [act, nx] at ha
    split at ha
    · cases ha
      exact g_lstore C hd (of_decide_eq_true hsto) k
    · cases ha
  · next i =>
    cases hn
    simp only [act, nx] at ha
    split at ha
    · cases ha
      exact g_lstore_n C hd (of_decide_eq_true hsto) k
    · cases ha
  · next i n =>
    cases hn
    simp only [act, nx] at ha
    split at ha
    · next hg =>
      cases ha
      exact g_iinc C hd hg k
    · cases ha
  · next =>
    cases hn
    simp only [act, nx] at ha
    split at ha
    · cases ha
      exact g_iadd C hd k
    · cases ha
  · next =>
    cases hn
    simp only [act, nx] at ha
    split at ha
    · cases ha
      exact g_isub C hd k
    · cases ha
  · next =>
    cases hn
    simp only [act, nx] at ha
    split at ha
    · cases ha
      exact g_imul C hd k
    · cases ha
  · next =>
    cases hn
    simp only [act, nx] at ha
    split at ha
    · split at ha
      · next hh =>
        cases ha
        exact g_irem C hd hh.1 hh.2 k
      · cases ha
    · cases ha
  · next =>
    cases hn
    simp only [act, nx] at ha
    split at ha
    · split at ha
      · next hh =>
        cases ha
        subst hh
        exact g_iand C hd k
      · cases ha
    · cases ha
  · next =>
    cases hn
    simp only [act, nx] at ha
    split at ha
    · cases ha
      exact g_ixor C hd k
    · cases ha
  · next =>
    cases hn
    simp only [act, nx] at ha
    split at ha
    · cases ha
      exact g_ladd C hd k
    · cases ha
  · next =>
    cases hn
    simp only [act, nx] at ha
    split at ha
    · cases ha
      exact g_lmul C hd k
    · cases ha
  · next =>
    cases hn
    simp only [act, nx] at ha
    split at ha
    · cases ha
      exact g_i2l C hd k
    · cases ha
  · next =>
    cases hn
    simp only [act, nx] at ha
    split at ha
    · cases ha
      exact g_lcmp C hd k
    · cases ha
  · next =>
    cases hn
    simp only [act, nx] at ha
    split at ha
    · split at ha
      · cases ha
      · next hh =>
        cases ha
        exact g_dup C hd (by simpa using hh) k
    · cases ha
  · next =>
    cases hn
    simp only [act, nx] at ha
    split at ha
    · split at ha
      · cases ha
      · next hh =>
        cases ha
        exact g_dup2 C hd (by simpa using fun q => hh (Or.inl q)) (by simpa using fun q => hh (Or.inr q)) k
    · cases ha
  · next =>
    cases hn
    simp only [act, nx] at ha
    split at ha
    · split at ha
      · cases ha
      · next hh =>
        cases ha
        exact g_pop C hd (by simpa using hh) k
    · cases ha
  · next co off =>
    split at hn
    · next hh =>
      cases hn
      cases co <;> simp only [act, nx] at ha <;> split at ha <;> first | (cases ha; done) | skip
      all_goals cases ha
      all_goals first | (refine g_if_eq C hd hh (fun q => ?_) (fun q => ?_) <;> (first | rw [if_pos q] at k | rw [if_neg q] at k) <;> exact k) | (refine g_if_ne C hd hh (fun q => ?_) (fun q => ?_) <;> (first | rw [if_pos q] at k | rw [if_neg q] at k) <;> exact k) | (refine g_if_lt C hd hh (fun q => ?_) (fun q => ?_) <;> (first | rw [if_pos q] at k | rw [if_neg q] at k) <;> exact k) | (refine g_if_le C hd hh (fun q => ?_) (fun q => ?_) <;> (first | rw [if_pos q] at k | rw [if_neg q] at k) <;> exact k) | (refine g_if_gt C hd hh (fun q => ?_) (fun q => ?_) <;> (first | rw [if_pos q] at k | rw [if_neg q] at k) <;> exact k) | (refine g_if_ge C hd hh (fun q => ?_) (fun q => ?_) <;> (first | rw [if_pos q] at k | rw [if_neg q] at k) <;> exact k)
    · cases hn
  · next co off =>
    split at hn
    · next hh =>
      cases hn
      cases co <;> simp only [act, nx] at ha <;> split at ha <;> first | (cases ha; done) | skip
      all_goals cases ha
      all_goals first | (refine g_ic_eq C hd hh (fun q => ?_) (fun q => ?_) <;> (first | rw [if_pos q] at k | rw [if_neg q] at k) <;> exact k) | (refine g_ic_ne C hd hh (fun q => ?_) (fun q => ?_) <;> (first | rw [if_pos q] at k | rw [if_neg q] at k) <;> exact k) | (refine g_ic_lt C hd hh (fun q => ?_) (fun q => ?_) <;> (first | rw [if_pos q] at k | rw [if_neg q] at k) <;> exact k) | (refine g_ic_le C hd hh (fun q => ?_) (fun q => ?_) <;> (first | rw [if_pos q] at k | rw [if_neg q] at k) <;> exact k) | (refine g_ic_gt C hd hh (fun q => ?_) (fun q => ?_) <;> (first | rw [if_pos q] at k | rw [if_neg q] at k) <;> exact k) | (refine g_ic_ge C hd hh (fun q => ?_) (fun q => ?_) <;> (first | rw [if_pos q] at k | rw [if_neg q] at k) <;> exact k)
    · cases hn
  · next off =>
    split at hn
    · next hh =>
      cases hn
      simp only [act, nx] at ha
      cases ha
      exact g_goto C hd hh k
    · cases hn
  · next dd lo hi offs =>
    split at hn
    · next hh =>
      cases hn
      simp only [act, nx] at ha
      split at ha
      · cases ha
        exact g_table C hd hh.1 hh.2.1 hh.2.2 k
      · cases ha
    · cases hn
  · next dd ps =>
    split at hn
    · next hh =>
      cases hn
      simp only [act, nx] at ha
      split at ha
      · cases ha
        exact g_lookup C hd hh.1 hh.2.1 hh.2.2 k
      · cases ha
    · cases hn
  · next i =>
    split at hn
    · next q hq =>
      obtain ⟨ci, kf, pl⟩ := q
      obtain ⟨hc7, hkn, -⟩ := fln_of (fnd3_mem hq)
      have hk64 : kf < 64 := Nat.lt_trans hkn (nfl_lt hc7)
      obtain ⟨e1, e2⟩ := dm64 (c := ci) hk64
      dsimp only at hn
      cases hrf : rfl_ ci kf with
      | true =>
        rw [hrf, if_pos rfl] at hn
        cases hn
        simp only [act, nx, e1, e2] at ha
        split at ha
        · split at ha
          · next hh =>
            cases ha
            refine g_getF C hd (fnd3_mem hq) hh ?_ ?_ k
            · unfold fv; rw [hrf]; rfl
            · exact fun _ => trivial
          · cases ha
        · cases ha
      | false =>
        rw [hrf, if_neg (by decide)] at hn
        cases hn
        simp only [act, nx, e1, e2] at ha
        split at ha
        · split at ha
          · next hh =>
            cases ha
            refine g_getF C hd (fnd3_mem hq) hh ?_ ?_ k
            · unfold fv; rw [hrf]; rfl
            · exact fun q => q.1 _ _
          · cases ha
        · cases ha
    · cases hn
  · next i =>
    split at hn
    · next q hq =>
      obtain ⟨ci, kf, pl⟩ := q
      obtain ⟨hc7, hkn, -⟩ := fln_of (fnd3_mem hq)
      have hk64 : kf < 64 := Nat.lt_trans hkn (nfl_lt hc7)
      obtain ⟨e1, e2⟩ := dm64 (c := ci) hk64
      obtain ⟨t1, t2⟩ := rfl_ty ci hc7 kf hkn
      dsimp only at hn
      split at hn
      · next hfin =>
        cases hrf : rfl_ ci kf with
        | true =>
          rw [hrf, if_pos rfl] at hn
          cases hn
          have t3 := t2 hrf
          simp only [act, nx, e1, e2] at ha
          split at ha
          · next r a _ =>
            split at ha
            · next hh =>
              cases ha
              refine g_putF C hd (fnd3_mem hq) hfin hh (h' := sR h a kf r) ?_ ?_ ?_ ?_ (fun _ => rfl) rfl (fun q hq => eE_sR hq) (fun q _ => q.sR) k
              · cases hty : fty ci kf <;> rw [hty] at t3 <;> first | rfl | (exact absurd t3 (by decide))
              · cases hty : fty ci kf <;> rw [hty] at t3 <;> first | (exact absurd t3 (by decide)) | (by_cases hr0 : r = 0 <;> simp [enc, orf, va_rf, hr0, fits])
              · unfold fv
                rw [hrf, if_pos rfl]
                show va_rf (orf b S (if a = a ∧ kf = kf then r else gR h a kf)) = _
                rw [if_pos ⟨rfl, rfl⟩]
                rfl
              · intro j hj
                unfold fv
                show (if rfl_ ci j = true then va_rf (orf b S (if a = a ∧ j = kf then r else gR h a j)) else Value.int (Int32.ofInt (gI h a j))) = _
                rw [if_neg (show ¬ (a = a ∧ j = kf) from fun q => hj q.2)]
            · cases ha
          · cases ha
        | false =>
          rw [hrf, if_neg (by decide)] at hn
          have hset : ∀ (a : Nat) (z : Int), fv b S (sI h a kf z) ci a kf = enc b S (.inl z) := by
            intro a z
            unfold fv
            rw [hrf, if_neg (by decide)]
            show Value.int (Int32.ofInt (if a = a ∧ kf = kf then z else gI h a kf)) = _
            rw [if_pos ⟨rfl, rfl⟩]
            rfl
          have hoth : ∀ (a : Nat) (z : Int), ∀ j, j ≠ kf → fv b S (sI h a kf z) ci a j = fv b S h ci a j := by
            intro a z j hj
            unfold fv
            show (if rfl_ ci j = true then va_rf (orf b S (gR h a j)) else Value.int (Int32.ofInt (if a = a ∧ j = kf then z else gI h a j))) = _
            rw [if_neg (show ¬ (a = a ∧ j = kf) from fun q => hj q.2)]
          split at hn
          · next hbo =>
            cases hn
            simp only [act, nx, e1, e2] at ha
            split at ha
            · next z a _ =>
              split at ha
              · next hh =>
                cases ha
                refine g_putF C hd (fnd3_mem hq) hfin hh.1 (v := .inl z) (h' := sI h a kf z) ?_ ?_ (hset a z) (hoth a z) (fun _ => rfl) rfl (fun q hq => eE_sI hq) (fun q w => q.sI w) k
                · rw [hbo]
                  rcases hh.2 with rfl | rfl <;> rfl
                · rw [hbo]
                  rcases hh.2 with rfl | rfl <;> rfl
              · cases ha
            · cases ha
          · next hbo =>
            cases hn
            have hint : fty ci kf = .int := by
              rcases t1 hrf with t | t
              · exact t
              · exact absurd t hbo
            simp only [act, nx, e1, e2] at ha
            split at ha
            · next z a _ =>
              split at ha
              · next hh =>
                cases ha
                refine g_putF C hd (fnd3_mem hq) hfin hh (v := .inl z) (h' := sI h a kf z) ?_ ?_ (hset a z) (hoth a z) (fun _ => rfl) rfl (fun q hq => eE_sI hq) (fun q w => q.sI w) k
                · rw [hint]; rfl
                · rw [hint]; rfl
              · cases ha
            · cases ha
      · cases hn
    · cases hn
  · next =>
    cases hlw : decide (m = 159) with
    | true =>
      rw [hlw, if_pos rfl] at hn
      cases hn
      simp only [act, nx] at ha
      split at ha
      · split at ha
        · next hh =>
          cases ha
          obtain ⟨ha1, hh1, hh2⟩ := hh
          subst ha1
          exact g_baload C (of_decide_eq_true hlw) hd hh1 hh2 k
        · cases ha
      · cases ha
    | false =>
      rw [hlw, if_neg (by decide)] at hn
      cases hn
      simp only [act, nx] at ha
      split at ha
      · split at ha
        · next hh =>
          cases ha
          exact g_iaload C hd hh.1 hh.2.1 hh.2.2 k
        · cases ha
      · cases ha
  · next =>
    cases hn
    simp only [act, nx] at ha
    split at ha
    · split at ha
      · next hh =>
        cases ha
        exact g_iastore C hd hh.1 hh.2.1 hh.2.2 k
      · cases ha
    · cases ha
  · next =>
    cases hn
    simp only [act, nx] at ha
    split at ha
    · split at ha
      · next hh =>
        cases ha
        exact g_aaload C hd hh.1 hh.2.1 hh.2.2 k
      · cases ha
    · cases ha
  · next =>
    cases hn
    simp only [act, nx] at ha
    split at ha
    · split at ha
      · next hh =>
        cases ha
        exact g_aastore C hd hh.1 hh.2.1 hh.2.2 k
      · cases ha
    · cases ha
  · next =>
    cases hlw : decide (m = 159) with
    | true =>
      rw [hlw, if_pos rfl] at hn
      cases hn
      simp only [act, nx] at ha
      split at ha
      · split at ha
        · next hh =>
          cases ha
          subst hh
          exact g_athrow C (of_decide_eq_true hlw) hd k
        · cases ha
      · cases ha
    | false =>
      rw [hlw, if_neg (by decide)] at hn
      cases hn
      simp only [act, nx] at ha
      split at ha
      · split at ha
        · next hh =>
          cases ha
          exact g_arraylength C hd hh k
        · cases ha
      · cases ha
  · next i =>
    split at hn
    · next q hq =>
      obtain ⟨ci, pl⟩ := q
      cases hn
      simp only [act, nx] at ha
      cases ha
      exact g_new C hd (fnd3_mem hq) hr k
    · cases hn
  · next =>
    cases hn
    simp only [act, nx] at ha
    split at ha
    · split at ha
      · next hh =>
        cases ha
        exact g_newarray C hd hh.1 hh.2 hr k
      · cases ha
    · cases ha
  · next i =>
    split at hn
    · next q hq =>
      obtain ⟨ci, pl⟩ := q
      dsimp only at hn
      split at hn
      · next hci =>
        cases hn
        simp only [act, nx] at ha
        split at ha
        · split at ha
          · next hh =>
            cases ha
            exact g_anewarray C hd (fnd3_mem hq) hci hh.1 hh.2 hr k
          · cases ha
        · cases ha
      · cases hn
    · cases hn
  · next i =>
    split at hn
    · next q hq =>
      split at hn
      · cases hn
        simp only [act, cl_] at ha
        split at ha
        · split at ha
          · split at ha <;> cases ha
          · cases ha
        · cases ha
      · cases hn
    · cases hn
  · next i =>
    split at hn
    · next q hq =>
      cases hn
      simp only [act, nx] at ha
      split at ha
      · split at ha
        · next hh =>
          cases ha
          exact g_objinit C hd (fnd3_mem hq) hh.1 hh.2 k
        · cases ha
      · cases ha
    · split at hn
      · next q hq =>
        split at hn
        · cases hn
          simp only [act, cl_] at ha
          split at ha
          · split at ha
            · split at ha <;> cases ha
            · cases ha
          · cases ha
        · cases hn
      · cases hn
  · next i =>
    split at hn
    · next q hq =>
      cases hn
      simp only [act, nx] at ha
      split at ha
      · split at ha
        · next hh =>
          cases ha
          exact g_copy C hd (fnd3_mem hq) hh.1.1 hh.1.2 hh.2.1.1 hh.2.1.2.1 hh.2.1.2.2 hh.2.2.1 hh.2.2.2.1 hh.2.2.2.2 k
        · cases ha
      · cases ha
    · split at hn
      · next q hq =>
        split at hn
        · cases hn
          simp only [act, cl_] at ha
          split at ha <;> cases ha
        · cases hn
      · cases hn
  · next =>
    split at hn
    · cases hn
      simp only [act, rt] at ha
      split at ha <;> cases ha
    · split at hn
      · cases hn
        simp only [act, rt] at ha
        split at ha
        · split at ha <;> cases ha
        · cases ha
      · cases hn
  · next =>
    split at hn
    · cases hn
      simp only [act, rt] at ha
      split at ha <;> cases ha
    · cases hn
  · next =>
    split at hn
    · cases hn
      simp only [act, rt] at ha
      split at ha <;> cases ha
    · cases hn
  · next =>
    split at hn
    · cases hn
      simp only [act, rt] at ha
      split at ha <;> cases ha
    · cases hn
  · cases hn
end DISP
