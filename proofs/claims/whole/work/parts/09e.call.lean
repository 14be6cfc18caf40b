/-! calls, returns, and the whole run -/
set_option maxHeartbeats 4000000 in
theorem act_mono {sc : av_S} {ins : Instr} {pc len pc' : Nat} {lv lv' : av_L} {st st' : List av_V} {h h' : av_H} (ha : act sc ins pc len lv st h = some (.inl (pc', lv', st', h'))) : h.1.1 ≤ h'.1.1 ∧ h.1.2 ≤ h'.1.2 := by
  unfold act at ha
  split at ha
  all_goals (try simp only [nx, rt, cl_] at ha)
  all_goals (repeat' split at ha)
  all_goals first | (cases ha; exact ⟨Nat.le_refl _, Nat.le_refl _⟩) | (cases ha; exact ⟨Nat.le_succ _, Nat.le_add_right _ _⟩) | cases ha
theorem run_mono {sc : av_S} : ∀ (f d m pc : Nat) (lv : av_L) (st : List av_V) (h : av_H) (r : Option av_V) (hF : av_H), run sc f d m pc lv st h = some (r, hF) → h.1.1 ≤ hF.1.1 ∧ h.1.2 ≤ hF.1.2 := by
  intro f
  induction f with
  | zero => intro d m pc lv st h r hF hr; simp [run] at hr
  | succ f ih =>
    intro d m pc lv st h r hF hr
    cases d with
    | zero => simp [run] at hr
    | succ d =>
      rw [run] at hr
      cases hc : cd m pc with
      | none => simp [hc] at hr
      | some q =>
        obtain ⟨ins, len⟩ := q
        simp only [hc] at hr
        cases ha : act sc ins pc len lv st h with
        | none => simp [ha] at hr
        | some x =>
          simp only [ha] at hr
          match x, hr, ha with
          | .inl (pc', lv', st', h'), hr, ha =>
            have h1 := ih _ _ _ _ _ _ _ _ hr
            have h2 := act_mono ha
            omega
          | .inr (.inl v), hr, ha =>
            dsimp only at hr
            cases hr
            exact ⟨Nat.le_refl _, Nat.le_refl _⟩
          | .inr (.inr (j, as, rest)), hr, ha =>
            dsimp only at hr
            cases hq : run sc f d j 0 (ent 0 as) [] h with
            | none => simp [hq] at hr
            | some y =>
              obtain ⟨v, h'⟩ := y
              rw [hq] at hr
              have h1 := ih _ _ _ _ _ _ _ _ hr
              have h2 := ih _ _ _ _ _ _ _ _ hq
              omega
theorem gws_good {w : Cond} (h : w ∈ gws) : (w.onTables && w.keeps) = true ∨ ∃ ty, w = .arrayClass ty := good_of_word (List.mem_filter.mp h).2
def ws_ (j : Nat) : List Cond := .code (mt j).2.1 (mt j).2.2.1 (mt j).2.2.2.1 (mt j).2.2.2.2.1 :: gws
def rm_ (d mc ms : Nat) : Room := { frames := d, cells := mc, slots := ms, locals := 38 * d }
def Pc_ (b S : Nat) (D : va_G) (cI cN cW : ClassId) (as : List av_V) (h : av_H) : Array Value → State → Prop := va_Pc (as.map (enc b S)) (fun U => U.heap.size = S + h.1.1 ∧ Rel b S D cI cN cW h U.heap ∧ KK D cI cN cW U)
def Qc_ (b S : Nat) (D : va_G) (cI cN cW : ClassId) (r : Option av_V) (h1 : av_H) : Array Value → State → Outcome → State → Prop := fun _ st o t => o = .returned (r.map (enc b S)) ∧ Rel b S D cI cN cW h1 t.heap ∧ va_F (fun q => S ≤ q) st t ∧ ∀ v, r = some v → okv v
theorem mok_of {j : Nat} (hj : j < 159) : ∃ y bs mx rt np kn, mt j = (mcl j, y, bs, mx, rt, np, kn) ∧ y.cls = cnm (mcl j) ∧ mx = mxl j ∧ plainFor y = true ∧ (y.cls ≠ "java/lang/invoke/MethodHandle" ∧ y.cls ≠ "java/lang/invoke/VarHandle" ∧ (parseMethodDescriptor y.desc).map (fun d => d.parameters.length) = some np) ∧ Cond.code y bs mx rt ∈ gws ∧ Cond.initialized y.cls ∈ gws ∧ kn = (mtab.getD j (99, "", "", 0, 0)).2.2.2.2 ∧ (kn = 0 → mar j = np + 1 ∧ Cond.instanceMethod y ∈ gws ∧ Cond.selects (cnm (mcl j)) y y ∈ gws) ∧ (kn = 1 → mar j = np + 1 ∧ Cond.instanceMethod y ∈ gws ∧ y.name = "<init>" ∧ rt = none) ∧ (kn = 2 → mar j = np ∧ Cond.static y ∈ gws) := by
  have h := mok_ok j hj
  unfold mok at h
  rcases hmt : mtab.getD j (99, "", "", 0, 0) with ⟨cl, nm, ds, np, kn⟩
  rcases hmp : mpl.getD j (0, 0, 0) with ⟨p1, p2, p3⟩
  rw [hmt, hmp] at h
  dsimp only at h
  cases hlk : lw_tbl[p1]? with
  | none => rw [hlk] at h; cases h
  | some w =>
    rw [hlk] at h
    cases w with
    | code y bs mx rt =>
      simp only [Bool.and_eq_true, decide_eq_true_eq] at h
      obtain ⟨e1, e2, e3, e4, e5, e6, e7⟩ := h
      subst e2
      have e8 : y.cls = cnm (mcl j) := by rw [e1]
      refine ⟨y, bs, mx, rt, np, kn, ?_, e8, e3, e4, e5, inG p1 hlk rfl, by rw [e8]; exact wAt.mem e6, rfl, ?_, ?_, ?_⟩
      · unfold mt
        rw [hmt, hmp]
        dsimp only
        rw [if_neg (by omega), hlk]
      · rintro rfl
        simp only [Bool.and_eq_true, decide_eq_true_eq] at e7
        exact ⟨e7.1, wAt.mem e7.2.1, wAt.mem e7.2.2⟩
      · rintro rfl
        simp only [Bool.and_eq_true, decide_eq_true_eq] at e7
        exact ⟨e7.1, wAt.mem e7.2.1, e7.2.2.1, e7.2.2.2⟩
      · rintro rfl
        simp only [Bool.and_eq_true, decide_eq_true_eq] at e7
        exact ⟨e7.1, wAt.mem e7.2⟩
    | _ => cases h
theorem mxl_le : ∀ j, j < 159 → mxl j ≤ 19 := by decide +kernel
theorem asz_app (a b : List av_V) : asz (a ++ b) = asz a + asz b := by
  induction a with
  | nil => simp [asz]
  | cons v r ih => simp only [List.cons_append, asz, ih]; omega
theorem asz_rev (a : List av_V) : asz a.reverse = asz a := by
  induction a with
  | nil => rfl
  | cons v r ih => simp only [List.reverse_cons, asz_app, ih, asz]; omega
theorem lg_asz (b S : Nat) (as : List av_V) : (lg_sl (as.map (enc b S))).length = asz as := by
  induction as with
  | nil => rfl
  | cons v r ih =>
    simp only [lg_sl, List.map_cons, List.flatMap_cons, List.length_append, asz] at ih ⊢
    rw [ih, enc_cat]
    cases isL v <;> rfl
theorem ent_args (b S : Nat) : ∀ (as : List av_V) (i : Nat), (ent i as).map (fun q => (q.1, enc b S q.2)) = lv_args i (as.map (enc b S)) := by
  intro as
  induction as with
  | nil => intro i; rfl
  | cons v r ih =>
    intro i
    simp only [ent, List.map_cons, lv_args, enc_cat]
    rw [ih]
    cases isL v <;> rfl
theorem ent_ok : ∀ (as : List av_V) (i : Nat), (∀ v ∈ as, okv v) → ∀ q ∈ ent i as, okv q.2 := by
  intro as
  induction as with
  | nil => intro i _ q hq; cases hq
  | cons v r ih =>
    intro i ho q hq
    simp only [ent] at hq
    rcases List.mem_cons.mp hq with rfl | hq
    · exact ho _ List.mem_cons_self
    · exact ih _ (fun w hw => ho w (List.mem_cons_of_mem _ hw)) q hq
theorem Met.ofWF {l : Launch} {y : MethodName} {ws ws' : List Cond} {rm : Room} {Pc : Array Value → State → Prop} {Qc : Array Value → State → Outcome → State → Prop} {mc ms : Nat} {free : Addr → Prop} {cc : ByteArray} {maxL : Nat} {ret : Option FieldType}
    (hy : plainFor y = true) (hw : ws = Cond.code y cc maxL ret :: ws')
    (body : ∀ p e s m args below meth c s₁, BodyLoose p l y (headSpec ws rm) cc maxL ret e s m args below meth c s₁ → c.maxLocals = maxL → Pc args s →
      W p l e (headSpec ws rm).room s m args below meth c s.heap [] 0 0 (MQ below Qc args s mc ms free) (entryFrame m args maxL)) : Met l y ws rm Pc Qc mc ms free := by
  refine MetFree.of_bodySF (code := cc) (maxLocals := maxL) (ret := ret) hy ?_ ?_
  · intro args s m h hn
    obtain ⟨meth, c, h1, h2, h3, h4, h5, h6, -, -⟩ := Cond.code_spec hn (atoms_spec (ws := ws) h _ (by rw [hw]; exact List.mem_cons_self))
    exact ⟨meth, c, h1, h2, h3, h4, h5, h6⟩
  · intro p e s m args below meth c s₁ B hml hP _
    have hh0 : s₁.heap = s.heap := by rw [B.state]; rfl
    obtain ⟨t, a1, o, b1, b2, b3⟩ := body p e s m args below meth c s₁ B hml hP s₁ hh0 (Stand.of_body B)
    exact ⟨t, o, a1, b1, b2, ⟨b3.1, b3.2⟩⟩
section CAL
variable {p : Program} {l : Launch} {e : Env} {R : Room} {s : State} {mi : MethodId} {args : Array Value} {below : List Frame} {meth : Method} {c : Code} {Q : State → Prop} {b S : Nat} {D : va_G} {cI cN cW : ClassId} {sc : av_S} {m d : Nat} {h0 : av_H} {pc : Nat} {lv : av_L} {st : List av_V} {h : av_H}
theorem av_call {H : Heap} {locs : List Loc} {cells slots mc ms : Nat} {ls : Array Slot} {st0 rest : List Value} {Qa : State → Outcome → State → Prop} {free : Addr → Prop} (hr : va_Run p l e R s mi args below meth c H locs cells slots mc ms (F0 mi pc ls st0) rest Qa free)
    (kk : ∀ (v : Option Value) (st₀ t : State) (L : List Loc), st₀.heap = H → Qa st₀ (.returned v) t → (∀ q ∈ L, free q.base) → W p l e R s mi args below meth c t.heap (locs ++ L) (cells + mc) (slots + ms) Q (F0 mi (pc + 3) ls (v.toList ++ rest))) : W p l e R s mi args below meth c H locs cells slots Q (F0 mi pc ls st0) := by
  intro T hT X
  obtain ⟨v, st₀, t, T', L, h0', X', hL, e1, e2, hq, stp⟩ := hr T hT X
  obtain ⟨t2, a1, b1⟩ := kk v st₀ t L h0' hq hL T' e1 X'
  exact ⟨t2, stp t2 a1, b1⟩
/-- behind a call -/
theorem g_after {H : Heap} {locs : List Loc} {cells slots : Nat} {ls : Array Slot} {st0 : List Value} {rest : List av_V} {r : Option av_V} {h1 : av_H} {as : Array Value} (hst : St s b S D cI cN cW h0 h H locs cells slots) (hl : Lv b S m ls lv) (ho : ∀ v ∈ rest, okv v) (hmo : h.1.1 ≤ h1.1.1 ∧ h.1.2 ≤ h1.1.2) (hr : va_Run p l e R s mi args below meth c H locs cells slots (h1.1.1 - h.1.1) (h1.1.2 - h.1.2) (F0 mi pc ls st0) (rest.map (enc b S)) (Qc_ b S D cI cN cW r h1 as) (fun q => S ≤ q)) (kk : Go p l e R s mi args below meth c Q b S D cI cN cW m h0 (pc + 3) lv (r.toList ++ rest) h1) : W p l e R s mi args below meth c H locs cells slots Q (F0 mi pc ls st0) := by
  obtain ⟨⟨hP, hok⟩, hS0, hce, hsl, hs0⟩ := hst
  refine av_call hr ?_
  rintro v st₀ t L e0 ⟨hv, hRel, hF, hov⟩ hL
  cases hv
  have e1 : (r.map (enc b S)).toList ++ rest.map (enc b S) = (r.toList ++ rest).map (enc b S) := by
    cases r <;> rfl
  rw [e1]
  refine kk t.heap (locs ++ L) _ _ ls ⟨hRel, ⟨?_, ?_, ?_⟩, by omega, by omega, hs0⟩ hl ?_
  · have h2 := hF.1
    rw [e0] at h2
    exact Nat.le_trans hS0.1 h2
  · intro q q1 q2
    have h2 := hF.2 q (by rw [e0]; exact Nat.lt_of_lt_of_le q1 hS0.1) q2
    rw [h2, e0]
    exact hS0.2.1 q q1 q2
  · intro q hq
    rcases List.mem_append.mp hq with hq | hq
    · exact hS0.2.2 q hq
    · exact hL q hq
  · intro v hv
    rcases List.mem_append.mp hv with hv | hv
    · cases r with
      | none => cases hv
      | some w =>
        rw [show v = w by simpa using hv]
        exact hov w rfl
    · exact ho v hv
theorem blind_ {as : List av_V} : FrameBlind (Pc_ b S D cI cN cW as h) := by
  rintro a U g mk ⟨q1, q2, q3, q4⟩
  exact ⟨q1, q2, q3, KK.same rfl q4⟩
theorem callb {H : Heap} {j idx : Nat} {y : MethodName} {bs : ByteArray} {mx : Nat} {rt : Option FieldType} {np kn mc ms : Nat} (hts : ∀ w ∈ gws, w.before args s = true) (hfr : R.frames = d + 1) (hlo : R.locals = 38 * (d + 1)) (hj : j < 159) (hmt : mt j = (mcl j, y, bs, mx, rt, np, kn)) (hmx : mx = mxl j) (hd3 : y.cls ≠ "java/lang/invoke/MethodHandle" ∧ y.cls ≠ "java/lang/invoke/VarHandle" ∧ (parseMethodDescriptor y.desc).map (fun d => d.parameters.length) = some np) (hcw : Cond.code y bs mx rt ∈ gws) (hiw : Cond.initialized y.cls ∈ gws) {own : String} (hl : (Cond.methodLink own idx y).before args s = true) :
    CallB R s args own idx y bs mx rt (ws_ j) (rm_ d mc ms) mc ms np := by
  have hm := mxl_le j hj
  refine callB_of np hts (Ts := gws) (ws' := gws) ?_ ?_ rfl rfl (hts _ hiw) hl hd3 ⟨by rw [hfr]; exact Nat.le_refl _, by rw [hlo]; show 8 + (mx + 11) + 38 * d ≤ _; omega⟩
  · intro w hw
    unfold ws_ at hw
    rw [hmt] at hw
    rcases List.mem_cons.mp hw with rfl | hw
    · exact ⟨hcw, gws_good hcw⟩
    · exact ⟨hw, gws_good hw⟩
  · unfold ws_
    rw [hmt]
end CAL
