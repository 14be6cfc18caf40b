/-- a method's contract out of its run in the picture -/
theorem met_of {sc : av_S} {f d j : Nat} (IH : SND sc f) (hj : j < 159) {as : List av_V} {h h1 : av_H} {r : Option av_V} (hrun : run sc f d j 0 (ent 0 as) [] h = some (r, h1)) (hasz : asz as ≤ mxl j) (hoa : ∀ v ∈ as, okv v) (l : Launch) (b S : Nat) (D : va_G) (cI cN cW : ClassId) :
    Met l (mt j).2.1 (ws_ j) (rm_ d (h1.1.1 - h.1.1) (h1.1.2 - h.1.2)) (Pc_ b S D cI cN cW as h) (Qc_ b S D cI cN cW r h1) (h1.1.1 - h.1.1) (h1.1.2 - h.1.2) (fun q => S ≤ q) := by
  have hmo := run_mono _ _ _ _ _ _ _ _ _ hrun
  have hd0 : 0 < d := by
    cases d with
    | zero => cases f <;> simp [run] at hrun
    | succ d => omega
  obtain ⟨y, bs, mx, rt, np, kn, hmt, e1, e2, e3, e4, e5, e6, e7, -, k1, -⟩ := mok_of hj
  have hmy : (mt j).2.1 = y := by rw [hmt]
  have hmb : (mt j).2.2.1 = bs := by rw [hmt]
  have hmr : (mt j).2.2.2.2.1 = rt := by rw [hmt]
  rw [hmy]
  refine Met.ofWF (cc := bs) (maxL := mx) (ret := rt) (ws' := gws) e3 (by unfold ws_; rw [hmt]) ?_
  intro p e s m args below meth c s₁ B hml hv
  obtain ⟨rfl, hsz, hRel, hK⟩ := hv
  have hts : ∀ w ∈ gws, w.before (as.map (enc b S)).toArray s = true := fun w hw => atoms_spec (ws := ws_ j) B.pre w (List.mem_cons_of_mem _ hw)
  have C : Cx p (rm_ d (h1.1.1 - h.1.1) (h1.1.2 - h.1.2)) s m (as.map (enc b S)).toArray meth c b S D cI cN cW sc j d := by
    refine ⟨B.exec, by rw [hmb]; exact B.bytes, by rw [← e2]; exact hml, ?_, hts, hK, ?_, rfl, rfl, by rw [hsz]; exact Nat.le_add_right _ _, fun h9 => by omega, hd0⟩
    · rw [← e1]; exact findClass_of_methodNamed B.named
    · intro hini
      have h2 := (name_of_methodNamed B.named B.method).1
      rw [h2]
      refine (k1 ?_).2.2.1
      rw [e7]
      exact of_decide_eq_true hini
  have hend := IH d j 0 (ent 0 as) [] h r h1 hrun (by omega) p l e _ s m _ below meth c (MQ below (Qc_ b S D cI cN cW r h1) (as.map (enc b S)).toArray s (h1.1.1 - h.1.1) (h1.1.2 - h.1.2) (fun q => S ≤ q)) b S D cI cN cW h C (by show _ ≤ h.1.1 + (h1.1.1 - h.1.1); omega) (by show _ ≤ h.1.2 + (h1.1.2 - h.1.2); omega)
    (fun pcR len raw ins lvR stR q1 q2 q3 => retG C (by rw [hmr]; exact B.returns) B.notSynchronized q1 q2 q3 (by omega) (by omega))
  have hl0 := lv_entry (as.map (enc b S)) (n := mx) (by rw [lg_asz, e2]; exact hasz)
  rw [lg_entry_eq]
  refine hend s.heap [] 0 0 _ ⟨hRel, va_S.rf, by omega, by omega, hsz⟩ ⟨?_, ent_ok as 0 hoa⟩ (fun v hv => by cases hv)
  rw [ent_args, ← e2]
  exact hl0
theorem snd_all {sc : av_S} : ∀ f, SND sc f := by
  intro f
  induction f with
  | zero =>
    intro d m pc lv st h r hF hr
    simp [run] at hr
  | succ f ih =>
    intro d m pc lv st h r hF hr hm p l e R s mi args below meth c Q b S D cI cN cW h0 C hr1 hr2 hend
    cases d with
    | zero => simp [run] at hr
    | succ d =>
      rw [run] at hr
      cases hc : cd m pc with
      | none => simp [hc] at hr
      | some q =>
        obtain ⟨ins, len⟩ := q
        simp only [hc] at hr
        obtain ⟨raw, hde, hnr⟩ := chk_of hm hc
        cases ha : act sc ins pc len lv st h with
        | none => simp [ha] at hr
        | some x =>
          simp only [ha] at hr
          match x, hr, ha with
          | .inl (pc', lv', st', h'), hr, ha =>
            have hmo := run_mono _ _ _ _ _ _ _ _ _ hr
            exact stepG C hm hc hde hnr ha (by omega) (g_kpf (ih _ _ _ _ _ _ _ _ hr hm p l e R s mi args below meth c Q b S D cI cN cW h0 C hr1 hr2 hend))
          | .inr (.inl v), hr, ha =>
            dsimp only at hr
            cases hr
            exact hend pc len raw ins lv st hde hnr ha
          | .inr (.inr (j, as, rest)), hr, ha =>
            dsimp only at hr
            cases hq : run sc f d j 0 (ent 0 as) [] h with
            | none => simp [hq] at hr
            | some y =>
              obtain ⟨v, h'⟩ := y
              rw [hq] at hr
              have hmo := run_mono _ _ _ _ _ _ _ _ _ hr
              have hmo2 := run_mono _ _ _ _ _ _ _ _ _ hq
              exact callG C (fun hj hasz hoa => met_of ih hj hq hasz hoa l b S D cI cN cW) hde hnr ha hmo2 (by omega) (g_kpf (ih _ _ _ _ _ _ _ _ hr hm p l e R s mi args below meth c Q b S D cI cN cW h0 C hr1 hr2 hend))
