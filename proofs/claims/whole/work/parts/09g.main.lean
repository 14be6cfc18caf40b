theorem mln_of {o i j ne pl : Nat} (h : (o, i, j, ne, pl) ∈ mln) : j < 159 ∧ (ne ≠ 1 → Cond.methodLink (cnm o) i (mt j).2.1 ∈ gws) := by
  have h1 := List.all_eq_true.mp mln_ok _ h
  simp only [Bool.and_eq_true, Bool.or_eq_true, decide_eq_true_eq, beq_iff_eq] at h1
  refine ⟨h1.1, fun hne => ?_⟩
  rcases h1.2 with h2 | h2
  · exact absurd h2 hne
  · exact wAt.mem h2
theorem stk_split {b S n : Nat} {st as : List av_V} (h : (st.take n).reverse = as) : st.map (enc b S) = (as.map (enc b S)).reverse ++ (st.drop n).map (enc b S) := by
  have h1 : st.take n = as.reverse := by rw [← h, List.reverse_reverse]
  rw [← List.map_reverse, ← List.map_append, ← h1, List.take_append_drop]
section CG
variable {p : Program} {l : Launch} {e : Env} {R : Room} {s : State} {mi : MethodId} {args : Array Value} {below : List Frame} {meth : Method} {c : Code} {Q : State → Prop} {b S : Nat} {D : va_G} {cI cN cW : ClassId} {sc : av_S} {m d : Nat} {h0 : av_H} {pc : Nat} {lv : av_L} {st : List av_V} {h : av_H}
set_option maxHeartbeats 4000000 in
theorem callG (C : Cx p R s mi args meth c b S D cI cN cW sc m (d + 1)) {ins raw : Instr} {len j : Nat} {as rest : List av_V} {r : Option av_V} {h1 : av_H} {lw : Bool} (hM : j < 159 → asz as ≤ mxl j → (∀ v ∈ as, okv v) → Met l (mt j).2.1 (ws_ j) (rm_ d (h1.1.1 - h.1.1) (h1.1.2 - h.1.2)) (Pc_ b S D cI cN cW as h) (Qc_ b S D cI cN cW r h1) (h1.1.1 - h.1.1) (h1.1.2 - h.1.2) (fun q => S ≤ q)) (hd : decode (mt m).2.2.1 pc = .ok (raw, len)) (hn : nrm (mcl m) (mini m) (mt m).2.2.2.2.1 lw pc raw len = some ins) (ha : act sc ins pc len lv st h = some (.inr (.inr (j, as, rest)))) (hmo : h.1.1 ≤ h1.1.1 ∧ h.1.2 ≤ h1.1.2) (hr : h1.1.1 ≤ h0.1.1 + R.cells ∧ h1.1.2 ≤ h0.1.2 + R.slots) (kk : Go p l e R s mi args below meth c Q b S D cI cN cW m h0 (pc + len) lv (r.toList ++ rest) h1) : Go p l e R s mi args below meth c Q b S D cI cN cW m h0 pc lv st h := by
  obtain ⟨hx, hb, hml, hown, hts, hK, hini, hfr, hlo, hS, hscr, hd0⟩ := C
  intro H locs cells slots ls hst hl ho T hT X
  have hsz := sz_of X hst hT
  have hst' := hst
  obtain ⟨⟨hP, hok⟩, hS0, hce, hsl, hs0⟩ := hst'
  have hpre : ∀ U : State, U.heap = H → s.WarmedH U.vm → Pc_ b S D cI cN cW as h (as.map (enc b S)).toArray U := by
    intro U hU hW
    exact ⟨rfl, by rw [hU]; exact hsz, by rw [hU]; exact ⟨hP, hok⟩, hK.warm hW⟩
  have hfit : cells + (h1.1.1 - h.1.1) ≤ R.cells ∧ slots + (h1.1.2 - h.1.2) ≤ R.slots := by omega
  have oka : ∀ {n : Nat}, (st.take n).reverse = as → ∀ v ∈ as, okv v := by
    intro n hn v hv
    rw [← hn] at hv
    exact ho v (List.mem_of_mem_take (List.mem_reverse.mp hv))
  have okr : ∀ {n : Nat}, st.drop n = rest → ∀ v ∈ rest, okv v := by
    intro n hn v hv
    rw [← hn] at hv
    exact ho v (List.mem_of_mem_drop hv)
  unfold nrm at hn
  split at hn
  case h_47 i =>
    split at hn
    · next q hq =>
      obtain ⟨j', ne, pl⟩ := q
      dsimp only at hn
      split at hn
      · next hne =>
        cases hn
        simp only [act, cl_] at ha
        split at ha
        · next hlen =>
          split at ha
          · next a r' hta =>
            split at ha
            · next hkd =>
              cases ha
              obtain ⟨hj, hlw⟩ := mln_of (fnd3_mem hq)
              have hlink := hlw (by omega)
              obtain ⟨y, bs, mx, rt, np, kn, hmt, e1, e2, e3, e4, e5, e6, e7, k0, -, -⟩ := mok_of hj
              have hkn : kn = 0 := by rw [e7]; exact hne.2
              obtain ⟨km, ki, ks⟩ := k0 hkn
              have hMj := hM hj (by rw [← hta, asz_rev]; exact hlen.2.2) (oka hta)
              rw [hmt] at hMj hlink
              dsimp only at hMj hlink
              have hc7 : mcl j < 7 := by
                by_cases hc : mcl j < 7
                · exact hc
                · exfalso
                  have h9 := hok.2.2 a (by omega)
                  have : ∀ j, j < 159 → mcl j = 7 ∨ mcl j < 7 := by decide +kernel
                  rcases this j hj with h10 | h10 <;> omega
              obtain ⟨ha1, ha2, he⟩ := hok.obj (b := b) (S := S) (cI := cI) (cN := cN) (cW := cW) hkd hc7
              have hg := ws_get (b := b) (S := S) (cI := cI) (cN := cN) (cW := cW) ha1 ha2
              rw [he] at hg
              have hrun := va_runV (g := F0 mi pc ls (st.map (enc b S))) (As := r'.map (enc b S)) (rest := (st.drop (mar j)).map (enc b S)) (b := adr b S a) (C := cnm (mcl j)) ⟨hx, hb, hml, hown, hts⟩ hMj ⟨callb (H := H) hts hfr hlo hj hmt e2 e4 e5 e6 (hts _ hlink), hts _ ki, hts _ ks⟩ ⟨blind_, va_recv hK.1 hP (vw_ok _ hc7) hg, fun U hU hW => by
                have := hpre U hU hW
                rw [List.map_cons, enc_ref (by omega)] at this
                exact this⟩ rfl (by
                  have h11 := congrArg List.length hta
                  simp only [List.length_reverse, List.length_take, List.length_cons] at h11
                  simp only [List.length_map]
                  omega) (by rw [← hl.1.1]) (by
                  show st.map (enc b S) = _
                  rw [stk_split (b := b) (S := S) hta, List.map_cons, enc_ref (by omega), List.reverse_cons, List.append_assoc]
                  rfl) (by
                  have := cat_sum (b := b) (S := S) hlen.1
                  show 2 * 0 + _ ≤ 8
                  omega) hd hfit (e := e) (below := below) (meth := meth) (locs := locs) (p := p)
              exact g_after (b := b) (S := S) (cI := cI) (cN := cN) (cW := cW) (D := D) hst hl (okr rfl) hmo hrun kk T hT X
            · cases ha
          · cases ha
        · cases ha
      · cases hn
    · cases hn
  case h_48 i =>
    split at hn
    · cases hn
      simp only [act, nx] at ha
      split at ha
      · split at ha <;> cases ha
      · cases ha
    · split at hn
      · next q hq =>
        obtain ⟨j', ne, pl⟩ := q
        dsimp only at hn
        split at hn
        · next hne =>
          cases hn
          simp only [act, cl_] at ha
          split at ha
          · next hlen =>
            split at ha
            · next a r' hta =>
              split at ha
              · next hkd =>
                cases ha
                obtain ⟨hj, hlw⟩ := mln_of (fnd3_mem hq)
                obtain ⟨y, bs, mx, rt, np, kn, hmt, e1, e2, e3, e4, e5, e6, e7, -, k1, -⟩ := mok_of hj
                have hkn : kn = 1 := by rw [e7]; exact hne.1
                obtain ⟨km, ki, ks, krt⟩ := k1 hkn
                subst krt
                have hMj := hM hj (by rw [← hta, asz_rev]; exact hlen.2.2) (oka hta)
                have hmy : (mt j).2.1 = y := by rw [hmt]
                have ha0 : a ≠ 0 := by
                  have h9 := hok.2.1 a (by omega)
                  omega
                rw [hmy] at hMj
                have hp : PreS s H (Pc_ b S D cI cN cW (.inr (.inl a) :: r') h) (.ref (adr b S a) :: r'.map (enc b S)) := ⟨blind_, fun U hU hW => by
                  have := hpre U hU hW
                  rw [List.map_cons, enc_ref ha0] at this
                  exact this⟩
                have hlenA : (r'.map (enc b S)).length = np := by
                  have h11 := congrArg List.length hta
                  simp only [List.length_reverse, List.length_take, List.length_cons] at h11
                  simp only [List.length_map]
                  omega
                have hstk : (F0 mi pc ls (st.map (enc b S))).stack = (r'.map (enc b S)).reverse ++ .ref (adr b S a) :: (st.drop (mar j)).map (enc b S) := by
                  show st.map (enc b S) = _
                  rw [stk_split (b := b) (S := S) hta, List.map_cons, enc_ref ha0, List.reverse_cons, List.append_assoc]
                  rfl
                have hcat : 2 * (F0 mi pc ls (st.map (enc b S))).monitorRoom + (((st.drop (mar j)).map (enc b S)).map fun v => v.category).sum ≤ 8 := by
                  have := cat_sum (b := b) (S := S) hlen.1
                  show 2 * 0 + _ ≤ 8
                  omega
                have hG : GoodIn gws (ws_ j) := by
                  intro w hw
                  unfold ws_ at hw
                  rw [hmt] at hw
                  rcases List.mem_cons.mp hw with rfl | hw
                  · exact ⟨e5, gws_good e5⟩
                  · exact ⟨hw, gws_good hw⟩
                have hwe : ws_ j = Cond.code y bs mx none :: gws := by unfold ws_; rw [hmt]
                have hRo : (rm_ d (h1.1.1 - h.1.1) (h1.1.2 - h.1.2)).frames + 1 ≤ R.frames ∧ 8 + (mx + 11) + (rm_ d (h1.1.1 - h.1.1) (h1.1.2 - h.1.2)).locals ≤ R.locals := by
                  have := mxl_le j hj
                  exact ⟨by rw [hfr]; exact Nat.le_refl _, by rw [hlo]; show 8 + (mx + 11) + 38 * d ≤ _; omega⟩
                have nest : ∀ {own : Nat} {host : String}, own = mcl m → va_Nw (.methodLinkNest (cnm own) i y host) s → W p l e R s mi args below meth c H locs cells slots Q (F0 mi pc ls (st.map (enc b S))) := by
                  intro own host hoe hZ
                  subst hoe
                  have hrun := va_runIN (g := F0 mi pc ls (st.map (enc b S))) (As := r'.map (enc b S)) (rest := (st.drop (mar j)).map (enc b S)) (b := adr b S a) ⟨hx, hb, hml, hown, hts⟩ hMj ⟨va_cnB np hts hG hwe rfl rfl hZ (hts _ e6) e4 hRo, ks, hts _ ki⟩ hp rfl hlenA (by rw [← hl.1.1]) hstk hcat hd hfit (e := e) (below := below) (meth := meth) (locs := locs) (p := p)
                  exact g_after (b := b) (S := S) (cI := cI) (cN := cN) (cW := cW) (D := D) hst hl (okr rfl) hmo hrun kk
                rcases hne.2 with hz | ⟨q1, q2, q3⟩ | ⟨q1, q2, q3⟩ | ⟨q1, q2, q3⟩
                · have hlink := hlw (by omega)
                  rw [hmy] at hlink
                  have hrun := va_runI (g := F0 mi pc ls (st.map (enc b S))) (As := r'.map (enc b S)) (rest := (st.drop (mar j)).map (enc b S)) (b := adr b S a) ⟨hx, hb, hml, hown, hts⟩ hMj ⟨callb (H := H) hts hfr hlo hj hmt e2 e4 e5 e6 (hts _ hlink), ks, hts _ ki⟩ hp rfl hlenA (by rw [← hl.1.1]) hstk hcat hd hfit (e := e) (below := below) (meth := meth) (locs := locs) (p := p)
                  exact g_after (b := b) (S := S) (cI := cI) (cN := cN) (cW := cW) (D := D) hst hl (okr rfl) hmo hrun kk T hT X
                · refine nest (own := 4) (host := cnm 5) q1.symm ?_ T hT X
                  rw [← hmy, q2, q3]
                  exact hK.2.2.2.1
                · refine nest (own := 0) (host := cnm 5) q1.symm ?_ T hT X
                  rw [← hmy, q2, q3]
                  exact hK.2.2.2.2.1
                · refine nest (own := 5) (host := cnm 5) q1.symm ?_ T hT X
                  rw [← hmy, q2, q3]
                  exact hK.2.2.2.2.2
              · cases ha
            · cases ha
          · cases ha
        · cases hn
      · cases hn
  case h_49 i =>
    split at hn
    · cases hn
      simp only [act, nx] at ha
      split at ha
      · split at ha <;> cases ha
      · cases ha
    · split at hn
      · next q hq =>
        obtain ⟨j', ne, pl⟩ := q
        dsimp only at hn
        split at hn
        · next hne =>
          cases hn
          simp only [act, cl_] at ha
          split at ha
          · next hlen =>
            cases ha
            obtain ⟨hj, hlw⟩ := mln_of (fnd3_mem hq)
            have hlink := hlw (by omega)
            obtain ⟨y, bs, mx, rt, np, kn, hmt, e1, e2, e3, e4, e5, e6, e7, -, -, k2⟩ := mok_of hj
            have hkn : kn = 2 := by rw [e7]; exact hne.2
            obtain ⟨km, ks⟩ := k2 hkn
            have hMj := hM hj (by rw [asz_rev]; exact hlen.2.2) (oka rfl)
            rw [hmt] at hMj hlink
            dsimp only at hMj hlink
            have hrun := va_runS (g := F0 mi pc ls (st.map (enc b S))) (As := (st.take (mar j)).reverse.map (enc b S)) (rest := (st.drop (mar j)).map (enc b S)) ⟨hx, hb, hml, hown, hts⟩ hMj ⟨callb (H := H) hts hfr hlo hj hmt e2 e4 e5 e6 (hts _ hlink), hts _ ks⟩ ⟨blind_, hpre⟩ rfl (by
                simp only [List.length_map, List.length_reverse, List.length_take]
                omega) (by rw [← hl.1.1]) (by
                show st.map (enc b S) = _
                rw [stk_split (b := b) (S := S) (n := mar j) rfl]) (by
                have := cat_sum (b := b) (S := S) hlen.1
                show 2 * 0 + _ ≤ 8
                omega) hd hfit (e := e) (below := below) (meth := meth) (locs := locs) (p := p)
            exact g_after (b := b) (S := S) (cI := cI) (cN := cN) (cW := cW) (D := D) hst hl (okr rfl) hmo hrun kk T hT X
          · cases ha
        · cases hn
      · cases hn
  all_goals (repeat' split at hn)
  all_goals first
    | (cases hn; done)
    | (cases hn
       unfold act at ha
       simp only [nx, rt, cl_] at ha
       repeat' split at ha
       all_goals first | (cases ha; done) | contradiction)
    | (cases hn
       unfold act at ha
       split at ha <;> simp only [nx, rt, cl_] at ha <;> (repeat' split at ha) <;> first | (cases ha; done) | contradiction)
end CG
