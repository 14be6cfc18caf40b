/-! heap facts -/
theorem kd_sI (h : av_H) (a k : Nat) (z : Int) (b : Nat) : kd (sI h a k z) b = kd h b := rfl
theorem kd_sR (h : av_H) (a k r b : Nat) : kd (sR h a k r) b = kd h b := rfl
theorem kd_cp (h : av_H) (a sp b dp n c : Nat) : kd (cp h a sp b dp n) c = kd h c := rfl
theorem gR_sI (h : av_H) (a k : Nat) (z : Int) (b j : Nat) : gR (sI h a k z) b j = gR h b j := rfl
theorem gR_cp (h : av_H) (a sp b dp n c j : Nat) : gR (cp h a sp b dp n) c j = gR h c j := rfl
theorem gI_sR (h : av_H) (a k r b j : Nat) : gI (sR h a k r) b j = gI h b j := rfl
theorem gI_sI (h : av_H) (a k : Nat) (z : Int) (b j : Nat) : gI (sI h a k z) b j = if b = a ∧ j = k then z else gI h b j := rfl
theorem gR_sR (h : av_H) (a k r b j : Nat) : gR (sR h a k r) b j = if b = a ∧ j = k then r else gR h b j := rfl
theorem gI_cp (h : av_H) (a sp b dp n c j : Nat) : gI (cp h a sp b dp n) c j = if c = b ∧ dp ≤ j ∧ j < dp + n then gI h a (sp + (j - dp)) else gI h c j := rfl
theorem h1_sI (h : av_H) (a k : Nat) (z : Int) : (sI h a k z).1 = h.1 := rfl
theorem h1_sR (h : av_H) (a k r : Nat) : (sR h a k r).1 = h.1 := rfl
theorem h1_cp (h : av_H) (a sp b dp n : Nat) : (cp h a sp b dp n).1 = h.1 := rfl
theorem wr_id {z : Int} (h1 : -2147483648 ≤ z) (h2 : z < 2147483648) : wr z = z := by unfold wr; omega
/-- nothing outside lo .. hi-1 has changed -/
def Fr (h h' : av_H) (lo hi : Nat) : Prop := h'.1 = h.1 ∧ (∀ a, kd h' a = kd h a) ∧ (∀ a k, a < lo ∨ hi ≤ a → gI h' a k = gI h a k) ∧ ∀ a k, a < lo ∨ hi ≤ a → gR h' a k = gR h a k
/-- a row: its letters lie in the next cell -/
def RowK (h : av_H) (r cap : Nat) : Prop := (kd h r).1 = 3 ∧ gR h r 0 = r + 1 ∧ kd h (r + 1) = (10, cap)
def RowIs (h : av_H) (r cap : Nat) (L : List Int) : Prop := RowK h r cap ∧ gI h r 1 = (L.length : Int) ∧ L.length ≤ cap ∧ ∀ i, i < L.length → gI h (r + 1) i = L.getD i 0
theorem row_at {sc : av_S} {d : Nat} {h : av_H} {r cap : Nat} {L : List Int} {i : Int} (H : RowIs h r cap L) : Rn sc (d + 1) 26 [.inr (.inl r), .inl i] h (some (.inl (if 0 ≤ i ∧ i < (L.length : Int) then L.getD i.toNat 0 else -1))) h := by
  apply WP.rn
  obtain ⟨⟨hk, hr, hk2⟩, hs, hc, hv⟩ := H
  show WP sc (d + 1) 26 0 [(0, .inr (.inl r)), (1, .inl i)] [] h _
  simp only [u26_0, u26_1, u26_4, u26_5, u26_6, u26_9, u26_12, u26_13, u26_16, u26_17, u26_18, u26_21, u26_22, hk, hr, hk2, hs, true_and, and_true]
  trace_state
  sorry
theorem row_put {sc : av_S} {d : Nat} {h : av_H} {r cap : Nat} {L : List Int} {v : Int} (H : RowIs h r cap L) (hL : L.length < cap) (hcap : cap < 100000) : ∃ h', Rn sc (d + 1) 27 [.inr (.inl r), .inl v] h none h' ∧ RowIs h' r cap (L ++ [v]) ∧ Fr h h' r (r + 2) := by
  obtain ⟨⟨hk, hr, hk2⟩, hs, hc, hv⟩ := H
  have hl2 : (L.length : Int) < (cap : Int) := by omega
  refine ⟨sI (sI h (r + 1) L.length v) r 1 (L.length + 1), WP.rn ?_, ?_, ?_⟩
  · show WP sc (d + 1) 27 0 [(0, .inr (.inl r)), (1, .inl v)] [] h _
    simp only [u27_0, u27_1, u27_4, u27_5, u27_8, u27_9, u27_12, u27_13, u27_16, u27_17, u27_20, u27_21, u27_22, u27_23, u27_24, u27_27, u27_28, u27_29, u27_32, hk, hr, hk2, hs, true_and, and_true, kd_sI, gR_sI, gI_sI]
    trace_state
    sorry
  · sorry
  · sorry
theorem row_takeFirst {sc : av_S} {d : Nat} {h : av_H} {r cap : Nat} {x : Int} {L : List Int} (H : RowIs h r cap (x :: L)) (hcap : cap < 100000) : ∃ h', Rn sc (d + 1) 28 [.inr (.inl r)] h (some (.inl x)) h' ∧ RowIs h' r cap L ∧ Fr h h' r (r + 2) := by
  obtain ⟨⟨hk, hr, hk2⟩, hs, hc, hv⟩ := H
  refine ⟨cp (sI h r 1 L.length) (r + 1) 1 (r + 1) 0 L.length, WP.rn ?_, ?_, ?_⟩
  · show WP sc (d + 1) 28 0 [(0, .inr (.inl r))] [] h _
    simp only [u28_0, u28_1, u28_4, u28_7, u28_8, u28_9, u28_10, u28_13, u28_14, u28_15, u28_16, u28_17, u28_18, u28_21, u28_22, u28_23, u28_26, u28_27, u28_30, u28_31, u28_32, u28_35, u28_36, u28_37, u28_40, u28_43, u28_44, hk, hr, hk2, hs, true_and, and_true, kd_sI, gR_sI, gI_sI]
    trace_state
    sorry
  · sorry
  · sorry
