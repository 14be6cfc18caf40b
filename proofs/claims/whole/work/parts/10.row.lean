/-! heap facts -/
theorem kd_sI (h : av_H) (a k : Nat) (z : Int) (b : Nat) : kd (sI h a k z) b = kd h b := rfl
theorem kd_sR (h : av_H) (a k r b : Nat) : kd (sR h a k r) b = kd h b := rfl
theorem kd_cp (h : av_H) (a sp b dp n c : Nat) : kd (cp h a sp b dp n) c = kd h c := rfl
theorem gR_sI (h : av_H) (a k : Nat) (z : Int) (b j : Nat) : gR (sI h a k z) b j = gR h b j := rfl
theorem gR_cp (h : av_H) (a sp b dp n c j : Nat) : gR (cp h a sp b dp n) c j = gR h c j := rfl
theorem gI_sR (h : av_H) (a k r b j : Nat) : gI (sR h a k r) b j = gI h b j := rfl
theorem gI_sI (h : av_H) (a k : Nat) (z : Int) (b j : Nat) : gI (sI h a k z) b j = if b = a ∧ j = k then z else gI h b j := rfl
theorem gR_sR (h : av_H) (a k r b j : Nat) : gR (sR h a k r) b j = if b = a ∧ j = k then r else gR h b j := rfl
theorem gI_cp (h : av_H) (a sp b dp n c j : Nat) : gI (cp h a sp b dp n) c j = if c = b ∧ dp ≤ j ∧ j < dp + n then gI h a (sp + (j - dp)) else gI h c j := rfl
theorem h1_sI (h : av_H) (a k : Nat) (z : Int) : (sI h a k z).1 = h.1 := rfl
theorem h1_sR (h : av_H) (a k r : Nat) : (sR h a k r).1 = h.1 := rfl
theorem h1_cp (h : av_H) (a sp b dp n : Nat) : (cp h a sp b dp n).1 = h.1 := rfl
theorem wr_id {z : Int} (h1 : -2147483648 ≤ z) (h2 : z < 2147483648) : wr z = z := by unfold wr; omega
/-- nothing outside lo .. hi-1 has changed -/
def Fr (h h' : av_H) (lo hi : Nat) : Prop := h'.1 = h.1 ∧ (∀ a, kd h' a = kd h a) ∧ (∀ a k, a < lo ∨ hi ≤ a → gI h' a k = gI h a k) ∧ ∀ a k, a < lo ∨ hi ≤ a → gR h' a k = gR h a k
/-- a row: its letters lie in the next cell -/
def RowK (h : av_H) (r cap : Nat) : Prop := (kd h r).1 = 3 ∧ gR h r 0 = r + 1 ∧ kd h (r + 1) = (10, cap)
def RowIs (h : av_H) (r cap : Nat) (L : List Int) : Prop := RowK h r cap ∧ gI h r 1 = (L.length : Int) ∧ L.length ≤ cap ∧ ∀ i, i < L.length → gI h (r + 1) i = L.getD i 0
