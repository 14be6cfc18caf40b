/-! the class and the reference side by side -/
theorem MG.fr {h h' : av_H} (G : MG h h' 980) : Fr h h' 980 986 := ⟨G.1, fun a => congrFun G.2.1 a, fun a k e => congrFun (G.2.2.2 a e) k, fun a k _ => congrFun (congrFun G.2.2.1 a) k⟩
theorem CB.fr {h h' : av_H} {s : SS} (S : CB h s) (F : Fr h h' 980 986) : CB h' s := by
  obtain ⟨K, C, a1, B, R, p, o, T⟩ := S
  exact ⟨K.fr F (by omega), C.fr F (by omega), by rw [F.i (by omega)]; exact a1, B.fr F (by omega), fun k hk => by rw [F.i (by omega)]; exact R k hk, p, o, T.fr F (by omega)⟩
theorem MSS.fr {h h' : av_H} {s : SS} (S : MSS h 980 s) (F : Fr h h' 2 980) : MSS h' 980 s := by
  obtain ⟨⟨k0, ⟨k1, k2⟩, ⟨k3, k4⟩, ⟨k5, k6⟩, ⟨k7, k8⟩, k9, k10⟩, ⟨m1, m2, m3⟩, ⟨p1, p2, p3⟩, r, t1, t2, t3⟩ := S
  have i : ∀ a j, 980 ≤ a → gI h' a j = gI h a j := fun a j ha => F.i (Or.inr ha)
  have g : ∀ a j, 980 ≤ a → gR h' a j = gR h a j := fun a j ha => F.r (Or.inr ha)
  refine ⟨⟨by rw [F.k]; exact k0, ⟨by rw [g _ _ (by omega)]; exact k1, by rw [F.k]; exact k2⟩, ⟨by rw [g _ _ (by omega)]; exact k3, by rw [F.k]; exact k4⟩, ⟨by rw [g _ _ (by omega)]; exact k5, by rw [F.k]; exact k6⟩, ⟨by rw [g _ _ (by omega)]; exact k7, by rw [F.k]; exact k8⟩, by rw [g _ _ (by omega)]; exact k9, by rw [F.k]; exact k10⟩, ⟨fun k hk => by rw [i _ _ (by omega)]; exact m1 k hk, fun n hn k hk q => by rw [i _ _ (by omega)]; exact m2 n hn k hk q, fun n hn r hr => ?_⟩, ⟨by rw [i _ _ (by omega)]; exact p1, p2, fun j hj => ?_⟩, fun k hk => by rw [i _ _ (by omega)]; exact r k hk, by rw [i _ _ (by omega)]; exact t1, t2, fun j hj => by rw [i _ _ (by omega)]; exact t3 j hj⟩
  · obtain ⟨x1, x2, x3⟩ := m3 n hn r hr
    exact ⟨by rw [i _ _ (by omega)]; exact x1, x2, fun j hj => by rw [i _ _ (by omega)]; exact x3 j hj⟩
  · have := p3 j hj
    rw [show (fun k => gI h' (980 + 2) (7474 * j + k)) = (fun k => gI h (980 + 2) (7474 * j + k)) from funext fun k => i _ _ (by omega)]
    exact this
theorem both {sc : av_S} {m1 m2 : Nat} {as : av_L} {h : av_H} {s : SS} {r : Int × SS} (S : CB h s) (M : MSS h 980 s) (A : Cb sc 12 m1 as h r) (B : ∀ h1, MSS h1 980 s → Cm sc 12 m2 980 as h1 r) : ∃ h1 h2, (∀ Q, WP sc 12 m1 0 ((0, .inr (.inl 2)) :: as) [] h Q ↔ Q (some (.inl r.1)) h1) ∧ (∀ Q, WP sc 12 m2 0 ((0, .inr (.inl 980)) :: as) [] h1 Q ↔ Q (some (.inl r.1)) h2) ∧ CB h2 r.2 ∧ MSS h2 980 r.2 ∧ h2.1 = h.1 ∧ (kd h 2).1 = 6 ∧ (kd h1 980).1 = 7 := by
  obtain ⟨h1, w1, C1, F1⟩ := A
  have M1 := M.fr F1
  obtain ⟨h2, w2, M2, G2⟩ := B h1 M1
  exact ⟨h1, h2, w1, w2, C1.fr G2.fr, M2, G2.1.trans F1.1, S.1.1, M1.1.1⟩
