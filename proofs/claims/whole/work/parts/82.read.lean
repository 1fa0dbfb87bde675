/-! the class reads cards and questions. -/
section Read2
variable {S : aSt} {d k m C Q : Nat} {tx : Nat → Int32} {L : Nat → Nat → Nat}
theorem en_no {x : Nat} (h : x = 99) : en x = -9 := by rw [h]; rfl
theorem en_ne {x : Nat} (h : x ≠ 99) (hx : x < 2 ^ 31) : ¬ en x = -9 := fun z => h ((en_m9 hx).mp z)
theorem X1_readCard_eq (n : Nat) (hn : 10 < n) (hT : TX S k m tx) (hD : DX S d) (hP : PD S d C Q L) (hI : LI C Q L) {p : Nat} (hp : p < m) (hq : tx p ≠ 113) : ∃ S', F_X1_readCard n S d k (nI p) = some (en (itm tx m p C Q L).1, S') ∧ Dr d S S' ∧ ((itm tx m p C Q L).1 = 99 → PD S' d (itm tx m p C Q L).2.1 (itm tx m p C Q L).2.2.1 (itm tx m p C Q L).2.2.2) := by
  have hd := hD.1
  have hm := hT.2.2.2.2.1
  have hC := hI.1.1
  have hQ := hI.1.2.1
  have e7 : S.1 d 7 = nI C := hP.1.1
  have e8 : S.1 d 8 = nI Q := hP.1.2.1
  obtain ⟨t1, t2, t3, t4, t5, t6, t7⟩ := hT
  have hT0 : TX S k m tx := ⟨t1, t2, t3, t4, t5, t6, t7⟩
  have hl := ltr_b (tx p)
  unfold F_X1_readCard
  rw [t1, rfdS t2, t3, inb_nI (show p < 80 by omega) (by decide), grdT, nI_clamp (show p < 2 ^ 31 by omega), t6 p hp, X0_ofLetter_eq n hn, bndS, jnE]
  by_cases kf : ltr (tx p) = 99 ∨ 0 < Q ∨ 7 ≤ C
  · have ei : itm tx m p C Q L = (p, C, Q, L) := by unfold itm; rw [if_neg hq, if_pos kf]
    rw [ei]
    refine ⟨S, ?_, Dr.refl d S, fun z => by have : p = 99 := z; omega⟩
    rw [show en (p, C, Q, L).1 = nI p from en_nI (by omega)]
    by_cases k1 : ltr (tx p) = 99
    · rw [if_pos (en_no k1)]
    · rw [if_neg (en_ne k1 (by omega)), e8]
      by_cases k2 : 0 < Q
      · rw [if_pos (show (0 : Int32) < nI Q from nI_lt (a := 0) k2 (by omega))]
      · rw [show Q = 0 by omega, if_neg (by decide), e7, if_neg (show ¬ nI C < (7 : Int32) from nI_nlt (b := 7) (by omega) (by omega))]
  · have kl : ltr (tx p) ≠ 99 := fun z => kf (Or.inl z)
    have kQ : Q = 0 := by omega
    have kC : C < 7 := by omega
    have kf0 : ¬ (ltr (tx p) = 99 ∨ 0 < 0 ∨ 7 ≤ C) := by omega
    rw [if_neg (en_ne kl (by omega)), e8, kQ, if_neg (by decide), e7, if_pos (show nI C < (7 : Int32) from nI_lt (b := 7) kC (by decide)), hD.a0, sg1 hd, inb_nI kC (by decide), grdT, nmE, nI_clamp (show C < 2 ^ 31 by omega), en_nI kl]
    generalize hS1 : stI S (d + 1) C (nI (ltr (tx p))) = S1
    have r1 : Dr d S S1 := by rw [← hS1]; exact (Dr.refl d S).sI (by omega) _ _
    have hb1 := fig_b (tx := tx) (m := m) (p := p + 1) (lo := 0) (hi := 9) (by omega) (by omega)
    have hb2 := fig_b (tx := tx) (m := m) (p := p + 2) (lo := 0) (hi := 3) (by omega) (by omega)
    have hb3 := fig_b (tx := tx) (m := m) (p := p + 3) (lo := 0) (hi := 9) (by omega) (by omega)
    have q1 : ∀ S', TX S' k m tx → F_X1_figure n S' k (nI p + 1) 0 9 = some (en (fig tx m (p + 1) 0 9)) := fun S' h => by
      rw [nI_1]
      exact X1_figure_eq n h (p := p + 1) (lo := 0) (hi := 9) (by omega) (by omega) (by omega)
    have q2 : ∀ S', TX S' k m tx → F_X1_figure n S' k (nI p + 2) 0 3 = some (en (fig tx m (p + 2) 0 3)) := fun S' h => by
      rw [show nI p + 2 = nI (p + 2) from nI_add p 2]
      exact X1_figure_eq n h (p := p + 2) (lo := 0) (hi := 3) (by omega) (by omega) (by omega)
    have q3 : ∀ S', TX S' k m tx → F_X1_figure n S' k (nI p + 3) 0 9 = some (en (fig tx m (p + 3) 0 9)) := fun S' h => by
      rw [show nI p + 3 = nI (p + 3) from nI_add p 3]
      exact X1_figure_eq n h (p := p + 3) (lo := 0) (hi := 9) (by omega) (by omega) (by omega)
    have c1 : S1.1 d 7 = nI C := by rw [← hS1, stI_ne (by omega)]; exact e7
    rw [(hD.dr r1).a1, q1 S1 (hT0.dr hd r1), bndS, c1, sg2 hd, inb_nI kC (by decide), grdT, nmE, nI_clamp (show C < 2 ^ 31 by omega)]
    generalize hS2 : stI S1 (d + 2) C (en (fig tx m (p + 1) 0 9)) = S2
    have r2 : Dr d S S2 := by rw [← hS2]; exact r1.sI (by omega) _ _
    have c2 : S2.1 d 7 = nI C := by rw [← hS2, stI_ne (by omega)]; exact c1
    rw [(hD.dr r2).a6, (hD.dr r2).b0, q2 S2 (hT0.dr hd r2), bndS, c2, sgs1 hd, inb_nI kC (by decide), grdT, nmE, nI_clamp (show C < 2 ^ 31 by omega)]
    generalize hS3 : stI S2 (d + 7 + 1) C (en (fig tx m (p + 2) 0 3)) = S3
    have r3 : Dr d S S3 := by rw [← hS3]; exact r2.sI (by omega) _ _
    have c3 : S3.1 d 7 = nI C := by rw [← hS3, stI_ne (by omega)]; exact c2
    rw [(hD.dr r3).a6, (hD.dr r3).b1, q3 S3 (hT0.dr hd r3), bndS, c3, sgs2 hd, inb_nI kC (by decide), grdT, nmE, nI_clamp (show C < 2 ^ 31 by omega)]
    generalize hS4 : stI S3 (d + 7 + 2) C (en (fig tx m (p + 3) 0 9)) = S4
    have r4 : Dr d S S4 := by rw [← hS4]; exact r3.sI (by omega) _ _
    have c4 : S4.1 d 7 = nI C := by rw [← hS4, stI_ne (by omega)]; exact c3
    have v1 : S4.1 (d + 2) C = en (fig tx m (p + 1) 0 9) := by rw [← hS4, stI_ne (by omega), ← hS3, stI_ne (by omega), ← hS2]; simp [stI_at]
    have v2 : S4.1 (d + 7 + 1) C = en (fig tx m (p + 2) 0 3) := by rw [← hS4, stI_ne (by omega), ← hS3]; simp [stI_at]
    have v3 : S4.1 (d + 7 + 2) C = en (fig tx m (p + 3) 0 9) := by rw [← hS4]; simp [stI_at]
    rw [(hD.dr r4).a1, c4, sg2 hd, inb_nI kC (by decide), grdT, nI_clamp (show C < 2 ^ 31 by omega), v1]
    by_cases k1 : fig tx m (p + 1) 0 9 = 99
    · have ei : itm tx m p C 0 L = (p + 1, C, 0, L) := by unfold itm; rw [if_neg hq, if_neg kf0, if_pos k1]
      rw [if_pos (en_no k1), ei, nI_1]
      exact ⟨S4, by rw [show en (p + 1, C, 0, L).1 = nI (p + 1) from en_nI (by omega)], r4, fun z => by have : p + 1 = 99 := z; omega⟩
    · rw [if_neg (en_ne k1 (by omega)), (hD.dr r4).a6, (hD.dr r4).b0, sgs1 hd, inb_nI kC (by decide), grdT, v2]
      by_cases k2 : fig tx m (p + 2) 0 3 = 99
      · have ei : itm tx m p C 0 L = (p + 2, C, 0, L) := by unfold itm; rw [if_neg hq, if_neg kf0, if_neg k1, if_pos k2]
        rw [if_pos (en_no k2), ei, show nI p + 2 = nI (p + 2) from nI_add p 2]
        exact ⟨S4, by rw [show en (p + 2, C, 0, L).1 = nI (p + 2) from en_nI (by omega)], r4, fun z => by have : p + 2 = 99 := z; omega⟩
      · rw [if_neg (en_ne k2 (by omega)), (hD.dr r4).b1, sgs2 hd, inb_nI kC (by decide), grdT, v3]
        by_cases k3 : fig tx m (p + 3) 0 9 = 99
        · have ei : itm tx m p C 0 L = (p + 3, C, 0, L) := by unfold itm; rw [if_neg hq, if_neg kf0, if_neg k1, if_neg k2, if_pos k3]
          rw [if_pos (en_no k3), ei, show nI p + 3 = nI (p + 3) from nI_add p 3]
          exact ⟨S4, by rw [show en (p + 3, C, 0, L).1 = nI (p + 3) from en_nI (by omega)], r4, fun z => by have : p + 3 = 99 := z; omega⟩
        · have ei : itm tx m p C 0 L = (99, C + 1, 0, uL (uL (uL (uL L 0 C (ltr (tx p))) 1 C (fig tx m (p + 1) 0 9)) 2 C (fig tx m (p + 2) 0 3)) 3 C (fig tx m (p + 3) 0 9)) := by unfold itm; rw [if_neg hq, if_neg kf0, if_neg k1, if_neg k2, if_neg k3]
          rw [if_neg (en_ne k3 (by omega)), ei, nmE, nI_1]
          refine ⟨_, rfl, r4.sI (by omega) _ _, fun _ => ?_⟩
          obtain ⟨⟨x1, x2, x3, x4, y1, y2, y3, y4, y5⟩, x9⟩ := hP
          have hc : ∀ j, j ≠ d → j ≠ d + 1 → j ≠ d + 2 → j ≠ d + 7 + 1 → j ≠ d + 7 + 2 → (stI S4 d 7 (nI (C + 1))).1 j = S.1 j := fun j a b c e f => by rw [stI_ne a, ← hS4, stI_ne f, ← hS3, stI_ne e, ← hS2, stI_ne c, ← hS1, stI_ne b]
          have z1 : ∀ i, (stI S4 d 7 (nI (C + 1))).1 (d + 1) i = if i = C then nI (ltr (tx p)) else S.1 (d + 1) i := fun i => by rw [stI_ne (by omega), ← hS4, stI_ne (by omega), ← hS3, stI_ne (by omega), ← hS2, stI_ne (by omega), ← hS1, stI_at, if_pos rfl]
          have z2 : ∀ i, (stI S4 d 7 (nI (C + 1))).1 (d + 2) i = if i = C then nI (fig tx m (p + 1) 0 9) else S.1 (d + 2) i := fun i => by rw [stI_ne (by omega), ← hS4, stI_ne (by omega), ← hS3, stI_ne (by omega), ← hS2, stI_at, if_pos rfl, en_nI k1, ← hS1, stI_ne (by omega)]
          have z3 : ∀ i, (stI S4 d 7 (nI (C + 1))).1 (d + 7 + 1) i = if i = C then nI (fig tx m (p + 2) 0 3) else S.1 (d + 7 + 1) i := fun i => by rw [stI_ne (by omega), ← hS4, stI_ne (by omega), ← hS3, stI_at, if_pos rfl, en_nI k2, ← hS2, stI_ne (by omega), ← hS1, stI_ne (by omega)]
          have z4 : ∀ i, (stI S4 d 7 (nI (C + 1))).1 (d + 7 + 2) i = if i = C then nI (fig tx m (p + 3) 0 9) else S.1 (d + 7 + 2) i := fun i => by rw [stI_ne (by omega), ← hS4, stI_at, if_pos rfl, en_nI k3, ← hS3, stI_ne (by omega), ← hS2, stI_ne (by omega), ← hS1, stI_ne (by omega)]
          have z8 : (stI S4 d 7 (nI (C + 1))).1 d 8 = nI Q := by rw [stI_at, if_pos rfl, if_neg (by decide), ← hS4, stI_ne (by omega), ← hS3, stI_ne (by omega), ← hS2, stI_ne (by omega), ← hS1, stI_ne (by omega)]; exact e8
          have z7 : (stI S4 d 7 (nI (C + 1))).1 d 7 = nI (C + 1) := by simp [stI_at]
          generalize stI S4 d 7 (nI (C + 1)) = S5 at hc z1 z2 z3 z4 z7 z8
          generalize ltr (tx p) = g0 at z1
          generalize fig tx m (p + 1) 0 9 = g1 at z2
          generalize fig tx m (p + 2) 0 3 = g2 at z3
          generalize fig tx m (p + 3) 0 9 = g3 at z4
          show PD S5 d (C + 1) 0 (uL (uL (uL (uL L 0 C g0) 1 C g1) 2 C g2) 3 C g3)
          refine ⟨⟨z7, by rw [z8, kQ], fun c hcc => ?_, fun q hqq => by omega, ?_, fun c hcc => ?_, fun q hqq => by omega, fun q hqq => ?_, fun t ht => by omega⟩, fun q hqq => ?_⟩
          · rw [z1, z2]
            simp only [uL]
            by_cases e : c = C
            · simp [e]
            · simp [e]
              exact x3 c (by omega)
          · rw [hc (d + 7) (by omega) (by omega) (by omega) (by omega) (by omega)]; exact y1
          · rw [z3, z4]
            simp only [uL]
            by_cases e : c = C
            · simp [e]
            · simp [e]
              exact y2 c (by omega)
          · rw [hc (d + 7 + 4) (by omega) (by omega) (by omega) (by omega) (by omega), y4 q hqq]
            simp [uL]
          · rw [hc (d + 7 + 3) (by omega) (by omega) (by omega) (by omega) (by omega)]; exact x9 q hqq
end Read2
