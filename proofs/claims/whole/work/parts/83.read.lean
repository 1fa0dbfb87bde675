/-! the class reads questions, and a whole text. -/
section Read3
variable {S : aSt} {d k m C Q : Nat} {tx : Nat → Int32} {L : Nat → Nat → Nat}
theorem X1_figure_any (n : Nat) (H : TX S k m tx) {p : Nat} (hp : p < 100) (lo hi : Int32) : ∃ v, F_X1_figure n S k (nI p) lo hi = some v := by
  obtain ⟨h1, h2, h3, h4, h5, h6, h7⟩ := H
  unfold F_X1_figure
  rw [X4_reaches_eq n (show m < 2 ^ 31 by omega) h4, bndS, if10']
  by_cases k1 : p < m
  · rw [if_pos (inb_nI k1 (by omega)), h1, rfdS h2, h3, inb_nI (show p < 80 by omega) (by decide), grdT, nmE]
    generalize (S.1 (k + 1) (nI p).toNatClampNeg - 48) = v
    by_cases a : v < (if lo < 0 then 0 else lo)
    · rw [if_pos a]; exact ⟨_, rfl⟩
    · rw [if_neg a]
      by_cases b : hi < v
      · rw [if_pos b]; exact ⟨_, rfl⟩
      · rw [if_neg b]; exact ⟨_, rfl⟩
  · rw [if_neg (by rw [inb_iff, nI_toInt (by omega)]; omega)]
    exact ⟨_, rfl⟩
set_option maxHeartbeats 2000000 in
theorem X1_readQuestion_eq (n : Nat) (hT : TX S k m tx) (hD : DX S d) (hP : PD S d C Q L) (hI : LI C Q L) {p : Nat} (hp : p < m) (hq : tx p = 113) : ∃ S', F_X1_readQuestion n S d k (nI p) = some (en (itm tx m p C Q L).1, S') ∧ Dr d S S' ∧ ((itm tx m p C Q L).1 = 99 → PD S' d (itm tx m p C Q L).2.1 (itm tx m p C Q L).2.2.1 (itm tx m p C Q L).2.2.2) := by
  have hd := hD.1
  have hm := hT.2.2.2.2.1
  have hC := hI.1.1
  have hQ := hI.1.2.1
  have e7 : S.1 d 7 = nI C := hP.1.1
  have e8 : S.1 d 8 = nI Q := hP.1.2.1
  unfold F_X1_readQuestion
  rw [jnE, e7, e8]
  by_cases kf : C = 0 ∨ 7 ≤ Q
  · have ei : itm tx m p C Q L = (p, C, Q, L) := by unfold itm; rw [if_pos hq, if_pos kf]
    rw [ei]
    refine ⟨S, ?_, Dr.refl d S, fun z => by have : p = 99 := z; omega⟩
    rw [show en (p, C, Q, L).1 = nI p from en_nI (by omega)]
    by_cases k1 : C = 0
    · rw [if_pos (by rw [k1]; rfl)]
    · rw [if_neg (nI_ne0 (by omega) (by omega)), if_neg (show ¬ nI Q < (7 : Int32) from nI_nlt (b := 7) (by omega) (by omega))]
  · have kQ : Q < 7 := by omega
    rw [if_neg (nI_ne0 (by omega) (by omega)), if_pos (show nI Q < (7 : Int32) from nI_lt (b := 7) kQ (by decide))]
    have hb1 := fig_b (tx := tx) (m := m) (p := p + 1) (lo := 0) (hi := 5) (by omega) (by omega)
    have hb2 := fig_b (tx := tx) (m := m) (p := p + 2) (lo := 0) (hi := 9) (by omega) (by omega)
    have hb4 := fig_b (tx := tx) (m := m) (p := p + 4) (lo := 1) (hi := 9) (by omega) (by omega)
    have q1 : ∀ S', TX S' k m tx → F_X1_figure n S' k (nI p + 1) 0 5 = some (en (fig tx m (p + 1) 0 5)) := fun S' h => by
      rw [nI_1]
      exact X1_figure_eq n h (p := p + 1) (lo := 0) (hi := 5) (by omega) (by omega) (by omega)
    have q2 : ∀ S', TX S' k m tx → F_X1_figure n S' k (nI p + 2) 0 9 = some (en (fig tx m (p + 2) 0 9)) := fun S' h => by
      rw [show nI p + 2 = nI (p + 2) from nI_add p 2]
      exact X1_figure_eq n h (p := p + 2) (lo := 0) (hi := 9) (by omega) (by omega) (by omega)
    have q3 : ∀ S', TX S' k m tx → ∃ v, F_X1_figure n S' k (nI p + 3) (en (fig tx m (p + 2) 0 9)) 9 = some v ∧ (fig tx m (p + 2) 0 9 ≠ 99 → v = en (fig tx m (p + 3) (fig tx m (p + 2) 0 9) 9)) := fun S' h => by
      rw [show nI p + 3 = nI (p + 3) from nI_add p 3]
      by_cases z : fig tx m (p + 2) 0 9 = 99
      · obtain ⟨v, hv⟩ := X1_figure_any n h (show p + 3 < 100 by omega) (en (fig tx m (p + 2) 0 9)) 9
        exact ⟨v, hv, fun y => absurd z y⟩
      · refine ⟨_, ?_, fun _ => rfl⟩
        rw [en_nI z]
        exact X1_figure_eq n h (p := p + 3) (hi := 9) (by omega) (by omega) (by omega)
    have q4 : ∀ S', TX S' k m tx → F_X1_figure n S' k (nI p + 4) 1 9 = some (en (fig tx m (p + 4) 1 9)) := fun S' h => by
      rw [show nI p + 4 = nI (p + 4) from nI_add p 4]
      exact X1_figure_eq n h (p := p + 4) (lo := 1) (hi := 9) (by omega) (by omega) (by omega)
    rw [hD.a2, q1 S hT, bndS, sg3 hd, inb_nI kQ (by decide), grdT, nmE, nI_clamp (show Q < 2 ^ 31 by omega)]
    generalize hS1 : stI S (d + 3) Q (en (fig tx m (p + 1) 0 5)) = S1
    have r1 : Dr d S S1 := by rw [← hS1]; exact (Dr.refl d S).sI (by omega) _ _
    have c1 : S1.1 d 8 = nI Q := by rw [← hS1, stI_ne (by omega)]; exact e8
    rw [(hD.dr r1).a3, q2 S1 (hT.dr hd r1), bndS, c1, sg4 hd, inb_nI kQ (by decide), grdT, nmE, nI_clamp (show Q < 2 ^ 31 by omega)]
    generalize hS2 : stI S1 (d + 4) Q (en (fig tx m (p + 2) 0 9)) = S2
    have r2 : Dr d S S2 := by rw [← hS2]; exact r1.sI (by omega) _ _
    have c2 : S2.1 d 8 = nI Q := by rw [← hS2, stI_ne (by omega)]; exact c1
    have w2 : S2.1 (d + 4) Q = en (fig tx m (p + 2) 0 9) := by rw [← hS2]; simp [stI_at]
    obtain ⟨v, hv, hv'⟩ := q3 S2 (hT.dr hd r2)
    rw [(hD.dr r2).a4, (hD.dr r2).a3, c2, sg4 hd, inb_nI kQ (by decide), grdT, nI_clamp (show Q < 2 ^ 31 by omega), w2, hv, bndS, sg5 hd, inb_nI kQ (by decide), grdT, nmE]
    generalize hS3 : stI S2 (d + 5) Q v = S3
    have r3 : Dr d S S3 := by rw [← hS3]; exact r2.sI (by omega) _ _
    have c3 : S3.1 d 8 = nI Q := by rw [← hS3, stI_ne (by omega)]; exact c2
    rw [(hD.dr r3).a5, q4 S3 (hT.dr hd r3), bndS, c3, sg6 hd, inb_nI kQ (by decide), grdT, nmE, nI_clamp (show Q < 2 ^ 31 by omega)]
    generalize hS4 : stI S3 (d + 6) Q (en (fig tx m (p + 4) 1 9)) = S4
    have r4 : Dr d S S4 := by rw [← hS4]; exact r3.sI (by omega) _ _
    have c4 : S4.1 d 8 = nI Q := by rw [← hS4, stI_ne (by omega)]; exact c3
    have v1 : S4.1 (d + 3) Q = en (fig tx m (p + 1) 0 5) := by rw [← hS4, stI_ne (by omega), ← hS3, stI_ne (by omega), ← hS2, stI_ne (by omega), ← hS1]; simp [stI_at]
    have v2 : S4.1 (d + 4) Q = en (fig tx m (p + 2) 0 9) := by rw [← hS4, stI_ne (by omega), ← hS3, stI_ne (by omega)]; exact w2
    have v3 : S4.1 (d + 5) Q = v := by rw [← hS4, stI_ne (by omega), ← hS3]; simp [stI_at]
    have v4 : S4.1 (d + 6) Q = en (fig tx m (p + 4) 1 9) := by rw [← hS4]; simp [stI_at]
    rw [(hD.dr r4).a2, c4, sg3 hd, inb_nI kQ (by decide), grdT, nI_clamp (show Q < 2 ^ 31 by omega), v1]
    by_cases k1 : fig tx m (p + 1) 0 5 = 99
    · have ei : itm tx m p C Q L = (p + 1, C, Q, L) := by unfold itm; rw [if_pos hq, if_neg kf, if_pos k1]
      rw [if_pos (en_no k1), ei, nI_1]
      exact ⟨S4, by rw [show en (p + 1, C, Q, L).1 = nI (p + 1) from en_nI (by omega)], r4, fun z => by have : p + 1 = 99 := z; omega⟩
    · rw [if_neg (en_ne k1 (by omega)), (hD.dr r4).a3, sg4 hd, inb_nI kQ (by decide), grdT, v2]
      by_cases k2 : fig tx m (p + 2) 0 9 = 99
      · have ei : itm tx m p C Q L = (p + 2, C, Q, L) := by unfold itm; rw [if_pos hq, if_neg kf, if_neg k1, if_pos k2]
        rw [if_pos (en_no k2), ei, show nI p + 2 = nI (p + 2) from nI_add p 2]
        exact ⟨S4, by rw [show en (p + 2, C, Q, L).1 = nI (p + 2) from en_nI (by omega)], r4, fun z => by have : p + 2 = 99 := z; omega⟩
      · have hb3 := fig_b (tx := tx) (m := m) (p := p + 3) (lo := fig tx m (p + 2) 0 9) (hi := 9) (by omega) (by omega)
        rw [if_neg (en_ne k2 (by omega)), (hD.dr r4).a4, sg5 hd, inb_nI kQ (by decide), grdT, v3, hv' k2]
        by_cases k3 : fig tx m (p + 3) (fig tx m (p + 2) 0 9) 9 = 99
        · have ei : itm tx m p C Q L = (p + 3, C, Q, L) := by unfold itm; rw [if_pos hq, if_neg kf, if_neg k1, if_neg k2, if_pos k3]
          rw [if_pos (en_no k3), ei, show nI p + 3 = nI (p + 3) from nI_add p 3]
          exact ⟨S4, by rw [show en (p + 3, C, Q, L).1 = nI (p + 3) from en_nI (by omega)], r4, fun z => by have : p + 3 = 99 := z; omega⟩
        · rw [if_neg (en_ne k3 (by omega)), (hD.dr r4).a5, sg6 hd, inb_nI kQ (by decide), grdT, v4]
          by_cases k4 : fig tx m (p + 4) 1 9 = 99
          · have ei : itm tx m p C Q L = (p + 4, C, Q, L) := by unfold itm; rw [if_pos hq, if_neg kf, if_neg k1, if_neg k2, if_neg k3, if_pos k4]
            rw [if_pos (en_no k4), ei, show nI p + 4 = nI (p + 4) from nI_add p 4]
            exact ⟨S4, by rw [show en (p + 4, C, Q, L).1 = nI (p + 4) from en_nI (by omega)], r4, fun z => by have : p + 4 = 99 := z; omega⟩
          · have ei : itm tx m p C Q L = (99, C, Q + 1, uL (uL (uL (uL L 4 Q (fig tx m (p + 1) 0 5)) 5 Q (fig tx m (p + 2) 0 9)) 6 Q (fig tx m (p + 3) (fig tx m (p + 2) 0 9) 9)) 7 Q (fig tx m (p + 4) 1 9)) := by unfold itm; rw [if_pos hq, if_neg kf, if_neg k1, if_neg k2, if_neg k3, if_neg k4]
            rw [if_neg (en_ne k4 (by omega)), ei, nmE, nI_1]
            refine ⟨_, rfl, r4.sI (by omega) _ _, fun _ => ?_⟩
            obtain ⟨⟨x1, x2, x3, x4, y1, y2, y3, y4, y5⟩, x9⟩ := hP
            have hc : ∀ j, j ≠ d → j ≠ d + 3 → j ≠ d + 4 → j ≠ d + 5 → j ≠ d + 6 → (stI S4 d 8 (nI (Q + 1))).1 j = S.1 j := fun j a b c e f => by rw [stI_ne a, ← hS4, stI_ne f, ← hS3, stI_ne e, ← hS2, stI_ne c, ← hS1, stI_ne b]
            have z1 : ∀ i, (stI S4 d 8 (nI (Q + 1))).1 (d + 3) i = if i = Q then nI (fig tx m (p + 1) 0 5) else S.1 (d + 3) i := fun i => by rw [stI_ne (by omega), ← hS4, stI_ne (by omega), ← hS3, stI_ne (by omega), ← hS2, stI_ne (by omega), ← hS1, stI_at, if_pos rfl, en_nI k1]
            have z2 : ∀ i, (stI S4 d 8 (nI (Q + 1))).1 (d + 4) i = if i = Q then nI (fig tx m (p + 2) 0 9) else S.1 (d + 4) i := fun i => by rw [stI_ne (by omega), ← hS4, stI_ne (by omega), ← hS3, stI_ne (by omega), ← hS2, stI_at, if_pos rfl, en_nI k2, ← hS1, stI_ne (by omega)]
            have z3 : ∀ i, (stI S4 d 8 (nI (Q + 1))).1 (d + 5) i = if i = Q then nI (fig tx m (p + 3) (fig tx m (p + 2) 0 9) 9) else S.1 (d + 5) i := fun i => by rw [stI_ne (by omega), ← hS4, stI_ne (by omega), ← hS3, stI_at, if_pos rfl, hv' k2, en_nI k3, ← hS2, stI_ne (by omega), ← hS1, stI_ne (by omega)]
            have z4 : ∀ i, (stI S4 d 8 (nI (Q + 1))).1 (d + 6) i = if i = Q then nI (fig tx m (p + 4) 1 9) else S.1 (d + 6) i := fun i => by rw [stI_ne (by omega), ← hS4, stI_at, if_pos rfl, en_nI k4, ← hS3, stI_ne (by omega), ← hS2, stI_ne (by omega), ← hS1, stI_ne (by omega)]
            have z7 : (stI S4 d 8 (nI (Q + 1))).1 d 7 = nI C := by rw [stI_at, if_pos rfl, if_neg (by decide), ← hS4, stI_ne (by omega), ← hS3, stI_ne (by omega), ← hS2, stI_ne (by omega), ← hS1, stI_ne (by omega)]; exact e7
            have z8 : (stI S4 d 8 (nI (Q + 1))).1 d 8 = nI (Q + 1) := by simp [stI_at]
            have l8 := hI.2
            generalize stI S4 d 8 (nI (Q + 1)) = S5 at hc z1 z2 z3 z4 z7 z8
            generalize fig tx m (p + 3) (fig tx m (p + 2) 0 9) 9 = g3 at z3
            generalize fig tx m (p + 1) 0 5 = g1 at z1
            generalize fig tx m (p + 2) 0 9 = g2 at z2
            generalize fig tx m (p + 4) 1 9 = g4 at z4
            show PD S5 d C (Q + 1) (uL (uL (uL (uL L 4 Q g1) 5 Q g2) 6 Q g3) 7 Q g4)
            refine ⟨⟨z7, z8, fun c hcc => ?_, fun q hqq => ?_, ?_, fun c hcc => ?_, fun q hqq => ?_, fun q hqq => ?_, fun t ht => by omega⟩, fun q hqq => ?_⟩
            · rw [hc (d + 1) (by omega) (by omega) (by omega) (by omega) (by omega), hc (d + 2) (by omega) (by omega) (by omega) (by omega) (by omega)]
              simp [uL]
              exact x3 c hcc
            · rw [z1, z2, z3, z4]
              simp only [uL]
              by_cases e : q = Q
              · simp [e]
              · simp [e]
                exact x4 q (by omega)
            · rw [hc (d + 7) (by omega) (by omega) (by omega) (by omega) (by omega)]; exact y1
            · rw [hc (d + 7 + 1) (by omega) (by omega) (by omega) (by omega) (by omega), hc (d + 7 + 2) (by omega) (by omega) (by omega) (by omega) (by omega)]
              simp [uL]
              exact y2 c hcc
            · rw [hc (d + 7 + 3) (by omega) (by omega) (by omega) (by omega) (by omega), x9 q (by omega)]
              simp [uL, (l8 q).1, en_99]
            · rw [hc (d + 7 + 4) (by omega) (by omega) (by omega) (by omega) (by omega), y4 q hqq]
              simp [uL]
            · rw [hc (d + 7 + 3) (by omega) (by omega) (by omega) (by omega) (by omega)]; exact x9 q hqq
end Read3
