/-! the reference reads questions, and a whole text. -/
section Reads2
variable {S : aSt} {t m C Q : Nat} {tx : Nat → Int32} {L : Nat → Nat → Nat}
set_option maxHeartbeats 2000000 in
theorem X7_takesQuestion_eq (n : Nat) (H : RM S t m tx) {p : Nat} (hp : p < m) (e : S.1 82 13 = nI p) (hP : PMd (S.1 91) C Q L) (hI : LI C Q L) (hq : tx p = 113) : ∃ S', F_X7_takesQuestion n S 82 (nI t) = some (if (itm tx m p C Q L).1 = 99 then 1 else 0, S') ∧ Sm S S' ∧ S'.1 82 13 = nI (if (itm tx m p C Q L).1 = 99 then p + 5 else (itm tx m p C Q L).1) ∧ ((itm tx m p C Q L).1 = 99 → PMd (S'.1 91) (itm tx m p C Q L).2.1 (itm tx m p C Q L).2.2.1 (itm tx m p C Q L).2.2.2) := by
  have hm := H.2.2.2.2
  have h1 := H.1
  have hC := hI.1.1
  have hQ := hI.1.2.1
  have e0 : S.1 91 0 = nI C := hP.1.1
  have e1 : S.1 91 1 = nI Q := hP.1.2.1
  have z0 : (0 : Int32).toNatClampNeg = 0 := rfl
  have z1 : (1 : Int32).toNatClampNeg = 1 := rfl
  have r12 : ∀ {β : Type} (f : Nat → Option β), rfd (S.2.2 82 12) 7 f = f 91 := fun f => by rw [h1]; exact rfdS T_91 f
  unfold F_X7_takesQuestion
  rw [r12, SZ_91, in1, grdT, nmE, z1, e1, in0, grdT, z0, e0]
  by_cases kf : C = 0 ∨ 7 ≤ Q
  · have ei : itm tx m p C Q L = (p, C, Q, L) := by unfold itm; rw [if_pos hq, if_pos kf]
    have hne : ¬ (p, C, Q, L).1 = 99 := fun z => by have : p = 99 := z; omega
    rw [ei, if_neg hne, if_neg hne]
    refine ⟨S, ?_, Sm.refl S, e, fun z => absurd z hne⟩
    by_cases k1 : C = 0
    · rw [if_pos (by rw [k1]; rfl)]
    · rw [if_neg (nI_ne0 (by omega) (by omega)), if_pos (show nI Q = (7 : Int32) by rw [show Q = 7 by omega]; rfl)]
  · have kQ : Q < 7 := by omega
    have f31 : (31 : Int32) + nI Q = nI (31 + Q) := nI_add 31 Q
    have f38 : (38 : Int32) + nI Q = nI (38 + Q) := nI_add 38 Q
    have f45 : (45 : Int32) + nI Q = nI (45 + Q) := nI_add 45 Q
    have f52 : (52 : Int32) + nI Q = nI (52 + Q) := nI_add 52 Q
    rw [if_neg (nI_ne0 (by omega) (by omega)), if_neg (show ¬ nI Q = (7 : Int32) from fun z => by have := (nI_eq (b := 7) (by omega) (by decide)).mp z; omega), nmE, e, nI_1]
    generalize hS1 : stI S 82 13 (nI (p + 1)) = S1
    have m1 : Sm S S1 := by rw [← hS1]; exact sm_at13 S _
    have r12' : ∀ {S' : aSt} {β : Type} (f : Nat → Option β), Sm S S' → rfd (S'.2.2 82 12) 7 f = f 91 := fun f hs => by rw [hs.2.2.2, h1]; exact rfdS T_91 f
    have a1 : S1.1 91 1 = nI Q := by rw [← hS1, stI_ne (by decide)]; exact e1
    rw [r12' _ m1, SZ_91, in1, grdT, grdT, nmE, a1, nI_1]
    generalize hS3 : stI S1 91 1 (nI (Q + 1)) = S3
    have m3 : Sm S S3 := by rw [← hS3]; exact m1.stI (by omega) _ _
    have p3 : S3.1 82 13 = nI (p + 1) := by rw [← hS3, stI_ne (by decide), ← hS1]; simp [stI_at]
    have w3 : ∀ j, S3.1 91 j = if j = 1 then nI (Q + 1) else S.1 91 j := fun j => by rw [← hS3, stI_at, if_pos rfl, ← hS1, stI_ne (by decide)]
    have q1 : F_X7_takes n S3 82 (nI t) (nI (31 + Q)) 0 5 = if fig tx m (p + 1) 0 5 = 99 then some (0, S3) else some (1, stI (stI S3 91 (31 + Q) (nI (fig tx m (p + 1) 0 5))) 82 13 (nI (p + 1 + 1))) := X7_takes_eq n (H.sm m3) (p := p + 1) (a := 31 + Q) (lo := 0) (hi := 5) (by omega) p3 (by omega) (by omega) (by omega)
    rw [f31, q1]
    by_cases k1 : fig tx m (p + 1) 0 5 = 99
    · have ei : itm tx m p C Q L = (p + 1, C, Q, L) := by unfold itm; rw [if_pos hq, if_neg kf, if_pos k1]
      have hne : ¬ (p + 1, C, Q, L).1 = 99 := fun z => by have : p + 1 = 99 := z; omega
      rw [if_pos k1, ei, if_neg hne, if_neg hne, bn2S]
      exact ⟨S3, if_pos rfl, m3, p3, fun z => absurd z hne⟩
    · rw [if_neg k1, bn2S, if_neg (by decide)]
      generalize hS4 : stI (stI S3 91 (31 + Q) (nI (fig tx m (p + 1) 0 5))) 82 13 (nI (p + 1 + 1)) = S4
      have m4 : Sm S S4 := by rw [← hS4]; exact tk_sm m3 _ _ _
      have p4 : S4.1 82 13 = nI (p + 2) := by rw [← hS4]; exact tk_at
      have w4 : ∀ j, S4.1 91 j = if j = 31 + Q then nI (fig tx m (p + 1) 0 5) else S3.1 91 j := fun j => by rw [← hS4]; exact tk_91
      have q2 : F_X7_takes n S4 82 (nI t) (nI (38 + Q)) 0 9 = if fig tx m (p + 2) 0 9 = 99 then some (0, S4) else some (1, stI (stI S4 91 (38 + Q) (nI (fig tx m (p + 2) 0 9))) 82 13 (nI (p + 2 + 1))) := X7_takes_eq n (H.sm m4) (p := p + 2) (a := 38 + Q) (lo := 0) (hi := 9) (by omega) p4 (by omega) (by omega) (by omega)
      rw [f38, q2]
      by_cases k2 : fig tx m (p + 2) 0 9 = 99
      · have ei : itm tx m p C Q L = (p + 2, C, Q, L) := by unfold itm; rw [if_pos hq, if_neg kf, if_neg k1, if_pos k2]
        have hne : ¬ (p + 2, C, Q, L).1 = 99 := fun z => by have : p + 2 = 99 := z; omega
        rw [if_pos k2, ei, if_neg hne, if_neg hne, bn2S]
        exact ⟨S4, if_pos rfl, m4, p4, fun z => absurd z hne⟩
      · have g2 := fig_le (by omega) (by omega) k2
        rw [if_neg k2, bn2S, if_neg (by decide)]
        generalize hS5 : stI (stI S4 91 (38 + Q) (nI (fig tx m (p + 2) 0 9))) 82 13 (nI (p + 2 + 1)) = S5
        have m5 : Sm S S5 := by rw [← hS5]; exact tk_sm m4 _ _ _
        have p5 : S5.1 82 13 = nI (p + 3) := by rw [← hS5]; exact tk_at
        have w5 : ∀ j, S5.1 91 j = if j = 38 + Q then nI (fig tx m (p + 2) 0 9) else S4.1 91 j := fun j => by rw [← hS5]; exact tk_91
        have v5 : S5.1 91 (38 + Q) = nI (fig tx m (p + 2) 0 9) := by rw [w5, if_pos rfl]
        have q3 : F_X7_takes n S5 82 (nI t) (nI (45 + Q)) (nI (fig tx m (p + 2) 0 9)) 9 = if fig tx m (p + 3) (fig tx m (p + 2) 0 9) 9 = 99 then some (0, S5) else some (1, stI (stI S5 91 (45 + Q) (nI (fig tx m (p + 3) (fig tx m (p + 2) 0 9) 9))) 82 13 (nI (p + 3 + 1))) := X7_takes_eq n (H.sm m5) (p := p + 3) (a := 45 + Q) (lo := fig tx m (p + 2) 0 9) (hi := 9) (by omega) p5 (by omega) (by omega) (by omega)
        rw [r12' _ m5, SZ_91, inb_nI (show 38 + Q < 393 by omega) (by decide), grdT, nI_clamp (show 38 + Q < 2 ^ 31 by omega), v5, f45, q3]
        by_cases k3 : fig tx m (p + 3) (fig tx m (p + 2) 0 9) 9 = 99
        · have ei : itm tx m p C Q L = (p + 3, C, Q, L) := by unfold itm; rw [if_pos hq, if_neg kf, if_neg k1, if_neg k2, if_pos k3]
          have hne : ¬ (p + 3, C, Q, L).1 = 99 := fun z => by have : p + 3 = 99 := z; omega
          rw [if_pos k3, ei, if_neg hne, if_neg hne, bn2S]
          exact ⟨S5, if_pos rfl, m5, p5, fun z => absurd z hne⟩
        · rw [if_neg k3, bn2S, if_neg (by decide)]
          generalize hS6 : stI (stI S5 91 (45 + Q) (nI (fig tx m (p + 3) (fig tx m (p + 2) 0 9) 9))) 82 13 (nI (p + 3 + 1)) = S6
          have m6 : Sm S S6 := by rw [← hS6]; exact tk_sm m5 _ _ _
          have p6 : S6.1 82 13 = nI (p + 4) := by rw [← hS6]; exact tk_at
          have w6 : ∀ j, S6.1 91 j = if j = 45 + Q then nI (fig tx m (p + 3) (fig tx m (p + 2) 0 9) 9) else S5.1 91 j := fun j => by rw [← hS6]; exact tk_91
          have q4 : F_X7_takes n S6 82 (nI t) (nI (52 + Q)) 1 9 = if fig tx m (p + 4) 1 9 = 99 then some (0, S6) else some (1, stI (stI S6 91 (52 + Q) (nI (fig tx m (p + 4) 1 9))) 82 13 (nI (p + 4 + 1))) := X7_takes_eq n (H.sm m6) (p := p + 4) (a := 52 + Q) (lo := 1) (hi := 9) (by omega) p6 (by omega) (by omega) (by omega)
          rw [f52, q4]
          by_cases k4 : fig tx m (p + 4) 1 9 = 99
          · have ei : itm tx m p C Q L = (p + 4, C, Q, L) := by unfold itm; rw [if_pos hq, if_neg kf, if_neg k1, if_neg k2, if_neg k3, if_pos k4]
            have hne : ¬ (p + 4, C, Q, L).1 = 99 := fun z => by have : p + 4 = 99 := z; omega
            rw [if_pos k4, ei, if_neg hne, if_neg hne, bn2S]
            exact ⟨S6, if_pos rfl, m6, p6, fun z => absurd z hne⟩
          · have ei : itm tx m p C Q L = (99, C, Q + 1, uL (uL (uL (uL L 4 Q (fig tx m (p + 1) 0 5)) 5 Q (fig tx m (p + 2) 0 9)) 6 Q (fig tx m (p + 3) (fig tx m (p + 2) 0 9) 9)) 7 Q (fig tx m (p + 4) 1 9)) := by unfold itm; rw [if_pos hq, if_neg kf, if_neg k1, if_neg k2, if_neg k3, if_neg k4]
            rw [if_neg k4, ei, if_pos rfl, if_pos rfl, bn2S, if_neg (by decide)]
            generalize hS7 : stI (stI S6 91 (52 + Q) (nI (fig tx m (p + 4) 1 9))) 82 13 (nI (p + 4 + 1)) = S7
            have m7 : Sm S S7 := by rw [← hS7]; exact tk_sm m6 _ _ _
            have p7 : S7.1 82 13 = nI (p + 5) := by rw [← hS7]; exact tk_at
            have w7 : ∀ j, S7.1 91 j = if j = 52 + Q then nI (fig tx m (p + 4) 1 9) else S6.1 91 j := fun j => by rw [← hS7]; exact tk_91
            refine ⟨S7, rfl, m7, p7, fun _ => ?_⟩
            obtain ⟨⟨x1, x2, x3, x4, x5, x6, x7⟩, x9⟩ := hP
            have l8 := hI.2
            have ww : ∀ j, S7.1 91 j = if j = 52 + Q then nI (fig tx m (p + 4) 1 9) else if j = 45 + Q then nI (fig tx m (p + 3) (fig tx m (p + 2) 0 9) 9) else if j = 38 + Q then nI (fig tx m (p + 2) 0 9) else if j = 31 + Q then nI (fig tx m (p + 1) 0 5) else if j = 1 then nI (Q + 1) else S.1 91 j := fun j => by rw [w7, w6, w5, w4, w3]
            clear w3 w4 w5 w6 w7 q1 q2 q3 q4 v5
            generalize S7.1 91 = u at ww
            generalize S.1 91 = v at ww x1 x2 x3 x4 x5 x6 x7 x9
            generalize fig tx m (p + 3) (fig tx m (p + 2) 0 9) 9 = g3 at ww
            generalize fig tx m (p + 1) 0 5 = g1 at ww
            generalize fig tx m (p + 2) 0 9 = g2' at ww
            generalize fig tx m (p + 4) 1 9 = g4 at ww
            have wo : ∀ j, j ≠ 52 + Q → j ≠ 45 + Q → j ≠ 38 + Q → j ≠ 31 + Q → j ≠ 1 → u j = v j := fun j a b c e f => by rw [ww, if_neg a, if_neg b, if_neg c, if_neg e, if_neg f]
            show PMd u C (Q + 1) (uL (uL (uL (uL L 4 Q g1) 5 Q g2') 6 Q g3) 7 Q g4)
            refine ⟨⟨?_, ?_, ?_, fun c hc => ?_, fun q hqq => ?_, fun q hqq _ => ?_, fun s hs => by omega⟩, fun q hqq => ?_⟩
            · rw [wo 0 (by omega) (by omega) (by omega) (by omega) (by omega)]; exact x1
            · rw [ww, if_neg (by omega), if_neg (by omega), if_neg (by omega), if_neg (by omega), if_pos rfl]
            · rw [wo 2 (by omega) (by omega) (by omega) (by omega) (by omega)]; exact x3
            · rw [wo (3 + c) (by omega) (by omega) (by omega) (by omega) (by omega), wo (10 + c) (by omega) (by omega) (by omega) (by omega) (by omega), wo (17 + c) (by omega) (by omega) (by omega) (by omega) (by omega), wo (24 + c) (by omega) (by omega) (by omega) (by omega) (by omega)]
              simp [uL]
              exact x4 c hc
            · by_cases ec : q = Q
              · rw [ec, wo (59 + Q) (by omega) (by omega) (by omega) (by omega) (by omega), x9 Q (by omega), ww, ww, ww, ww]
                simp only [uL]
                refine ⟨?_, ?_, ?_, ?_, ?_⟩
                · rw [if_neg (by omega), if_neg (by omega), if_neg (by omega), if_pos trivial]; simp
                · rw [if_neg (by omega), if_neg (by omega), if_pos trivial]; simp
                · rw [if_neg (by omega), if_pos trivial]; simp
                · rw [if_pos trivial]; simp
                · simp [(l8 Q).1, en_99]
              · rw [wo (31 + q) (by omega) (by omega) (by omega) (by omega) (by omega), wo (38 + q) (by omega) (by omega) (by omega) (by omega) (by omega), wo (45 + q) (by omega) (by omega) (by omega) (by omega) (by omega), wo (52 + q) (by omega) (by omega) (by omega) (by omega) (by omega), wo (59 + q) (by omega) (by omega) (by omega) (by omega) (by omega)]
                simp only [uL]
                simp [ec]
                exact x5 q (by omega)
            · rw [wo (66 + q) (by omega) (by omega) (by omega) (by omega) (by omega), show 66 + q = 59 + (7 + q) by omega, x9 (7 + q) (by omega)]
              simp [uL, (hI.2 q).2, en_99]
            · rw [wo (59 + q) (by omega) (by omega) (by omega) (by omega) (by omega)]; exact x9 q hqq
end Reads2
