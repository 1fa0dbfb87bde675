/-! the reference reads a text. -/
def RM (S : aSt) (t m : Nat) (tx : Nat → Int32) : Prop := S.2.2 82 = HRm ∧ S.1 85 t = nI m ∧ (∀ i, i < m → S.1 86 (80 * t + i) = tx i) ∧ t < 4 ∧ m ≤ 80
theorem RM.sm {S S' : aSt} {t m : Nat} {tx : Nat → Int32} (H : RM S t m tx) (h : Sm S S') : RM S' t m tx := by
  unfold RM at *
  rw [h.1 85 (by omega), h.1 86 (by omega), h.2.2.2]
  exact H
/-- what the reference has read -/
def PMd (v : Nat → Int32) (C Q : Nat) (L : Nat → Nat → Nat) : Prop := PM v C Q 0 L ∧ ∀ q, q < 14 → v (59 + q) = -9
theorem sm_at13 (S : aSt) (v : Int32) : Sm S (stI S 82 13 v) := by
  refine ⟨fun k q => ?_, ?_, ?_, rfl⟩
  · rw [stI_ne (by omega)]
  · simp [stI_at]
  · simp [stI_at]
section Reads
variable {S : aSt} {t m C Q : Nat} {tx : Nat → Int32} {L : Nat → Nat → Nat}
theorem X7_byteAt_eq (n : Nat) (H : RM S t m tx) {p : Nat} (hp : p < 100) (e : S.1 82 13 = nI p) : F_X7_byteAt n S 82 (nI t) = some (if p < m then tx p else -1000) := by
  obtain ⟨h1, h2, h3, h4, h5⟩ := H
  have e80 : (80 : Int32) * nI t + nI p = nI (80 * t + p) := by rw [li_80, nI_mulN, nI_add]
  unfold F_X7_byteAt
  simp only [nmE, jnE, bn2S, bndS, grdT, stI_22, stL_22, stRow_22, HRm, rfdS T_83, rfdS T_84, rfdS T_85, rfdS T_86, rfdS T_87, rfdS T_88, rfdS T_89, rfdS T_90, rfdS T_91, rfdS T_92, rfdS T_93, rfdS T_94, rfdS T_95, rfdS T_96, SZ_83, SZ_84, SZ_85, SZ_86, SZ_87, SZ_88, SZ_89, SZ_90, SZ_91, SZ_92, SZ_93, SZ_94, SZ_95, SZ_96, h1, inb_nI h4 (by decide), nI_clamp (show t < 2 ^ 31 by omega), h2, e, e80]
  by_cases k : p < m
  · rw [if_neg (nI_ge k (by omega)), if_pos k, inb_nI (show 80 * t + p < 320 by omega) (by decide), grdT, nI_clamp (show 80 * t + p < 2 ^ 31 by omega), h3 p k]
  · rw [if_pos (nI_le (by omega) (by omega)), if_neg k]
theorem X7_takes_eq (n : Nat) (H : RM S t m tx) {p a lo hi : Nat} (hp : p < 100) (e : S.1 82 13 = nI p) (ha : a < 393) (hlo : lo ≤ 9) (hhi : hi ≤ 9) : F_X7_takes n S 82 (nI t) (nI a) (nI lo) (nI hi) = if fig tx m p lo hi = 99 then some (0, S) else some (1, stI (stI S 91 a (nI (fig tx m p lo hi))) 82 13 (nI (p + 1))) := by
  have h1 := H.1
  unfold F_X7_takes
  rw [X7_byteAt_eq n H hp e, bndS, nmE, X7_in_i, bndS, if10']
  by_cases k : p < m
  · rw [if_pos k]
    by_cases k2 : (nI lo).toInt ≤ (tx p - 48).toInt ∧ (tx p - 48).toInt ≤ (nI hi).toInt
    · have hc : p < m ∧ nI lo ≤ tx p - 48 ∧ tx p - 48 ≤ nI hi := ⟨k, Int32.le_iff_toInt_le.mpr k2.1, Int32.le_iff_toInt_le.mpr k2.2⟩
      have hy := fig_yes hlo hhi hc
      have e13 : (stI S 91 a (tx p - 48)).1 82 13 = nI p := by rw [stI_ne (by decide)]; exact e
      rw [if_pos k2, if_neg (by omega)]
      simp only [nmE, jnE, bn2S, bndS, grdT, stI_22, stL_22, stRow_22, HRm, rfdS T_83, rfdS T_84, rfdS T_85, rfdS T_86, rfdS T_87, rfdS T_88, rfdS T_89, rfdS T_90, rfdS T_91, rfdS T_92, rfdS T_93, rfdS T_94, rfdS T_95, rfdS T_96, SZ_83, SZ_84, SZ_85, SZ_86, SZ_87, SZ_88, SZ_89, SZ_90, SZ_91, SZ_92, SZ_93, SZ_94, SZ_95, SZ_96, h1, inb_nI ha (by decide), nI_clamp (show a < 2 ^ 31 by omega), e13, nI_1, hy.1]
    · rw [if_neg k2, if_pos (fig_no (fun z => k2 ⟨Int32.le_iff_toInt_le.mp z.2.1, Int32.le_iff_toInt_le.mp z.2.2⟩))]
  · rw [if_neg k, if_pos (fig_no (fun z => k z.1)), if_neg]
    rw [nI_toInt (by omega), show ((-1000 : Int32) - 48).toInt = -1048 by decide]
    omega
theorem X7_kindOf_eq (n : Nat) (S : aSt) (b : Int32) : F_X7_kindOf n S b = some (if ltr b = 99 then -1 else nI (ltr b)) := by
  unfold F_X7_kindOf ltr
  by_cases k0 : b = 110
  · simp only [if_pos k0]; rfl
  · simp only [if_neg k0]
    by_cases k1 : b = 121
    · simp only [if_pos k1]; rfl
    · simp only [if_neg k1]
      by_cases k2 : b = 112
      · simp only [if_pos k2]; rfl
      · simp only [if_neg k2]
        by_cases k3 : b = 118
        · simp only [if_pos k3]; rfl
        · simp only [if_neg k3]
          by_cases k4 : b = 116
          · simp only [if_pos k4]; rfl
          · simp only [if_neg k4]
            by_cases k5 : b = 98
            · simp only [if_pos k5]; rfl
            · simp only [if_neg k5]; rfl
/-- one taken place: what stands where -/
theorem tk_at {S : aSt} {a p : Nat} {v : Int32} : (stI (stI S 91 a v) 82 13 (nI p)).1 82 13 = nI p := by simp [stI_at]
theorem tk_91 {S : aSt} {a p j : Nat} {v : Int32} : (stI (stI S 91 a v) 82 13 (nI p)).1 91 j = if j = a then v else S.1 91 j := by
  rw [stI_ne (by decide), stI_at, if_pos rfl]
theorem tk_sm {S S' : aSt} (h : Sm S S') (a : Nat) (v w : Int32) : Sm S (stI (stI S' 91 a v) 82 13 w) := (h.stI (by omega) _ _).trans (sm_at13 _ _)
set_option maxHeartbeats 2000000 in
theorem X7_takesCard_eq (n : Nat) (H : RM S t m tx) {p : Nat} (hp : p < m) (e : S.1 82 13 = nI p) (hP : PMd (S.1 91) C Q L) (hI : LI C Q L) (hq : tx p ≠ 113) : ∃ S', F_X7_takesCard n S 82 (nI t) = some (if (itm tx m p C Q L).1 = 99 then 1 else 0, S') ∧ Sm S S' ∧ S'.1 82 13 = nI (if (itm tx m p C Q L).1 = 99 then p + 4 else (itm tx m p C Q L).1) ∧ ((itm tx m p C Q L).1 = 99 → PMd (S'.1 91) (itm tx m p C Q L).2.1 (itm tx m p C Q L).2.2.1 (itm tx m p C Q L).2.2.2) := by
  have hm := H.2.2.2.2
  have h1 := H.1
  have hC := hI.1.1
  have hQ := hI.1.2.1
  have e0 : S.1 91 0 = nI C := hP.1.1
  have e1 : S.1 91 1 = nI Q := hP.1.2.1
  have hl := ltr_b (tx p)
  have z0 : (0 : Int32).toNatClampNeg = 0 := rfl
  have z1 : (1 : Int32).toNatClampNeg = 1 := rfl
  have r12 : ∀ {β : Type} (f : Nat → Option β), rfd (S.2.2 82 12) 7 f = f 91 := fun f => by rw [h1]; exact rfdS T_91 f
  unfold F_X7_takesCard
  rw [r12, SZ_91, in0, grdT, nmE, z0, e0, X7_byteAt_eq n H (show p < 100 by omega) e, bndS, if_pos hp, X7_kindOf_eq, bndS]
  by_cases kf : ltr (tx p) = 99 ∨ 0 < Q ∨ 7 ≤ C
  · have ei : itm tx m p C Q L = (p, C, Q, L) := by unfold itm; rw [if_neg hq, if_pos kf]
    have hne : ¬ (p, C, Q, L).1 = 99 := fun z => by have : p = 99 := z; omega
    rw [ei, if_neg hne, if_neg hne]
    refine ⟨S, ?_, Sm.refl S, e, fun z => absurd z hne⟩
    by_cases k1 : ltr (tx p) = 99
    · rw [if_pos k1, if_pos (by decide)]
    · rw [if_neg k1, if_neg (nI_pos (by omega))]
      by_cases k2 : C = 7
      · rw [if_pos (by rw [k2]; rfl)]
      · rw [if_neg (show ¬ nI C = (7 : Int32) from fun z => k2 ((nI_eq (b := 7) (by omega) (by decide)).mp z)), in1, grdT, z1, e1, if_neg (nI_nle (by omega) (by omega))]
  · have kl : ltr (tx p) ≠ 99 := fun z => kf (Or.inl z)
    have kQ : Q = 0 := by omega
    have kC : C < 7 := by omega
    have f3 : (3 : Int32) + nI C = nI (3 + C) := nI_add 3 C
    have f10 : (10 : Int32) + nI C = nI (10 + C) := nI_add 10 C
    have f17 : (17 : Int32) + nI C = nI (17 + C) := nI_add 17 C
    have f24 : (24 : Int32) + nI C = nI (24 + C) := nI_add 24 C
    rw [if_neg kl, if_neg (nI_pos (by omega)), if_neg (show ¬ nI C = (7 : Int32) from fun z => by have := (nI_eq (b := 7) (by omega) (by decide)).mp z; omega), in1, grdT, z1, e1, if_pos (by rw [kQ]; decide), nmE, e, nI_1]
    generalize hS1 : stI S 82 13 (nI (p + 1)) = S1
    have m1 : Sm S S1 := by rw [← hS1]; exact sm_at13 S _
    have r12' : ∀ {S' : aSt} {β : Type} (f : Nat → Option β), Sm S S' → rfd (S'.2.2 82 12) 7 f = f 91 := fun f hs => by rw [hs.2.2.2, h1]; exact rfdS T_91 f
    rw [r12' _ m1, SZ_91, f3, inb_nI (show 3 + C < 393 by omega) (by decide), grdT, nmE, nI_clamp (show 3 + C < 2 ^ 31 by omega)]
    generalize hS2 : stI S1 91 (3 + C) (nI (ltr (tx p))) = S2
    have m2 : Sm S S2 := by rw [← hS2]; exact m1.stI (by omega) _ _
    have a2 : S2.1 91 0 = nI C := by rw [← hS2, stI_at, if_pos rfl, if_neg (by omega), ← hS1, stI_ne (by decide)]; exact e0
    rw [r12' _ m2, SZ_91, in0, grdT, grdT, nmE, a2, nI_1]
    generalize hS3 : stI S2 91 0 (nI (C + 1)) = S3
    have m3 : Sm S S3 := by rw [← hS3]; exact m2.stI (by omega) _ _
    have p3 : S3.1 82 13 = nI (p + 1) := by rw [← hS3, stI_ne (by decide), ← hS2, stI_ne (by decide), ← hS1]; simp [stI_at]
    have w3 : ∀ j, S3.1 91 j = if j = 0 then nI (C + 1) else if j = 3 + C then nI (ltr (tx p)) else S.1 91 j := fun j => by rw [← hS3, stI_at, if_pos rfl, ← hS2, stI_at, if_pos rfl, ← hS1, stI_ne (by decide)]
    have q1 : F_X7_takes n S3 82 (nI t) (nI (10 + C)) 0 9 = if fig tx m (p + 1) 0 9 = 99 then some (0, S3) else some (1, stI (stI S3 91 (10 + C) (nI (fig tx m (p + 1) 0 9))) 82 13 (nI (p + 1 + 1))) := X7_takes_eq n (H.sm m3) (p := p + 1) (a := 10 + C) (lo := 0) (hi := 9) (by omega) p3 (by omega) (by omega) (by omega)
    rw [f10, q1]
    by_cases k1 : fig tx m (p + 1) 0 9 = 99
    · have ei : itm tx m p C Q L = (p + 1, C, Q, L) := by unfold itm; rw [if_neg hq, if_neg kf, if_pos k1]
      have hne : ¬ (p + 1, C, Q, L).1 = 99 := fun z => by have : p + 1 = 99 := z; omega
      rw [if_pos k1, ei, if_neg hne, if_neg hne, bn2S]
      exact ⟨S3, if_pos rfl, m3, p3, fun z => absurd z hne⟩
    · rw [if_neg k1, bn2S, if_neg (by decide)]
      generalize hS4 : stI (stI S3 91 (10 + C) (nI (fig tx m (p + 1) 0 9))) 82 13 (nI (p + 1 + 1)) = S4
      have m4 : Sm S S4 := by rw [← hS4]; exact tk_sm m3 _ _ _
      have p4 : S4.1 82 13 = nI (p + 2) := by rw [← hS4]; exact tk_at
      have w4 : ∀ j, S4.1 91 j = if j = 10 + C then nI (fig tx m (p + 1) 0 9) else S3.1 91 j := fun j => by rw [← hS4]; exact tk_91
      have q2 : F_X7_takes n S4 82 (nI t) (nI (17 + C)) 0 3 = if fig tx m (p + 2) 0 3 = 99 then some (0, S4) else some (1, stI (stI S4 91 (17 + C) (nI (fig tx m (p + 2) 0 3))) 82 13 (nI (p + 2 + 1))) := X7_takes_eq n (H.sm m4) (p := p + 2) (a := 17 + C) (lo := 0) (hi := 3) (by omega) p4 (by omega) (by omega) (by omega)
      rw [f17, q2]
      by_cases k2 : fig tx m (p + 2) 0 3 = 99
      · have ei : itm tx m p C Q L = (p + 2, C, Q, L) := by unfold itm; rw [if_neg hq, if_neg kf, if_neg k1, if_pos k2]
        have hne : ¬ (p + 2, C, Q, L).1 = 99 := fun z => by have : p + 2 = 99 := z; omega
        rw [if_pos k2, ei, if_neg hne, if_neg hne, bn2S]
        exact ⟨S4, if_pos rfl, m4, p4, fun z => absurd z hne⟩
      · rw [if_neg k2, bn2S, if_neg (by decide)]
        generalize hS5 : stI (stI S4 91 (17 + C) (nI (fig tx m (p + 2) 0 3))) 82 13 (nI (p + 2 + 1)) = S5
        have m5 : Sm S S5 := by rw [← hS5]; exact tk_sm m4 _ _ _
        have p5 : S5.1 82 13 = nI (p + 3) := by rw [← hS5]; exact tk_at
        have w5 : ∀ j, S5.1 91 j = if j = 17 + C then nI (fig tx m (p + 2) 0 3) else S4.1 91 j := fun j => by rw [← hS5]; exact tk_91
        have q3 : F_X7_takes n S5 82 (nI t) (nI (24 + C)) 0 9 = if fig tx m (p + 3) 0 9 = 99 then some (0, S5) else some (1, stI (stI S5 91 (24 + C) (nI (fig tx m (p + 3) 0 9))) 82 13 (nI (p + 3 + 1))) := X7_takes_eq n (H.sm m5) (p := p + 3) (a := 24 + C) (lo := 0) (hi := 9) (by omega) p5 (by omega) (by omega) (by omega)
        rw [f24, q3]
        by_cases k3 : fig tx m (p + 3) 0 9 = 99
        · have ei : itm tx m p C Q L = (p + 3, C, Q, L) := by unfold itm; rw [if_neg hq, if_neg kf, if_neg k1, if_neg k2, if_pos k3]
          have hne : ¬ (p + 3, C, Q, L).1 = 99 := fun z => by have : p + 3 = 99 := z; omega
          rw [if_pos k3, ei, if_neg hne, if_neg hne, bn2S]
          exact ⟨S5, if_pos rfl, m5, p5, fun z => absurd z hne⟩
        · have ei : itm tx m p C Q L = (99, C + 1, Q, uL (uL (uL (uL L 0 C (ltr (tx p))) 1 C (fig tx m (p + 1) 0 9)) 2 C (fig tx m (p + 2) 0 3)) 3 C (fig tx m (p + 3) 0 9)) := by unfold itm; rw [if_neg hq, if_neg kf, if_neg k1, if_neg k2, if_neg k3]
          rw [if_neg k3, ei, if_pos rfl, if_pos rfl, bn2S, if_neg (by decide)]
          generalize hS6 : stI (stI S5 91 (24 + C) (nI (fig tx m (p + 3) 0 9))) 82 13 (nI (p + 3 + 1)) = S6
          have m6 : Sm S S6 := by rw [← hS6]; exact tk_sm m5 _ _ _
          have p6 : S6.1 82 13 = nI (p + 4) := by rw [← hS6]; exact tk_at
          have w6 : ∀ j, S6.1 91 j = if j = 24 + C then nI (fig tx m (p + 3) 0 9) else S5.1 91 j := fun j => by rw [← hS6]; exact tk_91
          refine ⟨S6, rfl, m6, p6, fun _ => ?_⟩
          obtain ⟨⟨x1, x2, x3, x4, x5, x6, x7⟩, x9⟩ := hP
          have ww : ∀ j, S6.1 91 j = if j = 24 + C then nI (fig tx m (p + 3) 0 9) else if j = 17 + C then nI (fig tx m (p + 2) 0 3) else if j = 10 + C then nI (fig tx m (p + 1) 0 9) else if j = 0 then nI (C + 1) else if j = 3 + C then nI (ltr (tx p)) else S.1 91 j := fun j => by rw [w6, w5, w4, w3]
          clear w3 w4 w5 w6 q1 q2 q3
          generalize S6.1 91 = u at ww
          generalize S.1 91 = v at ww x1 x2 x3 x4 x5 x6 x7 x9
          generalize ltr (tx p) = g0 at ww
          generalize fig tx m (p + 1) 0 9 = g1 at ww
          generalize fig tx m (p + 2) 0 3 = g2 at ww
          generalize fig tx m (p + 3) 0 9 = g3 at ww
          have wo : ∀ j, j ≠ 24 + C → j ≠ 17 + C → j ≠ 10 + C → j ≠ 0 → j ≠ 3 + C → u j = v j := fun j a b c e f => by rw [ww, if_neg a, if_neg b, if_neg c, if_neg e, if_neg f]
          show PMd u (C + 1) Q (uL (uL (uL (uL L 0 C g0) 1 C g1) 2 C g2) 3 C g3)
          refine ⟨⟨?_, ?_, ?_, fun c hc => ?_, fun q hqq => by omega, fun q hqq _ => ?_, fun s hs => by omega⟩, fun q hqq => ?_⟩
          · rw [ww, if_neg (by omega), if_neg (by omega), if_neg (by omega), if_pos rfl]
          · rw [wo 1 (by omega) (by omega) (by omega) (by omega) (by omega)]; exact x2
          · rw [wo 2 (by omega) (by omega) (by omega) (by omega) (by omega)]; exact x3
          · by_cases ec : c = C
            · rw [ec, ww, ww, ww, ww]
              simp only [uL]
              refine ⟨?_, ?_, ?_, ?_⟩
              · rw [if_neg (by omega), if_neg (by omega), if_neg (by omega), if_neg (by omega), if_pos trivial]; simp
              · rw [if_neg (by omega), if_neg (by omega), if_pos trivial]; simp
              · rw [if_neg (by omega), if_pos trivial]; simp
              · rw [if_pos trivial]; simp
            · rw [wo (3 + c) (by omega) (by omega) (by omega) (by omega) (by omega), wo (10 + c) (by omega) (by omega) (by omega) (by omega) (by omega), wo (17 + c) (by omega) (by omega) (by omega) (by omega) (by omega), wo (24 + c) (by omega) (by omega) (by omega) (by omega) (by omega)]
              simp only [uL]
              simp [ec]
              exact x4 c (by omega)
          · rw [wo (66 + q) (by omega) (by omega) (by omega) (by omega) (by omega), show 66 + q = 59 + (7 + q) by omega, x9 (7 + q) (by omega)]
            simp [uL, (hI.2 q).2, en_99]
          · rw [wo (59 + q) (by omega) (by omega) (by omega) (by omega) (by omega)]; exact x9 q hqq
end Reads
