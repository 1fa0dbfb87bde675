/-! forged, habit. -/
section Lib8
variable {S : aSt} {h C Q T : Nat} {L : Nat → Nat → Nat}
theorem X1_questionsFitted_eq (n : Nat) (hn : 10 < n) (H : CX S h C Q T L) {c : Nat} (hc : c < C) : F_X1_questionsFitted n S h (nI c) = some (nI (fb_ct (fun q => ft L q c) Q)) := by
  have hQ := H.2.2.2.2.2.1
  unfold F_X1_questionsFitted
  simp only [jnE]
  refine lp_ct (fun fu a i => F_X1_questionsFitted_L4 n S h (nI c) (fun x => some x) fu a i) (fun x => some x) _ Q n (by omega) (fun fu a => ?_) (fun fu q a hq => ?_)
  · show F_X1_questionsFitted_L4 _ _ _ _ _ (fu + 1) _ _ = _
    rw [F_X1_questionsFitted_L4, H.2.2.2.1.2.1, if_pos (Int32.le_refl _)]
  · show F_X1_questionsFitted_L4 _ _ _ _ _ (fu + 1) _ _ = F_X1_questionsFitted_L4 _ _ _ _ _ fu _ _
    rw [F_X1_questionsFitted_L4, H.2.2.2.1.2.1, if_neg (nI_ge hq (by omega))]
    simp only [nmE, jnE, bn2S, bndS, grdT, stI_22, stL_22, stRow_22, X1_isFitting_eq n H hc hq, if10', nI_1]
    by_cases k : ft L q c = true
    · rw [if_pos k, if_pos k]
    · rw [if_neg k, if_neg k]
theorem X7_forged_in (n : Nat) (hn : 10 < n) (H : CM S C Q T L) {c : Nat} (hc : c < C) (K : Int32 → Option (Int32 × aSt)) : F_X7_forged_L23 n S 82 (nI c) 87 K n 0 0 = K (nI (fb_ct (fun q => ft L q c) Q)) := by
  have hQ := H.2.2.2.1
  refine lp_ct (fun fu a i => F_X7_forged_L23 n S 82 (nI c) 87 K fu a i) K _ Q n (by omega) (fun fu a => ?_) (fun fu q a hq => ?_)
  · show F_X7_forged_L23 _ _ _ _ _ _ (fu + 1) _ _ = _
    rw [F_X7_forged_L23]
    simp only [nmE, jnE, bn2S, bndS, grdT, stI_22, stL_22, stRow_22, HRm, rfdS T_83, rfdS T_84, rfdS T_85, rfdS T_86, rfdS T_87, rfdS T_88, rfdS T_89, rfdS T_90, rfdS T_91, rfdS T_92, rfdS T_93, rfdS T_94, rfdS T_95, rfdS T_96, SZ_83, SZ_84, SZ_85, SZ_86, SZ_87, SZ_88, SZ_89, SZ_90, SZ_91, SZ_92, SZ_93, SZ_94, SZ_95, SZ_96, in1, H.v1]
    rw [if_pos (Int32.le_refl _)]
  · show F_X7_forged_L23 _ _ _ _ _ _ (fu + 1) _ _ = F_X7_forged_L23 _ _ _ _ _ _ fu _ _
    rw [F_X7_forged_L23]
    simp only [nmE, jnE, bn2S, bndS, grdT, stI_22, stL_22, stRow_22, HRm, rfdS T_83, rfdS T_84, rfdS T_85, rfdS T_86, rfdS T_87, rfdS T_88, rfdS T_89, rfdS T_90, rfdS T_91, rfdS T_92, rfdS T_93, rfdS T_94, rfdS T_95, rfdS T_96, SZ_83, SZ_84, SZ_85, SZ_86, SZ_87, SZ_88, SZ_89, SZ_90, SZ_91, SZ_92, SZ_93, SZ_94, SZ_95, SZ_96, in1, H.v1]
    rw [if_neg (nI_ge hq (by omega))]
    simp only [nmE, jnE, bn2S, bndS, grdT, stI_22, stL_22, stRow_22, X7_isFit_eq n H hc hq, if10', nI_1, show ∀ a : Int32, a + 0 = a by simp]
    by_cases k : ft L q c = true
    · rw [if_pos k, if_pos k]
    · rw [if_neg k, if_neg k]
def fgS (L : Nat → Nat → Nat) (Q : Nat) (c : Nat) (a : Int32 × Int32) : Int32 × Int32 := if nI (fb_ct (fun q => ft L q c) Q) ≤ a.2 then a else (nI c, nI (fb_ct (fun q => ft L q c) Q))
theorem X6_forged_loop (n : Nat) (hn : 10 < n) {d : Nat} (hX : RfX S h d) (H : CX S h C Q T L) (K : Int32 → Int32 → Option (Int32 × aSt)) : F_X6_forged_L7 n S 0 K n (-9) (-1) 0 = K (itr (fgS L Q) (-9, -1) C).1 (itr (fgS L Q) (-9, -1) C).2 := by
  have hC := H.2.2.2.2.1
  refine lp_it (fun fu a i => F_X6_forged_L7 n S 0 K fu a.1 a.2 i) (fun a => K a.1 a.2) (fgS L Q) C n (-9, -1) (by omega) (fun fu a => ?_) (fun fu c a hc => ?_)
  · show F_X6_forged_L7 _ _ _ _ (fu + 1) _ _ _ = _
    rw [F_X6_forged_L7, X0_here hX, H.2.2.2.1.1, if_pos (Int32.le_refl _)]
  · show F_X6_forged_L7 _ _ _ _ (fu + 1) _ _ _ = F_X6_forged_L7 _ _ _ _ fu _ _ _
    rw [F_X6_forged_L7, X0_here hX, H.2.2.2.1.1, if_neg (nI_ge hc (by omega))]
    simp only [nmE, jnE, bn2S, bndS, grdT, stI_22, stL_22, stRow_22, X1_questionsFitted_eq n hn H hc, nI_1, fgS]
    by_cases k : nI (fb_ct (fun q => ft L q c) Q) ≤ a.2
    · rw [if_pos k, if_pos k]
    · rw [if_neg k, if_neg k]
theorem X7_forged_loop (n : Nat) (hn : 10 < n) (H : CM S C Q T L) (K : Int32 → Int32 → Option (Int32 × aSt)) : F_X7_forged_L7 n S 82 K n (-9) (-1) 0 = K (itr (fgS L Q) (-9, -1) C).1 (itr (fgS L Q) (-9, -1) C).2 := by
  have hC := H.2.2.1
  refine lp_it (fun fu a i => F_X7_forged_L7 n S 82 K fu a.1 a.2 i) (fun a => K a.1 a.2) (fgS L Q) C n (-9, -1) (by omega) (fun fu a => ?_) (fun fu c a hc => ?_)
  · show F_X7_forged_L7 _ _ _ _ (fu + 1) _ _ _ = _
    rw [F_X7_forged_L7]
    simp only [nmE, jnE, bn2S, bndS, grdT, stI_22, stL_22, stRow_22, HRm, rfdS T_83, rfdS T_84, rfdS T_85, rfdS T_86, rfdS T_87, rfdS T_88, rfdS T_89, rfdS T_90, rfdS T_91, rfdS T_92, rfdS T_93, rfdS T_94, rfdS T_95, rfdS T_96, SZ_83, SZ_84, SZ_85, SZ_86, SZ_87, SZ_88, SZ_89, SZ_90, SZ_91, SZ_92, SZ_93, SZ_94, SZ_95, SZ_96, H.1, in0, H.v0]
    rw [if_pos (Int32.le_refl _)]
  · show F_X7_forged_L7 _ _ _ _ (fu + 1) _ _ _ = F_X7_forged_L7 _ _ _ _ fu _ _ _
    rw [F_X7_forged_L7]
    simp only [nmE, jnE, bn2S, bndS, grdT, stI_22, stL_22, stRow_22, HRm, rfdS T_83, rfdS T_84, rfdS T_85, rfdS T_86, rfdS T_87, rfdS T_88, rfdS T_89, rfdS T_90, rfdS T_91, rfdS T_92, rfdS T_93, rfdS T_94, rfdS T_95, rfdS T_96, SZ_83, SZ_84, SZ_85, SZ_86, SZ_87, SZ_88, SZ_89, SZ_90, SZ_91, SZ_92, SZ_93, SZ_94, SZ_95, SZ_96, H.1, in0, H.v0]
    rw [if_neg (nI_ge hc (by omega)), X7_forged_in n hn H hc]
    simp only [nmE, jnE, bn2S, bndS, grdT, stI_22, stL_22, stRow_22, nI_1, fgS]
    by_cases k : nI (fb_ct (fun q => ft L q c) Q) ≤ a.2
    · rw [if_pos k, if_pos k, if_pos k]
    · rw [if_neg k, if_neg k, if_neg k]
end Lib8
theorem op_forged (n : Nat) (hn : 100 < n) {S : aSt} (H : OK S) : Both S (F_X6_forged n S 0) (fun S1 => F_X7_forged n S1 82) := by
  obtain ⟨h, d, C, Q, T, L, hX, hM, hCX, hCM, hk⟩ := H.get
  have e1 := X6_forged_loop n (by omega) hX hCX
  have e2 := fun {S' : aSt} (q : CM S' C Q T L) => X7_forged_loop n (by omega) q
  generalize itr (fgS L Q) (-9, -1) C = z at e1 e2
  obtain ⟨b, m⟩ := z
  by_cases h9 : b = -9
  · refine Both.same H (-9) ?_ ?_
    · unfold F_X6_forged
      simp only [nmE, jnE, bn2S, bndS, grdT, stI_22, stL_22, stRow_22]
      rw [e1]
      simp only [h9, if_true]
    · unfold F_X7_forged
      simp only [nmE, jnE, bn2S, bndS, grdT, stI_22, stL_22, stRow_22]
      rw [e2 hCM]
      simp only [h9, if_true]
  · refine Both.tell H m b ?_ ?_
    · unfold F_X6_forged
      simp only [nmE, jnE, bn2S, bndS, grdT, stI_22, stL_22, stRow_22]
      rw [e1]
      simp only [if_neg h9]
      rfl
    · have hCM1 : CM (xTell S m) C Q T L := hCM.congr rfl (xTell_m (by decide))
      show F_X7_forged n (xTell S m) 82 = _
      unfold F_X7_forged
      simp only [nmE, jnE, bn2S, bndS, grdT, stI_22, stL_22, stRow_22]
      rw [e2 hCM1]
      simp only [if_neg h9, X7_tell_eq, bn2S]
/-! habits -/
def ly (L : Nat → Nat → Nat) (C k s : Nat) : Nat := fb_ct (fun c => decide (L 0 c = k) && decide (L 2 c = s)) C
section Lib9
variable {S : aSt} {h C Q T : Nat} {L : Nat → Nat → Nat}
theorem X1_cardsOfOn_eq (n : Nat) (hn : 10 < n) (H : CX S h C Q T L) {k s : Nat} (hk : k < 2 ^ 31) (hs : s < 2 ^ 31) : F_X1_cardsOfOn n S h (nI k) (nI s) = some (nI (ly L C k s)) := by
  have hw := H.2.2.2.2
  have hC := hw.1
  unfold F_X1_cardsOfOn
  simp only [jnE]
  refine lp_ct (fun fu a i => F_X1_cardsOfOn_L5 S h (nI k) (nI s) (fun x => some x) fu a i) (fun x => some x) _ C n (by omega) (fun fu a => ?_) (fun fu c a hc => ?_)
  · show F_X1_cardsOfOn_L5 _ _ _ _ _ (fu + 1) _ _ = _
    rw [F_X1_cardsOfOn_L5, H.2.2.2.1.1, if_pos (Int32.le_refl _)]
  · show F_X1_cardsOfOn_L5 _ _ _ _ _ (fu + 1) _ _ = F_X1_cardsOfOn_L5 _ _ _ _ _ fu _ _
    have w5 := hw.2.2.2.2.1 c hc
    rw [F_X1_cardsOfOn_L5, H.2.2.2.1.1, if_neg (nI_ge hc (by omega))]
    simp only [nmE, jnE, bn2S, bndS, grdT, stI_22, stL_22, stRow_22, H.r0, H.r6, H.s0, rfdS (tg1 H.1), rfdS (tg7 H.1), rfdS (tgs1 H.1), sg1 H.1, sgs1 H.1, inb_nI (show c < 7 by omega) (by decide), nI_clamp (show c < 2 ^ 31 by omega), (H.2.2.2.1.2.2.1 c hc).1, (H.2.2.2.1.2.2.2.2.2.1 c hc).1, nI_eq (show L 0 c < 2 ^ 31 by omega) hk, nI_eq (show L 2 c < 2 ^ 31 by omega) hs, nI_1]
    by_cases k1 : L 0 c = k
    · by_cases k2 : L 2 c = s
      · simp [k1, k2]
      · simp [k1, k2]
    · simp [k1]
theorem X7_lying_eq (n : Nat) (hn : 10 < n) (H : CM S C Q T L) {k s : Nat} (hk : k < 2 ^ 31) (hs : s < 2 ^ 31) : F_X7_lying n S 82 (nI k) (nI s) = some (nI (ly L C k s)) := by
  have hw := H.2.2
  have hC := hw.1
  unfold F_X7_lying
  simp only [jnE]
  refine lp_ct (fun fu a i => F_X7_lying_L5 S 82 (nI k) (nI s) (fun x => some x) fu a i) (fun x => some x) _ C n (by omega) (fun fu a => ?_) (fun fu c a hc => ?_)
  · show F_X7_lying_L5 _ _ _ _ _ (fu + 1) _ _ = _
    rw [F_X7_lying_L5]
    simp only [nmE, jnE, bn2S, bndS, grdT, stI_22, stL_22, stRow_22, HRm, rfdS T_83, rfdS T_84, rfdS T_85, rfdS T_86, rfdS T_87, rfdS T_88, rfdS T_89, rfdS T_90, rfdS T_91, rfdS T_92, rfdS T_93, rfdS T_94, rfdS T_95, rfdS T_96, SZ_83, SZ_84, SZ_85, SZ_86, SZ_87, SZ_88, SZ_89, SZ_90, SZ_91, SZ_92, SZ_93, SZ_94, SZ_95, SZ_96, H.1, in0, H.v0]
    rw [if_pos (Int32.le_refl _)]
  · show F_X7_lying_L5 _ _ _ _ _ (fu + 1) _ _ = F_X7_lying_L5 _ _ _ _ _ fu _ _
    have w5 := hw.2.2.2.2.1 c hc
    obtain ⟨a0, a1, a2, a3⟩ := H.2.1.2.2.2.1 c hc
    have e3 : (3 : Int32) + nI c = nI (3 + c) := nI_add 3 c
    have e17 : (17 : Int32) + nI c = nI (17 + c) := nI_add 17 c
    rw [F_X7_lying_L5]
    simp only [nmE, jnE, bn2S, bndS, grdT, stI_22, stL_22, stRow_22, HRm, rfdS T_83, rfdS T_84, rfdS T_85, rfdS T_86, rfdS T_87, rfdS T_88, rfdS T_89, rfdS T_90, rfdS T_91, rfdS T_92, rfdS T_93, rfdS T_94, rfdS T_95, rfdS T_96, SZ_83, SZ_84, SZ_85, SZ_86, SZ_87, SZ_88, SZ_89, SZ_90, SZ_91, SZ_92, SZ_93, SZ_94, SZ_95, SZ_96, H.1, in0, H.v0]
    rw [if_neg (nI_ge hc (by omega))]
    simp only [nmE, jnE, bn2S, bndS, grdT, stI_22, stL_22, stRow_22, HRm, rfdS T_83, rfdS T_84, rfdS T_85, rfdS T_86, rfdS T_87, rfdS T_88, rfdS T_89, rfdS T_90, rfdS T_91, rfdS T_92, rfdS T_93, rfdS T_94, rfdS T_95, rfdS T_96, SZ_83, SZ_84, SZ_85, SZ_86, SZ_87, SZ_88, SZ_89, SZ_90, SZ_91, SZ_92, SZ_93, SZ_94, SZ_95, SZ_96, e3, e17, inb_nI (show 3 + c < 393 by omega) (by decide), inb_nI (show 17 + c < 393 by omega) (by decide), nI_clamp (show 3 + c < 2 ^ 31 by omega), nI_clamp (show 17 + c < 2 ^ 31 by omega), a0, a2, nI_eq (show L 0 c < 2 ^ 31 by omega) hk, nI_eq (show L 2 c < 2 ^ 31 by omega) hs, nI_1]
    by_cases k1 : L 0 c = k
    · by_cases k2 : L 2 c = s
      · simp [k1, k2]
      · simp [k1, k2]
    · simp [k1]
end Lib9
