/-! may, sure, fullest. -/
theorem RfX.r4 {S : aSt} {h d : Nat} (H : RfX S h d) {β : Type} (f : Nat → Option β) : rfd (S.2.2 0 4) 1 f = f 5 := by rw [H.2.1]; exact rfdS T_5 f
theorem RfX.eqs {S S' : aSt} {h d : Nat} (H : RfX S h d) (e : S'.2.2 = S.2.2) : RfX S' h d := by unfold RfX at *; rw [e]; exact H
theorem RfM.eqs {S S' : aSt} (H : RfM S) (e : S'.2.2 = S.2.2) : RfM S' := by unfold RfM at *; rw [e]; exact H
theorem Sm.rf {S S' : aSt} (H : Sm S S') : S'.2.2 = S.2.2 := by rw [H.2.2.2]
theorem ff_s (p : Nat → Bool) (n : Nat) : fa_first p (n + 1) = if fa_first p n < n then fa_first p n else if p n then n else n + 1 := rfl
theorem ct_block (p : Nat → Bool) : ∀ m, fb_ct p (7 * m) = fb_sm (fun q => fb_ct (fun c => p (7 * q + c)) 7) m
  | 0 => rfl
  | m + 1 => by rw [show 7 * (m + 1) = 7 * m + 7 by omega, fb_ct_split, ct_block p m, fb_sm_succ]
section May
variable {S : aSt} {h C Q T : Nat} {L : Nat → Nat → Nat}
theorem X7_r16 (H : S.2.2 82 = HRm) {β : Type} (f : Nat → Option β) : rfd (S.2.2 82 16) 7 f = f 94 := by rw [H]; exact rfdS T_94 f
theorem X6_may_loop (n : Nat) (hn : 200 < n) {S0 : aSt} {d : Nat} (hX : RfX S h d) (hC : CX S h C Q T L) (H : TF S0 S C Q L (mx C (alm L) (fun _ => 1) Q 0 0)) {c : Nat} (hc : c < C) (K : Int32 → Option (Int32 × aSt)) : F_X6_may_L28 n 0 (nI c) S K n 0 0 = K (nI (bs (fun q => decide (0 < wi L C Q (7 * q + c))) Q)) := by
  have hQ := hC.2.2.2.2.2.1
  have hC7 := hC.2.2.2.2.1
  refine lp_bs (fun fu a i => F_X6_may_L28 n 0 (nI c) S K fu a i) K _ Q n (by omega) (by omega) (fun fu a => ?_) (fun fu q a hq => ?_)
  · show F_X6_may_L28 _ _ _ _ _ (fu + 1) _ _ = _
    rw [F_X6_may_L28, X0_here hX, hC.2.2.2.1.2.1, if_pos (Int32.le_refl _)]
  · show F_X6_may_L28 _ _ _ _ _ (fu + 1) _ _ = F_X6_may_L28 _ _ _ _ _ fu _ _
    have hw := wi_le L C Q (7 * q + c)
    have ht := tot_le (L := L) hC7 hQ
    rw [F_X6_may_L28, X0_here hX, hC.2.2.2.1.2.1, if_neg (nI_ge hq (by omega)), hX.r4, X2_countWith_eq n hn H hq hc]
    simp only [bndS, nmE, jnE, nI_1, decide_eq_true_eq]
    by_cases k : 0 < wi L C Q (7 * q + c)
    · rw [if_neg (nI_nle k (by omega)), if_pos k]
    · rw [show wi L C Q (7 * q + c) = 0 by omega, if_pos (by decide), if_neg (by omega)]
theorem X7_may_loop (n : Nat) (hn : 200 < n) (hC : CM S C Q T L) (H : CF S C Q L) {c : Nat} (hc : c < C) (K : Int32 → Option (Int32 × aSt)) : F_X7_may_L19 82 (nI c) S K n 0 0 = K (nI (bs (fun q => decide (0 < wi L C Q (7 * q + c))) Q)) := by
  have hQ := hC.2.2.2.1
  have hC7 := hC.2.2.1
  refine lp_bs (fun fu a i => F_X7_may_L19 82 (nI c) S K fu a i) K _ Q n (by omega) (by omega) (fun fu a => ?_) (fun fu q a hq => ?_)
  · show F_X7_may_L19 _ _ _ _ (fu + 1) _ _ = _
    rw [F_X7_may_L19]
    simp only [nmE, jnE, bn2S, bndS, grdT, stI_22, stL_22, stRow_22, HRm, rfdS T_83, rfdS T_84, rfdS T_85, rfdS T_86, rfdS T_87, rfdS T_88, rfdS T_89, rfdS T_90, rfdS T_91, rfdS T_92, rfdS T_93, rfdS T_94, rfdS T_95, rfdS T_96, SZ_83, SZ_84, SZ_85, SZ_86, SZ_87, SZ_88, SZ_89, SZ_90, SZ_91, SZ_92, SZ_93, SZ_94, SZ_95, SZ_96, hC.1, in1, hC.v1]
    rw [if_pos (Int32.le_refl _)]
  · show F_X7_may_L19 _ _ _ _ (fu + 1) _ _ = F_X7_may_L19 _ _ _ _ fu _ _
    have hw := wi_le L C Q (7 * q + c)
    have ht := tot_le (L := L) hC7 hQ
    rw [F_X7_may_L19]
    simp only [nmE, jnE, bn2S, bndS, grdT, stI_22, stL_22, stRow_22, HRm, rfdS T_83, rfdS T_84, rfdS T_85, rfdS T_86, rfdS T_87, rfdS T_88, rfdS T_89, rfdS T_90, rfdS T_91, rfdS T_92, rfdS T_93, rfdS T_94, rfdS T_95, rfdS T_96, SZ_83, SZ_84, SZ_85, SZ_86, SZ_87, SZ_88, SZ_89, SZ_90, SZ_91, SZ_92, SZ_93, SZ_94, SZ_95, SZ_96, hC.1, in1, hC.v1]
    rw [if_neg (nI_ge hq (by omega))]
    simp only [nmE, jnE, bn2S, bndS, grdT, stI_22, stL_22, stRow_22, HRm, rfdS T_83, rfdS T_84, rfdS T_85, rfdS T_86, rfdS T_87, rfdS T_88, rfdS T_89, rfdS T_90, rfdS T_91, rfdS T_92, rfdS T_93, rfdS T_94, rfdS T_95, rfdS T_96, SZ_83, SZ_84, SZ_85, SZ_86, SZ_87, SZ_88, SZ_89, SZ_90, SZ_91, SZ_92, SZ_93, SZ_94, SZ_95, SZ_96, li_7, nI_mulN, nI_add, inb_nI (show 7 * q + c < 49 by omega) (by decide), nI_clamp (show 7 * q + c < 2 ^ 31 by omega), H.2.2.1 _ (show 7 * q + c < 49 by omega), nI_1, decide_eq_true_eq, or_0]
    by_cases k : 0 < wi L C Q (7 * q + c)
    · rw [if_neg (nI_nle k (by omega)), if_pos k]
    · rw [show wi L C Q (7 * q + c) = 0 by omega, if_pos (by decide), if_neg (by omega)]
theorem X7_sure_loop (n : Nat) (hn : 200 < n) (hC : CM S C Q T L) (H : CF S C Q L) {q : Nat} (hq : q < Q) (K : Int32 → Option (Int32 × aSt)) : F_X7_sure_L20 82 (nI q) S K n (-9) 0 = K (if sC L C Q q < C then nI (sC L C Q q) else -9) := by
  have hQ := hC.2.2.2.1
  have hC7 := hC.2.2.1
  have key := lp_eq (fun fu a i => F_X7_sure_L20 82 (nI q) S K fu a i) K (fun m => if fa_first (fun c => decide (wi L C Q (7 * q + c) = tot L C Q)) m < m then nI (fa_first (fun c => decide (wi L C Q (7 * q + c) = tot L C Q)) m) else -9) C (fun fu => ?_) (fun fu c hc => ?_) C 0 n (by omega) (by omega)
  · exact key
  · show F_X7_sure_L20 _ _ _ _ (fu + 1) _ _ = _
    rw [F_X7_sure_L20]
    simp only [nmE, jnE, bn2S, bndS, grdT, stI_22, stL_22, stRow_22, HRm, rfdS T_83, rfdS T_84, rfdS T_85, rfdS T_86, rfdS T_87, rfdS T_88, rfdS T_89, rfdS T_90, rfdS T_91, rfdS T_92, rfdS T_93, rfdS T_94, rfdS T_95, rfdS T_96, SZ_83, SZ_84, SZ_85, SZ_86, SZ_87, SZ_88, SZ_89, SZ_90, SZ_91, SZ_92, SZ_93, SZ_94, SZ_95, SZ_96, hC.1, in0, hC.v0]
    rw [if_pos (Int32.le_refl _)]
  · show F_X7_sure_L20 _ _ _ _ (fu + 1) _ _ = F_X7_sure_L20 _ _ _ _ fu _ _
    have hw := wi_le L C Q (7 * q + c)
    have ht := tot_le (L := L) hC7 hQ
    have f1 := fa_first_le (fun c => decide (wi L C Q (7 * q + c) = tot L C Q)) c
    have f3 := fa_first_yes (fun c => decide (wi L C Q (7 * q + c) = tot L C Q)) c
    rw [F_X7_sure_L20, ff_s]
    generalize fa_first (fun c => decide (wi L C Q (7 * q + c) = tot L C Q)) c = j at f1 f3 ⊢
    simp only [nmE, jnE, bn2S, bndS, grdT, stI_22, stL_22, stRow_22, HRm, rfdS T_83, rfdS T_84, rfdS T_85, rfdS T_86, rfdS T_87, rfdS T_88, rfdS T_89, rfdS T_90, rfdS T_91, rfdS T_92, rfdS T_93, rfdS T_94, rfdS T_95, rfdS T_96, SZ_83, SZ_84, SZ_85, SZ_86, SZ_87, SZ_88, SZ_89, SZ_90, SZ_91, SZ_92, SZ_93, SZ_94, SZ_95, SZ_96, hC.1, in0, hC.v0]
    rw [if_neg (nI_ge hc (by omega))]
    simp only [nmE, jnE, bn2S, bndS, grdT, stI_22, stL_22, stRow_22, HRm, rfdS T_83, rfdS T_84, rfdS T_85, rfdS T_86, rfdS T_87, rfdS T_88, rfdS T_89, rfdS T_90, rfdS T_91, rfdS T_92, rfdS T_93, rfdS T_94, rfdS T_95, rfdS T_96, SZ_83, SZ_84, SZ_85, SZ_86, SZ_87, SZ_88, SZ_89, SZ_90, SZ_91, SZ_92, SZ_93, SZ_94, SZ_95, SZ_96, li_7, nI_mulN, nI_add, inb_nI (show 7 * q + c < 49 by omega) (by decide), nI_clamp (show 7 * q + c < 2 ^ 31 by omega), H.2.2.1 _ (show 7 * q + c < 49 by omega), nI_1, decide_eq_true_eq, H.2.1]
    by_cases k : wi L C Q (7 * q + c) = tot L C Q
    · have hj : ¬ j < c := fun z => by
        have := of_decide_eq_true (f3 z)
        have := wi_one hC7 hq (show j < 7 by omega) (show c < 7 by omega) this k
        omega
      rw [if_pos (by rw [k]), if_neg hj, if_pos k, if_pos (by omega)]
    · rw [if_neg (by rw [nI_eq (by omega) (by omega)]; exact k), if_neg k]
      by_cases hj : j < c
      · rw [if_pos hj, if_pos hj, if_pos (by omega)]
      · rw [if_neg hj, if_neg hj, if_neg (by omega)]
theorem sure_ct (hC : C ≤ 7) (hQ : Q ≤ 7) : fb_ct (fun i => decide (wi L C Q i = tot L C Q)) 49 = fb_ct (fun q => decide (sC L C Q q < C)) Q := by
  have hp := tot_pos L C Q
  have hb : ∀ q, q < 7 → fb_ct (fun c => decide (wi L C Q (7 * q + c) = tot L C Q)) 7 = if (decide (q < Q) && decide (sC L C Q q < C)) = true then 1 else 0 := by
    intro q hq
    have f1 := fa_first_le (fun c => decide (wi L C Q (7 * q + c) = tot L C Q)) C
    have f2 := fa_first_no (fun c => decide (wi L C Q (7 * q + c) = tot L C Q)) C
    have f3 := fa_first_yes (fun c => decide (wi L C Q (7 * q + c) = tot L C Q)) C
    unfold sC
    generalize fa_first (fun c => decide (wi L C Q (7 * q + c) = tot L C Q)) C = j at f1 f2 f3 ⊢
    by_cases k : q < Q
    · by_cases hj : j < C
      · rw [if_pos (by simp [k, hj])]
        have hy := of_decide_eq_true (f3 hj)
        refine ct_uniq (show j < 7 by omega) (f3 hj) (fun i hi z => ?_)
        exact wi_one hC k hi (by omega) (of_decide_eq_true z) hy
      · rw [if_neg (by simp [hj])]
        refine fb_ct_zero.mpr (fun i hi => ?_)
        by_cases hi2 : i < C
        · exact f2 i (by omega)
        · rw [wi_out (Or.inr (by omega))]
          simp; omega
    · rw [if_neg (by simp [k])]
      refine fb_ct_zero.mpr (fun i hi => ?_)
      rw [wi_out (Or.inl (by omega))]
      simp; omega
  have hz : fb_ct (fun k => decide (Q + k < Q) && decide (sC L C Q (Q + k) < C)) (7 - Q) = 0 := fb_ct_zero.mpr (fun i _ => by rw [decide_eq_false (by omega)]; rfl)
  rw [show 49 = 7 * 7 by rfl, ct_block, fb_sm_cong hb, sm_ct, show 7 = Q + (7 - Q) by omega, fb_ct_split, hz, Nat.add_zero]
  exact fb_ct_cong (fun q hq => by simp [hq])
theorem X6_fullest_loop (n : Nat) (hn : 200 < n) {S0 : aSt} {d : Nat} (hX : RfX S h d) (hC : CX S h C Q T L) (H : TF S0 S C Q L (mx C (alm L) (fun _ => 1) Q 0 0)) (K : Int32 → Option (Int32 × aSt)) : F_X6_fullest_L15 n 0 S K n 0 0 = K (nI (fb_ct (fun q => decide (sC L C Q q < C)) Q)) := by
  have hQ := hC.2.2.2.2.2.1
  have hC7 := hC.2.2.2.2.1
  refine lp_ct (fun fu a i => F_X6_fullest_L15 n 0 S K fu a i) K _ Q n (by omega) (fun fu a => ?_) (fun fu q a hq => ?_)
  · show F_X6_fullest_L15 _ _ _ _ (fu + 1) _ _ = _
    rw [F_X6_fullest_L15, X0_here hX, hC.2.2.2.1.2.1, if_pos (Int32.le_refl _)]
  · show F_X6_fullest_L15 _ _ _ _ (fu + 1) _ _ = F_X6_fullest_L15 _ _ _ _ fu _ _
    rw [F_X6_fullest_L15, X0_here hX, hC.2.2.2.1.2.1, if_neg (nI_ge hq (by omega)), hX.r4, X2_sureCard_eq n hn H hq]
    simp only [bndS, jnE, nI_1, decide_eq_true_eq]
    by_cases k : sC L C Q q < C
    · rw [if_pos k, if_neg (nI_m9 (by omega)), if_pos k]
    · rw [if_neg k, if_pos rfl, if_neg k]
theorem X7_fullest_loop (n : Nat) (hn : 200 < n) (hM : S.2.2 82 = HRm) (hC7 : C ≤ 7) (hQ : Q ≤ 7) (H : CF S C Q L) (K : Int32 → Option (Int32 × aSt)) : F_X7_fullest_L9 82 S K n 0 0 = K (nI (fb_ct (fun i => decide (wi L C Q i = tot L C Q)) 49)) := by
  refine lp_ct (fun fu a i => F_X7_fullest_L9 82 S K fu a i) K _ 49 n (by omega) (fun fu a => ?_) (fun fu i a hi => ?_)
  · show F_X7_fullest_L9 _ _ _ (fu + 1) _ _ = _
    rw [F_X7_fullest_L9, if_pos (by decide)]
  · show F_X7_fullest_L9 _ _ _ (fu + 1) _ _ = F_X7_fullest_L9 _ _ _ fu _ _
    have hw := wi_le L C Q i
    have ht := tot_le (L := L) hC7 hQ
    rw [F_X7_fullest_L9, if_neg (show ¬ (49 : Int32) ≤ nI i from nI_ge hi (by decide))]
    simp only [nmE, jnE, bn2S, bndS, grdT, stI_22, stL_22, stRow_22, HRm, rfdS T_83, rfdS T_84, rfdS T_85, rfdS T_86, rfdS T_87, rfdS T_88, rfdS T_89, rfdS T_90, rfdS T_91, rfdS T_92, rfdS T_93, rfdS T_94, rfdS T_95, rfdS T_96, SZ_83, SZ_84, SZ_85, SZ_86, SZ_87, SZ_88, SZ_89, SZ_90, SZ_91, SZ_92, SZ_93, SZ_94, SZ_95, SZ_96, hM, inb_nI hi (by decide), nI_clamp (show i < 2 ^ 31 by omega), H.2.2.1 i hi, H.2.1, nI_1, decide_eq_true_eq, show ∀ a : Int32, a + 0 = a by simp]
    by_cases k : wi L C Q i = tot L C Q
    · rw [if_pos (by rw [k]), if_pos k]
    · rw [if_neg (by rw [nI_eq (by omega) (by omega)]; exact k), if_neg k]
end May
theorem op_may (n : Nat) (hn : 5000000 < n) {S : aSt} (H : OK S) (c : Int32) : Both S (F_X6_may n S 0 c) (fun S1 => F_X7_may n S1 82 c) := by
  obtain ⟨h, d, C, Q, T, L, hX, hM, hCX, hCM, hk⟩ := H.get
  have hC := hCM.2.2.1
  by_cases hc : inb c C = true
  · obtain ⟨S1, f1, f2⟩ := X2_countIn_eq n (by omega) hX hCX
    have m1 := f2.1.1
    have hCM1 := hCM.sm m1
    obtain ⟨S2, g1, g2, g3⟩ := X7_fullest_walk n hn hCM1
    have hCM2 := hCM1.sm g2
    obtain ⟨c, hc', rfl⟩ := inb_ex hc (by omega)
    refine Both.sameW H m1 (nI (bs (fun q => decide (0 < wi L C Q (7 * q + c))) Q)) g2 ?_ ?_
    · unfold F_X6_may
      rw [X0_here hX, X1_isCard_eq n hCX, bndS, if10', if_pos hc, hX.r4, f1, bndS, jnE, X6_may_loop n (by omega) (hX.eqs m1.rf) (hCX.sm m1) f2 hc']
    · show F_X7_may n S1 82 (nI c) = _
      unfold F_X7_may
      rw [X7_isCard_eq n hCM1, bndS, if10', if_pos hc, g1, bndS, jnE, X7_may_loop n (by omega) hCM2 g3 hc']
  · refine Both.same H (-1) ?_ ?_
    · unfold F_X6_may
      rw [X0_here hX, X1_isCard_eq n hCX, bndS, if10', if_neg hc]
    · show F_X7_may n S 82 c = _
      unfold F_X7_may
      rw [X7_isCard_eq n hCM, bndS, if10', if_neg hc]
theorem op_sure (n : Nat) (hn : 5000000 < n) {S : aSt} (H : OK S) (q : Int32) : Both S (F_X6_sure n S 0 q) (fun S1 => F_X7_sure n S1 82 q) := by
  obtain ⟨h, d, C, Q, T, L, hX, hM, hCX, hCM, hk⟩ := H.get
  have hQ := hCM.2.2.2.1
  by_cases hc : inb q Q = true
  · obtain ⟨S1, f1, f2⟩ := X2_countIn_eq n (by omega) hX hCX
    have m1 := f2.1.1
    have hCM1 := hCM.sm m1
    obtain ⟨S2, g1, g2, g3⟩ := X7_fullest_walk n hn hCM1
    have hCM2 := hCM1.sm g2
    obtain ⟨q, hc', rfl⟩ := inb_ex hc (by omega)
    refine Both.sameW H m1 (if sC L C Q q < C then nI (sC L C Q q) else -9) g2 ?_ ?_
    · unfold F_X6_sure
      rw [X0_here hX, X1_isQuestion_eq n hCX, bndS, if10', if_pos hc, hX.r4, f1, bndS, (hX.eqs m1.rf).r4, X2_sureCard_eq n (by omega) f2 hc', bndS]
    · show F_X7_sure n S1 82 (nI q) = _
      unfold F_X7_sure
      rw [X7_isQuestion_eq n hCM1, bndS, if10', if_pos hc, g1, bndS, jnE, X7_sure_loop n (by omega) hCM2 g3 hc']
  · refine Both.same H (-1) ?_ ?_
    · unfold F_X6_sure
      rw [X0_here hX, X1_isQuestion_eq n hCX, bndS, if10', if_neg hc]
    · show F_X7_sure n S 82 q = _
      unfold F_X7_sure
      rw [X7_isQuestion_eq n hCM, bndS, if10', if_neg hc]
theorem op_fullest (n : Nat) (hn : 5000000 < n) {S : aSt} (H : OK S) : Both S (F_X6_fullest n S 0) (fun S1 => F_X7_fullest n S1 82) := by
  obtain ⟨h, d, C, Q, T, L, hX, hM, hCX, hCM, hk⟩ := H.get
  have hC := hCM.2.2.1
  have hQ := hCM.2.2.2.1
  obtain ⟨S1, f1, f2⟩ := X2_countIn_eq n (by omega) hX hCX
  have m1 := f2.1.1
  generalize hv : nI (fb_ct (fun q => decide (sC L C Q q < C)) Q) = v
  have hCM1 : CM (xTell S1 v) C Q T L := (hCM.sm m1).congr rfl (xTell_m (by decide))
  obtain ⟨S2, g1, g2, g3⟩ := X7_fullest_walk n hn hCM1
  have hCM2 := hCM1.sm g2
  refine Both.tellW2 H m1 v (nI (tot L C Q)) g2 ?_ ?_
  · unfold F_X6_fullest
    rw [hX.r4, X0_here hX, f1, bndS, jnE, X6_fullest_loop n (by omega) (hX.eqs m1.rf) (hCX.sm m1) f2, hv, nmE]
    have e : ∀ f : Nat → Option (Int32 × aSt), rfd ((stI S1 0 8 v).2.2 0 4) 1 f = f 5 := fun f => (hX.eqs m1.rf).r4 f
    rw [e, stI_ne (by decide), f2.2.2.2.1, ← tot_ev hC]
    rfl
  · show F_X7_fullest n (xTell S1 v) 82 = _
    unfold F_X7_fullest
    rw [g1, bndS, jnE, X7_fullest_loop n (by omega) hCM2.1 hC hQ g3, sure_ct hC hQ, hv, X7_tell_eq, bn2S]
    unfold mTell
    rw [stI_at, if_pos rfl, if_neg (by decide), g3.2.1]
