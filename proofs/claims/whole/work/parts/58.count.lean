/-! count. -/
theorem ct_at (i : Nat) : ∀ n, fb_ct (fun j => decide (j = i)) n = if i < n then 1 else 0
  | 0 => rfl
  | n + 1 => by
    rw [fb_ct_succ, ct_at i n]
    simp only [decide_eq_true_eq]
    by_cases h : i < n
    · rw [if_pos h, if_neg (by omega), if_pos (by omega)]
    · by_cases h2 : n = i
      · rw [if_neg h, if_pos h2, if_pos (by omega)]
      · rw [if_neg h, if_neg h2, if_neg (by omega)]
theorem ct_uniq {p : Nat → Bool} {n i : Nat} (hi : i < n) (hp : p i = true) (h : ∀ j, j < n → p j = true → j = i) : fb_ct p n = 1 := by
  rw [fb_ct_cong (q := fun j => decide (j = i)) (fun j hj => ?_), ct_at, if_pos hi]
  cases e : p j
  · have : j ≠ i := fun z => by rw [z, hp] at e; cases e
    simp [this]
  · simp [h j hj e]
theorem sm_ct (b : Nat → Bool) : ∀ n, fb_sm (fun x => if b x = true then 1 else 0) n = fb_ct b n
  | 0 => rfl
  | n + 1 => by rw [fb_sm_succ, fb_ct_succ, sm_ct b n]
theorem ct_ans {C Q T : Nat} {L : Nat → Nat → Nat} (hw : WL C Q T L) : fb_ct (fun q => !decide (L 9 q = 99)) Q = fb_ct (fun c => !decide (aq L c = 99)) C := by
  have hC := hw.1
  have hQ := hw.2.1
  have hA := hw.ans
  rcases Nat.eq_zero_or_pos C with h0 | h0
  · rw [(hw.2.2.2.1 h0).1, h0]; rfl
  · have hl : ∀ q, q < Q → (if L 9 q = 99 then 0 else L 9 q) < C := fun q hq => by
      split
      · exact h0
      · rcases hA q (by omega) with z | z
        · omega
        · exact z.2.1
    rw [ct_cls _ (fun q => if L 9 q = 99 then 0 else L 9 q) C Q hl, ← sm_ct]
    refine fb_sm_cong fun x hx => ?_
    by_cases k : aq L x = 99
    · rw [if_neg (by simp [k])]
      refine fb_ct_zero.mpr fun q hq => ?_
      have := aq_99.mp k q (by omega)
      by_cases z : L 9 q = 99
      · simp [z]
      · simp [z, this]
    · rw [if_pos (by simp [k])]
      obtain ⟨h1, h2⟩ := aq_hit k
      have hq : aq L x < Q := by
        rcases hA _ h1 with z | z
        · omega
        · exact z.1
      refine ct_uniq hq ?_ (fun j hj q => ?_)
      · rw [h2]; simp; omega
      · have z : ¬ L 9 j = 99 ∧ L 9 j = x := by
          by_cases y : L 9 j = 99
          · simp [y] at q
          · simp [y] at q; exact ⟨y, q⟩
        rcases hA j (by omega) with y | y
        · exact absurd y z.1
        · exact (y.2.2 (aq L x) h1 (by omega)).symm
section Lib20
variable {S : aSt} {h C Q T : Nat} {L : Nat → Nat → Nat}
theorem X1_answered_eq (n : Nat) (hn : 10 < n) (H : CX S h C Q T L) : F_X1_answered n S h = some (nI (fb_ct (fun q => !decide (L 9 q = 99)) Q)) := by
  have hQ := H.2.2.2.2.2.1
  unfold F_X1_answered
  simp only [jnE]
  refine lp_ct (fun fu a i => F_X1_answered_L4 n S h (fun x => some x) fu a i) (fun x => some x) _ Q n (by omega) (fun fu a => ?_) (fun fu q a hq => ?_)
  · show F_X1_answered_L4 _ _ _ _ (fu + 1) _ _ = _
    rw [F_X1_answered_L4, H.2.2.2.1.2.1, if_pos (Int32.le_refl _)]
  · show F_X1_answered_L4 _ _ _ _ (fu + 1) _ _ = F_X1_answered_L4 _ _ _ _ fu _ _
    rw [F_X1_answered_L4, H.2.2.2.1.2.1, if_neg (nI_ge hq (by omega))]
    simp only [nmE, jnE, bn2S, bndS, grdT, stI_22, stL_22, stRow_22, X1_isFreeQuestion_eq n H (show q < 7 by omega), if10', nI_1]
    by_cases k : L 9 q = 99
    · rw [if_pos k, if_neg (by simp [k])]
    · rw [if_neg k, if_pos (by simp [k])]
theorem X1_placesAmong_eq (n : Nat) (hn : 10 < n) (H : CX S h C Q T L) : F_X1_placesAmong n S h = some (nI (fb_ct (fun c => isA (L 0 c) 2) C)) := by
  have hw := H.2.2.2.2
  have hC := hw.1
  unfold F_X1_placesAmong
  simp only [jnE]
  refine lp_ct (fun fu a i => F_X1_placesAmong_L4 n S h (fun x => some x) fu a i) (fun x => some x) _ C n (by omega) (fun fu a => ?_) (fun fu c a hc => ?_)
  · show F_X1_placesAmong_L4 _ _ _ _ (fu + 1) _ _ = _
    rw [F_X1_placesAmong_L4, H.2.2.2.1.1, if_pos (Int32.le_refl _)]
  · show F_X1_placesAmong_L4 _ _ _ _ (fu + 1) _ _ = F_X1_placesAmong_L4 _ _ _ _ fu _ _
    have w5 := hw.2.2.2.2.1 c hc
    rw [F_X1_placesAmong_L4, H.2.2.2.1.1, if_neg (nI_ge hc (by omega))]
    simp only [nmE, jnE, bn2S, bndS, grdT, stI_22, stL_22, stRow_22, H.r0, rfdS (tg1 H.1), sg1 H.1, inb_nI (show c < 7 by omega) (by decide), nI_clamp (show c < 2 ^ 31 by omega), (H.2.2.2.1.2.2.1 c hc).1, show F_X0_isA n S (nI (L 0 c)) 2 = _ from X0_isA_eq n S w5.1 (show 2 ≤ 5 by decide), if10', nI_1]
    by_cases k : isA (L 0 c) 2 = true
    · rw [if_pos k, if_pos k]
    · rw [if_neg k, if_neg k]
/-! the reference's five loops -/
theorem X7_cnt1 (n : Nat) (hn : 10 < n) (H : CM S C Q T L) {w : Nat} (hw9 : w < 9) (K : Int32 → Option Int32) : F_X7_counted_L4 n S 82 (nI w) K n 0 0 = K (nI (fb_ct (fun c => (decide (w = 3) && decide (aq L c = 99)) || (decide (w = 5) && isA (L 0 c) 2)) C)) := by
  have hw := H.2.2
  have hC := hw.1
  refine lp_ct (fun fu a i => F_X7_counted_L4 n S 82 (nI w) K fu a i) K _ C n (by omega) (fun fu a => ?_) (fun fu c a hc => ?_)
  · show F_X7_counted_L4 _ _ _ _ _ (fu + 1) _ _ = _
    rw [F_X7_counted_L4]
    simp only [nmE, jnE, bn2S, bndS, grdT, stI_22, stL_22, stRow_22, HRm, rfdS T_83, rfdS T_84, rfdS T_85, rfdS T_86, rfdS T_87, rfdS T_88, rfdS T_89, rfdS T_90, rfdS T_91, rfdS T_92, rfdS T_93, rfdS T_94, rfdS T_95, rfdS T_96, SZ_83, SZ_84, SZ_85, SZ_86, SZ_87, SZ_88, SZ_89, SZ_90, SZ_91, SZ_92, SZ_93, SZ_94, SZ_95, SZ_96, H.1, in0, H.v0]
    rw [if_pos (Int32.le_refl _)]
  · show F_X7_counted_L4 _ _ _ _ _ (fu + 1) _ _ = F_X7_counted_L4 _ _ _ _ _ fu _ _
    have w5 := hw.2.2.2.2.1 c hc
    have e3 : (3 : Int32) + nI c = nI (3 + c) := nI_add 3 c
    rw [F_X7_counted_L4]
    simp only [nmE, jnE, bn2S, bndS, grdT, stI_22, stL_22, stRow_22, HRm, rfdS T_83, rfdS T_84, rfdS T_85, rfdS T_86, rfdS T_87, rfdS T_88, rfdS T_89, rfdS T_90, rfdS T_91, rfdS T_92, rfdS T_93, rfdS T_94, rfdS T_95, rfdS T_96, SZ_83, SZ_84, SZ_85, SZ_86, SZ_87, SZ_88, SZ_89, SZ_90, SZ_91, SZ_92, SZ_93, SZ_94, SZ_95, SZ_96, H.1, in0, H.v0]
    rw [if_neg (nI_ge hc (by omega))]
    have i3 : (nI w = 3) = (w = 3) := propext (nI_eq (b := 3) (by omega) (by decide))
    have i5 : (nI w = 5) = (w = 5) := propext (nI_eq (b := 5) (by omega) (by decide))
    simp only [nmE, jnE, bn2S, bndS, grdT, stI_22, stL_22, stRow_22, HRm, rfdS T_83, rfdS T_84, rfdS T_85, rfdS T_86, rfdS T_87, rfdS T_88, rfdS T_89, rfdS T_90, rfdS T_91, rfdS T_92, rfdS T_93, rfdS T_94, rfdS T_95, rfdS T_96, SZ_83, SZ_84, SZ_85, SZ_86, SZ_87, SZ_88, SZ_89, SZ_90, SZ_91, SZ_92, SZ_93, SZ_94, SZ_95, SZ_96, e3, inb_nI (show 3 + c < 393 by omega) (by decide), nI_clamp (show 3 + c < 2 ^ 31 by omega), (H.2.1.2.2.2.1 c hc).1, show F_X7_isOf n S (nI (L 0 c)) 2 = _ from X7_isOf_eq n S w5.1 (show 2 ≤ 5 by decide), X7_isFreeCard_eq n hn H (show c < 99 by omega), if10', show ∀ a : Int32, a + 0 = a by simp, nI_1]
    by_cases k3 : w = 3
    · rw [if_pos (i3.mpr k3)]
      have n5 : ¬ nI w = 5 := fun z => by rw [i5] at z; omega
      by_cases k : aq L c = 99
      · rw [if_pos k, if_pos (by simp [k3, k])]
      · rw [if_neg k, if_neg n5, if_neg (by simp [k3, k])]
    · rw [if_neg (fun z => k3 (i3.mp z))]
      by_cases k5 : w = 5
      · rw [if_pos (i5.mpr k5)]
        by_cases k : isA (L 0 c) 2 = true
        · rw [if_pos k, if_pos (by simp [k5, k])]
        · rw [if_neg k, if_neg (by simp [k3, k])]
      · rw [if_neg (fun z => k5 (i5.mp z)), if_neg (by simp [k3, k5])]
theorem X7_cnt2 (n : Nat) (hn : 10 < n) (H : CM S C Q T L) (K : Int32 → Option Int32) : F_X7_counted_L63 n S 82 4 K n 0 0 = K (nI (fb_ct (fun q => decide (L 9 q = 99)) Q)) := by
  have hw := H.2.2
  have hQ := hw.2.1
  refine lp_ct (fun fu a i => F_X7_counted_L63 n S 82 4 K fu a i) K _ Q n (by omega) (fun fu a => ?_) (fun fu q a hq => ?_)
  · show F_X7_counted_L63 _ _ _ _ _ (fu + 1) _ _ = _
    rw [F_X7_counted_L63]
    simp only [nmE, jnE, bn2S, bndS, grdT, stI_22, stL_22, stRow_22, HRm, rfdS T_83, rfdS T_84, rfdS T_85, rfdS T_86, rfdS T_87, rfdS T_88, rfdS T_89, rfdS T_90, rfdS T_91, rfdS T_92, rfdS T_93, rfdS T_94, rfdS T_95, rfdS T_96, SZ_83, SZ_84, SZ_85, SZ_86, SZ_87, SZ_88, SZ_89, SZ_90, SZ_91, SZ_92, SZ_93, SZ_94, SZ_95, SZ_96, H.1, in1, H.v1]
    rw [if_pos (Int32.le_refl _)]
  · show F_X7_counted_L63 _ _ _ _ _ (fu + 1) _ _ = F_X7_counted_L63 _ _ _ _ _ fu _ _
    rw [F_X7_counted_L63]
    simp only [nmE, jnE, bn2S, bndS, grdT, stI_22, stL_22, stRow_22, HRm, rfdS T_83, rfdS T_84, rfdS T_85, rfdS T_86, rfdS T_87, rfdS T_88, rfdS T_89, rfdS T_90, rfdS T_91, rfdS T_92, rfdS T_93, rfdS T_94, rfdS T_95, rfdS T_96, SZ_83, SZ_84, SZ_85, SZ_86, SZ_87, SZ_88, SZ_89, SZ_90, SZ_91, SZ_92, SZ_93, SZ_94, SZ_95, SZ_96, H.1, in1, H.v1]
    rw [if_neg (nI_ge hq (by omega)), if_pos trivial]
    simp only [nmE, jnE, bn2S, bndS, grdT, stI_22, stL_22, stRow_22, HRm, rfdS T_83, rfdS T_84, rfdS T_85, rfdS T_86, rfdS T_87, rfdS T_88, rfdS T_89, rfdS T_90, rfdS T_91, rfdS T_92, rfdS T_93, rfdS T_94, rfdS T_95, rfdS T_96, SZ_83, SZ_84, SZ_85, SZ_86, SZ_87, SZ_88, SZ_89, SZ_90, SZ_91, SZ_92, SZ_93, SZ_94, SZ_95, SZ_96, X7_isFree_eq n H (show q < Q by omega), if10', show ∀ a : Int32, a + 0 = a by simp, nI_1, decide_eq_true_eq]
    by_cases k : L 9 q = 99
    · rw [if_pos k, if_pos k]
    · rw [if_neg k, if_neg k]
theorem X7_cnt2' (n : Nat) (hn : 10 < n) (H : CM S C Q T L) {w : Int32} (hw : ¬ w = 4) (a : Int32) (K : Int32 → Option Int32) : F_X7_counted_L63 n S 82 w K n a 0 = K a := by
  obtain ⟨m, rfl⟩ : ∃ m, n = m + 1 := ⟨n - 1, by omega⟩
  rw [F_X7_counted_L63]
  simp only [nmE, jnE, bn2S, bndS, grdT, stI_22, stL_22, stRow_22, HRm, rfdS T_83, rfdS T_84, rfdS T_85, rfdS T_86, rfdS T_87, rfdS T_88, rfdS T_89, rfdS T_90, rfdS T_91, rfdS T_92, rfdS T_93, rfdS T_94, rfdS T_95, rfdS T_96, SZ_83, SZ_84, SZ_85, SZ_86, SZ_87, SZ_88, SZ_89, SZ_90, SZ_91, SZ_92, SZ_93, SZ_94, SZ_95, SZ_96, H.1, in1, H.v1, hw, if_false]
  split <;> rfl
theorem X7_cnt3 (n : Nat) (hn : 10 < n) (hM : S.2.2 82 = HRm) (K : Int32 → Option Int32) : F_X7_counted_L102 S 82 6 K n 0 0 = K (nI (fb_ct (fun r => decide (0 ≤ S.1 83 r)) 6)) := by
  refine lp_ct (fun fu a i => F_X7_counted_L102 S 82 6 K fu a i) K _ 6 n (by omega) (fun fu a => ?_) (fun fu r a hr => ?_)
  · show F_X7_counted_L102 _ _ _ _ (fu + 1) _ _ = _
    rw [F_X7_counted_L102, if_pos (by decide)]
  · show F_X7_counted_L102 _ _ _ _ (fu + 1) _ _ = F_X7_counted_L102 _ _ _ _ fu _ _
    rw [F_X7_counted_L102, if_neg (show ¬ (6 : Int32) ≤ nI r from nI_ge hr (by decide)), if_pos rfl]
    simp only [nmE, jnE, bn2S, bndS, grdT, stI_22, stL_22, stRow_22, HRm, rfdS T_83, rfdS T_84, rfdS T_85, rfdS T_86, rfdS T_87, rfdS T_88, rfdS T_89, rfdS T_90, rfdS T_91, rfdS T_92, rfdS T_93, rfdS T_94, rfdS T_95, rfdS T_96, SZ_83, SZ_84, SZ_85, SZ_86, SZ_87, SZ_88, SZ_89, SZ_90, SZ_91, SZ_92, SZ_93, SZ_94, SZ_95, SZ_96, hM, inb_nI (show r < 6 from hr) (by decide), nI_clamp (show r < 2 ^ 31 by omega), show ∀ a : Int32, a + 0 = a by simp, nI_1, decide_eq_true_eq]
    by_cases k : (0 : Int32) ≤ S.1 83 r
    · rw [if_pos k, if_pos k]
    · rw [if_neg k, if_neg k]
theorem X7_cnt3' (n : Nat) (hn : 10 < n) {w : Int32} (hw : ¬ w = 6) (a : Int32) (K : Int32 → Option Int32) : F_X7_counted_L102 S 82 w K n a 0 = K a := by
  obtain ⟨m, rfl⟩ : ∃ m, n = m + 1 := ⟨n - 1, by omega⟩
  rw [F_X7_counted_L102, if_neg (by decide), if_neg hw]
theorem X7_cnt4 (n : Nat) (hn : 10 < n) (hM : S.2.2 82 = HRm) (K : Int32 → Option Int32) : F_X7_counted_L139 S 82 7 K n 0 0 = K (nI (fb_ct (fun r => decide (0 ≤ S.1 85 r)) 4)) := by
  refine lp_ct (fun fu a i => F_X7_counted_L139 S 82 7 K fu a i) K _ 4 n (by omega) (fun fu a => ?_) (fun fu r a hr => ?_)
  · show F_X7_counted_L139 _ _ _ _ (fu + 1) _ _ = _
    rw [F_X7_counted_L139, if_pos (by decide)]
  · show F_X7_counted_L139 _ _ _ _ (fu + 1) _ _ = F_X7_counted_L139 _ _ _ _ fu _ _
    rw [F_X7_counted_L139, if_neg (show ¬ (4 : Int32) ≤ nI r from nI_ge hr (by decide)), if_pos rfl]
    simp only [nmE, jnE, bn2S, bndS, grdT, stI_22, stL_22, stRow_22, HRm, rfdS T_83, rfdS T_84, rfdS T_85, rfdS T_86, rfdS T_87, rfdS T_88, rfdS T_89, rfdS T_90, rfdS T_91, rfdS T_92, rfdS T_93, rfdS T_94, rfdS T_95, rfdS T_96, SZ_83, SZ_84, SZ_85, SZ_86, SZ_87, SZ_88, SZ_89, SZ_90, SZ_91, SZ_92, SZ_93, SZ_94, SZ_95, SZ_96, hM, inb_nI (show r < 4 from hr) (by decide), nI_clamp (show r < 2 ^ 31 by omega), show ∀ a : Int32, a + 0 = a by simp, nI_1, decide_eq_true_eq]
    by_cases k : (0 : Int32) ≤ S.1 85 r
    · rw [if_pos k, if_pos k]
    · rw [if_neg k, if_neg k]
theorem X7_cnt4' (n : Nat) (hn : 10 < n) {w : Int32} (hw : ¬ w = 7) (a : Int32) (K : Int32 → Option Int32) : F_X7_counted_L139 S 82 w K n a 0 = K a := by
  obtain ⟨m, rfl⟩ : ∃ m, n = m + 1 := ⟨n - 1, by omega⟩
  rw [F_X7_counted_L139, if_neg (by decide), if_neg hw]
theorem X7_cnt5 (n : Nat) (hn : 10 < n) (hM : S.2.2 82 = HRm) (K : Int32 → Option Int32) : F_X7_counted_L175 S 82 8 K n 0 0 = K (nI (fb_ct (fun r => !decide (S.1 89 r = 0)) 3)) := by
  refine lp_ct (fun fu a i => F_X7_counted_L175 S 82 8 K fu a i) K _ 3 n (by omega) (fun fu a => ?_) (fun fu r a hr => ?_)
  · show F_X7_counted_L175 _ _ _ _ (fu + 1) _ _ = _
    rw [F_X7_counted_L175, if_pos (by decide)]
  · show F_X7_counted_L175 _ _ _ _ (fu + 1) _ _ = F_X7_counted_L175 _ _ _ _ fu _ _
    rw [F_X7_counted_L175, if_neg (show ¬ (3 : Int32) ≤ nI r from nI_ge hr (by decide)), if_pos rfl]
    simp only [nmE, jnE, bn2S, bndS, grdT, stI_22, stL_22, stRow_22, HRm, rfdS T_83, rfdS T_84, rfdS T_85, rfdS T_86, rfdS T_87, rfdS T_88, rfdS T_89, rfdS T_90, rfdS T_91, rfdS T_92, rfdS T_93, rfdS T_94, rfdS T_95, rfdS T_96, SZ_83, SZ_84, SZ_85, SZ_86, SZ_87, SZ_88, SZ_89, SZ_90, SZ_91, SZ_92, SZ_93, SZ_94, SZ_95, SZ_96, hM, inb_nI (show r < 3 from hr) (by decide), nI_clamp (show r < 2 ^ 31 by omega), show ∀ a : Int32, a + 0 = a by simp, nI_1]
    by_cases k : S.1 89 r = 0
    · rw [if_pos k, if_neg (by simp [k])]
    · rw [if_neg k, if_pos (by simp [k])]
theorem X7_cnt5' (n : Nat) (hn : 10 < n) {w : Int32} (hw : ¬ w = 8) (a : Int32) (K : Int32 → Option Int32) : F_X7_counted_L175 S 82 w K n a 0 = K a := by
  obtain ⟨m, rfl⟩ : ∃ m, n = m + 1 := ⟨n - 1, by omega⟩
  rw [F_X7_counted_L175, if_neg (by decide), if_neg hw]
theorem X6_thereAmong_eq (n : Nat) (hn : 10 < n) {k N b : Nat} (hN : (SH k).2 = N) (hN2 : N ≤ 6) (hr : ∀ i, i < N → S.2.2 k i = some (b + 2 * i) ∧ isT (b + 2 * i) 3 = true) : F_X6_thereAmong n S k = some (nI (fb_ct (fun r => !decide (S.1 (b + 2 * r) 1 = -1)) N)) := by
  unfold F_X6_thereAmong
  simp only [jnE]
  refine lp_ct (fun fu a i => F_X6_thereAmong_L4 n S k (fun x => some x) fu a i) (fun x => some x) _ N n (by omega) (fun fu a => ?_) (fun fu r a hr' => ?_)
  · show F_X6_thereAmong_L4 _ _ _ _ (fu + 1) _ _ = _
    rw [F_X6_thereAmong_L4, hN, show Int32.ofNat N = nI N from rfl, if_pos (Int32.le_refl _)]
  · show F_X6_thereAmong_L4 _ _ _ _ (fu + 1) _ _ = F_X6_thereAmong_L4 _ _ _ _ fu _ _
    obtain ⟨q1, q2⟩ := hr r hr'
    rw [F_X6_thereAmong_L4, hN, show Int32.ofNat N = nI N from rfl, if_neg (nI_ge hr' (by omega))]
    simp only [nmE, jnE, bn2S, bndS, grdT, stI_22, stL_22, stRow_22, inb_nI hr' (show N < 2 ^ 31 by omega), nI_clamp (show r < 2 ^ 31 by omega), q1, rfdS q2, X4_isThere_eq, nI_1]
    by_cases z : S.1 (b + 2 * r) 1 = -1
    · rw [if_pos z, if_pos rfl, if_neg (by simp [z])]
    · rw [if_neg z, if_neg (by decide), if_pos (by simp [z])]
theorem X6_keptThere_eq (n : Nat) (hn : 10 < n) {d : Nat} (hX : RfX S h d) : F_X6_keptThere n S 0 = some (nI (fb_ct (fun r => !decide (S.1 (61 + 7 * r) 6 = -1)) 3)) := by
  unfold F_X6_keptThere
  simp only [jnE]
  refine lp_ct (fun fu a i => F_X6_keptThere_L4 S 0 (fun x => some x) fu a i) (fun x => some x) _ 3 n (by omega) (fun fu a => ?_) (fun fu r a hr' => ?_)
  · show F_X6_keptThere_L4 _ _ _ (fu + 1) _ _ = _
    rw [F_X6_keptThere_L4, if_pos (by decide)]
  · show F_X6_keptThere_L4 _ _ _ (fu + 1) _ _ = F_X6_keptThere_L4 _ _ _ fu _ _
    have q1 : S.2.2 3 r = some (61 + 7 * r) := by rw [hX.2.2.2.2.1]; simp [HRs, hr']
    have q2 : isT (61 + 7 * r) 4 = true := by
      have : ∀ r, r < 3 → isT (61 + 7 * r) 4 = true := by decide +kernel
      exact this r hr'
    rw [F_X6_keptThere_L4, if_neg (show ¬ (3 : Int32) ≤ nI r from nI_ge hr' (by decide))]
    simp only [nmE, jnE, bn2S, bndS, grdT, stI_22, stL_22, stRow_22, HR0, rfdS T_1, rfdS T_2, rfdS T_3, rfdS T_4, rfdS T_5, rfdS T_9, SZ_1, SZ_2, SZ_3, SZ_4, hX.2.1, inb_nI (show r < 3 from hr') (by decide), nI_clamp (show r < 2 ^ 31 by omega), q1, rfdS q2, nI_1]
    by_cases z : S.1 (61 + 7 * r) 6 = -1
    · rw [if_pos z, if_neg (by simp [z])]
    · rw [if_neg z, if_pos (by simp [z])]
end Lib20
theorem op_count (n : Nat) (hn : 100 < n) {S : aSt} (H : OK S) (w : Int32) : BothR (F_X6_count n S 0 w) (F_X7_count n S 82 w) := by
  have H0 := H
  obtain ⟨h, d, C, Q, T, L, hX, hM, hCX, hCM, hk⟩ := H.get
  obtain ⟨-, -, -, -, -, hR, hT, -⟩ := H0
  have hM1 : S.2.2 82 = HRm := hM
  have hw := hCM.2.2
  have hC := hw.1
  have hQ := hw.2.1
  have ei := X7_in_sz n S w (m := 9) (by decide)
  by_cases hi : inb w 9 = true
  · obtain ⟨w, hw', rfl⟩ := inb_ex hi (by decide)
    unfold F_X7_count F_X7_counted
    rw [show (8 : Int64) = (nI 9 - 1).toInt64 from rfl, ei, if_pos hi]
    simp only [nmE, jnE, bn2S, bndS, grdT, stI_22, stL_22, stRow_22, reduceIte, Bool.false_eq_true, one_ne0]
    rw [X7_cnt1 n (by omega) hCM hw']
    have hz : ¬ w = 3 → ¬ w = 5 → fb_ct (fun c => (decide (w = 3) && decide (aq L c = 99)) || (decide (w = 5) && isA (L 0 c) 2)) C = 0 := fun a b => fb_ct_zero.mpr (fun c _ => by simp [a, b])
    have hs3 : w = 3 → fb_ct (fun c => (decide (w = 3) && decide (aq L c = 99)) || (decide (w = 5) && isA (L 0 c) 2)) C = fb_ct (fun c => decide (aq L c = 99)) C := fun a => fb_ct_cong (fun c _ => by simp [a])
    have hs5 : w = 5 → fb_ct (fun c => (decide (w = 3) && decide (aq L c = 99)) || (decide (w = 5) && isA (L 0 c) 2)) C = fb_ct (fun c => isA (L 0 c) 2) C := fun a => fb_ct_cong (fun c _ => by simp [a])
    generalize fb_ct (fun c => (decide (w = 3) && decide (aq L c = 99)) || (decide (w = 5) && isA (L 0 c) 2)) C = z1 at hz hs3 hs5 ⊢
    rcases (show w = 0 ∨ w = 1 ∨ w = 2 ∨ w = 3 ∨ w = 4 ∨ w = 5 ∨ w = 6 ∨ w = 7 ∨ w = 8 by omega) with rfl | rfl | rfl | rfl | rfl | rfl | rfl | rfl | rfl
    · rw [X7_cnt2' n (by omega) hCM (by decide), X7_cnt3' n (by omega) (by decide), X7_cnt4' n (by omega) (by decide), X7_cnt5' n (by omega) (by decide), if_neg (by decide)]
      refine ⟨nI C, ?_, ?_⟩
      · unfold F_X6_count
        rw [if_pos (show nI 0 = 0 from rfl), X0_here hX, hCX.2.2.2.1.1]
      · simp only [nmE, jnE, bn2S, bndS, grdT, stI_22, stL_22, stRow_22, HRm, rfdS T_83, rfdS T_84, rfdS T_85, rfdS T_86, rfdS T_87, rfdS T_88, rfdS T_89, rfdS T_90, rfdS T_91, rfdS T_92, rfdS T_93, rfdS T_94, rfdS T_95, rfdS T_96, SZ_83, SZ_84, SZ_85, SZ_86, SZ_87, SZ_88, SZ_89, SZ_90, SZ_91, SZ_92, SZ_93, SZ_94, SZ_95, SZ_96, hM1, inb_nI (show 0 < 393 by decide) (by decide), nI_clamp (show 0 < 2 ^ 31 by decide), hCM.2.1.1]
    · rw [X7_cnt2' n (by omega) hCM (by decide), X7_cnt3' n (by omega) (by decide), X7_cnt4' n (by omega) (by decide), X7_cnt5' n (by omega) (by decide), if_neg (by decide)]
      refine ⟨nI Q, ?_, ?_⟩
      · unfold F_X6_count
        rw [if_neg (by decide), if_pos (show nI 1 = 1 from rfl), X0_here hX, hCX.2.2.2.1.2.1]
      · simp only [nmE, jnE, bn2S, bndS, grdT, stI_22, stL_22, stRow_22, HRm, rfdS T_83, rfdS T_84, rfdS T_85, rfdS T_86, rfdS T_87, rfdS T_88, rfdS T_89, rfdS T_90, rfdS T_91, rfdS T_92, rfdS T_93, rfdS T_94, rfdS T_95, rfdS T_96, SZ_83, SZ_84, SZ_85, SZ_86, SZ_87, SZ_88, SZ_89, SZ_90, SZ_91, SZ_92, SZ_93, SZ_94, SZ_95, SZ_96, hM1, inb_nI (show 1 < 393 by decide) (by decide), nI_clamp (show 1 < 2 ^ 31 by decide), hCM.2.1.2.1]
    · rw [X7_cnt2' n (by omega) hCM (by decide), X7_cnt3' n (by omega) (by decide), X7_cnt4' n (by omega) (by decide), X7_cnt5' n (by omega) (by decide), if_neg (by decide)]
      refine ⟨nI T, ?_, ?_⟩
      · unfold F_X6_count
        rw [if_neg (by decide), if_neg (by decide), if_pos (show nI 2 = 2 from rfl), X0_here hX, hCX.r6, rfdS (tg7 hCX.1), hCX.2.2.2.1.2.2.2.2.1]
      · simp only [nmE, jnE, bn2S, bndS, grdT, stI_22, stL_22, stRow_22, HRm, rfdS T_83, rfdS T_84, rfdS T_85, rfdS T_86, rfdS T_87, rfdS T_88, rfdS T_89, rfdS T_90, rfdS T_91, rfdS T_92, rfdS T_93, rfdS T_94, rfdS T_95, rfdS T_96, SZ_83, SZ_84, SZ_85, SZ_86, SZ_87, SZ_88, SZ_89, SZ_90, SZ_91, SZ_92, SZ_93, SZ_94, SZ_95, SZ_96, hM1, inb_nI (show 2 < 393 by decide) (by decide), nI_clamp (show 2 < 2 ^ 31 by decide), hCM.2.1.2.2.1]
    · rw [X7_cnt2' n (by omega) hCM (by decide), X7_cnt3' n (by omega) (by decide), X7_cnt4' n (by omega) (by decide), X7_cnt5' n (by omega) (by decide), if_pos (by decide)]
      refine ⟨_, ?_, rfl⟩
      unfold F_X6_count
      rw [if_neg (by decide), if_neg (by decide), if_neg (by decide), if_pos (show nI 3 = 3 from rfl), X0_here hX, X1_answered_eq n (by omega) hCX, hCX.2.2.2.1.1]
      have e1 := ct_ans hw
      have e2 := fb_ct_not (fun c => decide (aq L c = 99)) C
      simp only [nmE, jnE, bn2S, bndS, grdT, stI_22, stL_22, stRow_22]
      rw [e1, pk_sub (fb_ct_le _ _), hs3 rfl]
      rw [show C - fb_ct (fun c => !decide (aq L c = 99)) C = fb_ct (fun c => decide (aq L c = 99)) C by omega]
    · rw [hz (by decide) (by decide), show nI 0 = 0 from rfl, show nI 4 = 4 from rfl, X7_cnt2 n (by omega) hCM, X7_cnt3' n (by omega) (by decide), X7_cnt4' n (by omega) (by decide), X7_cnt5' n (by omega) (by decide), if_pos (by decide)]
      refine ⟨_, ?_, rfl⟩
      unfold F_X6_count
      rw [if_neg (by decide), if_neg (by decide), if_neg (by decide), if_neg (by decide), if_pos rfl, X0_here hX, X1_answered_eq n (by omega) hCX, hCX.2.2.2.1.2.1]
      have e2 := fb_ct_not (fun q => decide (L 9 q = 99)) Q
      simp only [nmE, jnE, bn2S, bndS, grdT, stI_22, stL_22, stRow_22]
      rw [pk_sub (fb_ct_le _ _), show Q - fb_ct (fun q => !decide (L 9 q = 99)) Q = fb_ct (fun q => decide (L 9 q = 99)) Q by omega]
    · rw [X7_cnt2' n (by omega) hCM (by decide), X7_cnt3' n (by omega) (by decide), X7_cnt4' n (by omega) (by decide), X7_cnt5' n (by omega) (by decide), if_pos (by decide)]
      refine ⟨_, ?_, rfl⟩
      unfold F_X6_count
      rw [if_neg (by decide), if_neg (by decide), if_neg (by decide), if_neg (by decide), if_neg (by decide), if_pos (show nI 5 = 5 from rfl), X0_here hX, X1_placesAmong_eq n (by omega) hCX]
      simp only [nmE, jnE, bn2S, bndS, grdT, stI_22, stL_22, stRow_22]
      rw [hs5 rfl]
    · rw [hz (by decide) (by decide), show nI 0 = 0 from rfl, show nI 6 = 6 from rfl, X7_cnt2' n (by omega) hCM (by decide), X7_cnt3 n (by omega) hM1, X7_cnt4' n (by omega) (by decide), X7_cnt5' n (by omega) (by decide), if_pos (by decide)]
      refine ⟨_, ?_, rfl⟩
      unfold F_X6_count
      rw [if_neg (by decide), if_neg (by decide), if_neg (by decide), if_neg (by decide), if_neg (by decide), if_neg (by decide), if_pos rfl]
      simp only [nmE, jnE, bn2S, bndS, grdT, stI_22, stL_22, stRow_22, HR0, rfdS T_1, rfdS T_2, rfdS T_3, rfdS T_4, rfdS T_5, rfdS T_9, SZ_1, SZ_2, SZ_3, SZ_4, hX.2.1, X6_thereAmong_eq n (show 10 < n by omega) SZ_1 (show 6 ≤ 6 by decide) (fun i hi => ⟨(xrow hX hi).1, (rowT hi).1⟩)]
      rw [fb_ct_cong (fun r hr => ?_)]
      obtain ⟨e1, e2⟩ := hR r hr
      rw [e1]
      rcases e2 with e2 | ⟨m, hm, e2, -⟩
      · rw [e2]; decide
      · rw [e2]; simp [nI_nm1 (show m < 2 ^ 31 by omega), nI_ge0 (show m < 2 ^ 31 by omega)]
    · rw [hz (by decide) (by decide), show nI 0 = 0 from rfl, show nI 7 = 7 from rfl, X7_cnt2' n (by omega) hCM (by decide), X7_cnt3' n (by omega) (by decide), X7_cnt4 n (by omega) hM1, X7_cnt5' n (by omega) (by decide), if_pos (by decide)]
      refine ⟨_, ?_, rfl⟩
      unfold F_X6_count
      rw [if_neg (by decide), if_neg (by decide), if_neg (by decide), if_neg (by decide), if_neg (by decide), if_neg (by decide), if_neg (by decide), if_pos rfl]
      simp only [nmE, jnE, bn2S, bndS, grdT, stI_22, stL_22, stRow_22, HR0, rfdS T_1, rfdS T_2, rfdS T_3, rfdS T_4, rfdS T_5, rfdS T_9, SZ_1, SZ_2, SZ_3, SZ_4, hX.2.1, X6_thereAmong_eq n (show 10 < n by omega) SZ_2 (show 4 ≤ 6 by decide) (fun i hi => ⟨(xtxt hX hi).1, (txtT hi).1⟩)]
      rw [fb_ct_cong (fun r hr => ?_)]
      obtain ⟨e1, e2⟩ := hT r hr
      rw [e1]
      rcases e2 with e2 | ⟨m, hm, e2, -⟩
      · rw [e2]; decide
      · rw [e2]; simp [nI_nm1 (show m < 2 ^ 31 by omega), nI_ge0 (show m < 2 ^ 31 by omega)]
    · rw [hz (by decide) (by decide), show nI 0 = 0 from rfl, show nI 8 = 8 from rfl, X7_cnt2' n (by omega) hCM (by decide), X7_cnt3' n (by omega) (by decide), X7_cnt4' n (by omega) (by decide), X7_cnt5 n (by omega) hM1, if_pos (by decide)]
      refine ⟨_, ?_, rfl⟩
      unfold F_X6_count
      rw [if_neg (by decide), if_neg (by decide), if_neg (by decide), if_neg (by decide), if_neg (by decide), if_neg (by decide), if_neg (by decide), if_neg (by decide), if_pos rfl, X6_keptThere_eq n (by omega) hX]
      simp only [nmE, jnE, bn2S, bndS, grdT, stI_22, stL_22, stRow_22]
      rw [fb_ct_cong (fun r hr => ?_)]
      rcases hk r hr with ⟨e1, e2⟩ | ⟨e1, -, T', L', hw', -, e3, -⟩
      · simp [e1, e2]
      · have := hw'.2.2.1
        simp [e1, e3.1, nI_nm1 (show T' < 2 ^ 31 by omega)]
  · refine ⟨-1, ?_, ?_⟩
    · have hne : ∀ v, v < 9 → ¬ w = nI v := fun v hv e => hi (by rw [e]; exact inb_nI hv (by decide))
      unfold F_X6_count
      rw [if_neg (show ¬ w = 0 from hne 0 (by decide)), if_neg (show ¬ w = 1 from hne 1 (by decide)), if_neg (show ¬ w = 2 from hne 2 (by decide)), if_neg (show ¬ w = 3 from hne 3 (by decide)), if_neg (show ¬ w = 4 from hne 4 (by decide)), if_neg (show ¬ w = 5 from hne 5 (by decide)), if_neg (show ¬ w = 6 from hne 6 (by decide)), if_neg (show ¬ w = 7 from hne 7 (by decide)), if_neg (show ¬ w = 8 from hne 8 (by decide))]
    · unfold F_X7_count
      rw [show (8 : Int64) = (nI 9 - 1).toInt64 from rfl, ei, if_neg hi]
      rfl
