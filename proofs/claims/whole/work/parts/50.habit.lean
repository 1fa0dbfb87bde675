/-! habit. -/
def pcn (x : Nat) : Nat := fb_ct (fun i => x.testBit i) 7
theorem bc_dec : ∀ x, x < 128 → F_J6_bitCount_0f7a4 0 (fun _ _ => 0, fun _ _ => 0, fun _ _ => none) (nI x) = some (nI (pcn x)) := by decide +kernel
theorem J6_bitCount_eq (n : Nat) (S : aSt) {x : Nat} (h : x < 128) : F_J6_bitCount_0f7a4 n S (nI x) = some (nI (pcn x)) := bc_dec x h
theorem pcn_bs (p : Nat → Bool) {C : Nat} (h : C ≤ 7) : pcn (bs p C) = fb_ct p C := by
  have e1 : fb_ct (fun i => (bs p C).testBit i) 7 = fb_ct (fun i => decide (i < C) && p i) 7 := fb_ct_cong (fun k _ => bs_test p k C)
  have e2 : fb_ct (fun i => decide (i < C) && p i) (C + (7 - C)) = fb_ct p C := by
    rw [fb_ct_split, fb_ct_cong (n := C) (q := p) (fun k hk => by simp [hk]), (fb_ct_zero (p := fun k => decide (C + k < C) && p (C + k))).mpr (fun k hk => by simp; omega)]
    rfl
  rw [show C + (7 - C) = 7 by omega] at e2
  exact e1.trans e2
theorem bs_128 (p : Nat → Bool) {C : Nat} (h : C ≤ 7) : bs p C < 128 := Nat.lt_of_lt_of_le (bs_lt p C) (Nat.pow_le_pow_right (by decide) h)
def hb (f : Nat → Nat) : Nat → Nat
  | 0 => 0
  | s + 1 => if f s ≤ f (hb f s) then hb f s else s
theorem hb_le (f : Nat → Nat) : ∀ s, hb f s ≤ s
  | 0 => Nat.le_refl _
  | s + 1 => by
    have := hb_le f s
    unfold hb
    split <;> omega
theorem hb_4 (f : Nat → Nat) : hb f 4 ≤ 3 := by
  have := hb_le f 3
  unfold hb
  split <;> omega
theorem ly_le (L : Nat → Nat → Nat) (C k s : Nat) : ly L C k s ≤ C := fb_ct_le _ _
section Lib10
variable {S : aSt} {h C Q T : Nat} {L : Nat → Nat → Nat}
theorem X1_homeOf_eq (n : Nat) (hn : 10 < n) (H : CX S h C Q T L) {k : Nat} (hk : k < 2 ^ 31) : F_X1_homeOf n S h (nI k) = some (nI (hb (ly L C k) 4)) := by
  have hC := H.2.2.2.2.1
  unfold F_X1_homeOf
  simp only [jnE]
  obtain ⟨m, rfl⟩ : ∃ m, n = m + 1 := ⟨n - 1, by omega⟩
  have st : ∀ s, s < 4 → F_X1_cardsOfOn (m + 1) S h (nI k) (nI s) = some (nI (ly L C k s)) := fun s hs => X1_cardsOfOn_eq (m + 1) hn H hk (by omega)
  have e1 : F_X1_homeOf_L7 (m + 1) S h (nI k) (fun x => some x) (m + 1) 0 0 0 = F_X1_homeOf_L7 (m + 1) S h (nI k) (fun x => some x) m (nI (hb (ly L C k) 1)) (nI (ly L C k (hb (ly L C k) 1))) (nI 1) := by
    have h1 : hb (ly L C k) 1 = 0 := by unfold hb hb; simp
    rw [h1, F_X1_homeOf_L7, if_neg (by decide), show (0 : Int32) = nI 0 from rfl, st 0 (by omega)]
    simp only [nmE, jnE, bn2S, bndS, grdT, stI_22, stL_22, stRow_22]
    by_cases c : ly L C k 0 = 0
    · rw [c, if_pos (Int32.le_refl _)]; rfl
    · rw [if_neg (nI_ge (show 0 < ly L C k 0 by omega) (by have := ly_le L C k 0; omega))]; rfl
  rw [e1]
  refine lp_eq (fun fu (a : Int32 × Int32) i => F_X1_homeOf_L7 (m + 1) S h (nI k) (fun x => some x) fu a.1 a.2 i) (fun a => some a.1) (fun s => (nI (hb (ly L C k) s), nI (ly L C k (hb (ly L C k) s)))) 4 (fun fu => ?_) (fun fu s hs => ?_) 3 1 m (by omega) (by omega)
  · show F_X1_homeOf_L7 _ _ _ _ _ (fu + 1) _ _ _ = _
    rw [F_X1_homeOf_L7, if_pos (by decide)]
  · show F_X1_homeOf_L7 _ _ _ _ _ (fu + 1) _ _ _ = F_X1_homeOf_L7 _ _ _ _ _ fu _ _ _
    rw [F_X1_homeOf_L7, if_neg (show ¬ (4 : Int32) ≤ nI s from nI_ge hs (by decide)), st s hs]
    simp only [nmE, jnE, bn2S, bndS, grdT, stI_22, stL_22, stRow_22, nI_1]
    have := ly_le L C k s
    have := ly_le L C k (hb (ly L C k) s)
    by_cases c : ly L C k s ≤ ly L C k (hb (ly L C k) s)
    · rw [if_pos (nI_le c (by omega)), show hb (ly L C k) (s + 1) = hb (ly L C k) s from if_pos c]
    · rw [if_neg (nI_ge (show ly L C k (hb (ly L C k) s) < ly L C k s by omega) (by omega)), show hb (ly L C k) (s + 1) = s from if_neg c]
theorem X7_habit_in (n : Nat) (hn : 10 < n) (H : CM S C Q T L) {c : Nat} (hc : c < C) (K : Int32 → Option (Int32 × aSt)) : F_X7_habit_L22 n S 82 (nI c) 87 K n 0 1 = K (nI (hb (ly L C (L 0 c)) 4)) := by
  have hC := H.2.2.1
  have w5 := H.2.2.2.2.2.2.1 c hc
  obtain ⟨a0, a1, a2, a3⟩ := H.2.1.2.2.2.1 c hc
  have e3 : (3 : Int32) + nI c = nI (3 + c) := nI_add 3 c
  have h1 : hb (ly L C (L 0 c)) 1 = 0 := by unfold hb hb; simp
  have e1 := lp_eq (fun fu (a : Int32) i => F_X7_habit_L22 n S 82 (nI c) 87 K fu a i) K (fun s => nI (hb (ly L C (L 0 c)) s)) 4 (fun fu => ?_) (fun fu s hs => ?_) 3 1 n (by omega) (by omega)
  · rw [h1] at e1
    exact e1
  · show F_X7_habit_L22 _ _ _ _ _ _ (fu + 1) _ _ = _
    rw [F_X7_habit_L22, if_pos (by decide)]
  · show F_X7_habit_L22 _ _ _ _ _ _ (fu + 1) _ _ = F_X7_habit_L22 _ _ _ _ _ _ fu _ _
    have hh := hb_le (ly L C (L 0 c)) s
    rw [F_X7_habit_L22, if_neg (show ¬ (4 : Int32) ≤ nI s from nI_ge hs (by decide))]
    simp only [nmE, jnE, bn2S, bndS, grdT, stI_22, stL_22, stRow_22, HRm, rfdS T_83, rfdS T_84, rfdS T_85, rfdS T_86, rfdS T_87, rfdS T_88, rfdS T_89, rfdS T_90, rfdS T_91, rfdS T_92, rfdS T_93, rfdS T_94, rfdS T_95, rfdS T_96, SZ_83, SZ_84, SZ_85, SZ_86, SZ_87, SZ_88, SZ_89, SZ_90, SZ_91, SZ_92, SZ_93, SZ_94, SZ_95, SZ_96, e3, inb_nI (show 3 + c < 393 by omega) (by decide), nI_clamp (show 3 + c < 2 ^ 31 by omega), a0, X7_lying_eq n hn H (show L 0 c < 2 ^ 31 by omega) (show s < 2 ^ 31 by omega), X7_lying_eq n hn H (show L 0 c < 2 ^ 31 by omega) (show hb (ly L C (L 0 c)) s < 2 ^ 31 by omega), nI_1]
    have := ly_le L C (L 0 c) s
    have := ly_le L C (L 0 c) (hb (ly L C (L 0 c)) s)
    by_cases z : ly L C (L 0 c) s ≤ ly L C (L 0 c) (hb (ly L C (L 0 c)) s)
    · rw [if_pos (nI_le z (by omega)), show hb (ly L C (L 0 c)) (s + 1) = hb (ly L C (L 0 c)) s from if_pos z]
    · rw [if_neg (nI_ge (show ly L C (L 0 c) (hb (ly L C (L 0 c)) s) < ly L C (L 0 c) s by omega) (by omega)), show hb (ly L C (L 0 c)) (s + 1) = s from if_neg z]
def sy (L : Nat → Nat → Nat) (C c : Nat) : Bool := !decide (L 2 c = hb (ly L C (L 0 c)) 4)
theorem X1_strayCards_eq (n : Nat) (hn : 10 < n) (H : CX S h C Q T L) : F_X1_strayCards n S h = some (nI (bs (sy L C) C)) := by
  have hw := H.2.2.2.2
  have h7 := hw.1
  unfold F_X1_strayCards
  simp only [jnE]
  refine lp_bs (fun fu a i => F_X1_strayCards_L4 n S h (fun x => some x) fu a i) (fun x => some x) _ C n (by omega) (by omega) (fun fu a => ?_) (fun fu c a hc => ?_)
  · show F_X1_strayCards_L4 _ _ _ _ (fu + 1) _ _ = _
    rw [F_X1_strayCards_L4, H.2.2.2.1.1, if_pos (Int32.le_refl _)]
  · show F_X1_strayCards_L4 _ _ _ _ (fu + 1) _ _ = F_X1_strayCards_L4 _ _ _ _ fu _ _
    have w5 := hw.2.2.2.2.1 c hc
    have := hb_4 (ly L C (L 0 c))
    rw [F_X1_strayCards_L4, H.2.2.2.1.1, if_neg (nI_ge hc (by omega))]
    simp only [nmE, jnE, bn2S, bndS, grdT, stI_22, stL_22, stRow_22, H.r0, H.r6, H.s0, rfdS (tg1 H.1), rfdS (tg7 H.1), rfdS (tgs1 H.1), sg1 H.1, sgs1 H.1, inb_nI (show c < 7 by omega) (by decide), nI_clamp (show c < 2 ^ 31 by omega), (H.2.2.2.1.2.2.1 c hc).1, (H.2.2.2.1.2.2.2.2.2.1 c hc).1, X1_homeOf_eq n hn H (show L 0 c < 2 ^ 31 by omega), nI_eq (show L 2 c < 2 ^ 31 by omega) (show hb (ly L C (L 0 c)) 4 < 2 ^ 31 by omega), nI_1]
    by_cases k : L 2 c = hb (ly L C (L 0 c)) 4
    · rw [if_pos k, if_neg (by simp [sy, k])]
    · rw [if_neg k, if_pos (by simp [sy, k])]
theorem X7_habit_loop (n : Nat) (hn : 10 < n) (H : CM S C Q T L) (K : Int32 → Int32 → Option (Int32 × aSt)) : F_X7_habit_L6 n S 82 K n 0 0 0 = K (nI (fb_ct (fun c => !sy L C c) C)) (nI (bs (sy L C) C)) := by
  have hw := H.2.2
  have h7 := hw.1
  refine lp_eq (fun fu (a : Int32 × Int32) i => F_X7_habit_L6 n S 82 K fu a.1 a.2 i) (fun a => K a.1 a.2) (fun c => (nI (fb_ct (fun c => !sy L C c) c), nI (bs (sy L C) c))) C (fun fu => ?_) (fun fu c hc => ?_) C 0 n (by omega) (by omega)
  · show F_X7_habit_L6 _ _ _ _ (fu + 1) _ _ _ = _
    rw [F_X7_habit_L6]
    simp only [nmE, jnE, bn2S, bndS, grdT, stI_22, stL_22, stRow_22, HRm, rfdS T_83, rfdS T_84, rfdS T_85, rfdS T_86, rfdS T_87, rfdS T_88, rfdS T_89, rfdS T_90, rfdS T_91, rfdS T_92, rfdS T_93, rfdS T_94, rfdS T_95, rfdS T_96, SZ_83, SZ_84, SZ_85, SZ_86, SZ_87, SZ_88, SZ_89, SZ_90, SZ_91, SZ_92, SZ_93, SZ_94, SZ_95, SZ_96, H.1, in0, H.v0]
    rw [if_pos (Int32.le_refl _)]
  · show F_X7_habit_L6 _ _ _ _ (fu + 1) _ _ _ = F_X7_habit_L6 _ _ _ _ fu _ _ _
    have w5 := hw.2.2.2.2.1 c hc
    have hh := hb_4 (ly L C (L 0 c))
    obtain ⟨a0, a1, a2, a3⟩ := H.2.1.2.2.2.1 c hc
    have e17 : (17 : Int32) + nI c = nI (17 + c) := nI_add 17 c
    rw [F_X7_habit_L6]
    simp only [nmE, jnE, bn2S, bndS, grdT, stI_22, stL_22, stRow_22, HRm, rfdS T_83, rfdS T_84, rfdS T_85, rfdS T_86, rfdS T_87, rfdS T_88, rfdS T_89, rfdS T_90, rfdS T_91, rfdS T_92, rfdS T_93, rfdS T_94, rfdS T_95, rfdS T_96, SZ_83, SZ_84, SZ_85, SZ_86, SZ_87, SZ_88, SZ_89, SZ_90, SZ_91, SZ_92, SZ_93, SZ_94, SZ_95, SZ_96, H.1, in0, H.v0]
    rw [if_neg (nI_ge hc (by omega)), X7_habit_in n hn H hc]
    simp only [nmE, jnE, bn2S, bndS, grdT, stI_22, stL_22, stRow_22, HRm, rfdS T_83, rfdS T_84, rfdS T_85, rfdS T_86, rfdS T_87, rfdS T_88, rfdS T_89, rfdS T_90, rfdS T_91, rfdS T_92, rfdS T_93, rfdS T_94, rfdS T_95, rfdS T_96, SZ_83, SZ_84, SZ_85, SZ_86, SZ_87, SZ_88, SZ_89, SZ_90, SZ_91, SZ_92, SZ_93, SZ_94, SZ_95, SZ_96, e17, inb_nI (show 17 + c < 393 by omega) (by decide), nI_clamp (show 17 + c < 2 ^ 31 by omega), a2, nI_eq (show L 2 c < 2 ^ 31 by omega) (show hb (ly L C (L 0 c)) 4 < 2 ^ 31 by omega), nI_1, fb_ct_succ]
    by_cases k : L 2 c = hb (ly L C (L 0 c)) 4
    · have e : sy L C c = false := by simp [sy, k]
      rw [if_pos k, if_pos k]
      simp [bs, e, nI_1]
    · have e : sy L C c = true := by simp [sy, k]
      rw [if_neg k, if_neg k, or_bit (bs_lt _ _) (by omega)]
      simp [bs, e]
end Lib10
theorem op_habit (n : Nat) (hn : 100 < n) {S : aSt} (H : OK S) : Both S (F_X6_habit n S 0) (fun S1 => F_X7_habit n S1 82) := by
  obtain ⟨h, d, C, Q, T, L, hX, hM, hCX, hCM, hk⟩ := H.get
  have h7 := hCX.2.2.2.2.1
  have hct := fb_ct_not (sy L C) C
  refine Both.tell H (nI (bs (sy L C) C)) (nI (fb_ct (fun c => !sy L C c) C)) ?_ ?_
  · unfold F_X6_habit
    rw [X0_here hX, X1_strayCards_eq n (by omega) hCX]
    simp only [nmE, jnE, bn2S, bndS, grdT, stI_22, stL_22, stRow_22]
    rw [X0_here hX, J6_bitCount_eq n _ (bs_128 _ h7), pcn_bs _ h7]
    simp only [nmE, jnE, bn2S, bndS, grdT, stI_22, stL_22, stRow_22]
    have e7 : (stI S 0 8 (nI (bs (sy L C) C))).1 h 7 = nI C := by
      rw [stI_ne (by rcases hCX.1 with rfl | rfl <;> decide)]; exact hCX.2.2.2.1.1
    rw [e7, pk_sub (by omega), show C - fb_ct (sy L C) C = fb_ct (fun c => !sy L C c) C by omega]
    rfl
  · have hCM1 : CM (xTell S (nI (bs (sy L C) C))) C Q T L := hCM.congr rfl (xTell_m (by decide))
    show F_X7_habit n (xTell S _) 82 = _
    unfold F_X7_habit
    simp only [nmE, jnE, bn2S, bndS, grdT, stI_22, stL_22, stRow_22]
    rw [X7_habit_loop n (by omega) hCM1]
    simp only [X7_tell_eq, bn2S]
