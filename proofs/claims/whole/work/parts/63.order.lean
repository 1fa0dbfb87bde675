/-! order: class and reference. -/
theorem dv7 : ∀ y, y < 2401 → nI y / 7 = nI (y / 7) ∧ nI y - nI y / 7 * 7 = nI (y % 7) := by decide +kernel
def dgt (x s : Nat) : Nat := x / 7 ^ s % 7
def dm (x : Nat) : Nat → Nat
  | 0 => 0
  | s + 1 => dm x s ||| 2 ^ dgt x s
theorem dm_lt (x : Nat) : ∀ s, dm x s < 2 ^ 7
  | 0 => by show 0 < 2 ^ 7; decide
  | s + 1 => Nat.or_lt_two_pow (dm_lt x s) (Nat.pow_lt_pow_right (by decide) (Nat.mod_lt _ (by decide)))
theorem dm_test (x k : Nat) : ∀ s, (dm x s).testBit k = true ↔ ∃ i, i < s ∧ dgt x i = k
  | 0 => by simp [dm]
  | s + 1 => by
    show (dm x s ||| 2 ^ dgt x s).testBit k = true ↔ _
    rw [tb_or]
    by_cases e : k = dgt x s
    · rw [if_pos e]
      simp only [true_iff]
      exact ⟨s, by omega, e.symm⟩
    · rw [if_neg e, dm_test x k s]
      constructor
      · rintro ⟨c, h1, h2⟩; exact ⟨c, by omega, h2⟩
      · rintro ⟨c, h1, h2⟩
        rcases Nat.lt_or_ge c s with q | q
        · exact ⟨c, q, h2⟩
        · exact absurd (by rw [← h2, show c = s by omega]) e
section Lib27
variable {S : aSt} {h C Q T : Nat} {L : Nat → Nat → Nat}
theorem X1_fewestMoved_eq (n : Nat) (hn : 20 < n) (H : CX S h C Q T L) : F_X1_fewestMoved n S h = some (if pcn (km L C) ≤ 4 then (if C = 0 then 0 else nI C - eo (mS (ly L C) (km L C) 4 (km L C))) else -9) := by
  have hw := H.2.2.2.2
  have h7 := hw.1
  have hk : km L C < 128 := Nat.lt_trans (km_lt (fun c hc => (hw.2.2.2.2.1 c hc).1)) (by decide)
  have hp := pcn_7 (km L C)
  have k1 : ∀ K : Int32 → Option Int32, F_X1_fewestMoved_L4 S h K n 0 0 = K (nI (km L C)) := fun K => by
    refine lp_eq (fun fu a i => F_X1_fewestMoved_L4 S h K fu a i) K (fun c => nI (km L c)) C (fun fu => ?_) (fun fu c hc => ?_) C 0 n (by omega) (by omega)
    · show F_X1_fewestMoved_L4 _ _ _ (fu + 1) _ _ = _
      rw [F_X1_fewestMoved_L4, H.2.2.2.1.1, if_pos (Int32.le_refl _)]
    · show F_X1_fewestMoved_L4 _ _ _ (fu + 1) _ _ = F_X1_fewestMoved_L4 _ _ _ fu _ _
      have w5 := hw.2.2.2.2.1 c hc
      rw [F_X1_fewestMoved_L4, H.2.2.2.1.1, if_neg (nI_ge hc (by omega))]
      simp only [nmE, jnE, bn2S, bndS, grdT, stI_22, stL_22, stRow_22, H.r0, rfdS (tg1 H.1), sg1 H.1, inb_nI (show c < 7 by omega) (by decide), nI_clamp (show c < 2 ^ 31 by omega), (H.2.2.2.1.2.2.1 c hc).1, shl1 (L 0 c) (by omega), fa_or, nI_1]
      rfl
  unfold F_X1_fewestMoved
  simp only [jnE]
  rw [k1, J6_bitCount_eq n S hk, bndS]
  by_cases k : pcn (km L C) ≤ 4
  · rw [if_pos (show nI (pcn (km L C)) ≤ (4 : Int32) from nI_le (b := 4) k (by decide)), if_pos k, H.2.2.2.1.1]
    by_cases c0 : C = 0
    · rw [if_pos (show nI C = 0 by rw [c0]; rfl), if_pos c0]
    · rw [if_neg (nI_n0 c0 (by omega)), if_neg c0]
      have e := X1_mostStaying_eq n hn H hk 4 7 0 (km L C) (by decide) (by decide) hk
      unfold F_X1_mostStaying
      rw [show (0 : Int32) = nI 0 from rfl, e, bndS]
  · rw [if_neg (show ¬ nI (pcn (km L C)) ≤ (4 : Int32) from nI_ge (a := 4) (by omega) (by omega)), if_neg k]
end Lib27
section Lib28
variable {S : aSt} {C Q T : Nat} {L : Nat → Nat → Nat}
theorem X7_order_km (n : Nat) (hn : 20 < n) (H : CM S C Q T L) (K : Int32 → Option Int32) : F_X7_order_L4 S 82 K n 0 0 = K (nI (km L C)) := by
  have hw := H.2.2
  have h7 := hw.1
  refine lp_eq (fun fu a i => F_X7_order_L4 S 82 K fu a i) K (fun c => nI (km L c)) C (fun fu => ?_) (fun fu c hc => ?_) C 0 n (by omega) (by omega)
  · show F_X7_order_L4 _ _ _ (fu + 1) _ _ = _
    rw [F_X7_order_L4]
    simp only [nmE, jnE, bn2S, bndS, grdT, stI_22, stL_22, stRow_22, HRm, rfdS T_83, rfdS T_84, rfdS T_85, rfdS T_86, rfdS T_87, rfdS T_88, rfdS T_89, rfdS T_90, rfdS T_91, rfdS T_92, rfdS T_93, rfdS T_94, rfdS T_95, rfdS T_96, SZ_83, SZ_84, SZ_85, SZ_86, SZ_87, SZ_88, SZ_89, SZ_90, SZ_91, SZ_92, SZ_93, SZ_94, SZ_95, SZ_96, H.1, in0, H.v0]
    rw [if_pos (Int32.le_refl _)]
  · show F_X7_order_L4 _ _ _ (fu + 1) _ _ = F_X7_order_L4 _ _ _ fu _ _
    have w5 := hw.2.2.2.2.1 c hc
    have e3 : (3 : Int32) + nI c = nI (3 + c) := nI_add 3 c
    rw [F_X7_order_L4]
    simp only [nmE, jnE, bn2S, bndS, grdT, stI_22, stL_22, stRow_22, HRm, rfdS T_83, rfdS T_84, rfdS T_85, rfdS T_86, rfdS T_87, rfdS T_88, rfdS T_89, rfdS T_90, rfdS T_91, rfdS T_92, rfdS T_93, rfdS T_94, rfdS T_95, rfdS T_96, SZ_83, SZ_84, SZ_85, SZ_86, SZ_87, SZ_88, SZ_89, SZ_90, SZ_91, SZ_92, SZ_93, SZ_94, SZ_95, SZ_96, H.1, in0, H.v0]
    rw [if_neg (nI_ge hc (by omega))]
    simp only [nmE, jnE, bn2S, bndS, grdT, stI_22, stL_22, stRow_22, HRm, rfdS T_83, rfdS T_84, rfdS T_85, rfdS T_86, rfdS T_87, rfdS T_88, rfdS T_89, rfdS T_90, rfdS T_91, rfdS T_92, rfdS T_93, rfdS T_94, rfdS T_95, rfdS T_96, SZ_83, SZ_84, SZ_85, SZ_86, SZ_87, SZ_88, SZ_89, SZ_90, SZ_91, SZ_92, SZ_93, SZ_94, SZ_95, SZ_96, e3, inb_nI (show 3 + c < 393 by omega) (by decide), nI_clamp (show 3 + c < 2 ^ 31 by omega), (H.2.1.2.2.2.1 c hc).1, shl1 (L 0 c) (by omega), fa_or, nI_1]
    rfl
def dsm (L : Nat → Nat → Nat) (C x : Nat) : Nat → Nat := fb_sm (fun s => ly L C (dgt x s) s)
theorem X7_order_in (n : Nat) (hn : 20 < n) (H : CM S C Q T L) {x : Nat} (hx : x < 2401) (K : Int32 → Int32 → Option Int32) : F_X7_order_L57 n S 82 K n (nI x) 0 0 0 = K (nI (dm x 4)) (nI (dsm L C x 4)) := by
  have key := lp_eq (fun fu (a : Int32 × Int32 × Int32) i => F_X7_order_L57 n S 82 K fu a.1 a.2.1 a.2.2 i) (fun a => K a.2.1 a.2.2) (fun s => (nI (x / 7 ^ s), nI (dm x s), nI (dsm L C x s))) 4 (fun fu => ?_) (fun fu s hs => ?_) 4 0 n (by omega) (by omega)
  · have e : x / 7 ^ 0 = x := by simp
    rw [e] at key
    exact key
  · show F_X7_order_L57 _ _ _ _ (fu + 1) _ _ _ _ = _
    rw [F_X7_order_L57, if_pos (by decide)]
  · show F_X7_order_L57 _ _ _ _ (fu + 1) _ _ _ _ = F_X7_order_L57 _ _ _ _ fu _ _ _ _
    have hy : x / 7 ^ s < 2401 := Nat.lt_of_le_of_lt (Nat.div_le_self _ _) hx
    obtain ⟨d1, d2⟩ := dv7 (x / 7 ^ s) hy
    have hd : dgt x s < 7 := Nat.mod_lt _ (by decide)
    rw [F_X7_order_L57, if_neg (show ¬ (4 : Int32) ≤ nI s from nI_ge hs (by decide)), d2, d1]
    rw [show x / 7 ^ s % 7 = dgt x s from rfl, Nat.div_div_eq_div_mul, ← Nat.pow_succ]
    simp only [nmE, jnE, bn2S, bndS, grdT, stI_22, stL_22, stRow_22, shl1 (dgt x s) (by omega), fa_or, X7_lying_eq n (show 10 < n by omega) H (show dgt x s < 2 ^ 31 by omega) (show s < 2 ^ 31 by omega), nI_add, nI_1]
    rfl
end Lib28
theorem dsm_le {C Q T : Nat} {L : Nat → Nat → Nat} (hw : WL C Q T L) (x : Nat) : dsm L C x 4 ≤ C := by
  have e := ct_cls (fun c => decide (L 0 c = dgt x (L 2 c))) (fun c => L 2 c) 4 C (fun c hc => by have := hw.2.2.2.2.1 c hc; omega)
  have e2 : dsm L C x 4 = fb_ct (fun c => decide (L 0 c = dgt x (L 2 c))) C := by
    rw [e]
    refine fb_sm_cong fun s _ => fb_ct_cong fun c _ => ?_
    by_cases q : L 2 c = s
    · simp [q]
    · simp [q]
  rw [e2]
  exact fb_ct_le _ _
def cov (M x : Nat) : Bool := decide (M &&& (127 ^^^ dm x 4) = 0)
def eb (C : Nat) (a : Option Nat) : Int32 := match a with
  | none => -9
  | some y => nI (C - y)
section Lib29
variable {S : aSt} {C Q T : Nat} {L : Nat → Nat → Nat}
theorem X7_order_all (n : Nat) (hn : 2500 < n) (H : CM S C Q T L) {M : Nat} (hM : M < 128) (K : Int32 → Option Int32) : F_X7_order_L38 n S 82 (nI M) K n (-9) 0 = K (eb C (itr (fun x acc => if cov M x = true then om acc (some (dsm L C x 4)) else acc) none 2401)) := by
  have hw := H.2.2
  have h7 := hw.1
  refine lp_eq (fun fu a i => F_X7_order_L38 n S 82 (nI M) K fu a i) K (fun c => eb C (itr (fun x acc => if cov M x = true then om acc (some (dsm L C x 4)) else acc) none c)) 2401 (fun fu => ?_) (fun fu x hx => ?_) 2401 0 n (by omega) (by omega)
  · show F_X7_order_L38 _ _ _ _ _ (fu + 1) _ _ = _
    rw [F_X7_order_L38, if_pos (by decide)]
  · show F_X7_order_L38 _ _ _ _ _ (fu + 1) _ _ = F_X7_order_L38 _ _ _ _ _ fu (eb C (if cov M x = true then om (itr (fun x acc => if cov M x = true then om acc (some (dsm L C x 4)) else acc) none x) (some (dsm L C x 4)) else itr (fun x acc => if cov M x = true then om acc (some (dsm L C x 4)) else acc) none x)) _
    have hob : ob C (itr (fun x acc => if cov M x = true then om acc (some (dsm L C x 4)) else acc) none x) := itr_inv (ob C) (fun v h => by simp at h) (n := 2401) (fun k y hk hy => by
      split
      · exact om_b hy (fun v h => by cases h; exact dsm_le hw k)
      · exact hy) x (by omega)
    generalize itr (fun x acc => if cov M x = true then om acc (some (dsm L C x 4)) else acc) none x = acc at hob ⊢
    have hd := dsm_le hw x
    rw [F_X7_order_L38, if_neg (show ¬ (2401 : Int32) ≤ nI x from nI_ge hx (by decide))]
    simp only [jnE]
    rw [X7_order_in n (by omega) H hx]
    simp only [nmE, jnE, bn2S, bndS, grdT, stI_22, stL_22, stRow_22, HRm, rfdS T_83, rfdS T_84, rfdS T_85, rfdS T_86, rfdS T_87, rfdS T_88, rfdS T_89, rfdS T_90, rfdS T_91, rfdS T_92, rfdS T_93, rfdS T_94, rfdS T_95, rfdS T_96, SZ_83, SZ_84, SZ_85, SZ_86, SZ_87, SZ_88, SZ_89, SZ_90, SZ_91, SZ_92, SZ_93, SZ_94, SZ_95, SZ_96, H.1, in0, H.v0, cp_dec M hM (dm x 4) (dm_lt x 4), pk_sub hd, nI_1]
    by_cases k : M &&& (127 ^^^ dm x 4) = 0
    · have kc : cov M x = true := by simp [cov, k]
      rw [if_pos (by rw [k]; rfl), if_pos kc]
      cases acc with
      | none => rw [if_pos (show eb C none = -9 from rfl)]; rfl
      | some y =>
        have hy := hob y rfl
        rw [if_neg (show ¬ eb C (some y) = -9 from nI_m9 (by omega))]
        by_cases q : dsm L C x 4 ≤ y
        · rw [if_pos (show eb C (some y) ≤ nI (C - dsm L C x 4) from nI_le (by omega) (by omega))]
          show _ = F_X7_order_L38 _ _ _ _ _ fu (nI (C - max y (dsm L C x 4))) _
          rw [Nat.max_eq_left q]; rfl
        · rw [if_neg (show ¬ eb C (some y) ≤ nI (C - dsm L C x 4) from nI_ge (by omega) (by omega))]
          show _ = F_X7_order_L38 _ _ _ _ _ fu (nI (C - max y (dsm L C x 4))) _
          rw [Nat.max_eq_right (by omega)]
    · have kc : ¬ cov M x = true := by simp [cov, k]
      rw [if_neg (nI_n0 k (by have : M &&& (127 ^^^ dm x 4) ≤ M := Nat.and_le_left; omega)), if_neg kc]
end Lib29
