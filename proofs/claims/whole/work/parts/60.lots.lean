/-! lots. -/
theorem lN_toI {m : Nat} (h : m < 2 ^ 63) : (lN m).toInt = m := by
  have := Int64.toInt_ofNat_of_lt (n := m) h
  exact this
theorem lN_div {a b : Nat} (ha : a < 2 ^ 62) (hb : b < 2 ^ 62) : lN a / lN b = lN (a / b) := by
  have hq : a / b ≤ a := Nat.div_le_self _ _
  refine Int64.toInt_inj.mp ?_
  rw [Int64.toInt_div, lN_toI (by omega), lN_toI (by omega), lN_toI (by omega), ← Int.ofNat_tdiv, fb_bmodL (by have : (0 : Int) ≤ ((a / b : Nat) : Int) := Int.natCast_nonneg _; omega) (by have : ((a / b : Nat) : Int) ≤ a := Int.ofNat_le.mpr hq; omega)]
theorem lN_mod {a b : Nat} (ha : a < 2 ^ 62) (hb : b < 2 ^ 62) : lN a - lN a / lN b * lN b = lN (a % b) := by
  have h1 : a / b * b ≤ a := Nat.div_mul_le_self _ _
  rw [lN_div ha hb, lN_mul, lN_sub h1]
  have h2 := Nat.div_add_mod a b
  rw [Nat.mul_comm] at h2
  congr 1
  omega
def kth (P : Nat → Bool) (j : Nat) : Nat → Nat
  | 0 => 0
  | c + 1 => if P c = true ∧ fb_ct P c = j then c else kth P j c
theorem kth_eq {P : Nat → Bool} {j i : Nat} (hp : P i = true) (hj : fb_ct P i = j) : ∀ C, i < C → kth P j C = i
  | 0, h => by omega
  | C + 1, h => by
    unfold kth
    by_cases k : P C = true ∧ fb_ct P C = j
    · rw [if_pos k]
      exact fb_ct_kth_one k.1 hp (k.2.trans hj.symm)
    · rw [if_neg k]
      refine kth_eq hp hj C ?_
      rcases Nat.lt_or_ge i C with q | q
      · exact q
      · exact absurd (by rw [show C = i by omega]; exact ⟨hp, hj⟩) k
theorem kth_at {P : Nat → Bool} {j C : Nat} (h : j < fb_ct P C) : kth P j C < C ∧ P (kth P j C) = true ∧ fb_ct P (kth P j C) = j := by
  obtain ⟨i, h1, h2, h3⟩ := fb_ct_kth h
  rw [kth_eq h2 h3 C h1]
  exact ⟨h1, h2, h3⟩
theorem bs_and (p q : Nat → Bool) (n : Nat) : bs p n &&& bs q n = bs (fun i => p i && q i) n := by
  refine Nat.eq_of_testBit_eq fun i => ?_
  rw [Nat.testBit_and, bs_test, bs_test, bs_test]
  cases decide (i < n) <;> simp
def lp_ (L : Nat → Nat → Nat) (q c : Nat) : Bool := decide (L 9 q = 99) && (decide (aq L c = 99) && ft L q c)
theorem bs_all : ∀ n, bs (fun _ => true) n = 2 ^ n - 1
  | 0 => rfl
  | n + 1 => by
    have h1 := bs_all n
    have h2 : 1 ≤ 2 ^ n := Nat.one_le_two_pow
    show (bs (fun _ => true) n + if (fun _ => true) n = true then 2 ^ n else 0) = _
    rw [h1, if_pos rfl, Nat.pow_succ]
    omega
def fr (L : Nat → Nat → Nat) (q c : Nat) : Bool := decide (fb_ct (fun p => decide (L 9 p = c)) q = 0)
section Lib22
variable {S : aSt} {h C Q T : Nat} {L : Nat → Nat → Nat}
theorem X1_freeCards_eq (n : Nat) (hn : 10 < n) (H : CX S h C Q T L) : F_X1_freeCards n S h = some (nI (bs (fun c => decide (aq L c = 99)) C)) := by
  have hw := H.2.2.2.2
  have h7 := hw.1
  have hQ := hw.2.1
  have es : (1 : Int32) <<< (nI C &&& 31) - 1 = nI (2 ^ C - 1) := by rw [shl1 C (by omega)]; exact pk_sub Nat.one_le_two_pow
  unfold F_X1_freeCards
  rw [show F_X1_allCards n S h = some (nI (2 ^ C - 1)) by unfold F_X1_allCards; rw [H.2.2.2.1.1, es], ← bs_all C, bs_cong (p := fun _ => true) (q := fr L 0) (fun c _ => rfl)]
  simp only [nmE, jnE, bn2S, bndS, grdT, stI_22, stL_22, stRow_22]
  have key := lp_eq (fun fu a i => F_X1_freeCards_L7 n S h (fun x => some x) fu a i) (fun x => some x) (fun q => nI (bs (fr L q) C)) Q (fun fu => ?_) (fun fu q hq => ?_) Q 0 n (by omega) (by omega)
  · refine key.trans ?_
    rw [bs_cong (p := fr L Q) (q := fun c => decide (aq L c = 99)) (fun c hc => ?_)]
    unfold fr
    have e : fb_ct (fun p => decide (L 9 p = c)) Q = 0 ↔ aq L c = 99 := by
      rw [fb_ct_zero, aq_99]
      constructor
      · intro z q hq e
        rcases Nat.lt_or_ge q Q with k | k
        · have := z q k
          simp at this
          exact this e
        · have := hw.ans.out hq k
          omega
      · intro z q hq
        simp [z q (by omega)]
    simp only [e]
  · show F_X1_freeCards_L7 _ _ _ _ (fu + 1) _ _ = _
    rw [F_X1_freeCards_L7, H.2.2.2.1.2.1, if_pos (Int32.le_refl _)]
  · show F_X1_freeCards_L7 _ _ _ _ (fu + 1) _ _ = F_X1_freeCards_L7 _ _ _ _ fu _ _
    have a3 := H.2.2.2.1.2.2.2.2.2.2.2.1 q (by omega)
    rw [F_X1_freeCards_L7, H.2.2.2.1.2.1, if_neg (nI_ge hq (by omega))]
    simp only [nmE, jnE, bn2S, bndS, grdT, stI_22, stL_22, stRow_22, X1_isFreeQuestion_eq n H (show q < 7 by omega), if10', H.r6, H.s3, rfdS (tg7 H.1), rfdS (tgs4 H.1), sgs4 H.1, inb_nI (show q < 7 by omega) (by decide), nI_clamp (show q < 2 ^ 31 by omega), a3, nI_1]
    by_cases k : L 9 q = 99
    · rw [if_pos k]
      rw [bs_cong (p := fr L (q + 1)) (q := fr L q) (fun c hc => ?_)]
      unfold fr
      rw [fb_ct_succ, if_neg (by simp; omega), Nat.add_zero]
    · have hlt : L 9 q < C := by
        rcases hw.ans q (by omega) with y | y
        · exact absurd y k
        · exact y.2.1
      have hp : 2 ^ L 9 q < 128 := Nat.pow_lt_pow_right (n := 7) (by decide) (by omega)
      rw [if_neg k, en_nI k, shl1 _ (by omega), cp_dec _ (bs_128 _ h7) _ hp]
      congr 2
      refine Nat.eq_of_testBit_eq fun i => ?_
      rw [Nat.testBit_and, bs_test, bs_test, Nat.testBit_xor]
      by_cases hi : i < C
      · rw [tb127 i (by omega), Nat.testBit_two_pow]
        unfold fr
        rw [fb_ct_succ]
        simp only [hi, decide_true, Bool.true_and, decide_eq_true_eq]
        by_cases e : L 9 q = i
        · rw [if_pos e]; simp [e]
        · rw [if_neg e]; simp [e]
      · simp [hi]
theorem X1_cardByLot_eq (n : Nat) (hn : 10 < n) (H : CX S h C Q T L) {q z : Nat} (hq : q < Q) (hz : z < 2 ^ 31) : F_X1_cardByLot n S h (nI q) (lN z) = some (if fb_ct (lp_ L q) C = 0 then -9 else nI (kth (lp_ L q) (z % fb_ct (lp_ L q) C) C)) := by
  have h7 := H.2.2.2.2.1
  have hQ := H.2.2.2.2.2.1
  unfold F_X1_cardByLot
  rw [X1_isFreeQuestion_eq n H (show q < 7 by omega)]
  simp only [nmE, jnE, bn2S, bndS, grdT, stI_22, stL_22, stRow_22, if10', X1_fittingCards_eq n hn H hq, X1_freeCards_eq n hn H, fa_and, bs_and]
  have key : ∀ M : Int32, M = nI (bs (lp_ L q) C) → ((F_J6_bitCount_0f7a4 n S M).bind fun r26 => if r26 = 0 then (some (-9 : Int32)) else grd (!decide (r26.toInt64 = 0)) <| F_X1_cardByLot_L49 S h M (some (-9)) n (lN z - lN z / r26.toInt64 * r26.toInt64) 0) = some (if fb_ct (lp_ L q) C = 0 then -9 else nI (kth (lp_ L q) (z % fb_ct (lp_ L q) C) C)) := by
    intro M hM
    subst hM
    have hct := fb_ct_le (lp_ L q) C
    rw [J6_bitCount_eq n S (bs_128 _ h7), pcn_bs _ h7, bndS]
    by_cases k : fb_ct (lp_ L q) C = 0
    · rw [if_pos (by rw [k]; rfl), if_pos k]
    · rw [if_neg (nI_n0 k (by omega)), if_neg k, nI64_ne (by omega) k, grdT, nI_l (by omega), lN_mod (by omega) (by omega)]
      have hj : z % fb_ct (lp_ L q) C < fb_ct (lp_ L q) C := Nat.mod_lt _ (by omega)
      obtain ⟨k1, k2, k3⟩ := kth_at hj
      generalize z % fb_ct (lp_ L q) C = j at hj k1 k2 k3 ⊢
      generalize kth (lp_ L q) j C = i at k1 k2 k3 ⊢
      have hle : ∀ c, c ≤ i → fb_ct (lp_ L q) c ≤ j := fun c hc => by rw [← k3]; exact fb_ct_mono _ hc
      have kk := lp_ix nI (fun fu (a : Int64) x => F_X1_cardByLot_L49 S h (nI (bs (lp_ L q) C)) (some (-9)) fu a x) (fun _ => some (nI i)) (fun c => lN (j - fb_ct (lp_ L q) c)) i (fun fu => ?_) (fun fu c hc => ?_) i 0 n (by omega) (by omega)
      · exact kk
      · show F_X1_cardByLot_L49 _ _ _ _ (fu + 1) _ _ = _
        rw [F_X1_cardByLot_L49, H.2.2.2.1.1, if_neg (nI_ge k1 (by omega)), shl1 i (by omega)]
        simp only [nmE, jnE, bn2S, bndS, grdT, stI_22, stL_22, stRow_22]
        rw [if_neg (by rw [fa_bit (by omega), bs_test, k2]; simp [k1]), k3, Nat.sub_self, if_pos (by decide)]
      · show F_X1_cardByLot_L49 _ _ _ _ (fu + 1) _ _ = F_X1_cardByLot_L49 _ _ _ _ fu _ _
        have hcc : c < C := by omega
        have hle1 := hle (c + 1) (by omega)
        rw [fb_ct_succ] at hle1
        rw [F_X1_cardByLot_L49, H.2.2.2.1.1, if_neg (nI_ge hcc (by omega)), shl1 c (by omega)]
        simp only [nmE, jnE, bn2S, bndS, grdT, stI_22, stL_22, stRow_22, fa_bit (show c < 31 by omega), bs_test, hcc, decide_true, Bool.true_and, nI_1, fb_ct_succ]
        by_cases kc : lp_ L q c = true
        · rw [if_pos kc] at hle1
          rw [if_neg (by rw [kc]; decide), if_pos kc, if_neg, show (1 : Int64) = lN 1 from rfl, lN_sub (by omega), Nat.sub_sub]
          rw [lg_cmp_eq, show (0 : Int64) = lN 0 from rfl, lN_eq (by omega) (by decide)]
          omega
        · rw [if_pos (by simpa using kc), if_neg kc]; rfl
  by_cases k : L 9 q = 99
  · rw [if_pos k]
    refine key _ (by congr 1; exact bs_cong fun c _ => by simp [lp_, k, Bool.and_comm])
  · rw [if_neg k]
    refine key 0 ?_
    rw [bs_0.mpr (fun c _ => by simp [lp_, k])]
    rfl
theorem X7_lots_cnt (n : Nat) (hn : 10 < n) (H : CM S C Q T L) {q : Nat} (hq : q < Q) (K : Int32 → Option (Int32 × aSt)) : F_X7_lots_L97 n 82 S 87 (nI q) K n 0 0 = K (nI (fb_ct (lp_ L q) C)) := by
  have hw := H.2.2
  have h7 := hw.1
  have hQ := hw.2.1
  refine lp_ct (fun fu a i => F_X7_lots_L97 n 82 S 87 (nI q) K fu a i) K _ C n (by omega) (fun fu a => ?_) (fun fu c a hc => ?_)
  · show F_X7_lots_L97 _ _ _ _ _ _ (fu + 1) _ _ = _
    rw [F_X7_lots_L97]
    simp only [nmE, jnE, bn2S, bndS, grdT, stI_22, stL_22, stRow_22, HRm, rfdS T_83, rfdS T_84, rfdS T_85, rfdS T_86, rfdS T_87, rfdS T_88, rfdS T_89, rfdS T_90, rfdS T_91, rfdS T_92, rfdS T_93, rfdS T_94, rfdS T_95, rfdS T_96, SZ_83, SZ_84, SZ_85, SZ_86, SZ_87, SZ_88, SZ_89, SZ_90, SZ_91, SZ_92, SZ_93, SZ_94, SZ_95, SZ_96, in0, H.v0]
    rw [if_pos (Int32.le_refl _)]
  · show F_X7_lots_L97 _ _ _ _ _ _ (fu + 1) _ _ = F_X7_lots_L97 _ _ _ _ _ _ fu _ _
    rw [F_X7_lots_L97]
    simp only [nmE, jnE, bn2S, bndS, grdT, stI_22, stL_22, stRow_22, HRm, rfdS T_83, rfdS T_84, rfdS T_85, rfdS T_86, rfdS T_87, rfdS T_88, rfdS T_89, rfdS T_90, rfdS T_91, rfdS T_92, rfdS T_93, rfdS T_94, rfdS T_95, rfdS T_96, SZ_83, SZ_84, SZ_85, SZ_86, SZ_87, SZ_88, SZ_89, SZ_90, SZ_91, SZ_92, SZ_93, SZ_94, SZ_95, SZ_96, in0, H.v0]
    rw [if_neg (nI_ge hc (by omega))]
    simp only [nmE, jnE, bn2S, bndS, grdT, stI_22, stL_22, stRow_22, X7_isFree_eq n H (show q < Q by omega), X7_isFreeCard_eq n hn H (show c < 99 by omega), X7_isFit_eq n H hc hq, if10', nI_1, show ∀ a : Int32, a + 0 = a by simp]
    by_cases k1 : L 9 q = 99
    · by_cases k2 : aq L c = 99
      · by_cases k3 : ft L q c = true
        · simp [lp_, k1, k2, k3]
        · simp [lp_, k1, k2, k3]
      · simp [lp_, k2]
    · simp [lp_, k1]
theorem X7_lots_find (n : Nat) (hn : 10 < n) (H : CM S C Q T L) {q j : Nat} (hq : q < Q) (hj : j < fb_ct (lp_ L q) C) (K : Int32 → Option (Int32 × aSt)) : F_X7_lots_L173 n 82 S (nI q) K n (nI j) 0 = K (nI (kth (lp_ L q) j C)) := by
  have hw := H.2.2
  have h7 := hw.1
  have hct := fb_ct_le (lp_ L q) C
  obtain ⟨k1, k2, k3⟩ := kth_at hj
  generalize kth (lp_ L q) j C = i at k1 k2 k3 ⊢
  have hle : ∀ c, c ≤ i → fb_ct (lp_ L q) c ≤ j := fun c hc => by rw [← k3]; exact fb_ct_mono _ hc
  have kf : L 9 q = 99 := by
    by_cases z : L 9 q = 99
    · exact z
    · simp [lp_, z] at k2
  have hlp : ∀ c, lp_ L q c = (decide (aq L c = 99) && ft L q c) := fun c => by simp [lp_, kf]
  refine lp_ix nI (fun fu (a : Int32) x => F_X7_lots_L173 n 82 S (nI q) K fu a x) (fun _ => K (nI i)) (fun c => nI (j - fb_ct (lp_ L q) c)) i (fun fu => ?_) (fun fu c hc => ?_) i 0 n (by omega) (by omega)
  · show F_X7_lots_L173 _ _ _ _ _ (fu + 1) _ _ = _
    rw [hlp] at k2
    simp only [Bool.and_eq_true, decide_eq_true_eq] at k2
    rw [F_X7_lots_L173, k3, Nat.sub_self]
    simp only [nmE, jnE, bn2S, bndS, grdT, stI_22, stL_22, stRow_22, X7_isFreeCard_eq n hn H (show i < 99 by omega), X7_isFit_eq n H k1 hq, if10', k2.1, k2.2, if_true]
    rw [if_neg (by decide), if_neg (by decide), if_neg (by decide)]
  · show F_X7_lots_L173 _ _ _ _ _ (fu + 1) _ _ = F_X7_lots_L173 _ _ _ _ _ fu _ _
    have hcc : c < C := by omega
    have hle1 := hle (c + 1) (by omega)
    rw [fb_ct_succ] at hle1
    rw [F_X7_lots_L173]
    simp only [nmE, jnE, bn2S, bndS, grdT, stI_22, stL_22, stRow_22, X7_isFreeCard_eq n hn H (show c < 99 by omega), X7_isFit_eq n H hcc hq, if10', nI_1, show ∀ a : Int32, a - 0 = a by simp, fb_ct_succ]
    by_cases kc : lp_ L q c = true
    · rw [if_pos kc] at hle1
      rw [if_pos kc]
      rw [hlp] at kc
      simp only [Bool.and_eq_true, decide_eq_true_eq] at kc
      rw [if_pos (show (0 : Int32) < nI (j - fb_ct (lp_ L q) c) from nI_lt (a := 0) (by omega) (by omega)), if_pos kc.1, if_pos kc.2, show (1 : Int32) = nI 1 from rfl, pk_sub (by omega), Nat.sub_sub]
    · rw [if_neg kc]
      rw [hlp] at kc
      have e : ∀ (X Y Z : Option (Int32 × aSt)), (if aq L c = 99 then (if ft L q c = true then X else Y) else Y) = Y := fun X Y Z => by
        by_cases a : aq L c = 99
        · rw [if_pos a, if_neg (fun b => kc (by simp [a, b]))]
        · rw [if_neg a]
      rw [e _ _ none, e _ _ none, ite_self]
      rfl
end Lib22
abbrev lst := Nat × Nat × (Nat → Nat → Nat) × Nat
def lotS (C Q : Nat) (_ : Nat) (x : lst) : lst :=
  if fb_ct (lp_ x.2.2.1 (x.1 * 48271 % 2147483647 % Q)) C = 0 then (x.1 * 48271 % 2147483647, x.2.1, x.2.2.1, x.2.2.2)
  else (x.1 * 48271 % 2147483647, x.2.1 + 1, tk x.2.2.1 x.2.1 (x.1 * 48271 % 2147483647 % Q) (kth (lp_ x.2.2.1 (x.1 * 48271 % 2147483647 % Q)) (x.1 * 48271 % 2147483647 / 64 % fb_ct (lp_ x.2.2.1 (x.1 * 48271 % 2147483647 % Q)) C) C), x.2.2.2 + 1)
def St (L L' : Nat → Nat → Nat) : Prop := ∀ i, L' 0 i = L 0 i ∧ L' 1 i = L 1 i ∧ L' 4 i = L 4 i ∧ L' 5 i = L 5 i ∧ L' 6 i = L 6 i ∧ L' 7 i = L 7 i
theorem lot_b {C Q T0 s0 : Nat} {L0 : Nat → Nat → Nat} (hs : s0 < 2147483647) : ∀ i, (itr (lotS C Q) (s0, T0, L0, 0) i).1 < 2147483647 ∧ (itr (lotS C Q) (s0, T0, L0, 0) i).2.1 ≤ T0 + i ∧ (itr (lotS C Q) (s0, T0, L0, 0) i).2.2.2 ≤ i ∧ St L0 (itr (lotS C Q) (s0, T0, L0, 0) i).2.2.1
  | 0 => ⟨hs, Nat.le_refl _, Nat.le_refl _, fun _ => ⟨rfl, rfl, rfl, rfl, rfl, rfl⟩⟩
  | i + 1 => by
    obtain ⟨h1, h2, h3, h4⟩ := lot_b (C := C) (Q := Q) (T0 := T0) (L0 := L0) hs i
    show (lotS C Q i (itr (lotS C Q) (s0, T0, L0, 0) i)).1 < _ ∧ (lotS C Q i (itr (lotS C Q) (s0, T0, L0, 0) i)).2.1 ≤ _ ∧ (lotS C Q i (itr (lotS C Q) (s0, T0, L0, 0) i)).2.2.2 ≤ _ ∧ St L0 (lotS C Q i (itr (lotS C Q) (s0, T0, L0, 0) i)).2.2.1
    generalize itr (lotS C Q) (s0, T0, L0, 0) i = x at h1 h2 h3 h4
    unfold lotS
    split
    · refine ⟨Nat.mod_lt _ (by decide), by show x.2.1 ≤ _; omega, by show x.2.2.2 ≤ _; omega, h4⟩
    · refine ⟨Nat.mod_lt _ (by decide), by show x.2.1 + 1 ≤ _; omega, by show x.2.2.2 + 1 ≤ _; omega, fun j => ?_⟩
      have := h4 j
      dsimp only
      rw [tk_o (by decide), tk_o (by decide), tk_o (by decide), tk_o (by decide), tk_o (by decide), tk_o (by decide)]
      exact this
theorem kth_free {C Q q z : Nat} {L : Nat → Nat → Nat} (h : ¬ fb_ct (lp_ L q) C = 0) : kth (lp_ L q) (z % fb_ct (lp_ L q) C) C < C ∧ ∀ p, p < 7 → L 9 p ≠ kth (lp_ L q) (z % fb_ct (lp_ L q) C) C := by
  obtain ⟨k1, k2, k3⟩ := kth_at (Nat.mod_lt z (show 0 < fb_ct (lp_ L q) C by omega))
  refine ⟨k1, aq_99.mp ?_⟩
  unfold lp_ at k2
  simp only [Bool.and_eq_true, decide_eq_true_eq] at k2
  exact k2.2.1
section Lib23
variable {S : aSt} {h C Q T : Nat} {L : Nat → Nat → Nat}
theorem X6_lots_loop (n : Nat) (hn : 50 < n) {d : Nat} (hX : RfX S h d) (H : CX S h C Q T L) (hQ0 : 0 < Q) {m s0 : Nat} (hs : s0 < 2147483647) (hm : T + m ≤ 40) (K : Int32 → aSt → Option (Int32 × aSt)) : ∃ S', F_X6_lots_L67 n 0 (nI m) K n (lN s0) 0 0 S = K (nI (itr (lotS C Q) (s0, T, L, 0) m).2.2.2) S' ∧ CX S' h C Q (itr (lotS C Q) (s0, T, L, 0) m).2.1 (itr (lotS C Q) (s0, T, L, 0) m).2.2.1 ∧ S'.2 = S.2 ∧ ∀ k, ¬ (h ≤ k ∧ k ≤ h + 13) → S'.1 k = S.1 k := by
  have h7 := H.2.2.2.2.1
  have hQ := H.2.2.2.2.2.1
  have hh := H.1
  have key := lp_ex (fun fu i (z : Int64 × Int32 × aSt) => F_X6_lots_L67 n 0 (nI m) K fu z.1 z.2.1 i z.2.2) (fun z => K z.2.1 z.2.2) (fun i z => z.1 = lN (itr (lotS C Q) (s0, T, L, 0) i).1 ∧ z.2.1 = nI (itr (lotS C Q) (s0, T, L, 0) i).2.2.2 ∧ CX z.2.2 h C Q (itr (lotS C Q) (s0, T, L, 0) i).2.1 (itr (lotS C Q) (s0, T, L, 0) i).2.2.1 ∧ z.2.2.2 = S.2 ∧ ∀ k, ¬ (h ≤ k ∧ k ≤ h + 13) → z.2.2.1 k = S.1 k) m (fun fu z hP => ?_) (fun fu i z hi hP => ?_) m 0 n (lN s0, 0, S) (by omega) (by omega) ⟨rfl, rfl, H, rfl, fun _ _ => rfl⟩
  · obtain ⟨z, ⟨p1, p2, p3, p4, p5⟩, e⟩ := key
    exact ⟨z.2.2, by rw [← p2]; exact e, p3, p4, p5⟩
  · show F_X6_lots_L67 _ _ _ _ (fu + 1) _ _ _ _ = _
    rw [F_X6_lots_L67, if_pos (Int32.le_refl _)]
  · show ∃ z' : Int64 × Int32 × aSt, (z'.1 = lN (lotS C Q i (itr (lotS C Q) (s0, T, L, 0) i)).1 ∧ z'.2.1 = nI (lotS C Q i (itr (lotS C Q) (s0, T, L, 0) i)).2.2.2 ∧ CX z'.2.2 h C Q (lotS C Q i (itr (lotS C Q) (s0, T, L, 0) i)).2.1 (lotS C Q i (itr (lotS C Q) (s0, T, L, 0) i)).2.2.1 ∧ z'.2.2.2 = S.2 ∧ ∀ k, ¬ (h ≤ k ∧ k ≤ h + 13) → z'.2.2.1 k = S.1 k) ∧ F_X6_lots_L67 _ _ _ _ (fu + 1) _ _ _ _ = F_X6_lots_L67 _ _ _ _ fu z'.1 z'.2.1 _ z'.2.2
    obtain ⟨b1, b2, b3, b4⟩ := lot_b (C := C) (Q := Q) (T0 := T) (L0 := L) hs i
    obtain ⟨sd, kc, S'⟩ := z
    obtain ⟨p1, p2, p3, p4, p5⟩ := hP
    dsimp only at p1 p2 p3 p4 p5 ⊢
    generalize itr (lotS C Q) (s0, T, L, 0) i = x at p1 p2 p3 b1 b2 b3 b4 ⊢
    obtain ⟨s, T', L', k'⟩ := x
    dsimp only at p1 p2 p3 b1 b2 b3 b4
    subst p1 p2
    have hX' : RfX S' h d := by unfold RfX at *; rw [p4]; exact hX
    have hs' : s * 48271 % 2147483647 < 2147483647 := Nat.mod_lt _ (by decide)
    have e1 : lN s * 48271 - lN s * 48271 / 2147483647 * 2147483647 = lN (s * 48271 % 2147483647) := by
      rw [show (48271 : Int64) = lN 48271 from rfl, lN_mul, show (2147483647 : Int64) = lN 2147483647 from rfl, lN_mod (by omega) (by decide)]
    have e2 : (lN (s * 48271 % 2147483647) - lN (s * 48271 % 2147483647) / (nI Q).toInt64 * (nI Q).toInt64).toInt32 = nI (s * 48271 % 2147483647 % Q) := by
      rw [nI_l (by omega), lN_mod (by omega) (by omega), lN_i]
    have e3 : lN (s * 48271 % 2147483647) / 64 = lN (s * 48271 % 2147483647 / 64) := by
      rw [show (64 : Int64) = lN 64 from rfl, lN_div (by omega) (by decide)]
    unfold lotS
    dsimp only
    generalize s * 48271 % 2147483647 = w at hs' e1 e2 e3 ⊢
    have hq : w % Q < Q := Nat.mod_lt _ hQ0
    rw [F_X6_lots_L67, if_neg (nI_ge hi (by omega))]
    simp only [nmE, e1]
    rw [X0_here hX']
    simp only [nmE, jnE, bn2S, bndS, grdT, stI_22, stL_22, stRow_22, e1, p3.2.2.2.1.2.1, nI64_ne (show Q < 2 ^ 31 by omega) (show Q ≠ 0 by omega), e2, e3, X1_cardByLot_eq n (show 10 < n by omega) p3 hq (show w / 64 < 2 ^ 31 by omega), nI_1]
    by_cases k : fb_ct (lp_ L' (w % Q)) C = 0
    · refine ⟨(lN w, nI k', S'), ?_, ?_⟩
      · rw [if_pos k]; exact ⟨rfl, rfl, p3, p4, p5⟩
      · rw [if_pos k, if_pos rfl]
    · obtain ⟨g1, g2⟩ := kth_free (C := C) (Q := Q) (z := w / 64) k
      generalize hc : kth (lp_ L' (w % Q)) (w / 64 % fb_ct (lp_ L' (w % Q)) C) C = c at g1 g2
      refine ⟨(lN w, nI (k' + 1), xTk S' (h + 7) T' (w % Q) c), ?_, ?_⟩
      · rw [if_neg k]
        refine ⟨rfl, rfl, p3.tk hq g1 (by omega) g2, ?_, fun j hj => ?_⟩
        · rw [← p4]; rfl
        · dsimp only
          rw [xTk_o (by omega)]; exact p5 j hj
      · rw [if_neg k, if_neg (nI_m9 (by omega)), p3.r6, rfdS (tg7 hh), X1_addTaking_eq n p3 (by omega) (by omega)]
        rfl
theorem X7_lots_loop (n : Nat) (hn : 50 < n) (H : CM S C Q T L) (hQ0 : 0 < Q) {m s0 : Nat} (hs : s0 < 2147483647) (hm : T + m ≤ 40) (K : Int32 → aSt → Option (Int32 × aSt)) : ∃ S', F_X7_lots_L63 n 82 (nI m) K n (lN s0) 0 0 S = K (nI (itr (lotS C Q) (s0, T, L, 0) m).2.2.2) S' ∧ CM S' C Q (itr (lotS C Q) (s0, T, L, 0) m).2.1 (itr (lotS C Q) (s0, T, L, 0) m).2.2.1 ∧ S'.2 = S.2 ∧ ∀ k, k ≠ 87 → S'.1 k = S.1 k := by
  have h7 := H.2.2.1
  have hQ := H.2.2.2.1
  have key := lp_ex (fun fu i (z : Int64 × Int32 × aSt) => F_X7_lots_L63 n 82 (nI m) K fu z.1 z.2.1 i z.2.2) (fun z => K z.2.1 z.2.2) (fun i z => z.1 = lN (itr (lotS C Q) (s0, T, L, 0) i).1 ∧ z.2.1 = nI (itr (lotS C Q) (s0, T, L, 0) i).2.2.2 ∧ CM z.2.2 C Q (itr (lotS C Q) (s0, T, L, 0) i).2.1 (itr (lotS C Q) (s0, T, L, 0) i).2.2.1 ∧ z.2.2.2 = S.2 ∧ ∀ k, k ≠ 87 → z.2.2.1 k = S.1 k) m (fun fu z hP => ?_) (fun fu i z hi hP => ?_) m 0 n (lN s0, 0, S) (by omega) (by omega) ⟨rfl, rfl, H, rfl, fun _ _ => rfl⟩
  · obtain ⟨z, ⟨p1, p2, p3, p4, p5⟩, e⟩ := key
    exact ⟨z.2.2, by rw [← p2]; exact e, p3, p4, p5⟩
  · show F_X7_lots_L63 _ _ _ _ (fu + 1) _ _ _ _ = _
    rw [F_X7_lots_L63, if_pos (Int32.le_refl _)]
  · show ∃ z' : Int64 × Int32 × aSt, (z'.1 = lN (lotS C Q i (itr (lotS C Q) (s0, T, L, 0) i)).1 ∧ z'.2.1 = nI (lotS C Q i (itr (lotS C Q) (s0, T, L, 0) i)).2.2.2 ∧ CM z'.2.2 C Q (lotS C Q i (itr (lotS C Q) (s0, T, L, 0) i)).2.1 (lotS C Q i (itr (lotS C Q) (s0, T, L, 0) i)).2.2.1 ∧ z'.2.2.2 = S.2 ∧ ∀ k, k ≠ 87 → z'.2.2.1 k = S.1 k) ∧ F_X7_lots_L63 _ _ _ _ (fu + 1) _ _ _ _ = F_X7_lots_L63 _ _ _ _ fu z'.1 z'.2.1 _ z'.2.2
    obtain ⟨b1, b2, b3, b4⟩ := lot_b (C := C) (Q := Q) (T0 := T) (L0 := L) hs i
    obtain ⟨sd, kc, S'⟩ := z
    obtain ⟨p1, p2, p3, p4, p5⟩ := hP
    dsimp only at p1 p2 p3 p4 p5 ⊢
    generalize itr (lotS C Q) (s0, T, L, 0) i = x at p1 p2 p3 b1 b2 b3 b4 ⊢
    obtain ⟨s, T', L', k'⟩ := x
    dsimp only at p1 p2 p3 b1 b2 b3 b4
    subst p1 p2
    have hs' : s * 48271 % 2147483647 < 2147483647 := Nat.mod_lt _ (by decide)
    have e1 : (48271 : Int64) * lN s - 48271 * lN s / 2147483647 * 2147483647 = lN (s * 48271 % 2147483647) := by
      rw [show (48271 : Int64) = lN 48271 from rfl, lN_mul, show (2147483647 : Int64) = lN 2147483647 from rfl, lN_mod (by omega) (by decide), Nat.mul_comm]
    have e2 : (lN (s * 48271 % 2147483647) - lN (s * 48271 % 2147483647) / (nI Q).toInt64 * (nI Q).toInt64).toInt32 = nI (s * 48271 % 2147483647 % Q) := by
      rw [nI_l (by omega), lN_mod (by omega) (by omega), lN_i]
    have e3 : lN (s * 48271 % 2147483647) / 64 = lN (s * 48271 % 2147483647 / 64) := by
      rw [show (64 : Int64) = lN 64 from rfl, lN_div (by omega) (by decide)]
    unfold lotS
    dsimp only
    generalize s * 48271 % 2147483647 = w at hs' e1 e2 e3 ⊢
    have hq : w % Q < Q := Nat.mod_lt _ hQ0
    have hct := fb_ct_le (lp_ L' (w % Q)) C
    rw [F_X7_lots_L63, if_neg (nI_ge hi (by omega))]
    simp only [nmE, jnE, bn2S, bndS, grdT, stI_22, stL_22, stRow_22, HRm, rfdS T_83, rfdS T_84, rfdS T_85, rfdS T_86, rfdS T_87, rfdS T_88, rfdS T_89, rfdS T_90, rfdS T_91, rfdS T_92, rfdS T_93, rfdS T_94, rfdS T_95, rfdS T_96, SZ_83, SZ_84, SZ_85, SZ_86, SZ_87, SZ_88, SZ_89, SZ_90, SZ_91, SZ_92, SZ_93, SZ_94, SZ_95, SZ_96, p3.1, in1, p3.v1, e1, nI64_ne (show Q < 2 ^ 31 by omega) (show Q ≠ 0 by omega), e2, e3, nI_1]
    rw [X7_lots_cnt n (by omega) p3 hq]
    by_cases k : fb_ct (lp_ L' (w % Q)) C = 0
    · refine ⟨(lN w, nI k', S'), ?_, ?_⟩
      · rw [if_pos k]; exact ⟨rfl, rfl, p3, p4, p5⟩
      · rw [if_pos (by rw [k]; decide)]
    · obtain ⟨g1, g2⟩ := kth_free (C := C) (Q := Q) (z := w / 64) k
      have hj : w / 64 % fb_ct (lp_ L' (w % Q)) C < fb_ct (lp_ L' (w % Q)) C := Nat.mod_lt _ (by omega)
      have e4 : (lN (w / 64) - lN (w / 64) / (nI (fb_ct (lp_ L' (w % Q)) C)).toInt64 * (nI (fb_ct (lp_ L' (w % Q)) C)).toInt64).toInt32 = nI (w / 64 % fb_ct (lp_ L' (w % Q)) C) := by
        rw [nI_l (by omega), lN_mod (by omega) (by omega), lN_i]
      rw [if_neg (show ¬ nI (fb_ct (lp_ L' (w % Q)) C) ≤ 0 from nI_ge (a := 0) (by omega) (by omega)), nI64_ne (by omega) k, grdT, e4, X7_lots_find n (by omega) p3 hq hj]
      generalize hc : kth (lp_ L' (w % Q)) (w / 64 % fb_ct (lp_ L' (w % Q)) C) C = c at g1 g2
      refine ⟨(lN w, nI (k' + 1), mTk S' T' (w % Q) c), ?_, ?_⟩
      · rw [if_neg k]
        refine ⟨rfl, rfl, p3.tk hq g1 (by omega) g2, ?_, fun j hj => ?_⟩
        · rw [← p4]; rfl
        · dsimp only
          rw [mTk_o hj]; exact p5 j hj
      · rw [X7_takesIt_eq n (by omega) p3.1 p3.2.1.2.2.1 (by omega) (by omega)]
        rfl
end Lib23
theorem op_lots (n : Nat) (hn : 100 < n) {S : aSt} (H : OK S) (a b : Int32) : Both S (F_X6_lots n S 0 a b) (fun S1 => F_X7_lots n S1 82 a b) := by
  obtain ⟨h, d, C, Q, T, L, hX, hM, hCX, hCM, hk⟩ := H.get
  have hw := hCM.2.2
  have hC := hw.1
  have hQ := hw.2.1
  have hT := hw.2.2.1
  have hh := hCX.1
  have c1 : (1 : Int32).toInt = 1 := rfl
  have c20 : (20 : Int32).toInt = 20 := rfl
  have cM : (2147483647 : Int32).toInt = 2147483647 := rfl
  have cN : (2147483646 : Int32).toInt = 2147483646 := rfl
  have i1 := fun S => X7_in_i n S a 1 20
  have i2 := fun S => X7_in_i n S b 1 2147483646
  simp only [c1, c20, cN] at i1 i2
  by_cases ha : 1 ≤ a.toInt ∧ a.toInt ≤ 20
  rotate_left
  · refine Both.same H (-1) ?_ ?_
    · unfold F_X6_lots
      by_cases k1 : a < 1
      · rw [if_pos k1]
      · rw [if_neg k1, if_pos]
        rw [Int32.lt_iff_toInt_lt, c1] at k1
        rw [Int32.lt_iff_toInt_lt, c20]; omega
    · unfold F_X7_lots
      rw [show (1 : Int64) = (1 : Int32).toInt64 from rfl, show (20 : Int64) = (20 : Int32).toInt64 from rfl, i1, if_neg ha]
      rfl
  have a1 : ¬ a < 1 := by rw [Int32.lt_iff_toInt_lt, c1]; omega
  have a2 : ¬ (20 : Int32) < a := by rw [Int32.lt_iff_toInt_lt, c20]; omega
  by_cases hb : 1 ≤ b.toInt ∧ b.toInt ≤ 2147483646
  rotate_left
  · refine Both.same H (-1) ?_ ?_
    · unfold F_X6_lots
      rw [if_neg a1, if_neg a2]
      by_cases k1 : b < 1
      · rw [if_pos k1]
      · rw [if_neg k1, if_neg]
        rw [Int32.lt_iff_toInt_lt, c1] at k1
        rw [Int32.lt_iff_toInt_lt, cM]; omega
    · unfold F_X7_lots
      rw [show (1 : Int64) = (1 : Int32).toInt64 from rfl, show (20 : Int64) = (20 : Int32).toInt64 from rfl, show (2147483646 : Int64) = (2147483646 : Int32).toInt64 from rfl, i1, if_pos ha, i2, if_neg hb]
      rfl
  have b1 : ¬ b < 1 := by rw [Int32.lt_iff_toInt_lt, c1]; omega
  have b2 : b < 2147483647 := by rw [Int32.lt_iff_toInt_lt, cM]; omega
  have hia : inb a 21 = true := inb_iff.mpr ⟨by omega, by omega⟩
  obtain ⟨m, hm, rfl⟩ := inb_ex hia (by decide)
  have hib : inb b 2147483647 = true := inb_iff.mpr ⟨by omega, by omega⟩
  obtain ⟨s0, hs0, rfl⟩ := inb_ex hib (by decide)
  have e2 : S.1 87 2 = nI T := hCM.2.1.2.2.1
  have eT : S.1 (h + 7) 6 = nI T := hCX.2.2.2.1.2.2.2.2.1
  have in2 : inb (2 : Int32) 393 = true := by decide
  have cl2 : (2 : Int32).toNatClampNeg = 2 := by decide
  by_cases hQ0 : Q = 0
  · refine Both.same H (-4) ?_ ?_
    · unfold F_X6_lots
      rw [if_neg a1, if_neg a2, if_neg b1, if_pos b2, X0_here hX, hCX.2.2.2.1.2.1, if_pos (show nI Q = 0 by rw [hQ0]; rfl)]
    · unfold F_X7_lots
      rw [show (1 : Int64) = (1 : Int32).toInt64 from rfl, show (20 : Int64) = (20 : Int32).toInt64 from rfl, show (2147483646 : Int64) = (2147483646 : Int32).toInt64 from rfl, i1, if_pos ha, i2, if_pos hb]
      simp only [nmE, jnE, bn2S, bndS, grdT, stI_22, stL_22, stRow_22, HRm, rfdS T_83, rfdS T_84, rfdS T_85, rfdS T_86, rfdS T_87, rfdS T_88, rfdS T_89, rfdS T_90, rfdS T_91, rfdS T_92, rfdS T_93, rfdS T_94, rfdS T_95, rfdS T_96, SZ_83, SZ_84, SZ_85, SZ_86, SZ_87, SZ_88, SZ_89, SZ_90, SZ_91, SZ_92, SZ_93, SZ_94, SZ_95, SZ_96, reduceIte, Bool.false_eq_true, one_ne0, hCM.1, in1, hCM.v1]
      rw [if_pos (show nI Q = 0 by rw [hQ0]; rfl)]
  by_cases h40 : T + m ≤ 40
  rotate_left
  · refine Both.same H (-2) ?_ ?_
    · unfold F_X6_lots
      rw [if_neg a1, if_neg a2, if_neg b1, if_pos b2, X0_here hX, hCX.2.2.2.1.2.1, if_neg (nI_n0 hQ0 (by omega)), hCX.r6, rfdS (tg7 hh), eT, nI_add, if_neg (show ¬ nI (T + m) ≤ (40 : Int32) from nI_ge (a := 40) (by omega) (by omega))]
    · unfold F_X7_lots
      rw [show (1 : Int64) = (1 : Int32).toInt64 from rfl, show (20 : Int64) = (20 : Int32).toInt64 from rfl, show (2147483646 : Int64) = (2147483646 : Int32).toInt64 from rfl, i1, if_pos ha, i2, if_pos hb]
      simp only [nmE, jnE, bn2S, bndS, grdT, stI_22, stL_22, stRow_22, HRm, rfdS T_83, rfdS T_84, rfdS T_85, rfdS T_86, rfdS T_87, rfdS T_88, rfdS T_89, rfdS T_90, rfdS T_91, rfdS T_92, rfdS T_93, rfdS T_94, rfdS T_95, rfdS T_96, SZ_83, SZ_84, SZ_85, SZ_86, SZ_87, SZ_88, SZ_89, SZ_90, SZ_91, SZ_92, SZ_93, SZ_94, SZ_95, SZ_96, reduceIte, Bool.false_eq_true, one_ne0, hCM.1, in1, hCM.v1]
      rw [if_neg (nI_n0 hQ0 (by omega))]
      simp only [nmE, jnE, bn2S, bndS, grdT, stI_22, stL_22, stRow_22, HRm, rfdS T_83, rfdS T_84, rfdS T_85, rfdS T_86, rfdS T_87, rfdS T_88, rfdS T_89, rfdS T_90, rfdS T_91, rfdS T_92, rfdS T_93, rfdS T_94, rfdS T_95, rfdS T_96, SZ_83, SZ_84, SZ_85, SZ_86, SZ_87, SZ_88, SZ_89, SZ_90, SZ_91, SZ_92, SZ_93, SZ_94, SZ_95, SZ_96, in2, cl2, e2, nI_add]
      rw [if_neg (show ¬ nI (T + m) ≤ (40 : Int32) from nI_ge (a := 40) (by omega) (by omega))]
  obtain ⟨S1, f1, f2, f3, f4⟩ := X6_lots_loop n (by omega) hX hCX (show 0 < Q by omega) hs0 h40 (fun a b => some (a, b))
  have hCM1 : CM S1 C Q T L := hCM.congr (by rw [f3]) (f4 87 (by rcases hh with rfl | rfl <;> omega))
  obtain ⟨S2, g1, g2, g3, g4⟩ := X7_lots_loop n (by omega) hCM1 (show 0 < Q by omega) hs0 h40 (fun a b => some (a, b))
  obtain ⟨-, -, -, hst⟩ := lot_b (C := C) (Q := Q) (T0 := T) (L0 := L) hs0 m
  refine ⟨nI (itr (lotS C Q) (s0, T, L, 0) m).2.2.2, S1, S2, ?_, ?_, H.both hX hk (by rw [g3, f3]) (by rw [g3, f3]) (fun k q1 q2 => (g4 k q2).trans (f4 k q1)) (f2.congr (by rw [g3]) (fun k q1 q2 => g4 k (by rcases hh with rfl | rfl <;> omega))) g2 hst⟩
  · unfold F_X6_lots
    rw [if_neg a1, if_neg a2, if_neg b1, if_pos b2, X0_here hX, hCX.2.2.2.1.2.1, if_neg (nI_n0 hQ0 (by omega)), hCX.r6, rfdS (tg7 hh), eT, nI_add, if_pos (show nI (T + m) ≤ (40 : Int32) from nI_le (b := 40) h40 (by decide)), nI_l (show s0 < 2 ^ 31 by omega)]
    exact f1
  · show F_X7_lots n S1 82 (nI m) (nI s0) = _
    have e2' : S1.1 87 2 = nI T := hCM1.2.1.2.2.1
    unfold F_X7_lots
    rw [show (1 : Int64) = (1 : Int32).toInt64 from rfl, show (20 : Int64) = (20 : Int32).toInt64 from rfl, show (2147483646 : Int64) = (2147483646 : Int32).toInt64 from rfl, i1, if_pos ha, i2, if_pos hb]
    simp only [nmE, jnE, bn2S, bndS, grdT, stI_22, stL_22, stRow_22, HRm, rfdS T_83, rfdS T_84, rfdS T_85, rfdS T_86, rfdS T_87, rfdS T_88, rfdS T_89, rfdS T_90, rfdS T_91, rfdS T_92, rfdS T_93, rfdS T_94, rfdS T_95, rfdS T_96, SZ_83, SZ_84, SZ_85, SZ_86, SZ_87, SZ_88, SZ_89, SZ_90, SZ_91, SZ_92, SZ_93, SZ_94, SZ_95, SZ_96, reduceIte, Bool.false_eq_true, one_ne0, hCM1.1, in1, hCM1.v1]
    rw [if_neg (nI_n0 hQ0 (by omega))]
    simp only [nmE, jnE, bn2S, bndS, grdT, stI_22, stL_22, stRow_22, HRm, rfdS T_83, rfdS T_84, rfdS T_85, rfdS T_86, rfdS T_87, rfdS T_88, rfdS T_89, rfdS T_90, rfdS T_91, rfdS T_92, rfdS T_93, rfdS T_94, rfdS T_95, rfdS T_96, SZ_83, SZ_84, SZ_85, SZ_86, SZ_87, SZ_88, SZ_89, SZ_90, SZ_91, SZ_92, SZ_93, SZ_94, SZ_95, SZ_96, in2, cl2, e2', nI_add]
    rw [if_pos (show nI (T + m) ≤ (40 : Int32) from nI_le (b := 40) h40 (by decide)), nI_l (show s0 < 2 ^ 31 by omega)]
    exact g1
