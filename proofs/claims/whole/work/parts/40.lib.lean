/-! Libraries: what their cards and questions are; the first functions of both. -/
def mn (k s a : Nat) : Nat := if k = 1 then (if s < 5 then 0 else 1) else if k = 3 then 0 else if k = 4 then (s + a) % 10 else if k = 5 then (s + 1) % 10 else s
def me (L : Nat → Nat → Nat) (c : Nat) : Nat := mn (L 0 c) (L 1 c) (L 3 c)
def isA (k w : Nat) : Bool := decide (w = 0) || decide (k = w) || (decide (w = 1) && decide (k = 3)) || (decide (w = 2) && decide (k = 5))
def ft (L : Nat → Nat → Nat) (q c : Nat) : Bool := isA (L 0 c) (L 4 q) && (decide (L 5 q ≤ me L c) && decide (me L c ≤ L 6 q))
def aq (L : Nat → Nat → Nat) (c : Nat) : Nat := if fa_first (fun q => decide (L 9 q = c)) 7 < 7 then fa_first (fun q => decide (L 9 q = c)) 7 else 99
/-- what a library of the class is: its cells at h, what they hold -/
def CX (S : aSt) (h C Q T : Nat) (L : Nat → Nat → Nat) : Prop := (h = 13 ∨ h = 27) ∧ S.2.2 h = HRn h 7 ∧ S.2.2 (h + 7) = HRn (h + 7) 6 ∧ PX S h C Q T L ∧ WL C Q T L
def CM (S : aSt) (C Q T : Nat) (L : Nat → Nat → Nat) : Prop := S.2.2 82 = HRm ∧ PM (S.1 87) C Q T L ∧ WL C Q T L
theorem CX.r0 {S : aSt} {h C Q T : Nat} {L : Nat → Nat → Nat} (H : CX S h C Q T L) : S.2.2 h 0 = some (h + 1) := by rw [H.2.1]; simp [HRn, Nat.add_assoc]
theorem CX.r1 {S : aSt} {h C Q T : Nat} {L : Nat → Nat → Nat} (H : CX S h C Q T L) : S.2.2 h 1 = some (h + 2) := by rw [H.2.1]; simp [HRn, Nat.add_assoc]
theorem CX.r2 {S : aSt} {h C Q T : Nat} {L : Nat → Nat → Nat} (H : CX S h C Q T L) : S.2.2 h 2 = some (h + 3) := by rw [H.2.1]; simp [HRn, Nat.add_assoc]
theorem CX.r3 {S : aSt} {h C Q T : Nat} {L : Nat → Nat → Nat} (H : CX S h C Q T L) : S.2.2 h 3 = some (h + 4) := by rw [H.2.1]; simp [HRn, Nat.add_assoc]
theorem CX.r4 {S : aSt} {h C Q T : Nat} {L : Nat → Nat → Nat} (H : CX S h C Q T L) : S.2.2 h 4 = some (h + 5) := by rw [H.2.1]; simp [HRn, Nat.add_assoc]
theorem CX.r5 {S : aSt} {h C Q T : Nat} {L : Nat → Nat → Nat} (H : CX S h C Q T L) : S.2.2 h 5 = some (h + 6) := by rw [H.2.1]; simp [HRn, Nat.add_assoc]
theorem CX.r6 {S : aSt} {h C Q T : Nat} {L : Nat → Nat → Nat} (H : CX S h C Q T L) : S.2.2 h 6 = some (h + 7) := by rw [H.2.1]; simp [HRn, Nat.add_assoc]
theorem CX.s0 {S : aSt} {h C Q T : Nat} {L : Nat → Nat → Nat} (H : CX S h C Q T L) : S.2.2 (h + 7) 0 = some (h + 7 + 1) := by rw [H.2.2.1]; simp [HRn, Nat.add_assoc]
theorem CX.s1 {S : aSt} {h C Q T : Nat} {L : Nat → Nat → Nat} (H : CX S h C Q T L) : S.2.2 (h + 7) 1 = some (h + 7 + 2) := by rw [H.2.2.1]; simp [HRn, Nat.add_assoc]
theorem CX.s2 {S : aSt} {h C Q T : Nat} {L : Nat → Nat → Nat} (H : CX S h C Q T L) : S.2.2 (h + 7) 2 = some (h + 7 + 3) := by rw [H.2.2.1]; simp [HRn, Nat.add_assoc]
theorem CX.s3 {S : aSt} {h C Q T : Nat} {L : Nat → Nat → Nat} (H : CX S h C Q T L) : S.2.2 (h + 7) 3 = some (h + 7 + 4) := by rw [H.2.2.1]; simp [HRn, Nat.add_assoc]
theorem CX.s4 {S : aSt} {h C Q T : Nat} {L : Nat → Nat → Nat} (H : CX S h C Q T L) : S.2.2 (h + 7) 4 = some (h + 7 + 5) := by rw [H.2.2.1]; simp [HRn, Nat.add_assoc]
theorem CX.s5 {S : aSt} {h C Q T : Nat} {L : Nat → Nat → Nat} (H : CX S h C Q T L) : S.2.2 (h + 7) 5 = some (h + 7 + 6) := by rw [H.2.2.1]; simp [HRn, Nat.add_assoc]
theorem tg0 {h : Nat} (H : h = 13 ∨ h = 27) : isT h 0 = true := by rcases H with rfl | rfl <;> decide +kernel
theorem tg7 {h : Nat} (H : h = 13 ∨ h = 27) : isT (h + 7) 4 = true := by rcases H with rfl | rfl <;> decide +kernel
theorem tg1 {h : Nat} (H : h = 13 ∨ h = 27) : isT (h + 1) 7 = true := by rcases H with rfl | rfl <;> decide +kernel
theorem sg1 {h : Nat} (H : h = 13 ∨ h = 27) : (SH (h + 1)).2 = 7 := by rcases H with rfl | rfl <;> decide +kernel
theorem tg2 {h : Nat} (H : h = 13 ∨ h = 27) : isT (h + 2) 7 = true := by rcases H with rfl | rfl <;> decide +kernel
theorem sg2 {h : Nat} (H : h = 13 ∨ h = 27) : (SH (h + 2)).2 = 7 := by rcases H with rfl | rfl <;> decide +kernel
theorem tg3 {h : Nat} (H : h = 13 ∨ h = 27) : isT (h + 3) 7 = true := by rcases H with rfl | rfl <;> decide +kernel
theorem sg3 {h : Nat} (H : h = 13 ∨ h = 27) : (SH (h + 3)).2 = 7 := by rcases H with rfl | rfl <;> decide +kernel
theorem tg4 {h : Nat} (H : h = 13 ∨ h = 27) : isT (h + 4) 7 = true := by rcases H with rfl | rfl <;> decide +kernel
theorem sg4 {h : Nat} (H : h = 13 ∨ h = 27) : (SH (h + 4)).2 = 7 := by rcases H with rfl | rfl <;> decide +kernel
theorem tg5 {h : Nat} (H : h = 13 ∨ h = 27) : isT (h + 5) 7 = true := by rcases H with rfl | rfl <;> decide +kernel
theorem sg5 {h : Nat} (H : h = 13 ∨ h = 27) : (SH (h + 5)).2 = 7 := by rcases H with rfl | rfl <;> decide +kernel
theorem tg6 {h : Nat} (H : h = 13 ∨ h = 27) : isT (h + 6) 7 = true := by rcases H with rfl | rfl <;> decide +kernel
theorem sg6 {h : Nat} (H : h = 13 ∨ h = 27) : (SH (h + 6)).2 = 7 := by rcases H with rfl | rfl <;> decide +kernel
theorem tgs1 {h : Nat} (H : h = 13 ∨ h = 27) : isT (h + 7 + 1) 7 = true := by rcases H with rfl | rfl <;> decide +kernel
theorem sgs1 {h : Nat} (H : h = 13 ∨ h = 27) : (SH (h + 7 + 1)).2 = 7 := by rcases H with rfl | rfl <;> decide +kernel
theorem tgs2 {h : Nat} (H : h = 13 ∨ h = 27) : isT (h + 7 + 2) 7 = true := by rcases H with rfl | rfl <;> decide +kernel
theorem sgs2 {h : Nat} (H : h = 13 ∨ h = 27) : (SH (h + 7 + 2)).2 = 7 := by rcases H with rfl | rfl <;> decide +kernel
theorem tgs3 {h : Nat} (H : h = 13 ∨ h = 27) : isT (h + 7 + 3) 7 = true := by rcases H with rfl | rfl <;> decide +kernel
theorem sgs3 {h : Nat} (H : h = 13 ∨ h = 27) : (SH (h + 7 + 3)).2 = 7 := by rcases H with rfl | rfl <;> decide +kernel
theorem tgs4 {h : Nat} (H : h = 13 ∨ h = 27) : isT (h + 7 + 4) 7 = true := by rcases H with rfl | rfl <;> decide +kernel
theorem sgs4 {h : Nat} (H : h = 13 ∨ h = 27) : (SH (h + 7 + 4)).2 = 7 := by rcases H with rfl | rfl <;> decide +kernel
theorem tgs5 {h : Nat} (H : h = 13 ∨ h = 27) : isT (h + 7 + 5) 7 = true := by rcases H with rfl | rfl <;> decide +kernel
theorem sgs5 {h : Nat} (H : h = 13 ∨ h = 27) : (SH (h + 7 + 5)).2 = 40 := by rcases H with rfl | rfl <;> decide +kernel
theorem tgs6 {h : Nat} (H : h = 13 ∨ h = 27) : isT (h + 7 + 6) 7 = true := by rcases H with rfl | rfl <;> decide +kernel
theorem sgs6 {h : Nat} (H : h = 13 ∨ h = 27) : (SH (h + 7 + 6)).2 = 280 := by rcases H with rfl | rfl <;> decide +kernel
/-! bits -/
def bs (p : Nat → Bool) : Nat → Nat
  | 0 => 0
  | n + 1 => bs p n + (if p n then 2 ^ n else 0)
theorem bs_lt (p : Nat → Bool) : ∀ n, bs p n < 2 ^ n
  | 0 => by simp [bs]
  | n + 1 => by
    have := bs_lt p n
    rw [bs, Nat.pow_succ]
    split <;> omega
theorem bs_test (p : Nat → Bool) (i : Nat) : ∀ n, (bs p n).testBit i = (decide (i < n) && p i)
  | 0 => by simp [bs]
  | n + 1 => by
    have ih := bs_test p i n
    have hl := bs_lt p n
    rw [bs]
    by_cases hp : p n = true
    · rw [if_pos hp, Nat.add_comm, show 2 ^ n = 2 ^ n * 1 by omega, Nat.two_pow_add_eq_or_of_lt hl, Nat.testBit_or, ih, Nat.mul_one, Nat.testBit_two_pow]
      by_cases h1 : n = i
      · subst h1
        simp [hp]
      · simp only [h1, decide_false, Bool.false_or]
        by_cases h2 : i < n
        · simp [h2, show i < n + 1 by omega]
        · simp [h2, show ¬ i < n + 1 by omega]
    · rw [if_neg hp, Nat.add_zero, ih]
      by_cases h1 : i = n
      · subst h1
        simp [hp]
      · by_cases h2 : i < n
        · simp [h2, show i < n + 1 by omega]
        · simp [h2, show ¬ i < n + 1 by omega]
theorem bs_cong {p q : Nat → Bool} : ∀ {n : Nat}, (∀ i, i < n → p i = q i) → bs p n = bs q n
  | 0, _ => rfl
  | n + 1, h => by rw [bs, bs, bs_cong (fun i hi => h i (by omega)), h n (by omega)]
theorem shl1 : ∀ c, c < 31 → (1 : Int32) <<< (nI c &&& 31) = nI (2 ^ c) := by decide +kernel
theorem or_bit {a c : Nat} (ha : a < 2 ^ c) (hc : c < 31) : nI a ||| ((1 : Int32) <<< (nI c &&& 31)) = nI (a + 2 ^ c) := by
  rw [shl1 c hc, fa_or]
  congr 1
  rw [Nat.or_comm, show 2 ^ c = 2 ^ c * 1 by omega, ← Nat.two_pow_add_eq_or_of_lt ha]
  omega
theorem en_99 : en 99 = -9 := rfl
theorem en_nI {x : Nat} (h : x ≠ 99) : en x = nI x := by unfold en; rw [if_neg h]
theorem nI_m9 {m : Nat} (h : m < 2 ^ 31) : ¬ nI m = -9 := by
  intro e
  have h1 := congrArg Int32.toInt e
  rw [nI_toInt h, show (-9 : Int32).toInt = -9 from rfl] at h1
  omega
theorem en_m9 {x : Nat} (h : x < 2 ^ 31) : en x = -9 ↔ x = 99 := by
  by_cases e : x = 99
  · subst e; simp [en_99]
  · rw [en_nI e]
    exact ⟨fun q => absurd q (nI_m9 h), fun q => absurd q e⟩
theorem en_eq {x c : Nat} (h : x < 2 ^ 31) (hc : c < 99) : en x = nI c ↔ x = c := by
  by_cases e : x = 99
  · subst e
    rw [en_99]
    exact ⟨fun q => absurd q.symm (nI_m9 (by omega)), fun q => by omega⟩
  · rw [en_nI e, nI_eq h (by omega)]
/-! kinds and meanings -/
theorem isA_dec : ∀ k, k < 6 → ∀ w, w < 6 → (if nI w = 0 then some (1 : Int32) else if nI k = nI w then some (1 : Int32) else (if nI w = (1 : Int32) then (if nI k = (3 : Int32) then some (1 : Int32) else (if nI w = (2 : Int32) then (if nI k = (5 : Int32) then some (1 : Int32) else some (0 : Int32)) else some (0 : Int32))) else (if nI w = (2 : Int32) then (if nI k = (5 : Int32) then some (1 : Int32) else some (0 : Int32)) else some (0 : Int32)))) = some (if isA k w = true then (1 : Int32) else 0) := by decide +kernel
theorem X0_isA_eq (n : Nat) (S : aSt) {k w : Nat} (hk : k ≤ 5) (hw : w ≤ 5) : F_X0_isA n S (nI k) (nI w) = some (if isA k w = true then (1 : Int32) else 0) := isA_dec k (by omega) w (by omega)
theorem X7_isOf_eq (n : Nat) (S : aSt) {k w : Nat} (hk : k ≤ 5) (hw : w ≤ 5) : F_X7_isOf n S (nI k) (nI w) = some (if isA k w = true then (1 : Int32) else 0) := isA_dec k (by omega) w (by omega)
theorem mn_dec : ∀ k, k < 6 → ∀ s, s < 10 → ∀ a, a < 10 → (if nI k = (1 : Int32) then (if nI s < (5 : Int32) then some (0 : Int32) else some (1 : Int32)) else if nI k = (2 : Int32) then some (nI s) else if nI k = (3 : Int32) then some (0 : Int32) else if nI k = (4 : Int32) then some ((nI s + nI a) - (nI s + nI a) / (10 : Int32) * (10 : Int32)) else if nI k = (5 : Int32) then some ((nI s + (1 : Int32)) - (nI s + (1 : Int32)) / (10 : Int32) * (10 : Int32)) else some (nI s)) = some (nI (mn k s a)) := by decide +kernel
theorem mn_dec2 : ∀ k, k < 6 → ∀ s, s < 10 → ∀ a, a < 10 → (if nI k = (1 : Int32) then (if (5 : Int32) ≤ nI s then some (1 : Int32) else some (0 : Int32)) else if nI k = (2 : Int32) then some (nI s) else if nI k = (3 : Int32) then some (0 : Int32) else if nI k = (4 : Int32) then some ((nI s + nI a) - (nI s + nI a) / (10 : Int32) * (10 : Int32)) else if nI k = (5 : Int32) then some ((nI s + (1 : Int32)) - (nI s + (1 : Int32)) / (10 : Int32) * (10 : Int32)) else some (nI s)) = some (nI (mn k s a)) := by decide +kernel
theorem X0_meaning_eq (n : Nat) (S : aSt) {k s a : Nat} (hk : k ≤ 5) (hs : s ≤ 9) (ha : a ≤ 9) : F_X0_meaning n S (nI k) (nI s) (nI a) = some (nI (mn k s a)) := mn_dec k (by omega) s (by omega) a (by omega)
theorem mn_le : ∀ k, k < 6 → ∀ s, s < 10 → ∀ a, a < 10 → mn k s a < 10 := by decide +kernel
section Lib
variable {S : aSt} {h C Q T : Nat} {L : Nat → Nat → Nat}
theorem WL.mle {C Q T : Nat} {L : Nat → Nat → Nat} (H : WL C Q T L) {c : Nat} (hc : c < C) : me L c ≤ 9 := by
  have := H.2.2.2.2.1 c hc
  have := mn_le (L 0 c) (by omega) (L 1 c) (by omega) (L 3 c) (by omega)
  unfold me
  omega
theorem X1_meaningOf_eq (n : Nat) (H : CX S h C Q T L) {c : Nat} (hc : c < C) : F_X1_meaningOf n S h (nI c) = some (nI (me L c)) := by
  have hw := H.2.2.2.2
  have h7 := hw.1
  have hx := H.2.2.2.1
  have w1 := hw.2.2.2.2.1 c hc
  have a1 := hx.2.2.1 c hc
  have a2 := hx.2.2.2.2.2.1 c hc
  have hi := inb_nI (show c < 7 by omega) (by decide)
  have hcl : (nI c).toNatClampNeg = c := nI_clamp (by omega)
  unfold F_X1_meaningOf
  simp only [nmE, jnE, bn2S, bndS, grdT, stI_22, stL_22, stRow_22, H.r0, H.r1, H.r6, H.s1, rfdS (tg1 H.1), rfdS (tg2 H.1), rfdS (tg7 H.1), rfdS (tgs2 H.1), sg1 H.1, sg2 H.1, sgs2 H.1, hi, hcl, a1.1, a1.2, a2.2, X0_meaning_eq n S w1.1 w1.2.1 w1.2.2.2]
  rfl
theorem X7_means_eq (n : Nat) (H : CM S C Q T L) {c : Nat} (hc : c < C) : F_X7_means n S 82 (nI c) = some (nI (me L c)) := by
  obtain ⟨hM1, hm, hw⟩ := H
  have h7 := hw.1
  have w1 := hw.2.2.2.2.1 c hc
  obtain ⟨a0, a1, a2, a3⟩ := hm.2.2.2.1 c hc
  have e1 : (10 : Int32) + nI c = nI (10 + c) := nI_add 10 c
  have e2 : (3 : Int32) + nI c = nI (3 + c) := nI_add 3 c
  have e3 : (24 : Int32) + nI c = nI (24 + c) := nI_add 24 c
  have key := mn_dec2 (L 0 c) (by omega) (L 1 c) (by omega) (L 3 c) (by omega)
  unfold F_X7_means
  simp only [nmE, jnE, bn2S, bndS, grdT, stI_22, stL_22, stRow_22, HRm, rfdS T_83, rfdS T_84, rfdS T_85, rfdS T_86, rfdS T_87, rfdS T_88, rfdS T_89, rfdS T_90, rfdS T_91, rfdS T_92, rfdS T_93, rfdS T_94, rfdS T_95, rfdS T_96, SZ_83, SZ_84, SZ_85, SZ_86, SZ_87, SZ_88, SZ_89, SZ_90, SZ_91, SZ_92, SZ_93, SZ_94, SZ_95, SZ_96, hM1, e1, e2, e3, inb_nI (show 10 + c < 393 by omega) (by decide), inb_nI (show 3 + c < 393 by omega) (by decide), inb_nI (show 24 + c < 393 by omega) (by decide), nI_clamp (show 10 + c < 2 ^ 31 by omega), nI_clamp (show 3 + c < 2 ^ 31 by omega), nI_clamp (show 24 + c < 2 ^ 31 by omega), a0, a1, a3]
  exact key
theorem if10 {p : Prop} [Decidable p] : ((if p then (1 : Int32) else 0) = 0) = ¬ p := by
  by_cases h : p <;> simp [h]
theorem ft_if {L : Nat → Nat → Nat} {q c : Nat} : ft L q c = true ↔ isA (L 0 c) (L 4 q) = true ∧ L 5 q ≤ me L c ∧ me L c ≤ L 6 q := by
  unfold ft
  simp
theorem X1_isFitting_eq (n : Nat) (H : CX S h C Q T L) {c q : Nat} (hc : c < C) (hq : q < Q) : F_X1_isFitting n S h (nI c) (nI q) = some (if ft L q c = true then (1 : Int32) else 0) := by
  have hw := H.2.2.2.2
  have h7 := hw.1
  have hq7 := hw.2.1
  have hx := H.2.2.2.1
  have w1 := hw.2.2.2.2.1 c hc
  have w2 := hw.2.2.2.2.2.1 q hq
  have hme := hw.mle hc
  have a1 := hx.2.2.1 c hc
  have a2 := hx.2.2.2.1 q hq
  have hi := inb_nI (show c < 7 by omega) (by decide)
  have hiq := inb_nI (show q < 7 by omega) (by decide)
  have hcl : (nI c).toNatClampNeg = c := nI_clamp (by omega)
  have hql : (nI q).toNatClampNeg = q := nI_clamp (by omega)
  unfold F_X1_isFitting
  simp only [nmE, jnE, bn2S, bndS, grdT, stI_22, stL_22, stRow_22, X1_meaningOf_eq n H hc, H.r0, H.r2, H.r3, H.r4, rfdS (tg1 H.1), rfdS (tg3 H.1), rfdS (tg4 H.1), rfdS (tg5 H.1), sg1 H.1, sg3 H.1, sg4 H.1, sg5 H.1, hi, hiq, hcl, hql, a1.1, a2.1, a2.2.1, a2.2.2.1, X0_isA_eq n S w1.1 w2.1, if10]
  by_cases k1 : isA (L 0 c) (L 4 q) = true
  · rw [if_neg (fun z => z k1)]
    by_cases k2 : L 5 q ≤ me L c
    · rw [if_neg (nI_nlt k2 (by omega))]
      by_cases k3 : me L c ≤ L 6 q
      · rw [if_neg (nI_nlt k3 (by omega)), if_pos (ft_if.mpr ⟨k1, k2, k3⟩)]
      · rw [if_pos (nI_lt (by omega) (by omega)), if_neg (fun z => k3 (ft_if.mp z).2.2)]
    · rw [if_pos (nI_lt (by omega) (by omega)), if_neg (fun z => k2 (ft_if.mp z).2.1)]
  · rw [if_pos k1, if_neg (fun z => k1 (ft_if.mp z).1)]
theorem X7_suits_eq (n : Nat) (H : CM S C Q T L) {c k a b : Nat} (hc : c < C) (hk : k ≤ 5) (ha : a < 2 ^ 31) (hb : b < 2 ^ 31) : F_X7_suits n S 82 (nI c) (nI k) (nI a) (nI b) = some (if isA (L 0 c) k = true ∧ a ≤ me L c ∧ me L c ≤ b then (1 : Int32) else 0) := by
  have H0 := H
  obtain ⟨hM1, hm, hw⟩ := H
  have h7 := hw.1
  have w1 := hw.2.2.2.2.1 c hc
  have hme := hw.mle hc
  obtain ⟨a0, a1, a2, a3⟩ := hm.2.2.2.1 c hc
  have e2 : (3 : Int32) + nI c = nI (3 + c) := nI_add 3 c
  unfold F_X7_suits
  simp only [nmE, jnE, bn2S, bndS, grdT, stI_22, stL_22, stRow_22, HRm, rfdS T_83, rfdS T_84, rfdS T_85, rfdS T_86, rfdS T_87, rfdS T_88, rfdS T_89, rfdS T_90, rfdS T_91, rfdS T_92, rfdS T_93, rfdS T_94, rfdS T_95, rfdS T_96, SZ_83, SZ_84, SZ_85, SZ_86, SZ_87, SZ_88, SZ_89, SZ_90, SZ_91, SZ_92, SZ_93, SZ_94, SZ_95, SZ_96, hM1, e2, inb_nI (show 3 + c < 393 by omega) (by decide), nI_clamp (show 3 + c < 2 ^ 31 by omega), a0, X7_isOf_eq n S w1.1 hk, X7_means_eq n H0 hc, X7_in_i, nI_toInt (show me L c < 2 ^ 31 by omega), nI_toInt ha, nI_toInt hb, if10, Int.ofNat_le]
  by_cases k1 : isA (L 0 c) k = true
  · rw [if_neg (fun z => z k1)]
    by_cases k2 : a ≤ me L c ∧ me L c ≤ b
    · rw [if_neg (fun z => z k2), if_pos ⟨k1, k2⟩]
    · rw [if_pos k2, if_neg (fun z => k2 z.2)]
  · rw [if_pos k1, if_neg (fun z => k1 z.1)]
theorem X7_isFit_eq (n : Nat) (H : CM S C Q T L) {c q : Nat} (hc : c < C) (hq : q < Q) : F_X7_isFit n S 82 (nI q) (nI c) = some (if ft L q c = true then (1 : Int32) else 0) := by
  have H0 := H
  obtain ⟨hM1, hm, hw⟩ := H
  have hq7 := hw.2.1
  have w2 := hw.2.2.2.2.2.1 q hq
  obtain ⟨a0, a1, a2, a3, a4⟩ := hm.2.2.2.2.1 q hq
  have e1 : (31 : Int32) + nI q = nI (31 + q) := nI_add 31 q
  have e2 : (38 : Int32) + nI q = nI (38 + q) := nI_add 38 q
  have e3 : (45 : Int32) + nI q = nI (45 + q) := nI_add 45 q
  unfold F_X7_isFit
  simp only [nmE, jnE, bn2S, bndS, grdT, stI_22, stL_22, stRow_22, HRm, rfdS T_83, rfdS T_84, rfdS T_85, rfdS T_86, rfdS T_87, rfdS T_88, rfdS T_89, rfdS T_90, rfdS T_91, rfdS T_92, rfdS T_93, rfdS T_94, rfdS T_95, rfdS T_96, SZ_83, SZ_84, SZ_85, SZ_86, SZ_87, SZ_88, SZ_89, SZ_90, SZ_91, SZ_92, SZ_93, SZ_94, SZ_95, SZ_96, hM1, e1, e2, e3, inb_nI (show 31 + q < 393 by omega) (by decide), inb_nI (show 38 + q < 393 by omega) (by decide), inb_nI (show 45 + q < 393 by omega) (by decide), nI_clamp (show 31 + q < 2 ^ 31 by omega), nI_clamp (show 38 + q < 2 ^ 31 by omega), nI_clamp (show 45 + q < 2 ^ 31 by omega), a0, a1, a2, X7_suits_eq n H0 hc w2.1 (show L 5 q < 2 ^ 31 by omega) (show L 6 q < 2 ^ 31 by omega), isB_if]
  simp only [ft_if]
end Lib
