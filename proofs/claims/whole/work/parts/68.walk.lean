/-! matchings: the reference's walk over all ways. -/
def alm (L : Nat → Nat → Nat) : Nat → Nat → Bool := fun q c => decide (L 9 q = 99) && (decide (aq L c = 99) && tc L q c)
def wtf (L : Nat → Nat → Nat) (Q : Nat) (b : Int32) : Nat → Nat := fun q => if b = 0 then 1 else if q < Q then L 7 q else 0
theorem shr_bit : ∀ U, U < 128 → ∀ c, c < 8 → decide ((nI U >>> (nI c &&& 31)) &&& (1 : Int32) = (1 : Int32)) = U.testBit c := by decide +kernel
theorem un_bit : ∀ U, U < 128 → ∀ c, c < 7 → U.testBit c = false → nI (U ||| 2 ^ c) &&& (((1 : Int32) <<< (nI c &&& 31)) ^^^ (-1 : Int32)) = nI U := by decide +kernel
theorem p128 {C U : Nat} (hC : C ≤ 7) (h : U < 2 ^ C) : U < 128 := Nat.lt_of_lt_of_le h (Nat.pow_le_pow_right (n := 2) (by decide) hC)
def L35_B (n : Nat) (a1 : Int32) (v6 : Int32) (v13 : Int32) (K234 : aSt → Option aSt) (fu : Nat) (l35_4 : Int32) (l35S : aSt) (j115_5 j115_6 x155_8 : Int32) : Option aSt :=
    grd (inb l35_4 (SH 92).2) <|
    nm (stI l35S 92 l35_4.toNatClampNeg x155_8) fun S163 =>
    if x155_8 ≤ v13 then (jn (fun (j214_5 : Int32) (j214_6 : Int32) => (jn (fun (j231S : aSt) => (F_X7_layMatchings_L35 n 82 a1 v6 v13 K234 fu (l35_4 + (1 : Int32)) j214_5 j214_6 j231S : Option aSt)) fun K231 =>
    if v6 ≤ (l35_4 + (1 : Int32)) then (K231 S163) else
    rfd (S163.2.2 82 14) 7 fun k224 =>
    grd (inb (l35_4 + (1 : Int32)) (SH k224).2) <|
    nm (stI S163 k224 (l35_4 + (1 : Int32)).toNatClampNeg (-1 : Int32)) fun S230 =>
    K231 S230 : Option aSt)) fun K214 =>
    if v13 ≤ x155_8 then (K214 j115_5 j115_6) else
    nm (j115_5 ||| ((1 : Int32) <<< (x155_8 &&& 31))) fun v189 =>
    jn (fun (j211s1 : Int32) => (nm (j115_6 + j211s1) fun v212 =>
    K214 v189 v212 : Option aSt)) fun K211 =>
    if a1 = 0 then (K211 (1 : Int32)) else
    rfd (S163.2.2 82 4) 7 fun k198 =>
    grd (inb ((52 : Int32) + l35_4) (SH k198).2) <|
    K211 (S163.1 k198 ((52 : Int32) + l35_4).toNatClampNeg)) else
    F_X7_layMatchings_L35 n 82 a1 v6 v13 K234 fu (l35_4 + (-1 : Int32)) j115_5 j115_6 S163
/-- the row of chosen cards behind a choice at q -/
def st2 (S : aSt) (Q q v : Nat) : aSt := if q + 1 < Q then stI (stI S 92 q (nI v)) 92 (q + 1) (-1) else stI S 92 q (nI v)
theorem st2_sm (S : aSt) (Q q v : Nat) : Sm S (st2 S Q q v) := by
  unfold st2
  split
  · exact ((Sm.refl S).stI (by omega) _ _).stI (by omega) _ _
  · exact (Sm.refl S).stI (by omega) _ _
theorem st2_ne {S : aSt} {Q q v k : Nat} (h : k ≠ 92) : (st2 S Q q v).1 k = S.1 k := by
  unfold st2
  split
  · rw [stI_ne h, stI_ne h]
  · rw [stI_ne h]
theorem st2_lo {S : aSt} {Q q v i : Nat} (h : i < q) : (st2 S Q q v).1 92 i = S.1 92 i := by
  unfold st2
  split
  · simp [stI_at, show ¬ i = q + 1 by omega, show ¬ i = q by omega]
  · simp [stI_at, show ¬ i = q by omega]
theorem st2_at {S : aSt} {Q q v : Nat} : (st2 S Q q v).1 92 q = nI v := by
  unfold st2
  split
  · simp [stI_at]
  · simp [stI_at]
theorem st2_hi {S : aSt} {Q q v : Nat} (h : q + 1 < Q) : (st2 S Q q v).1 92 (q + 1) = -1 := by
  unfold st2
  rw [if_pos h]
  simp [stI_at]
section Walk2
variable {S : aSt} {C Q T : Nat} {L : Nat → Nat → Nat}
theorem X7_mayMatch_eq (n : Nat) (hn : 10 < n) (H : CM S C Q T L) {q c : Nat} (hq : q < Q) (hc : c < C) : F_X7_mayMatch n S 82 (nI q) (nI c) = some (if alm L q c = true then (1 : Int32) else 0) := by
  have hw := H.2.2
  have h7 := hw.1
  have hQ := hw.2.1
  have w6 := hw.2.2.2.2.2.1 q hq
  have hme := hw.mle hc
  have b4 := (H.2.1.2.2.2.2.1 q hq).2.2.2.2
  have e59 : (59 : Int32) + nI q = nI (59 + q) := nI_add 59 q
  unfold F_X7_mayMatch
  simp only [nmE, jnE, bn2S, bndS, grdT, stI_22, stL_22, stRow_22, HRm, rfdS T_83, rfdS T_84, rfdS T_85, rfdS T_86, rfdS T_87, rfdS T_88, rfdS T_89, rfdS T_90, rfdS T_91, rfdS T_92, rfdS T_93, rfdS T_94, rfdS T_95, rfdS T_96, SZ_83, SZ_84, SZ_85, SZ_86, SZ_87, SZ_88, SZ_89, SZ_90, SZ_91, SZ_92, SZ_93, SZ_94, SZ_95, SZ_96, H.1, X7_isFree_eq n H (show q < Q by omega), X7_isFreeCard_eq n hn H (show c < 99 by omega), X7_isFit_eq n H hc hq, if10', e59, inb_nI (show 59 + q < 393 by omega) (by decide), nI_clamp (show 59 + q < 2 ^ 31 by omega), b4, en_m9 (show L 8 q < 2 ^ 31 by omega), X7_means_eq n H hc]
  unfold alm tc
  by_cases k1 : L 9 q = 99
  · by_cases k2 : aq L c = 99
    · by_cases k3 : ft L q c = true
      · by_cases k4 : L 8 q = 99
        · simp [k1, k2, k3, k4]
        · by_cases k5 : me L c = L 8 q
          · simp [k1, k2, k3, k4, k5, en_nI k4]
          · have : ¬ nI (L 8 q) = nI (me L c) := fun z => k5 ((nI_eq (by omega) (by omega)).mp z).symm
            simp [k1, k2, k3, k4, k5, en_nI k4, this]
      · simp [k1, k2, k3]
    · simp [k1, k2]
  · simp [k1]
theorem X7_L121_eq (n : Nat) (hn : 10 < n) (H : CM S C Q T L) {q U : Nat} (hq : q < Q) (hU : U < 2 ^ C) : ∀ (m c fu : Nat), c + m = C → m < fu → ∃ c', c ≤ c' ∧ c' ≤ C ∧ (∀ i, c ≤ i → i < c' → av (alm L) U q i = false) ∧ (c' < C → av (alm L) U q c' = true) ∧ ∀ K : Int32 → Option aSt, F_X7_layMatchings_L121 n 82 (nI C) (nI q) S (nI U) K fu (nI c) = K (nI c') := by
  have hC := H.2.2.1
  intro m
  induction m with
  | zero =>
    intro c fu hc hf
    obtain ⟨fu', rfl⟩ : ∃ k, fu = k + 1 := ⟨fu - 1, by omega⟩
    refine ⟨c, Nat.le_refl _, by omega, fun i a b => by omega, fun a => by omega, fun K => ?_⟩
    rw [F_X7_layMatchings_L121, if_pos (nI_le (by omega) (by omega))]
  | succ m ih =>
    intro c fu hc hf
    obtain ⟨fu', rfl⟩ : ∃ k, fu = k + 1 := ⟨fu - 1, by omega⟩
    have e : ∀ K : Int32 → Option aSt, F_X7_layMatchings_L121 n 82 (nI C) (nI q) S (nI U) K (fu' + 1) (nI c) = if av (alm L) U q c = true then K (nI c) else F_X7_layMatchings_L121 n 82 (nI C) (nI q) S (nI U) K fu' (nI (c + 1)) := by
      intro K
      have sb := shr_bit U (p128 hC hU) c (by omega)
      rw [F_X7_layMatchings_L121, if_neg (nI_ge (by omega) (by omega))]
      simp only [nmE, jnE, bn2S, bndS, grdT, stI_22, stL_22, stRow_22, X7_mayMatch_eq n hn H hq (show c < C by omega), if10', nI_1]
      unfold av
      by_cases k1 : U.testBit c = true
      · rw [if_pos (by rw [k1] at sb; exact of_decide_eq_true sb), if_neg (by simp [k1])]
      · have k1' : U.testBit c = false := by simpa using k1
        rw [if_neg (by rw [k1'] at sb; exact of_decide_eq_false sb)]
        by_cases k2 : alm L q c = true
        · rw [if_pos k2, if_pos (by simp [k1', k2])]
        · rw [if_neg k2, if_neg (by simp [k2])]
    by_cases k : av (alm L) U q c = true
    · refine ⟨c, Nat.le_refl _, by omega, fun i a b => by omega, fun _ => k, fun K => ?_⟩
      rw [e, if_pos k]
    · obtain ⟨c', a1, a2, a3, a4, a5⟩ := ih (c + 1) fu' (by omega) (by omega)
      refine ⟨c', by omega, a2, fun i b1 b2 => ?_, a4, fun K => ?_⟩
      · by_cases z : i = c
        · subst z; simpa using k
        · exact a3 i (by omega) b2
      · rw [e, if_neg k, a5]
theorem L35_B_eq (n : Nat) (H : CM S C Q T L) {a1 : Int32} {K : aSt → Option aSt} {q U w v : Nat} (hq : q < Q) (hv : v ≤ C) (fu : Nat) : L35_B n a1 (nI Q) (nI C) K fu (nI q) S (nI U) (nI w) (nI v) = F_X7_layMatchings_L35 n 82 a1 (nI Q) (nI C) K fu (nI (q + 1)) (nI (if v < C then U ||| 2 ^ v else U)) (nI (if v < C then w + wtf L Q a1 q else w)) (st2 S Q q v) := by
  have hw := H.2.2
  have hC := hw.1
  have hQ := hw.2.1
  have b7 := (H.2.1.2.2.2.2.1 q hq).2.2.2.1
  have e52 : (52 : Int32) + nI q = nI (52 + q) := nI_add 52 q
  have e87 : ∀ j y, (stI S 92 j y).1 87 = S.1 87 := fun j y => stI_ne (by decide)
  unfold L35_B
  simp only [nmE, jnE, bn2S, bndS, grdT, stI_22, stL_22, stRow_22, HRm, rfdS T_83, rfdS T_84, rfdS T_85, rfdS T_86, rfdS T_87, rfdS T_88, rfdS T_89, rfdS T_90, rfdS T_91, rfdS T_92, rfdS T_93, rfdS T_94, rfdS T_95, rfdS T_96, SZ_83, SZ_84, SZ_85, SZ_86, SZ_87, SZ_88, SZ_89, SZ_90, SZ_91, SZ_92, SZ_93, SZ_94, SZ_95, SZ_96, H.1, e52, inb_nI (show q < 7 by omega) (by decide), nI_clamp (show q < 2 ^ 31 by omega), nI_1, inb_nI (show 52 + q < 393 by omega) (by decide), nI_clamp (show 52 + q < 2 ^ 31 by omega), e87, b7]
  rw [if_pos (nI_le hv (by omega))]
  unfold st2
  by_cases kv : v < C
  · rw [if_neg (nI_ge kv (by omega)), shl1 v (by omega), fa_or, if_pos kv, if_pos kv]
    by_cases ka : a1 = 0
    · rw [if_pos ka, show wtf L Q a1 q = 1 by unfold wtf; rw [if_pos ka]]
      by_cases kq : q + 1 < Q
      · rw [if_neg (nI_ge kq (by omega)), if_pos kq, inb_nI (show q + 1 < 7 by omega) (by decide), grdT, nI_clamp (show q + 1 < 2 ^ 31 by omega)]
      · rw [if_pos (nI_le (by omega) (by omega)), if_neg kq]
    · rw [if_neg ka, show wtf L Q a1 q = L 7 q by unfold wtf; rw [if_neg ka, if_pos hq], nI_add]
      by_cases kq : q + 1 < Q
      · rw [if_neg (nI_ge kq (by omega)), if_pos kq, inb_nI (show q + 1 < 7 by omega) (by decide), grdT, nI_clamp (show q + 1 < 2 ^ 31 by omega)]
      · rw [if_pos (nI_le (by omega) (by omega)), if_neg kq]
  · rw [if_pos (nI_le (by omega) (by omega)), if_neg kv, if_neg kv]
    by_cases kq : q + 1 < Q
    · rw [if_neg (nI_ge kq (by omega)), if_pos kq]
      simp only [nmE, jnE, bn2S, bndS, grdT, stI_22, stL_22, stRow_22, inb_nI (show q + 1 < 7 by omega) (by decide), nI_clamp (show q + 1 < 2 ^ 31 by omega)]
    · rw [if_pos (nI_le (by omega) (by omega)), if_neg kq]
theorem L35_B_back (n : Nat) (H : CM S C Q T L) {a1 : Int32} {K : aSt → Option aSt} {q U w : Nat} (hq : q < Q) (fu : Nat) : L35_B n a1 (nI Q) (nI C) K fu (nI q) S (nI U) (nI w) (nI (C + 1)) = F_X7_layMatchings_L35 n 82 a1 (nI Q) (nI C) K fu (nI q + (-1 : Int32)) (nI U) (nI w) (stI S 92 q (nI (C + 1))) := by
  have hw := H.2.2
  have hC := hw.1
  have hQ := hw.2.1
  unfold L35_B
  simp only [nmE, jnE, bn2S, bndS, grdT, stI_22, stL_22, stRow_22, SZ_92, inb_nI (show q < 7 by omega) (by decide), nI_clamp (show q < 2 ^ 31 by omega)]
  rw [if_neg (nI_ge (by omega) (by omega))]
/-- one step at a question: what was chosen is taken back, the next is looked for -/
theorem L35_st (n : Nat) (H : CM S C Q T L) {a1 : Int32} {K : aSt → Option aSt} {q U w c0 : Nat} {l5 l6 : Int32} (hq : q < Q) (hU : U < 2 ^ C) (hv : (inb (S.1 92 q) C = false ∧ S.1 92 q + 1 = nI c0 ∧ l5 = nI U ∧ l6 = nI w) ∨ (∃ c, c < C ∧ U.testBit c = false ∧ S.1 92 q = nI c ∧ c0 = c + 1 ∧ l5 = nI (U ||| 2 ^ c) ∧ l6 = nI (w + wtf L Q a1 q))) (fu : Nat) : F_X7_layMatchings_L35 n 82 a1 (nI Q) (nI C) K (fu + 1) (nI q) l5 l6 S = F_X7_layMatchings_L121 n 82 (nI C) (nI q) S (nI U) (L35_B n a1 (nI Q) (nI C) K fu (nI q) S (nI U) (nI w)) n (nI c0) := by
  have hw := H.2.2
  have hC := hw.1
  have hQ := hw.2.1
  have b7 := (H.2.1.2.2.2.2.1 q hq).2.2.2.1
  have e52 : (52 : Int32) + nI q = nI (52 + q) := nI_add 52 q
  have r14 : ∀ {β : Type} (f : Nat → Option β), rfd (S.2.2 82 14) 7 f = f 92 := fun f => by rw [H.1]; exact rfdS T_92 f
  have r4 : ∀ {β : Type} (f : Nat → Option β), rfd (S.2.2 82 4) 7 f = f 87 := fun f => by rw [H.1]; exact rfdS T_87 f
  rw [F_X7_layMatchings_L35, if_neg (nI_pos (by omega)), if_neg (by rw [nI_eq (by omega) (by omega)]; omega), r14, SZ_92, inb_nI (show q < 7 by omega) (by decide), grdT, nmE, nI_clamp (show q < 2 ^ 31 by omega), X7_in_sz n S _ (show C < 2 ^ 31 by omega), bndS, jnE]
  rcases hv with ⟨v1, v2, v3, v4⟩ | ⟨c, hc, v1, v2, v3, v4, v5⟩
  · rw [v1, if_neg Bool.false_ne_true, if_pos rfl, v3, v4]
    unfold L35_B
    simp only [nmE, jnE, SZ_92, inb_nI (show q < 7 by omega) (by decide), grdT, nI_clamp (show q < 2 ^ 31 by omega), v2]
  · rw [v2, inb_nI hc (by omega), if_pos rfl, if_neg (by decide), v3, v4, v5, un_bit U (p128 hC hU) c (by omega) v1]
    have es : ∀ x : Int32, x = nI (wtf L Q a1 q) → nI (w + wtf L Q a1 q) - x = nI w := fun x hx => by rw [hx, nI_subN]
    unfold L35_B
    by_cases ka : a1 = 0
    · have e1 := es 1 (by unfold wtf; rw [if_pos ka]; rfl)
      simp only [nmE, jnE, if_pos ka, e1, nI_1, SZ_92, inb_nI (show q < 7 by omega) (by decide), grdT, nI_clamp (show q < 2 ^ 31 by omega)]
    · have e1 := es (nI (L 7 q)) (by unfold wtf; rw [if_neg ka, if_pos hq])
      simp only [nmE, jnE, if_neg ka, r4, SZ_87, e52, inb_nI (show 52 + q < 393 by omega) (by decide), nI_clamp (show 52 + q < 2 ^ 31 by omega), b7, e1, nI_1, SZ_92, inb_nI (show q < 7 by omega) (by decide), grdT, nI_clamp (show q < 2 ^ 31 by omega)]
end Walk2
