/-! left. -/
theorem lp_ix {α β : Type} (idx : Nat → Int32) (L : Nat → α → Int32 → Option β) (K : α → Option β) (g : Nat → α) (C : Nat) (hx : ∀ fu, L (fu + 1) (g C) (idx C) = K (g C)) (hs : ∀ fu c, c < C → L (fu + 1) (g c) (idx c) = L fu (g (c + 1)) (idx (c + 1))) : ∀ (m c fu : Nat), c + m = C → m < fu → L fu (g c) (idx c) = K (g C) := by
  intro m
  induction m with
  | zero =>
    intro c fu hc hf
    obtain ⟨fu', rfl⟩ : ∃ k, fu = k + 1 := ⟨fu - 1, by omega⟩
    have : c = C := by omega
    subst this
    exact hx _
  | succ m ih =>
    intro c fu hc hf
    obtain ⟨fu', rfl⟩ : ∃ k, fu = k + 1 := ⟨fu - 1, by omega⟩
    rw [hs fu' c (by omega)]
    exact ih (c + 1) fu' (by omega) (by omega)
def vl (Q : Nat) (v : Nat → Int32) (j : Nat) : Bool := inb (v (2 * j)) Q && (decide (v (2 * j + 1) = 0) || decide (v (2 * j + 1) = 1))
def lfS (L : Nat → Nat → Nat) (C : Nat) (v : Nat → Int32) (j : Nat) (a : Int32) : Int32 := a &&& (if v (2 * j + 1) = 1 then nI (fqs L C (v (2 * j)).toNatClampNeg) else nI (fqs L C (v (2 * j)).toNatClampNeg) ^^^ -1)
theorem nI_2s (j : Nat) : nI (2 * j) + 2 = nI (2 * (j + 1)) := nI_add (2 * j) 2
theorem vl_t {Q : Nat} {v : Nat → Int32} {j : Nat} (h : vl Q v j = true) : inb (v (2 * j)) Q = true ∧ (v (2 * j + 1) = 0 ∨ v (2 * j + 1) = 1) := by simpa [vl] using h
theorem vl_f {Q : Nat} {v : Nat → Int32} {j : Nat} (h : ¬ vl Q v j = true) : inb (v (2 * j)) Q = false ∨ (inb (v (2 * j)) Q = true ∧ ¬ v (2 * j + 1) = 0 ∧ ¬ v (2 * j + 1) = 1) := by
  unfold vl at h
  cases e : inb (v (2 * j)) Q
  · exact Or.inl rfl
  · rw [e] at h
    simp at h
    exact Or.inr ⟨rfl, h⟩
section Lib17
variable {S : aSt} {h C Q T : Nat} {L : Nat → Nat → Nat}
theorem X6_left_st (n : Nat) {d : Nat} (hX : RfX S h d) (H : CX S h C Q T L) {r m : Nat} (hr : r < 6) (hm : m ≤ 40) (e : S.1 (41 + 2 * r) 1 = nI m) {v : Nat → Int32} (hv : ∀ i, i < m → S.1 (41 + 2 * r + 1) i = v i) {j : Nat} (hj : 2 * j + 1 < m) (fu : Nat) (K : aSt → Option (Int32 × aSt)) : F_X6_left_L46 n 0 (41 + 2 * r) K (fu + 1) (nI (2 * j)) S = if vl Q v j = true then F_X6_left_L46 n 0 (41 + 2 * r) K fu (nI (2 * (j + 1))) S else some (-3, xFnd S 3) := by
  obtain ⟨x1, x2⟩ := xrow hX hr
  obtain ⟨t1, t2, t3⟩ := rowT hr
  rw [F_X6_left_L46, e, nI_1, if_neg (nI_ge hj (by omega)), X0_here hX]
  simp only [nmE, jnE, bn2S, bndS, grdT, stI_22, stL_22, stRow_22, reduceIte, Bool.false_eq_true, one_ne0, x2, rfdS t2, t3, inb_nI (show 2 * j < 40 by omega) (by decide), inb_nI (show 2 * j + 1 < 40 by omega) (by decide), nI_clamp (show 2 * j < 2 ^ 31 by omega), nI_clamp (show 2 * j + 1 < 2 ^ 31 by omega), hv (2 * j) (by omega), hv (2 * j + 1) hj, X1_isQuestion_eq n H, if10', nI_2s, xf3 n hX]
  by_cases k : vl Q v j = true
  · obtain ⟨k1, k2⟩ := vl_t k
    rw [if_pos k, if_pos k1]
    rcases k2 with k2 | k2
    · rw [if_pos k2]
    · rw [if_pos k2]
      split <;> rfl
  · rw [if_neg k]
    rcases vl_f k with k1 | ⟨k1, k2, k3⟩
    · rw [if_neg (by rw [k1]; decide)]
    · rw [if_pos k1, if_neg k2, if_neg k3]
theorem X7_left_st (n : Nat) (hn : 10 < n) (hM : RfM S) (H : CM S C Q T L) {r m : Nat} (hr : r < 6) (hm : m ≤ 40) (e : S.1 83 r = nI m) {v : Nat → Int32} (hv : ∀ i, i < m → S.1 84 (40 * r + i) = v i) {j : Nat} (hj : 2 * j + 1 < m) (fu : Nat) (a : Int32) (K : Int32 → aSt → Option (Int32 × aSt)) : F_X7_left_L55 n 82 (nI r) K (fu + 1) a (nI (2 * j)) S = if vl Q v j = true then F_X7_left_L55 n 82 (nI r) K fu (lfS L C v j a) (nI (2 * (j + 1))) S else some (-3, mFnd S 3) := by
  have hM1 : S.2.2 82 = HRm := hM
  have hQ := H.2.2.2.1
  have ei := fun x => X7_in_i n S x 0 1
  rw [show (0 : Int32).toInt = 0 from rfl, show (1 : Int32).toInt = 1 from rfl] at ei
  rw [F_X7_left_L55]
  simp only [nmE, jnE, bn2S, bndS, grdT, stI_22, stL_22, stRow_22, HRm, rfdS T_83, rfdS T_84, rfdS T_85, rfdS T_86, rfdS T_87, rfdS T_88, rfdS T_89, rfdS T_90, rfdS T_91, rfdS T_92, rfdS T_93, rfdS T_94, rfdS T_95, rfdS T_96, SZ_83, SZ_84, SZ_85, SZ_86, SZ_87, SZ_88, SZ_89, SZ_90, SZ_91, SZ_92, SZ_93, SZ_94, SZ_95, SZ_96, hM1, inb_nI (show r < 6 from hr) (by decide), nI_clamp (show r < 2 ^ 31 by omega), e]
  rw [if_neg (nI_ge (show 2 * j < m by omega) (by omega))]
  rw [show (0 : Int64) = (0 : Int32).toInt64 from rfl, show (1 : Int64) = (1 : Int32).toInt64 from rfl]
  simp only [nmE, jnE, bn2S, bndS, grdT, stI_22, stL_22, stRow_22, HRm, rfdS T_83, rfdS T_84, rfdS T_85, rfdS T_86, rfdS T_87, rfdS T_88, rfdS T_89, rfdS T_90, rfdS T_91, rfdS T_92, rfdS T_93, rfdS T_94, rfdS T_95, rfdS T_96, SZ_83, SZ_84, SZ_85, SZ_86, SZ_87, SZ_88, SZ_89, SZ_90, SZ_91, SZ_92, SZ_93, SZ_94, SZ_95, SZ_96, reduceIte, Bool.false_eq_true, one_ne0, li_40, pk_mul, nI_add, nI_1, inb_nI (show 40 * r + 2 * j < 240 by omega) (by decide), inb_nI (show 40 * r + 2 * j + 1 < 240 by omega) (by decide), nI_clamp (show 40 * r + 2 * j < 2 ^ 31 by omega), nI_clamp (show 40 * r + 2 * j + 1 < 2 ^ 31 by omega), hv (2 * j) (by omega), show S.1 84 (40 * r + 2 * j + 1) = v (2 * j + 1) from hv (2 * j + 1) hj, X7_isQuestion_eq n H, if10', nI_2s, mf3 n hM, ei]
  by_cases k : vl Q v j = true
  · obtain ⟨k1, k2⟩ := vl_t k
    obtain ⟨q, hq, eq⟩ := inb_ex k1 (by omega)
    have k3 : (0 : Int) ≤ (v (2 * j + 1)).toInt ∧ (v (2 * j + 1)).toInt ≤ 1 := by rcases k2 with k2 | k2 <;> rw [k2] <;> decide
    rw [if_pos k, if_pos k1, if_pos k3, eq, X7_fits_eq n hn H hq]
    unfold lfS
    rw [eq, nI_clamp (show q < 2 ^ 31 by omega)]
    by_cases k4 : v (2 * j + 1) = 1
    · rw [if_pos k4, if_pos k4]; rfl
    · rw [if_neg k4, if_neg k4]; rfl
  · rw [if_neg k]
    rcases vl_f k with k1 | ⟨k1, k2, k3⟩
    · rw [if_neg (by rw [k1]; decide)]
    · rw [if_pos k1, if_neg]
      intro q
      have : (v (2 * j + 1)).toInt = 0 ∨ (v (2 * j + 1)).toInt = 1 := by omega
      rcases this with z | z
      · exact k2 (Int32.toInt_inj.mp z)
      · exact k3 (Int32.toInt_inj.mp z)
theorem X6_left_L118_eq (n : Nat) (hn : 50 < n) {d : Nat} (hX : RfX S h d) (H : CX S h C Q T L) {r p : Nat} (hr : r < 6) (hm : 2 * p ≤ 40) (e : S.1 (41 + 2 * r) 1 = nI (2 * p)) {v : Nat → Int32} (hv : ∀ i, i < 2 * p → S.1 (41 + 2 * r + 1) i = v i) (hl : ∀ j, j < p → vl Q v j = true) (a : Int32) (K : Int32 → Option (Int32 × aSt)) : F_X6_left_L118 n (41 + 2 * r) S h K n a 0 = K (itr (lfS L C v) a p) := by
  obtain ⟨x1, x2⟩ := xrow hX hr
  obtain ⟨t1, t2, t3⟩ := rowT hr
  have hQ := H.2.2.2.2.2.1
  refine lp_ix (fun c => nI (2 * c)) (fun fu a i => F_X6_left_L118 n (41 + 2 * r) S h K fu a i) K (fun c => itr (lfS L C v) a c) p (fun fu => ?_) (fun fu j hj => ?_) p 0 n (by omega) (by omega)
  · show F_X6_left_L118 _ _ _ _ _ (fu + 1) _ _ = _
    rw [F_X6_left_L118, e, nI_1, if_pos (nI_le (by omega) (by omega))]
  · show F_X6_left_L118 _ _ _ _ _ (fu + 1) _ _ = F_X6_left_L118 _ _ _ _ _ fu (lfS L C v j (itr (lfS L C v) a j)) _
    obtain ⟨k1, k2⟩ := vl_t (hl j hj)
    obtain ⟨q, hq, eq⟩ := inb_ex k1 (by omega)
    rw [F_X6_left_L118, e, nI_1, if_neg (nI_ge (by omega) (by omega))]
    simp only [nmE, jnE, bn2S, bndS, grdT, stI_22, stL_22, stRow_22, x2, rfdS t2, t3, inb_nI (show 2 * j < 40 by omega) (by decide), inb_nI (show 2 * j + 1 < 40 by omega) (by decide), nI_clamp (show 2 * j < 2 ^ 31 by omega), nI_clamp (show 2 * j + 1 < 2 ^ 31 by omega), hv (2 * j) (by omega), hv (2 * j + 1) (by omega), eq, X1_fittingCards_eq n (show 10 < n by omega) H hq, nI_2s]
    unfold lfS
    rw [eq, nI_clamp (show q < 2 ^ 31 by omega)]
    by_cases k4 : v (2 * j + 1) = 1
    · rw [if_pos k4, if_pos k4]; rfl
    · rw [if_neg k4, if_neg k4]; rfl
end Lib17
theorem md2 : ∀ m, m ≤ 40 → nI m - nI m / 2 * 2 = nI (m % 2) := by decide +kernel
set_option maxRecDepth 4000 in
theorem op_left (n : Nat) (hn : 100 < n) {S : aSt} (H : OK S) (r : Int32) : Both S (F_X6_left n S 0 r) (fun S1 => F_X7_left n S1 82 r) := by
  by_cases hr : inb r 6 = true
  · obtain ⟨r, hr', rfl⟩ := inb_ex hr (by decide)
    obtain ⟨h, d, C, Q, T, L, hX, hM, hCX, hCM, hk⟩ := H.get
    have hR : PR S := by obtain ⟨h, d, hX, hM, hA, hR, hT, -⟩ := H; exact hR
    have hC := hCM.2.2.1
    obtain ⟨x1, x2⟩ := xrow hX hr'
    obtain ⟨t1, t2, t3⟩ := rowT hr'
    have hc : (nI r).toNatClampNeg = r := nI_clamp (by omega)
    obtain ⟨e1, e2⟩ := hR r hr'
    rcases e2 with e2 | ⟨m, hm, e2, e3⟩
    · refine Both.fnd H 1 (by decide) ?_ ?_
      · unfold F_X6_left
        simp only [nmE, jnE, bn2S, bndS, grdT, stI_22, stL_22, stRow_22, HR0, rfdS T_1, rfdS T_2, rfdS T_3, rfdS T_4, rfdS T_5, rfdS T_9, SZ_1, SZ_2, SZ_3, SZ_4, reduceIte, Bool.false_eq_true, one_ne0, X6_isRow_eq, hr, hX.2.1, hc, x1, x2, rfdS t1, rfdS t2, t3, X4_isThere_eq, e1, e2, xf1 n hX]
      · have hM1 : (xFnd S 1).2.2 82 = HRm := hM
        unfold F_X7_left
        simp only [nmE, jnE, bn2S, bndS, grdT, stI_22, stL_22, stRow_22, HRm, rfdS T_83, rfdS T_84, rfdS T_85, rfdS T_86, rfdS T_87, rfdS T_88, rfdS T_89, rfdS T_90, rfdS T_91, rfdS T_92, rfdS T_93, rfdS T_94, rfdS T_95, rfdS T_96, SZ_83, SZ_84, SZ_85, SZ_86, SZ_87, SZ_88, SZ_89, SZ_90, SZ_91, SZ_92, SZ_93, SZ_94, SZ_95, SZ_96, reduceIte, Bool.false_eq_true, one_ne0, X7_isRow_eq, hr, hM1, hc, xFnd_m (show 5 ≤ 83 by decide), e2, m1_lt, mf1 n (RfM_xFnd hM)]
    · have e1' := e1.trans e2
      by_cases h1 : m % 2 = 1
      · refine Both.fnd H 5 (by decide) ?_ ?_
        · unfold F_X6_left
          simp only [nmE, jnE, bn2S, bndS, grdT, stI_22, stL_22, stRow_22, HR0, rfdS T_1, rfdS T_2, rfdS T_3, rfdS T_4, rfdS T_5, rfdS T_9, SZ_1, SZ_2, SZ_3, SZ_4, reduceIte, Bool.false_eq_true, one_ne0, X6_isRow_eq, hr, hX.2.1, hc, x1, x2, rfdS t1, rfdS t2, t3, X4_isThere_eq, e1', nI_nm1 (show m < 2 ^ 31 by omega), xf5 n hX, md2 m hm, h1]
          rw [if_neg (by decide)]
        · have hM1 : (xFnd S 5).2.2 82 = HRm := hM
          unfold F_X7_left
          simp only [nmE, jnE, bn2S, bndS, grdT, stI_22, stL_22, stRow_22, HRm, rfdS T_83, rfdS T_84, rfdS T_85, rfdS T_86, rfdS T_87, rfdS T_88, rfdS T_89, rfdS T_90, rfdS T_91, rfdS T_92, rfdS T_93, rfdS T_94, rfdS T_95, rfdS T_96, SZ_83, SZ_84, SZ_85, SZ_86, SZ_87, SZ_88, SZ_89, SZ_90, SZ_91, SZ_92, SZ_93, SZ_94, SZ_95, SZ_96, reduceIte, Bool.false_eq_true, one_ne0, X7_isRow_eq, hr, hM1, hc, xFnd_m (show 5 ≤ 83 by decide), e2, nI_ge0 (show m < 2 ^ 31 by omega), mf5 n (RfM_xFnd hM), md2 m hm, h1]
          rw [if_pos (show nI 1 = 1 from rfl)]
      · obtain ⟨p, rfl⟩ : ∃ p, m = 2 * p := ⟨m / 2, by omega⟩
        have h1' : 2 * p % 2 = 0 := by omega
        have es : (1 : Int32) <<< (nI C &&& 31) - 1 = nI (2 ^ C - 1) := by rw [shl1 C (by omega)]; exact pk_sub Nat.one_le_two_pow
        by_cases hv : ∀ j, j < p → vl Q (fun i => S.1 84 (40 * r + i)) j = true
        · refine Both.same H (itr (lfS L C (fun i => S.1 84 (40 * r + i))) (nI (2 ^ C - 1)) p) ?_ ?_
          · unfold F_X6_left
            simp only [nmE, jnE, bn2S, bndS, grdT, stI_22, stL_22, stRow_22, HR0, rfdS T_1, rfdS T_2, rfdS T_3, rfdS T_4, rfdS T_5, rfdS T_9, SZ_1, SZ_2, SZ_3, SZ_4, reduceIte, Bool.false_eq_true, one_ne0, X6_isRow_eq, hr, hX.2.1, hc, x1, x2, rfdS t1, rfdS t2, t3, X4_isThere_eq, e1', nI_nm1 (show 2 * p < 2 ^ 31 by omega), md2 _ hm, h1']
            rw [if_pos (show nI 0 = 0 from rfl)]
            have key := lp_ix (fun c => nI (2 * c)) (fun fu (a : aSt) i => F_X6_left_L46 n 0 (41 + 2 * r) (fun x107S => rfd (x107S.2.2 0 6) 0 fun k108 => (F_X1_allCards n x107S k108).bind fun r111 => F_X6_left_L118 n (41 + 2 * r) x107S k108 (fun x176_3 => some (x176_3, x107S)) n r111 0) fu i a) (fun x107S => rfd (x107S.2.2 0 6) 0 fun k108 => (F_X1_allCards n x107S k108).bind fun r111 => F_X6_left_L118 n (41 + 2 * r) x107S k108 (fun x176_3 => some (x176_3, x107S)) n r111 0) (fun _ => S) p (fun fu => ?_) (fun fu j hj => ?_) p 0 n (by omega) (by omega)
            · refine key.trans ?_
              rw [X0_here hX, show F_X1_allCards n S h = some (nI (2 ^ C - 1)) by unfold F_X1_allCards; rw [hCX.2.2.2.1.1, es]]
              simp only [nmE, jnE, bn2S, bndS, grdT, stI_22, stL_22, stRow_22]
              exact X6_left_L118_eq n (by omega) hX hCX hr' hm e1' e3 hv _ _
            · show F_X6_left_L46 _ _ _ _ (fu + 1) _ _ = _
              rw [F_X6_left_L46, e1', nI_1, if_pos (nI_le (by omega) (by omega))]
            · show F_X6_left_L46 _ _ _ _ (fu + 1) _ _ = F_X6_left_L46 _ _ _ _ fu _ _
              rw [X6_left_st n hX hCX hr' hm e1' e3 (by omega), if_pos (hv j hj)]
          · have hM1 : S.2.2 82 = HRm := hM
            unfold F_X7_left
            simp only [nmE, jnE, bn2S, bndS, grdT, stI_22, stL_22, stRow_22, HRm, rfdS T_83, rfdS T_84, rfdS T_85, rfdS T_86, rfdS T_87, rfdS T_88, rfdS T_89, rfdS T_90, rfdS T_91, rfdS T_92, rfdS T_93, rfdS T_94, rfdS T_95, rfdS T_96, SZ_83, SZ_84, SZ_85, SZ_86, SZ_87, SZ_88, SZ_89, SZ_90, SZ_91, SZ_92, SZ_93, SZ_94, SZ_95, SZ_96, reduceIte, Bool.false_eq_true, one_ne0, X7_isRow_eq, hr, hM1, hc, e2, nI_ge0 (show 2 * p < 2 ^ 31 by omega), md2 _ hm, h1']
            rw [if_neg (by decide)]
            simp only [nmE, jnE, bn2S, bndS, grdT, stI_22, stL_22, stRow_22, HRm, rfdS T_83, rfdS T_84, rfdS T_85, rfdS T_86, rfdS T_87, rfdS T_88, rfdS T_89, rfdS T_90, rfdS T_91, rfdS T_92, rfdS T_93, rfdS T_94, rfdS T_95, rfdS T_96, SZ_83, SZ_84, SZ_85, SZ_86, SZ_87, SZ_88, SZ_89, SZ_90, SZ_91, SZ_92, SZ_93, SZ_94, SZ_95, SZ_96, in0, hCM.v0, es]
            refine lp_ix (fun c => nI (2 * c)) (fun fu (a : Int32) i => F_X7_left_L55 n 82 (nI r) (fun a b => some (a, b)) fu a i S) (fun a => some (a, S)) (fun c => itr (lfS L C (fun i => S.1 84 (40 * r + i))) (nI (2 ^ C - 1)) c) p (fun fu => ?_) (fun fu j hj => ?_) p 0 n (by omega) (by omega)
            · show F_X7_left_L55 _ _ _ _ (fu + 1) _ _ _ = _
              rw [F_X7_left_L55]
              simp only [nmE, jnE, bn2S, bndS, grdT, stI_22, stL_22, stRow_22, HRm, rfdS T_83, rfdS T_84, rfdS T_85, rfdS T_86, rfdS T_87, rfdS T_88, rfdS T_89, rfdS T_90, rfdS T_91, rfdS T_92, rfdS T_93, rfdS T_94, rfdS T_95, rfdS T_96, SZ_83, SZ_84, SZ_85, SZ_86, SZ_87, SZ_88, SZ_89, SZ_90, SZ_91, SZ_92, SZ_93, SZ_94, SZ_95, SZ_96, hM1, hr, hc, e2]
              rw [if_pos (Int32.le_refl _)]
            · show F_X7_left_L55 _ _ _ _ (fu + 1) _ _ _ = F_X7_left_L55 _ _ _ _ fu (lfS L C (fun i => S.1 84 (40 * r + i)) j _) _ _
              rw [X7_left_st n (by omega) hM hCM hr' hm e2 (fun i _ => rfl) (by omega), if_pos (hv j hj)]
        · obtain ⟨j, hj, hjn, hjf⟩ : ∃ j, j < p ∧ ¬ vl Q (fun i => S.1 84 (40 * r + i)) j = true ∧ ∀ i, i < j → ¬ ¬ vl Q (fun i => S.1 84 (40 * r + i)) i = true := fb_first (p := fun j => ¬ vl Q (fun i => S.1 84 (40 * r + i)) j = true) (Classical.byContradiction fun z => hv fun j hj => Classical.byContradiction fun y => z ⟨j, hj, y⟩)
          refine Both.fnd H 3 (by decide) ?_ ?_
          · unfold F_X6_left
            simp only [nmE, jnE, bn2S, bndS, grdT, stI_22, stL_22, stRow_22, HR0, rfdS T_1, rfdS T_2, rfdS T_3, rfdS T_4, rfdS T_5, rfdS T_9, SZ_1, SZ_2, SZ_3, SZ_4, reduceIte, Bool.false_eq_true, one_ne0, X6_isRow_eq, hr, hX.2.1, hc, x1, x2, rfdS t1, rfdS t2, t3, X4_isThere_eq, e1', nI_nm1 (show 2 * p < 2 ^ 31 by omega), md2 _ hm, h1']
            rw [if_pos (show nI 0 = 0 from rfl)]
            refine lp_ix (fun c => nI (2 * c)) (fun fu (a : aSt) i => F_X6_left_L46 n 0 (41 + 2 * r) (fun x107S => rfd (x107S.2.2 0 6) 0 fun k108 => (F_X1_allCards n x107S k108).bind fun r111 => F_X6_left_L118 n (41 + 2 * r) x107S k108 (fun x176_3 => some (x176_3, x107S)) n r111 0) fu i a) (fun _ => some (-3, xFnd S 3)) (fun _ => S) j (fun fu => ?_) (fun fu i hi => ?_) j 0 n (by omega) (by omega)
            · show F_X6_left_L46 _ _ _ _ (fu + 1) _ _ = _
              rw [X6_left_st n hX hCX hr' hm e1' e3 (by omega), if_neg hjn]
            · show F_X6_left_L46 _ _ _ _ (fu + 1) _ _ = F_X6_left_L46 _ _ _ _ fu _ _
              rw [X6_left_st n hX hCX hr' hm e1' e3 (by omega), if_pos (Classical.not_not.mp (hjf i hi))]
          · have hM1 : (xFnd S 3).2.2 82 = HRm := hM
            have hCM1 : CM (xFnd S 3) C Q T L := hCM.congr rfl (xFnd_m (by decide))
            have e2' : (xFnd S 3).1 83 r = nI (2 * p) := by rw [xFnd_m (by decide)]; exact e2
            have hv' : ∀ i, i < 2 * p → (xFnd S 3).1 84 (40 * r + i) = (fun i => S.1 84 (40 * r + i)) i := fun i _ => by rw [xFnd_m (by decide)]
            show F_X7_left n (xFnd S 3) 82 (nI r) = _
            unfold F_X7_left
            simp only [nmE, jnE, bn2S, bndS, grdT, stI_22, stL_22, stRow_22, HRm, rfdS T_83, rfdS T_84, rfdS T_85, rfdS T_86, rfdS T_87, rfdS T_88, rfdS T_89, rfdS T_90, rfdS T_91, rfdS T_92, rfdS T_93, rfdS T_94, rfdS T_95, rfdS T_96, SZ_83, SZ_84, SZ_85, SZ_86, SZ_87, SZ_88, SZ_89, SZ_90, SZ_91, SZ_92, SZ_93, SZ_94, SZ_95, SZ_96, reduceIte, Bool.false_eq_true, one_ne0, X7_isRow_eq, hr, hM1, hc, e2', nI_ge0 (show 2 * p < 2 ^ 31 by omega), md2 _ hm, h1']
            rw [if_neg (by decide)]
            simp only [nmE, jnE, bn2S, bndS, grdT, stI_22, stL_22, stRow_22, HRm, rfdS T_83, rfdS T_84, rfdS T_85, rfdS T_86, rfdS T_87, rfdS T_88, rfdS T_89, rfdS T_90, rfdS T_91, rfdS T_92, rfdS T_93, rfdS T_94, rfdS T_95, rfdS T_96, SZ_83, SZ_84, SZ_85, SZ_86, SZ_87, SZ_88, SZ_89, SZ_90, SZ_91, SZ_92, SZ_93, SZ_94, SZ_95, SZ_96, in0, hCM1.v0, es]
            refine lp_ix (fun c => nI (2 * c)) (fun fu (a : Int32) i => F_X7_left_L55 n 82 (nI r) (fun a b => some (a, b)) fu a i (xFnd S 3)) (fun _ => some (-3, mFnd (xFnd S 3) 3)) (fun c => itr (lfS L C (fun i => S.1 84 (40 * r + i))) (nI (2 ^ C - 1)) c) j (fun fu => ?_) (fun fu i hi => ?_) j 0 n (by omega) (by omega)
            · show F_X7_left_L55 _ _ _ _ (fu + 1) _ _ _ = _
              rw [X7_left_st n (by omega) (RfM_xFnd hM) hCM1 hr' hm e2' hv' (by omega), if_neg hjn]
            · show F_X7_left_L55 _ _ _ _ (fu + 1) _ _ _ = F_X7_left_L55 _ _ _ _ fu (lfS L C (fun i => S.1 84 (40 * r + i)) i _) _ _
              rw [X7_left_st n (by omega) (RfM_xFnd hM) hCM1 hr' hm e2' hv' (by omega), if_pos (Classical.not_not.mp (hjf i hi))]
  · refine Both.same H (-1) ?_ ?_
    · unfold F_X6_left
      simp only [nmE, jnE, bn2S, bndS, grdT, stI_22, stL_22, stRow_22, HR0, rfdS T_1, rfdS T_2, rfdS T_3, rfdS T_4, rfdS T_5, rfdS T_9, SZ_1, SZ_2, SZ_3, SZ_4, reduceIte, Bool.false_eq_true, one_ne0, X6_isRow_eq, hr]
    · unfold F_X7_left
      simp only [nmE, jnE, bn2S, bndS, grdT, stI_22, stL_22, stRow_22, HRm, rfdS T_83, rfdS T_84, rfdS T_85, rfdS T_86, rfdS T_87, rfdS T_88, rfdS T_89, rfdS T_90, rfdS T_91, rfdS T_92, rfdS T_93, rfdS T_94, rfdS T_95, rfdS T_96, SZ_83, SZ_84, SZ_85, SZ_86, SZ_87, SZ_88, SZ_89, SZ_90, SZ_91, SZ_92, SZ_93, SZ_94, SZ_95, SZ_96, reduceIte, Bool.false_eq_true, one_ne0, X7_isRow_eq, hr]
