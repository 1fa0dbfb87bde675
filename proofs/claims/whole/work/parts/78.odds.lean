/-! odds. -/
theorem gcd_st {a b : Nat} : Nat.gcd a b = Nat.gcd b (a % b) := by rw [Nat.gcd_comm, Nat.gcd_rec, Nat.gcd_comm]
theorem half_st {a b k : Nat} (h0 : 0 < b) (hb : b < 2 ^ (k + 1)) (hr : 0 < a % b) : b % (a % b) < 2 ^ k := by
  have h1 : a % b < b := Nat.mod_lt _ h0
  have h2 : b % (a % b) < a % b := Nat.mod_lt _ hr
  have h3 := Nat.div_add_mod b (a % b)
  have h4 : 1 ≤ b / (a % b) := (Nat.le_div_iff_mul_le hr).mpr (by omega)
  have h5 : a % b * 1 ≤ a % b * (b / (a % b)) := Nat.mul_le_mul_left _ h4
  have h6 : (2 : Nat) ^ (k + 1) = 2 * 2 ^ k := by rw [Nat.pow_succ, Nat.mul_comm]
  omega
theorem X6_gs_loop (K : Int64 → Option Int64) : ∀ (k a b i fu : Nat), b < 2 ^ k → a < 2 ^ 31 → b < 2 ^ 31 → i + 2 * k < 63 → 2 * k + 1 < fu → F_X6_greatestShared_L9 K fu (lN a) (lN b) (nI i) = K (lN (Nat.gcd a b)) := by
  have hz : ∀ (a i fu : Nat), i < 64 → F_X6_greatestShared_L9 K (fu + 1) (lN a) (lN 0) (nI i) = K (lN a) := by
    intro a i fu hi
    rw [F_X6_greatestShared_L9, if_neg (show ¬ (64 : Int32) ≤ nI i from nI_ge hi (by decide)), if_pos ((lg_cmp_eq (lN 0) 0).mpr rfl)]
  have hs : ∀ (a b i fu : Nat), i < 64 → a < 2 ^ 31 → 0 < b → b < 2 ^ 31 → F_X6_greatestShared_L9 K (fu + 1) (lN a) (lN b) (nI i) = F_X6_greatestShared_L9 K fu (lN b) (lN (a % b)) (nI (i + 1)) := by
    intro a b i fu hi ha h0 hb
    have hne : ¬ lN b = 0 := fun z => by
      have := (lN_eq (b := 0) hb (by decide)).mp z
      omega
    rw [F_X6_greatestShared_L9, if_neg (show ¬ (64 : Int32) ≤ nI i from nI_ge hi (by decide)), if_neg (fun z => hne ((lg_cmp_eq _ _).mp z)), decide_eq_false hne, nmE, lN_mod (by omega) (by omega), nI_1]
    rfl
  intro k
  induction k with
  | zero =>
    intro a b i fu hb ha hb2 hi hf
    obtain ⟨fu', rfl⟩ : ∃ z, fu = z + 1 := ⟨fu - 1, by omega⟩
    have : b = 0 := by omega
    rw [this, hz a i fu' (by omega), Nat.gcd_zero_right]
  | succ k ih =>
    intro a b i fu hb ha hb2 hi hf
    obtain ⟨fu', rfl⟩ : ∃ z, fu = z + 1 := ⟨fu - 1, by omega⟩
    obtain ⟨fu2, rfl⟩ : ∃ z, fu' = z + 1 := ⟨fu' - 1, by omega⟩
    rcases Nat.eq_zero_or_pos b with z | z
    · rw [z, hz a i _ (by omega), Nat.gcd_zero_right]
    · have h1 : a % b < b := Nat.mod_lt _ z
      rw [hs a b i _ (by omega) ha z hb2, gcd_st]
      rcases Nat.eq_zero_or_pos (a % b) with y | y
      · rw [y, hz b (i + 1) _ (by omega), Nat.gcd_zero_right]
      · rw [hs b (a % b) (i + 1) _ (by omega) hb2 y (by omega), gcd_st]
        have h2 : b % (a % b) < a % b := Nat.mod_lt _ y
        exact ih (a % b) (b % (a % b)) (i + 1 + 1) fu2 (half_st z hb y) (by omega) (by omega) (by omega) (by omega)
theorem X7_gs_loop (K : Int32 → Option (Int32 × aSt)) : ∀ (k a b fu : Nat), b < 2 ^ k → a < 2 ^ 31 → b < 2 ^ 31 → 2 * k + 1 < fu → F_X7_odds_L41 K fu (nI a) (nI b) = K (nI (Nat.gcd a b)) := by
  have hz : ∀ (a fu : Nat), F_X7_odds_L41 K (fu + 1) (nI a) (nI 0) = K (nI a) := by
    intro a fu
    rw [F_X7_odds_L41, if_pos nI_0]
  have hs : ∀ (a b fu : Nat), a < 2 ^ 31 → 0 < b → b < 2 ^ 31 → F_X7_odds_L41 K (fu + 1) (nI a) (nI b) = F_X7_odds_L41 K fu (nI b) (nI (a % b)) := by
    intro a b fu ha h0 hb
    have hne := nI_ne0 h0 hb
    rw [F_X7_odds_L41, if_neg hne, decide_eq_false hne, nmE, pk_rem ha h0 hb]
    rfl
  intro k
  induction k with
  | zero =>
    intro a b fu hb ha hb2 hf
    obtain ⟨fu', rfl⟩ : ∃ z, fu = z + 1 := ⟨fu - 1, by omega⟩
    have : b = 0 := by omega
    rw [this, hz a fu', Nat.gcd_zero_right]
  | succ k ih =>
    intro a b fu hb ha hb2 hf
    obtain ⟨fu', rfl⟩ : ∃ z, fu = z + 1 := ⟨fu - 1, by omega⟩
    obtain ⟨fu2, rfl⟩ : ∃ z, fu' = z + 1 := ⟨fu' - 1, by omega⟩
    rcases Nat.eq_zero_or_pos b with z | z
    · rw [z, hz a, Nat.gcd_zero_right]
    · have h1 : a % b < b := Nat.mod_lt _ z
      rw [hs a b _ ha z hb2, gcd_st]
      rcases Nat.eq_zero_or_pos (a % b) with y | y
      · rw [y, hz b, Nat.gcd_zero_right]
      · rw [hs b (a % b) _ hb2 y (by omega), gcd_st]
        have h2 : b % (a % b) < a % b := Nat.mod_lt _ y
        exact ih (a % b) (b % (a % b)) fu2 (half_st z hb y) (by omega) (by omega) (by omega)
theorem stL_at (S : aSt) (k j : Nat) (v : Int64) (a b : Nat) : (stL S k j v).2.1 a b = if a = k then (if b = j then v else S.2.1 a b) else S.2.1 a b := by
  unfold stL
  by_cases h : a = k
  · subst h
    simp [vp_updL]
  · simp [h]
theorem op_odds (n : Nat) (hn : 5000000 < n) {S : aSt} (H : OK S) (q c : Int32) : Both S (F_X6_odds n S 0 q c) (fun S1 => F_X7_odds n S1 82 q c) := by
  obtain ⟨h, d, C, Q, T, L, hX, hM, hCX, hCM, hk⟩ := H.get
  have hC := hCM.2.2.1
  have hQ := hCM.2.2.2.1
  by_cases hq : inb q Q = true
  · by_cases hc : inb c C = true
    · obtain ⟨S1, f1, f2⟩ := X2_countIn_eq n (by omega) hX hCX
      have m1 := f2.1.1
      obtain ⟨q, hq', rfl⟩ := inb_ex hq (by omega)
      obtain ⟨c, hc', rfl⟩ := inb_ex hc (by omega)
      have hw := wi_le L C Q (7 * q + c)
      have ht := tot_le (L := L) hC hQ
      have hp := tot_pos L C Q
      have hg0 : 0 < Nat.gcd (wi L C Q (7 * q + c)) (tot L C Q) := Nat.gcd_pos_of_pos_right _ hp
      have hg1 : Nat.gcd (wi L C Q (7 * q + c)) (tot L C Q) ≤ tot L C Q := Nat.le_of_dvd hp (Nat.gcd_dvd_right _ _)
      have gx : F_X6_greatestShared n S1 (lN (wi L C Q (7 * q + c))) (lN (tot L C Q)) = some (lN (Nat.gcd (wi L C Q (7 * q + c)) (tot L C Q))) := by
        unfold F_X6_greatestShared
        rw [jnE]
        exact X6_gs_loop (fun x => some x) 22 _ _ 0 n (by omega) (by omega) (by omega) (by omega) (by omega)
      have gm := fun K => X7_gs_loop K 22 (wi L C Q (7 * q + c)) (tot L C Q) n (by omega) (by omega) (by omega) (by omega)
      have ew := X2_countWith_eq n (by omega) f2 hq' hc'
      generalize hwi : wi L C Q (7 * q + c) = w at hw gx gm ew hg0 hg1
      generalize hgg : Nat.gcd w (tot L C Q) = g at gx gm hg0 hg1
      generalize hS2 : stL (stL S1 0 9 (lN (w / g))) 0 10 (lN (tot L C Q / g)) = S2
      have hCM2 : CM S2 C Q T L := (hCM.sm m1).congr (by rw [← hS2]; rfl) (by rw [← hS2]; rfl)
      obtain ⟨S3, g1, g2, g3⟩ := X7_fullest_walk n hn hCM2
      have hCM3 := hCM2.sm g2
      have e94 := g3.2.2.1 (7 * q + c) (by omega)
      have e17 := g3.2.1
      refine ⟨1, S2, stL (stL S3 82 8 (lN (w / g))) 82 9 (lN (tot L C Q / g)), ?_, ?_, ?_⟩
      · unfold F_X6_odds
        rw [X0_here hX, X1_isQuestion_eq n hCX, bndS, if10', if_pos hq, X1_isCard_eq n hCX, bndS, if10', if_pos hc, hX.r4, f1, bndS, (hX.eqs m1.rf).r4, ew, bndS, f2.2.2.2.1, ← tot_ev hC, nI_l (by omega), nI_l (by omega)]
        unfold F_X6_tellChances
        have hne : ¬ lN g = 0 := fun z => by
          have := (lN_eq (b := 0) (show g < 2 ^ 31 by omega) (by decide)).mp z
          omega
        have hle : ¬ lg_cmp (lN g) 0 ≤ 0 := fun z => by
          have := (lN_le (b := 0) (show g < 2 ^ 31 by omega) (by decide)).mp ((lg_cmp_le _ _).mp z)
          omega
        rw [gx, bndS, if_neg hle, decide_eq_false hne]
        simp only [nmE, grdT, Bool.not_false, lN_div (show w < 2 ^ 62 by omega) (show g < 2 ^ 62 by omega), lN_div (show tot L C Q < 2 ^ 62 by omega) (show g < 2 ^ 62 by omega), hS2, bndS]
      · show F_X7_odds n S2 82 (nI q) (nI c) = _
        have hne := nI_ne0 hg0 (show g < 2 ^ 31 by omega)
        have e7 : (7 : Int32) * nI q + nI c = nI (7 * q + c) := by rw [li_7, nI_mulN, nI_add]
        have d1 : w / g < 2 ^ 31 := Nat.lt_of_le_of_lt (Nat.div_le_self _ _) (by omega)
        have d2 : tot L C Q / g < 2 ^ 31 := Nat.lt_of_le_of_lt (Nat.div_le_self _ _) (by omega)
        rw [hwi] at e94
        unfold F_X7_odds
        rw [X7_isQuestion_eq n hCM2, bndS, if10', if_pos hq, X7_isCard_eq n hCM2, bndS, if10', if_pos hc, g1, bndS]
        simp only [nmE, jnE, grdT, X7_r16 hCM3.1, SZ_94, e7, inb_nI (show 7 * q + c < 49 by omega) (by decide), nI_clamp (show 7 * q + c < 2 ^ 31 by omega), e94, e17, gm, decide_eq_false hne, Bool.not_false, stL_1, pk_div (show w < 2 ^ 31 by omega) hg0 (show g < 2 ^ 31 by omega), pk_div (show tot L C Q < 2 ^ 31 by omega) hg0 (show g < 2 ^ 31 by omega), nI_l d1, nI_l d2]
      · have H1 := H.sm m1
        obtain ⟨a1, a2, a3, a4, a5⟩ := H1.pa
        have k1 : S2.1 = S1.1 := by rw [← hS2]; rfl
        have kr : S2.2.2 = S1.2.2 := by rw [← hS2]; rfl
        have kl : S3.2.1 = S2.2.1 := by rw [g2.2.2.2]
        refine H1.keep (fun k hk => ?_) ?_ ⟨?_, ?_, fun f hf => ?_, ?_, ?_⟩
        · show S3.1 k = _
          rw [g2.1 k (by omega), k1]
        · show S3.2.2 = _
          rw [g2.rf, kr]
        · show S3.1 0 8 = S3.1 82 7
          rw [g2.1 0 (by omega), g2.2.1, k1]; exact a1
        · show S3.1 0 11 = S3.1 82 10
          rw [g2.1 0 (by omega), g2.2.2.1, k1]; exact a2
        · show S3.1 4 f = S3.1 90 f
          rw [g2.1 4 (by omega), g2.1 90 (by omega), k1]; exact a3 f hf
        · rw [stL_at, stL_at, stL_at, stL_at, kl, ← hS2, stL_at, stL_at]
          simp
        · rw [stL_at, stL_at, stL_at, kl, ← hS2, stL_at]
          simp
    · refine Both.same H (-1) ?_ ?_
      · unfold F_X6_odds
        rw [X0_here hX, X1_isQuestion_eq n hCX, bndS, if10', if_pos hq, X1_isCard_eq n hCX, bndS, if10', if_neg hc]
      · show F_X7_odds n S 82 q c = _
        unfold F_X7_odds
        rw [X7_isQuestion_eq n hCM, bndS, if10', if_pos hq, X7_isCard_eq n hCM, bndS, if10', if_neg hc]
  · refine Both.same H (-1) ?_ ?_
    · unfold F_X6_odds
      rw [X0_here hX, X1_isQuestion_eq n hCX, bndS, if10', if_neg hq]
    · show F_X7_odds n S 82 q c = _
      unfold F_X7_odds
      rw [X7_isQuestion_eq n hCM, bndS, if10', if_neg hq]
