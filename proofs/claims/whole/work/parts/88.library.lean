/-! library. -/
theorem stR_1 (S : aSt) (k j : Nat) (v : Option Nat) : (stR S k j v).1 = S.1 := rfl
theorem stR_21 (S : aSt) (k j : Nat) (v : Option Nat) : (stR S k j v).2.1 = S.2.1 := rfl
theorem stR_ne {S : aSt} {k j a : Nat} {v : Option Nat} (h : a ≠ k) : (stR S k j v).2.2 a = S.2.2 a := by simp [stR, h]
theorem stR_self (S : aSt) (k j : Nat) (v : Option Nat) : (stR S k j v).2.2 k = va_up (S.2.2 k) j v := by simp [stR]
theorem PM.cpy {v u : Nat → Int32} {C Q : Nat} {L : Nat → Nat → Nat} (hC : C ≤ 7) (hQ : Q ≤ 7) (H : PM v C Q 0 L) (e : ∀ i, i < 393 → u i = v i) : PM u C Q 0 L := by
  obtain ⟨h1, h2, h3, h4, h5, h6, h7⟩ := H
  refine ⟨?_, ?_, ?_, fun c hc => ?_, fun q hq => ?_, fun q hq h0 => ?_, fun s hs => by omega⟩
  · rw [e 0 (by omega)]; exact h1
  · rw [e 1 (by omega)]; exact h2
  · rw [e 2 (by omega)]; exact h3
  · rw [e (3 + c) (by omega), e (10 + c) (by omega), e (17 + c) (by omega), e (24 + c) (by omega)]; exact h4 c hc
  · rw [e (31 + q) (by omega), e (38 + q) (by omega), e (45 + q) (by omega), e (52 + q) (by omega), e (59 + q) (by omega)]; exact h5 q hq
  · rw [e (66 + q) (by omega)]; exact h6 q hq h0
theorem RfX.swap {S : aSt} {h d : Nat} (H : RfX S h d) : RfX (stR (stR S 0 6 (some d)) 0 7 (some h)) d h := by
  obtain ⟨h1, h2, h3, h4, h5, h6, h7, h8, h9, h10⟩ := H
  have hn : ∀ a, a ≠ 0 → (stR (stR S 0 6 (some d)) 0 7 (some h)).2.2 a = S.2.2 a := fun a ha => by rw [stR_ne ha, stR_ne ha]
  refine ⟨?_, ?_, ?_, ?_, ?_, fun i hi => ?_, ?_, ?_, fun k hk => ?_, fun i hi => ?_⟩
  · rcases h1 with ⟨a, b⟩ | ⟨a, b⟩
    · exact Or.inr ⟨b, a⟩
    · exact Or.inl ⟨b, a⟩
  · rw [stR_self, stR_self, h2]
    funext j
    unfold va_up HR0
    by_cases k7 : j = 7
    · subst k7; rfl
    · by_cases k6 : j = 6
      · subst k6; rfl
      · simp only [if_neg k7, if_neg k6]
        match j with
        | 0 => rfl
        | 1 => rfl
        | 2 => rfl
        | 3 => rfl
        | 4 => rfl
        | 5 => rfl
        | 6 => exact absurd rfl k6
        | 7 => exact absurd rfl k7
        | j + 8 => rfl
  · rw [hn 1 (by omega)]; exact h3
  · rw [hn 2 (by omega)]; exact h4
  · rw [hn 3 (by omega)]; exact h5
  · rw [hn (41 + 2 * i) (by omega)]; exact h6 i hi
  · rw [hn 5 (by omega)]; exact h7
  · rw [hn 9 (by omega)]; exact h8
  · rw [hn k (by omega), hn (k + 7) (by omega)]; exact h9 k hk
  · rw [hn (61 + 7 * i) (by omega)]; exact h10 i hi
/-- the kept ones are gone -/
def gone (S : aSt) : aSt := stI (stI (stI S 61 6 (-1)) 68 6 (-1)) 75 6 (-1)
def goneM (S : aSt) : aSt := stI (stI (stI S 89 0 0) 89 1 0) 89 2 0
theorem X6_lib_loop (n : Nat) (hn : 10 < n) {S : aSt} {h d : Nat} (H : RfX S h d) (K : aSt → Option (Int32 × aSt)) : F_X6_library_L68 0 K n 0 S = K (gone S) := by
  obtain ⟨n', rfl⟩ : ∃ z, n = z + 4 := ⟨n - 4, by omega⟩
  have r2 : ∀ {β : Type} (f : Nat → Option β), rfd (S.2.2 0 2) 10 f = f 3 := fun f => by rw [H.2.1]; exact rfdS T_3 f
  have r3 : ∀ {β : Type} (i : Nat) (f : Nat → Option β), i < 3 → rfd (S.2.2 3 i) 4 f = f (61 + 7 * i) := fun i f hi => by
    rw [H.2.2.2.2.1]
    unfold HRs
    rw [if_pos hi]
    refine rfdS ?_ f
    have : ∀ i, i < 3 → isT (61 + 7 * i) 4 = true := by decide +kernel
    exact this i hi
  have z0 : (0 : Int32).toNatClampNeg = 0 := rfl
  have z1 : ((0 : Int32) + 1).toNatClampNeg = 1 := rfl
  have z2 : ((0 : Int32) + 1 + 1).toNatClampNeg = 2 := rfl
  unfold gone
  rw [F_X6_library_L68, if_neg (show ¬ (3 : Int32) ≤ 0 by decide), r2, SZ_3, show inb (0 : Int32) 3 = true by decide, grdT, z0, r3 0 _ (by decide), nmE]
  rw [F_X6_library_L68, if_neg (show ¬ (3 : Int32) ≤ 0 + 1 by decide), stI_22, r2, SZ_3, show inb ((0 : Int32) + 1) 3 = true by decide, grdT, z1, r3 1 _ (by decide), nmE]
  rw [F_X6_library_L68, if_neg (show ¬ (3 : Int32) ≤ 0 + 1 + 1 by decide), stI_22, stI_22, r2, SZ_3, show inb ((0 : Int32) + 1 + 1) 3 = true by decide, grdT, z2, r3 2 _ (by decide), nmE]
  rw [F_X6_library_L68, if_pos (show (3 : Int32) ≤ 0 + 1 + 1 + 1 by decide)]
theorem X7_lib_loop (n : Nat) (hn : 10 < n) {S : aSt} (H : S.2.2 82 = HRm) (K : aSt → Option (Int32 × aSt)) : F_X7_library_L52 82 K n 0 S = K (goneM S) := by
  obtain ⟨n', rfl⟩ : ∃ z, n = z + 4 := ⟨n - 4, by omega⟩
  have r6 : ∀ {β : Type} (f : Nat → Option β), rfd (S.2.2 82 6) 8 f = f 89 := fun f => by rw [H]; exact rfdS T_89 f
  have z0 : (0 : Int32).toNatClampNeg = 0 := rfl
  have z1 : ((0 : Int32) + 1).toNatClampNeg = 1 := rfl
  have z2 : ((0 : Int32) + 1 + 1).toNatClampNeg = 2 := rfl
  have zn : vp_nar .boolean (0 : Int32) = 0 := by decide
  unfold goneM
  rw [F_X7_library_L52, if_neg (show ¬ (3 : Int32) ≤ 0 by decide), r6, SZ_89, show inb (0 : Int32) 3 = true by decide, grdT, z0, zn, nmE]
  rw [F_X7_library_L52, if_neg (show ¬ (3 : Int32) ≤ 0 + 1 by decide), stI_22, r6, SZ_89, show inb ((0 : Int32) + 1) 3 = true by decide, grdT, z1, zn, nmE]
  rw [F_X7_library_L52, if_neg (show ¬ (3 : Int32) ≤ 0 + 1 + 1 by decide), stI_22, stI_22, r6, SZ_89, show inb ((0 : Int32) + 1 + 1) 3 = true by decide, grdT, z2, zn, nmE]
  rw [F_X7_library_L52, if_pos (show (3 : Int32) ≤ 0 + 1 + 1 + 1 by decide)]
theorem op_library (n : Nat) (hn : 1000 < n) {S : aSt} (H : OK S) (t : Int32) : Both S (F_X6_library n S 0 t) (fun S1 => F_X7_library n S1 82 t) := by
  by_cases ht : inb t 4 = true
  · obtain ⟨t, ht', rfl⟩ := inb_ex ht (by decide)
    obtain ⟨h, d, C, Q, T, L, hX, hM, hCX, hCM, hk⟩ := H.get
    obtain ⟨x1, x2⟩ := xtxt hX ht'
    obtain ⟨t1, t2, t3⟩ := txtT ht'
    have hc : (nI t).toNatClampNeg = t := nI_clamp (by omega)
    obtain ⟨e1, e2⟩ := H.pt t ht'
    have ry : ∀ {β : Type} (f : Nat → Option β), rfd (S.2.2 2 t) 3 f = f (53 + 2 * t) := fun f => by rw [x1]; exact rfdS t1 f
    have rm2 : ∀ {S' : aSt} {β : Type} (f : Nat → Option β), RfM S' → rfd (S'.2.2 82 2) 7 f = f 85 := fun f hs => by rw [show _ = HRm from hs]; exact rfdS T_85 f
    rcases e2 with e2 | ⟨m, hm, e2, e3⟩
    · refine Both.fnd H 1 (by decide) ?_ ?_
      · unfold F_X6_library
        rw [X6_isText_eq, bndS, if10', if_pos ht, hX.r1, SZ_2, inb_nI ht' (by decide), grdT, hc, ry, X4_isThere_eq, bndS, e1, e2, if_pos rfl, if_pos rfl]
        rw [show F_X6_found n S 0 1 = some (-3, xFnd S 1) from X6_found_eq n hX (f := 1) (by decide), bn2S]
      · show F_X7_library n (xFnd S 1) 82 (nI t) = _
        have hM1 : RfM (xFnd S 1) := hM
        unfold F_X7_library
        rw [X7_isText_eq, bndS, if10', if_pos ht, rm2 _ hM1, SZ_85, inb_nI ht' (by decide), grdT, hc, xFnd_m (by decide), e2, if_neg (by decide)]
        rw [show F_X7_found n (xFnd S 1) 82 1 = some (-3, mFnd (xFnd S 1) 1) from X7_found_eq n hM1 (f := 1) (by decide), bn2S]
    · have hT : TX S (53 + 2 * t) m (S.1 (53 + 2 * t + 1)) := ⟨x2, t2, t3, by rw [e1, e2], hm, fun i _ => rfl, by omega⟩
      obtain ⟨r, S1, p1, p2, p3, p4⟩ := X1_readFrom_eq n (by omega) hT hX.dx
      have hd := hX.dd
      have hX1 : RfX S1 h d := hX.eqs (by rw [p3.1])
      have H1 := H.dr hX p3
      have ex : F_X6_library n S 0 (nI t) = if en r.1 = -9 then some ((gone (stR (stR S1 0 6 (some d)) 0 7 (some h))).1 d 7, gone (stR (stR S1 0 6 (some d)) 0 7 (some h))) else some (-4, S1) := by
        unfold F_X6_library
        rw [X6_isText_eq, bndS, if10', if_pos ht, hX.r1, SZ_2, inb_nI ht' (by decide), grdT, hc, ry, X4_isThere_eq, bndS, e1, e2, if_neg (nI_nm1 (by omega)), if_neg (by decide), hX.r7, grdT, ry, p2, bn2S]
        by_cases k : en r.1 = -9
        · rw [if_pos k, if_pos k, X0_here hX1, hX1.r7, nmE, nmE, jnE, X6_lib_loop n (by omega) hX1.swap]
          have hs : RfX (gone (stR (stR S1 0 6 (some d)) 0 7 (some h))) d h := hX1.swap.eqs rfl
          rw [X0_here hs]
        · rw [if_neg k, if_neg k]
      have em : ∀ S2, RM S2 t m (S.1 (53 + 2 * t + 1)) → ∃ S3, Sm S2 S3 ∧ (r.1 = 99 → PMd (S3.1 91) r.2.1 r.2.2.1 r.2.2.2) ∧ F_X7_library n S2 82 (nI t) = if en r.1 = -9 then some ((goneM (stRow S3 87 (va_cpy (S3.1 91) (S3.1 87) 0 0 393))).1 87 0, goneM (stRow S3 87 (va_cpy (S3.1 91) (S3.1 87) 0 0 393))) else some (-4, S3) := by
        intro S2 hRM
        obtain ⟨S3, q1, q2, q3⟩ := X7_reads_eq n (by omega) hRM p1
        have hM3 : S3.2.2 82 = HRm := by rw [q2.2.2.2]; exact hRM.1
        refine ⟨S3, q2, q3, ?_⟩
        unfold F_X7_library
        rw [X7_isText_eq, bndS, if10', if_pos ht, rm2 _ hRM.1, SZ_85, inb_nI ht' (by decide), grdT, hc, hRM.2.1, if_pos (nI_pos' (by omega)), q1, bn2S]
        by_cases k : en r.1 = -9
        · have r12 : ∀ {β : Type} (f : Nat → Option β), rfd (S3.2.2 82 12) 7 f = f 91 := fun f => by rw [hM3]; exact rfdS T_91 f
          have r4 : ∀ {S' : aSt} {β : Type} (f : Nat → Option β), S'.2.2 = S3.2.2 → rfd (S'.2.2 82 4) 7 f = f 87 := fun f e => by rw [e, hM3]; exact rfdS T_87 f
          have r4' : ∀ {β : Type} (f : Nat → Option β), rfd ((goneM (stRow S3 87 (va_cpy (S3.1 91) (S3.1 87) 0 0 393))).2.2 82 4) 7 f = f 87 := fun f => r4 (S' := goneM (stRow S3 87 (va_cpy (S3.1 91) (S3.1 87) 0 0 393))) f rfl
          have hM4 : (stRow S3 87 (va_cpy (S3.1 91) (S3.1 87) 0 0 393)).2.2 82 = HRm := hM3
          rw [if_pos k, if_pos k, r12, r4 _ rfl, show F_X7_copies n S3 91 0 87 0 = some (stRow S3 87 (va_cpy (S3.1 91) (S3.1 87) 0 0 393)) from X7_copies_eq n (by omega) S3 (i := 0) (j := 0) SZ_91 SZ_87 (by decide) (by decide) (by decide) (by decide) (by decide), bndS, jnE, X7_lib_loop n (by omega) hM4, r4', SZ_87, in0, grdT]
          rfl
        · rw [if_neg k, if_neg k]
      have hRM : ∀ S2, S2.2.2 82 = HRm → S2.1 85 = S1.1 85 → S2.1 86 = S1.1 86 → RM S2 t m (S.1 (53 + 2 * t + 1)) := fun S2 a b c => by
        refine ⟨a, ?_, fun i hi => ?_, ht', hm⟩
        · rw [b, p3.2 85 (by omega)]; exact e2
        · rw [c, p3.2 86 (by omega)]; exact (e3 i hi).symm
      have hM1 : S1.2.2 82 = HRm := by rw [p3.1]; exact hM
      by_cases k : r.1 = 99
      · obtain ⟨b1, b2, b3⟩ := p4 k
        rw [if_pos (en_no k)] at ex
        have hS2r : (gone (stR (stR S1 0 6 (some d)) 0 7 (some h))).2.2 82 = HRm := by
          show (stR (stR S1 0 6 (some d)) 0 7 (some h)).2.2 82 = HRm
          rw [stR_ne (by decide), stR_ne (by decide)]; exact hM1
        have g1 : ∀ j, j ≠ 61 → j ≠ 68 → j ≠ 75 → (gone (stR (stR S1 0 6 (some d)) 0 7 (some h))).1 j = S1.1 j := fun j a b c => by unfold gone; rw [stI_ne c, stI_ne b, stI_ne a]; rfl
        have g6 : ∀ i, i < 3 → (gone (stR (stR S1 0 6 (some d)) 0 7 (some h))).1 (61 + 7 * i) 6 = -1 := fun i hi => by
          unfold gone
          rcases (show i = 0 ∨ i = 1 ∨ i = 2 by omega) with rfl | rfl | rfl <;> simp [stI_at]
        have hs : RfX (gone (stR (stR S1 0 6 (some d)) 0 7 (some h))) d h := hX1.swap.eqs rfl
        have g2 : (gone (stR (stR S1 0 6 (some d)) 0 7 (some h))).2.1 = S1.2.1 := rfl
        generalize gone (stR (stR S1 0 6 (some d)) 0 7 (some h)) = S2 at ex hS2r g1 g6 hs g2
        obtain ⟨S3, q1, q2, q3⟩ := em S2 (hRM S2 hS2r (g1 85 (by decide) (by decide) (by decide)) (g1 86 (by decide) (by decide) (by decide)))
        rw [if_pos (en_no k)] at q3
        have c4 := q2 k
        have w1 : ∀ j, j ≠ 87 → j ≠ 89 → (goneM (stRow S3 87 (va_cpy (S3.1 91) (S3.1 87) 0 0 393))).1 j = S3.1 j := fun j a b => by unfold goneM; rw [stI_ne b, stI_ne b, stI_ne b, stRow_ne a]
        have w87 : ∀ i, i < 393 → (goneM (stRow S3 87 (va_cpy (S3.1 91) (S3.1 87) 0 0 393))).1 87 i = S3.1 91 i := fun i hi => by unfold goneM; rw [stI_ne (by decide), stI_ne (by decide), stI_ne (by decide), stRow_self, cp0 hi]
        have w89 : ∀ i, i < 3 → (goneM (stRow S3 87 (va_cpy (S3.1 91) (S3.1 87) 0 0 393))).1 89 i = 0 := fun i hi => by
          unfold goneM
          rcases (show i = 0 ∨ i = 1 ∨ i = 2 by omega) with rfl | rfl | rfl <;> simp [stI_at]
        have w2 : (goneM (stRow S3 87 (va_cpy (S3.1 91) (S3.1 87) 0 0 393))).2 = S3.2 := rfl
        generalize goneM (stRow S3 87 (va_cpy (S3.1 91) (S3.1 87) 0 0 393)) = S4 at q3 w1 w87 w89 w2
        have ecx : S2.1 d 7 = nI r.2.1 := by rw [g1 d (by omega) (by omega) (by omega)]; exact b1.1.1
        have ecm : S4.1 87 0 = nI r.2.1 := by rw [w87 0 (by omega)]; exact c4.1.1
        rw [ecx] at ex
        rw [ecm] at q3
        refine ⟨_, S2, S4, ex, q3, d, h, ?_, ?_, ?_, ?_, ?_, r.2.1, r.2.2.1, 0, r.2.2.2, b2.1, ?_, ?_, ?_⟩
        · exact hs.eqs (by rw [w2, q1.2.2.2])
        · show S4.2.2 82 = HRm
          rw [w2, q1.2.2.2]; exact hS2r
        · obtain ⟨a1, a2, a3, a4, a5⟩ := H1.pa
          refine ⟨?_, ?_, fun f hf => ?_, ?_, ?_⟩
          · rw [w1 0 (by decide) (by decide), w1 82 (by decide) (by decide), q1.1 0 (by omega), q1.2.1, g1 0 (by decide) (by decide) (by decide), g1 82 (by decide) (by decide) (by decide)]; exact a1
          · rw [w1 0 (by decide) (by decide), w1 82 (by decide) (by decide), q1.1 0 (by omega), q1.2.2.1, g1 0 (by decide) (by decide) (by decide), g1 82 (by decide) (by decide) (by decide)]; exact a2
          · rw [w1 4 (by decide) (by decide), w1 90 (by decide) (by decide), q1.1 4 (by omega), q1.1 90 (by omega), g1 4 (by decide) (by decide) (by decide), g1 90 (by decide) (by decide) (by decide)]; exact a3 f hf
          · rw [w2, q1.2.2.2, g2]; exact a4
          · rw [w2, q1.2.2.2, g2]; exact a5
        · obtain ⟨-, -, -, -, -, hR, -⟩ := H1
          exact hR.congr (fun j q => by rw [w1 j (by omega) (by omega), q1.1 j (by omega), g1 j (by omega) (by omega) (by omega)])
        · exact H1.pt.congr (fun j q => by rw [w1 j (by omega) (by omega), q1.1 j (by omega), g1 j (by omega) (by omega) (by omega)])
        · exact b1.1.congr (fun j a b => by rw [w1 j (by omega) (by omega), q1.1 j (by omega), g1 j (by omega) (by omega) (by omega)])
        · exact c4.1.cpy b2.1.1 b2.1.2.1 w87
        · intro i hi
          refine Or.inl ⟨w89 i hi, ?_⟩
          rw [w1 (61 + 7 * i) (by omega) (by omega), q1.1 (61 + 7 * i) (by omega)]
          exact g6 i hi
      · have hne : ¬ en r.1 = -9 := by
          have := (prs_ex (tx := S.1 (53 + 2 * t + 1)) hm m 0 0 0 (fun _ _ => 99) (by omega) (by omega) LI.zero)
          obtain ⟨r', y1, -, y3⟩ := this
          rw [p1] at y1
          have := Option.some.inj y1
          rw [← this] at y3
          exact en_ne k (by omega)
        rw [if_neg hne] at ex
        obtain ⟨S3, q1, q2, q3⟩ := em S1 (hRM S1 hM1 rfl rfl)
        rw [if_neg hne] at q3
        exact ⟨_, S1, S3, ex, q3, H1.sm q1⟩
  · refine Both.same H (-1) ?_ ?_
    · unfold F_X6_library
      rw [X6_isText_eq, bndS, if10', if_neg ht]
    · show F_X7_library n S 82 t = _
      unfold F_X7_library
      rw [X7_isText_eq, bndS, if10', if_neg ht]
