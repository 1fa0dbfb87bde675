/-! match, wished. -/
theorem sm_rowM {A B : aSt} (H : Sm A B) (r : Nat) (v : Int32) (g : Nat → Int32) : Sm (stRow (stI A 83 r v) 84 g) (stRow (stI B 83 r v) 84 g) := by
  refine ⟨fun k q => ?_, ?_, ?_, H.2.2.2⟩
  · funext b
    rw [stRow_at, stRow_at, stI_at, stI_at]
    rw [H.1 k q]
  · rw [stRow_ne (by decide), stRow_ne (by decide), stI_ne (by decide), stI_ne (by decide)]; exact H.2.1
  · rw [stRow_ne (by decide), stRow_ne (by decide), stI_ne (by decide), stI_ne (by decide)]; exact H.2.2.1
theorem row_last (S : aSt) {a k : Nat} (h : a ≠ k) (f F : Nat → Int32) (j : Nat) (v : Int32) : stRow (stI (stRow S a f) k j v) a F = stI (stRow S a F) k j v := by
  refine Prod.ext ?_ rfl
  funext x y
  rw [stRow_at, stI_at, stI_at, stRow_at, stRow_at]
  by_cases q1 : x = a
  · rw [if_pos q1, if_neg (by omega), if_pos q1]
  · rw [if_neg q1]
    by_cases q2 : x = k
    · rw [if_pos q2, if_pos q2]; split <;> simp [q1]
    · rw [if_neg q2, if_neg q2]; simp [q1]
section Match
variable {S : aSt} {h C Q T : Nat} {L : Nat → Nat → Nat}
theorem X7_laid_eq (n : Nat) (hn : 100 < n) (H : CM S C Q T L) {r : Nat} (hr : r < 6) : F_X7_laid n S 82 (nI r) = some (S.1 82 18, stRow (stI S 83 r (nI Q)) 84 (fb_put (fil (S.1 84) (40 * r) 40 0) (S.1 93) (40 * r) Q)) := by
  have hQ := H.2.2.2.1
  unfold F_X7_laid
  simp only [nmE, jnE, bn2S, bndS, grdT, stI_22, stL_22, stRow_22, HRm, rfdS T_83, rfdS T_84, rfdS T_85, rfdS T_86, rfdS T_87, rfdS T_88, rfdS T_89, rfdS T_90, rfdS T_91, rfdS T_92, rfdS T_93, rfdS T_94, rfdS T_95, rfdS T_96, SZ_83, SZ_84, SZ_85, SZ_86, SZ_87, SZ_88, SZ_89, SZ_90, SZ_91, SZ_92, SZ_93, SZ_94, SZ_95, SZ_96, H.1, in1, H.v1, X7_row_eq n H.1 hr (show Q ≤ 40 by omega) hn]
  have key := lp_eq (fun fu (s : aSt) i => F_X7_laid_L14 82 (nI r) (nI Q) (fun x42S => some (x42S.1 82 18, x42S)) fu i s) (fun x42S => some (x42S.1 82 18, x42S)) (fun c => stRow (stI S 83 r (nI Q)) 84 (fb_put (fil (S.1 84) (40 * r) 40 0) (S.1 93) (40 * r) c)) Q (fun fu => ?_) (fun fu c hc => ?_) Q 0 n (by omega) (by omega)
  · rw [fb_put_0] at key
    refine Eq.trans key ?_
    rw [stRow_ne (by decide), stI_ne (by decide)]
  · show F_X7_laid_L14 _ _ _ _ (fu + 1) _ _ = _
    rw [F_X7_laid_L14, if_pos (Int32.le_refl _)]
  · show F_X7_laid_L14 _ _ _ _ (fu + 1) _ _ = F_X7_laid_L14 _ _ _ _ fu _ _
    have e40 : (40 : Int32) * nI r + nI c = nI (40 * r + c) := by rw [li_40, nI_mulN, nI_add]
    have e93 : ∀ g, (stRow (stI S 83 r (nI Q)) 84 g).1 93 = S.1 93 := fun g => by rw [stRow_ne (by decide), stI_ne (by decide)]
    rw [F_X7_laid_L14, if_neg (nI_ge hc (by omega)), ← fb_put_succ]
    simp only [nmE, jnE, bn2S, bndS, grdT, stI_22, stL_22, stRow_22, HRm, rfdS T_83, rfdS T_84, rfdS T_85, rfdS T_86, rfdS T_87, rfdS T_88, rfdS T_89, rfdS T_90, rfdS T_91, rfdS T_92, rfdS T_93, rfdS T_94, rfdS T_95, rfdS T_96, SZ_83, SZ_84, SZ_85, SZ_86, SZ_87, SZ_88, SZ_89, SZ_90, SZ_91, SZ_92, SZ_93, SZ_94, SZ_95, SZ_96, H.1, e40, e93, inb_nI (show c < 7 by omega) (by decide), nI_clamp (show c < 2 ^ 31 by omega), inb_nI (show 40 * r + c < 240 by omega) (by decide), nI_clamp (show 40 * r + c < 2 ^ 31 by omega), stI_stRow, nI_1]
/-- both lay the same into a row -/
theorem OK.mtch {S S1 S' : aSt} (H : OK S) {r Q : Nat} (hr : r < 6) (hQ : Q ≤ 7) {f : Nat → Int32} (hS1 : S1 = stI (stRow S (41 + 2 * r + 1) f) (41 + 2 * r) 1 (nI Q)) (m : Sm S1 S') (e : ∀ i, i < Q → S'.1 93 i = f i) : OK (stRow (stI S' 83 r (nI Q)) 84 (fb_put (fil (S'.1 84) (40 * r) 40 0) (S'.1 93) (40 * r) Q)) := by
  have e84 : S'.1 84 = S.1 84 := by rw [m.1 84 (by omega), hS1, stI_ne (by omega), stRow_ne (by omega)]
  refine OK.sm (H.row hr (show Q ≤ 40 by omega) f (fb_put (fil (S'.1 84) (40 * r) 40 0) (S'.1 93) (40 * r) Q) (fun i hi => ?_) (fun j hj => ?_)) ?_
  · rw [fb_put_in (by omega) (by omega), show 40 * r + i - 40 * r = i by omega, e i hi]
  · rw [fb_put_out (by omega), e84]
    unfold fil
    rw [if_neg hj]
  · rw [← hS1]
    exact sm_rowM m r (nI Q) _
end Match
theorem op_match (n : Nat) (hn : 5000000 < n) {S : aSt} (H : OK S) (r : Int32) : Both S (F_X6_match n S 0 r) (fun S1 => F_X7_match n S1 82 r) := by
  by_cases hr : inb r 6 = true
  · obtain ⟨r, hr', rfl⟩ := inb_ex hr (by decide)
    obtain ⟨h, d, C, Q, T, L, hX, hM, hCX, hCM, hk⟩ := H.get
    have hQ := hCM.2.2.2.1
    obtain ⟨S1, f1, f2⟩ := X2_countIn_eq n (by omega) hX hCX
    have m1 := f2.1.1
    have hX1 := hX.eqs m1.rf
    obtain ⟨x1, x2⟩ := xrow hX1 hr'
    obtain ⟨t1, t2, t3⟩ := rowT hr'
    have hc : (nI r).toNatClampNeg = r := nI_clamp (by omega)
    have g1 := X2_layFullest_eq n (by omega) f2 (show 9 ≤ 41 + 2 * r by omega) x2 t2 t3
    rw [row_last S1 (by omega)] at g1
    generalize hf : (fun i => if 0 ≤ i ∧ i < Q then bst C (gp C (alm L) (fun _ => 1) (mx C (alm L) (fun _ => 1) Q 0 0) Q 0 0 0 (fun _ => 0)) i else (stI (stRow S1 (41 + 2 * r + 1) (fil (S1.1 (41 + 2 * r + 1)) 0 40 (-9))) (41 + 2 * r) 1 (nI Q)).1 (41 + 2 * r + 1) i) = f at g1
    generalize hS2 : stI (stRow S1 (41 + 2 * r + 1) f) (41 + 2 * r) 1 (nI Q) = S2 at g1
    have er2 : S2.2.2 = S1.2.2 := by rw [← hS2]; rfl
    have hX2 := hX1.eqs er2
    have e56 : S2.1 5 = S1.1 5 := by rw [← hS2, stI_ne (by omega), stRow_ne (by omega)]
    have hCM2 : CM S2 C Q T L := (hCM.sm m1).congr (by rw [er2]) (by rw [← hS2, stI_ne (by omega), stRow_ne (by omega)])
    obtain ⟨S3, k1, k2, k3⟩ := X7_fullest_walk n hn hCM2
    have hCM3 := hCM2.sm k2
    refine ⟨nI (mx C (alm L) (fun _ => 1) Q 0 0), S2, _, ?_, ?_, OK.mtch (H.sm m1) hr' hQ hS2.symm k2 (fun i hi => ?_)⟩
    · have rx : ∀ {β : Type} (f : Nat → Option β), rfd (S1.2.2 0 0) 9 f = f 1 := fun f => by rw [hX1.2.1]; exact rfdS T_1 f
      have ry : ∀ {β : Type} (f : Nat → Option β), rfd (S1.2.2 1 r) 3 f = f (41 + 2 * r) := fun f => by rw [x1]; exact rfdS t1 f
      unfold F_X6_match
      rw [X6_isRow_eq, bndS, if10', if_pos hr, hX.r4, X0_here hX, f1, bndS, hX1.r4, rx, SZ_1, inb_nI hr' (by decide), grdT, hc, ry, g1, bndS, hX2.r4, e56, f2.2.2.1]
    · show F_X7_match n S2 82 (nI r) = _
      unfold F_X7_match
      rw [X7_isRow_eq, bndS, if10', if_pos hr, k1, bndS, X7_laid_eq n (by omega) hCM3 hr', bn2S, k3.1]
    · rw [k3.2.2.2 i hi, ← hf]
      exact (if_pos ⟨Nat.zero_le _, hi⟩).symm
  · refine Both.same H (-1) ?_ ?_
    · unfold F_X6_match
      rw [X6_isRow_eq, bndS, if10', if_neg hr]
    · show F_X7_match n S 82 r = _
      unfold F_X7_match
      rw [X7_isRow_eq, bndS, if10', if_neg hr]
theorem op_wished (n : Nat) (hn : 5000000 < n) {S : aSt} (H : OK S) (r : Int32) : Both S (F_X6_wished n S 0 r) (fun S1 => F_X7_wished n S1 82 r) := by
  by_cases hr : inb r 6 = true
  · obtain ⟨r, hr', rfl⟩ := inb_ex hr (by decide)
    obtain ⟨h, d, C, Q, T, L, hX, hM, hCX, hCM, hk⟩ := H.get
    have hQ := hCM.2.2.2.1
    obtain ⟨x1, x2⟩ := xrow hX hr'
    obtain ⟨t1, t2, t3⟩ := rowT hr'
    have hc : (nI r).toNatClampNeg = r := nI_clamp (by omega)
    have hwt := wtf_le hCM 1
    have hL : ∀ q, q < Q → wtf L Q 1 q = L 7 q := fun q hq => by unfold wtf; rw [if_neg (by decide), if_pos hq]
    obtain ⟨S1, m1, g1⟩ := X2_layMostWished_eq n (by omega) hX hCX hwt hL (show 41 ≤ 41 + 2 * r by omega) x2 t2 t3
    rw [row_last S1 (by omega)] at g1
    generalize hf : (fun i => if 0 ≤ i ∧ i < Q then bst C (gp C (alm L) (wtf L Q 1) (mx C (alm L) (wtf L Q 1) Q 0 0) Q 0 0 0 (fun _ => 0)) i else (stI (stRow S1 (41 + 2 * r + 1) (fil (S1.1 (41 + 2 * r + 1)) 0 40 (-9))) (41 + 2 * r) 1 (nI Q)).1 (41 + 2 * r + 1) i) = f at g1
    generalize hS2 : stI (stRow S1 (41 + 2 * r + 1) f) (41 + 2 * r) 1 (nI Q) = S2 at g1
    have er2 : S2.2.2 = S1.2.2 := by rw [← hS2]; rfl
    have hCM2 : CM S2 C Q T L := (hCM.sm m1).congr (by rw [er2]) (by rw [← hS2, stI_ne (by omega), stRow_ne (by omega)])
    obtain ⟨S3, k1, k2, k3⟩ := X7_layMatchings_eq n hn hCM2 1
    have k4 := k3.full
    have hCM3 := hCM2.sm k2
    refine ⟨nI (mx C (alm L) (wtf L Q 1) Q 0 0), S2, _, ?_, ?_, OK.mtch (H.sm m1) hr' hQ hS2.symm k2 (fun i hi => ?_)⟩
    · have rx : ∀ {β : Type} (f : Nat → Option β), rfd (S.2.2 0 0) 9 f = f 1 := fun f => by rw [hX.2.1]; exact rfdS T_1 f
      have ry : ∀ {β : Type} (f : Nat → Option β), rfd (S.2.2 1 r) 3 f = f (41 + 2 * r) := fun f => by rw [x1]; exact rfdS t1 f
      unfold F_X6_wished
      rw [X6_isRow_eq, bndS, if10', if_pos hr, hX.r4, X0_here hX, rx, SZ_1, inb_nI hr' (by decide), grdT, hc, ry, g1, bn2S]
    · show F_X7_wished n S2 82 (nI r) = _
      unfold F_X7_wished
      rw [X7_isRow_eq, bndS, if10', if_pos hr, k1, bndS, X7_laid_eq n (by omega) hCM3 hr', bn2S, k4.1]
    · rw [k4.2.2.2 i hi, ← hf]
      exact (if_pos ⟨Nat.zero_le _, hi⟩).symm
  · refine Both.same H (-1) ?_ ?_
    · unfold F_X6_wished
      rw [X6_isRow_eq, bndS, if10', if_neg hr]
    · show F_X7_wished n S 82 r = _
      unfold F_X7_wished
      rw [X7_isRow_eq, bndS, if10', if_neg hr]
