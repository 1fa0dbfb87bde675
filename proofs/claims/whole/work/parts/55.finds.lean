/-! finds: both. -/
theorem and_self0 (a : Nat) (h : a < 128) : a &&& (127 ^^^ a) = 0 := by
  have : ∀ a, a < 128 → a &&& (127 ^^^ a) = 0 := by decide +kernel
  exact this a h
section Lib15
variable {S : aSt} {h C Q T : Nat} {L : Nat → Nat → Nat}
def fqs (L : Nat → Nat → Nat) (C q : Nat) : Nat := bs (fun c => ft L q c) C
theorem fqs_lt (L : Nat → Nat → Nat) {C : Nat} (h : C ≤ 7) (q : Nat) : fqs L C q < 128 := bs_128 _ h
theorem X3_findIn_eq (n : Nat) (hn : 200 < n) (H : CX S h C Q T L) (hr : S.2.2 9 = HRn 9 3) {a : Nat} (h0 : 0 < a) (ha : a < 128) : ∃ S', F_X3_findIn n S 9 h (nI a) = some S' ∧ Sm S S' ∧ S'.1 9 5 = en (fV (fqs L C) Q a).1 ∧ S'.1 9 3 = en (fV (fqs L C) Q a).2 := by
  have hC := H.2.2.2.2.1
  have hQ := H.2.2.2.2.2.1
  have r1 : HRn 9 3 1 = some 11 := rfl
  have r2 : HRn 9 3 2 = some 12 := rfl
  unfold F_X3_findIn
  simp only [jnE]
  have k1 := fun (K : aSt → Option aSt) => lp_ex (fun fu i s => F_X3_findIn_L2 n 9 h K fu i s) K (fun q S' => Sm S S' ∧ ∀ p, p < q → S'.1 11 p = nI (fqs L C p)) Q (fun fu S' hP => ?_) (fun fu q S' hq hP => ?_) Q 0 n S (by omega) (by omega) ⟨Sm.refl S, fun p hp => by omega⟩
  · obtain ⟨S1, hS1, e1⟩ := k1 (fun x27S => F_X3_findIn_L29 n 9 h (nI a) (fun x70S => rfd (x70S.2.2 9 2) 7 fun k72 => grd (inb (nI a) (SH k72).2) (nm (stI x70S 9 5 (x70S.1 k72 (nI a).toNatClampNeg)) fun S77 => some S77)) n 1 x27S)
    rw [show (0 : Int32) = nI 0 from rfl, e1]
    have k2 := lp_ex (fun fu i s => F_X3_findIn_L29 n 9 h (nI a) (fun x70S => rfd (x70S.2.2 9 2) 7 fun k72 => grd (inb (nI a) (SH k72).2) (nm (stI x70S 9 5 (x70S.1 k72 (nI a).toNatClampNeg)) fun S77 => some S77)) fu i s) (fun x70S => rfd (x70S.2.2 9 2) 7 fun k72 => grd (inb (nI a) (SH k72).2) (nm (stI x70S 9 5 (x70S.1 k72 (nI a).toNatClampNeg)) fun S77 => some S77)) (fun x S' => (0 < x ∧ Sm S S' ∧ ∀ p, p < Q → S'.1 11 p = nI (fqs L C p)) ∧ (∀ y, 0 < y → y < x → y &&& (127 ^^^ a) = 0 → S'.1 12 y = en (fV (fqs L C) Q y).1) ∧ (x = a + 1 → S'.1 9 3 = en (fV (fqs L C) Q a).2)) (a + 1) (fun fu S' hP => ?_) (fun fu x S' hx hP => ?_) a 1 n S1 (by omega) (by omega) ⟨⟨by omega, hS1⟩, fun y y0 y1 => by omega, fun z => by omega⟩
    · obtain ⟨S2, hS2, e2⟩ := k2
      rw [show (1 : Int32) = nI 1 from rfl, e2]
      have hr2 : S2.2.2 9 = HRn 9 3 := by rw [hS2.1.2.1.2.2.2]; exact hr
      simp only [nmE, jnE, bn2S, bndS, grdT, stI_22, stL_22, stRow_22, hr2, r2, rfdS T_12, SZ_12, inb_nI ha (by decide), nI_clamp (show a < 2 ^ 31 by omega), hS2.2.1 a h0 (by omega) (and_self0 a ha)]
      refine ⟨_, rfl, hS2.1.2.1.stI (by decide) _ _, by simp [stI_at], ?_⟩
      have := hS2.2.2 rfl
      simp [stI_at, this]
    · show F_X3_findIn_L29 _ _ _ _ _ (fu + 1) _ _ = _
      rw [F_X3_findIn_L29, if_pos (nI_lt (by omega) (by omega))]
    · show ∃ z, _ ∧ F_X3_findIn_L29 _ _ _ _ _ (fu + 1) _ _ = F_X3_findIn_L29 _ _ _ _ _ fu _ z
      obtain ⟨⟨x0, p1, p2⟩, p3, p4⟩ := hP
      rw [F_X3_findIn_L29, if_neg (nI_nlt (show x ≤ a by omega) (by omega)), if_neg (show ¬ (128 : Int32) ≤ nI x from nI_ge (show x < 128 by omega) (by decide)), cp_dec x (by omega) a ha]
      simp only [nmE, jnE, bn2S, bndS, grdT, stI_22, stL_22, stRow_22, nI_1]
      by_cases k : x &&& (127 ^^^ a) = 0
      · have hr1 : S'.2.2 9 = HRn 9 3 := by rw [p1.2.2.2]; exact hr
        obtain ⟨S3, f1, f2, f3, f4⟩ := X3_fewestFor_eq n (by omega) hQ (f := fqs L C) (fun q _ => fqs_lt L hC q) hr1 x0 (show x < 128 by omega) k p2 p3
        rw [k, if_pos (show nI 0 = 0 from rfl), (H.sm p1).2.2.2.1.2.1, f1]
        simp only [nmE, jnE, bn2S, bndS, grdT, stI_22, stL_22, stRow_22, hr1, r2, rfdS T_12, SZ_12, inb_nI (show x < 128 by omega) (by decide), nI_clamp (show x < 2 ^ 31 by omega)]
        have s3 : Sm S' S3 := ⟨fun i q => f3 i (by omega), by rw [f3 82 (by decide)], by rw [f3 82 (by decide)], f4⟩
        refine ⟨_, ⟨⟨by omega, (p1.trans s3).stI (by decide) _ _, fun p hp => ?_⟩, fun y y0 yx yc => ?_, fun z => ?_⟩, rfl⟩
        · rw [stI_ne (by decide), f3 11 (by decide)]; exact p2 p hp
        · rw [stI_at, if_pos rfl]
          by_cases e : y = x
          · rw [if_pos e, e]
          · rw [if_neg e, f3 12 (by decide)]; exact p3 y y0 (by omega) yc
        · rw [stI_ne (by decide), f2, show x = a by omega]
      · rw [if_neg (nI_n0 k (by have : x &&& (127 ^^^ a) ≤ x := Nat.and_le_left; omega))]
        refine ⟨S', ⟨⟨by omega, p1, p2⟩, fun y y0 yx yc => ?_, fun z => ?_⟩, rfl⟩
        · exact p3 y y0 (by rcases Nat.lt_or_ge y x with q | q; exact q; exact absurd (by rw [← show y = x by omega]; exact yc) k) yc
        · exact absurd (by rw [show x = a by omega]; exact and_self0 a ha) k
  · show F_X3_findIn_L2 _ _ _ _ (fu + 1) _ _ = _
    rw [F_X3_findIn_L2, (H.sm hP.1).2.2.2.1.2.1, if_pos (Int32.le_refl _)]
  · show ∃ z, _ ∧ F_X3_findIn_L2 _ _ _ _ (fu + 1) _ _ = F_X3_findIn_L2 _ _ _ _ fu _ z
    have hr1 : S'.2.2 9 = HRn 9 3 := by rw [hP.1.2.2.2]; exact hr
    rw [F_X3_findIn_L2, (H.sm hP.1).2.2.2.1.2.1, if_neg (nI_ge hq (by omega))]
    simp only [nmE, jnE, bn2S, bndS, grdT, stI_22, stL_22, stRow_22, hr1, r1, rfdS T_11, SZ_11, X1_fittingCards_eq n (show 10 < n by omega) (H.sm hP.1) hq, inb_nI (show q < 7 by omega) (by decide), nI_clamp (show q < 2 ^ 31 by omega), nI_1]
    refine ⟨_, ⟨hP.1.stI (by decide) _ _, fun p hp => ?_⟩, rfl⟩
    rw [stI_at, if_pos rfl]
    by_cases e : p = q
    · rw [if_pos e, e]; rfl
    · rw [if_neg e]; exact hP.2 p (by omega)
theorem mx_d2 : ∀ a, a < 100 → ∀ b, b < 100 → (if nI a ≤ nI b then nI b else nI a) = nI (max a b) := by
  intro a ha b hb
  by_cases k : a ≤ b
  · rw [if_pos (nI_le k (by omega)), Nat.max_eq_right k]
  · rw [if_neg (nI_ge (by omega) (by omega)), Nat.max_eq_left (by omega)]
/-- the reference: one set of cards -/
theorem X7_finds_in (n : Nat) (hn : 20 < n) (H : CM S C Q T L) {x : Nat} (h0 : 0 < x) (hx : x < 128) (h2 : ∀ y, 0 < y → y < x → S.1 95 y = nI (fV (fqs L C) Q y).1) (K : Int32 → Int32 → Option (Int32 × aSt)) : F_X7_finds_L50 n 82 (nI x) S K n (if pcn x = 1 then 0 else 99) (-9) 0 = K (nI (fV (fqs L C) Q x).1) (en (fV (fqs L C) Q x).2) := by
  have hC := H.2.2.1
  have hQ := H.2.2.2.1
  rw [fV_eq]
  unfold fv
  by_cases k : pcn x = 1
  · rw [if_pos k, if_pos k]
    obtain ⟨m, rfl⟩ : ∃ m, n = m + 1 := ⟨n - 1, by omega⟩
    rw [F_X7_finds_L50]
    simp only [nmE, jnE, bn2S, bndS, grdT, stI_22, stL_22, stRow_22, HRm, rfdS T_83, rfdS T_84, rfdS T_85, rfdS T_86, rfdS T_87, rfdS T_88, rfdS T_89, rfdS T_90, rfdS T_91, rfdS T_92, rfdS T_93, rfdS T_94, rfdS T_95, rfdS T_96, SZ_83, SZ_84, SZ_85, SZ_86, SZ_87, SZ_88, SZ_89, SZ_90, SZ_91, SZ_92, SZ_93, SZ_94, SZ_95, SZ_96, H.1, in1, H.v1, X7_isOne_eq (m + 1) S hx h0, k]
    by_cases q : nI Q ≤ 0
    · rw [if_pos q]; rfl
    · rw [if_neg q]
      simp only [reduceIte, Bool.false_eq_true, one_ne0]
      rfl
  · rw [if_neg k, if_neg k]
    generalize ht : (fun y => if y < x then (fV (fqs L C) Q y).1 else 99) = t
    have ht1 : ∀ y, y < x → t y = (fV (fqs L C) Q y).1 := fun y hy => by rw [← ht]; exact if_pos hy
    have htb : ∀ y, 0 < y → y < x → t y = 99 ∨ t y ≤ pcn y := fun y y0 yx => by rw [ht1 y yx]; exact fV_bd (fqs L C) Q y0 (by omega)
    refine lp_eq (fun fu (s : Int32 × Int32) i => F_X7_finds_L50 n 82 (nI x) S K fu s.1 s.2 i) (fun s => K s.1 s.2) (fun q => (nI (itr (fs (fqs L C) t x) (99, 99) q).1, en (itr (fs (fqs L C) t x) (99, 99) q).2)) Q (fun fu => ?_) (fun fu q hq => ?_) Q 0 n (by omega) (by omega)
    · show F_X7_finds_L50 _ _ _ _ _ (fu + 1) _ _ _ = _
      rw [F_X7_finds_L50]
      simp only [nmE, jnE, bn2S, bndS, grdT, stI_22, stL_22, stRow_22, HRm, rfdS T_83, rfdS T_84, rfdS T_85, rfdS T_86, rfdS T_87, rfdS T_88, rfdS T_89, rfdS T_90, rfdS T_91, rfdS T_92, rfdS T_93, rfdS T_94, rfdS T_95, rfdS T_96, SZ_83, SZ_84, SZ_85, SZ_86, SZ_87, SZ_88, SZ_89, SZ_90, SZ_91, SZ_92, SZ_93, SZ_94, SZ_95, SZ_96, H.1, in1, H.v1]
      rw [if_pos (Int32.le_refl _)]
    · show F_X7_finds_L50 _ _ _ _ _ (fu + 1) _ _ _ = F_X7_finds_L50 _ _ _ _ _ fu (nI (fs (fqs L C) t x q (itr (fs (fqs L C) t x) (99, 99) q)).1) (en (fs (fqs L C) t x q (itr (fs (fqs L C) t x) (99, 99) q)).2) _
      have hb := itr_b (f := fqs L C) hx htb q (Nat.le_of_lt hq)
      generalize itr (fs (fqs L C) t x) (99, 99) q = w at hb ⊢
      have l1 : x &&& fqs L C q ≤ x := Nat.and_le_left
      have l2 : x &&& (127 ^^^ fqs L C q) ≤ x := Nat.and_le_left
      have n1 : ∀ b, b < 128 → (nI b = 0 ↔ b = 0) := fun b hb => nI_eq (b := 0) (by omega) (by decide)
      rw [F_X7_finds_L50]
      simp only [nmE, jnE, bn2S, bndS, grdT, stI_22, stL_22, stRow_22, HRm, rfdS T_83, rfdS T_84, rfdS T_85, rfdS T_86, rfdS T_87, rfdS T_88, rfdS T_89, rfdS T_90, rfdS T_91, rfdS T_92, rfdS T_93, rfdS T_94, rfdS T_95, rfdS T_96, SZ_83, SZ_84, SZ_85, SZ_86, SZ_87, SZ_88, SZ_89, SZ_90, SZ_91, SZ_92, SZ_93, SZ_94, SZ_95, SZ_96, H.1, in1, H.v1]
      rw [if_neg (nI_ge hq (by omega)), X7_isOne_eq n S hx h0, if_neg k]
      simp only [nmE, jnE, bn2S, bndS, grdT, stI_22, stL_22, stRow_22, HRm, rfdS T_83, rfdS T_84, rfdS T_85, rfdS T_86, rfdS T_87, rfdS T_88, rfdS T_89, rfdS T_90, rfdS T_91, rfdS T_92, rfdS T_93, rfdS T_94, rfdS T_95, rfdS T_96, SZ_83, SZ_84, SZ_85, SZ_86, SZ_87, SZ_88, SZ_89, SZ_90, SZ_91, SZ_92, SZ_93, SZ_94, SZ_95, SZ_96, reduceIte, Bool.false_eq_true, one_ne0, X7_fits_eq n (show 10 < n by omega) H hq]
      rw [show bs (fun c => ft L q c) C = fqs L C q from rfl, fa_and, cp_dec x hx _ (show x &&& fqs L C q < 128 by omega), and_cp x _ hx]
      by_cases k1 : x &&& fqs L C q = 0
      · rw [if_pos ((n1 _ (by omega)).mpr k1), show fs (fqs L C) t x q w = w from if_pos (Or.inl k1), nI_1]
      · rw [if_neg (fun z => k1 ((n1 _ (by omega)).mp z))]
        by_cases k2 : x &&& (127 ^^^ fqs L C q) = 0
        · rw [if_pos ((n1 _ (by omega)).mpr k2), show fs (fqs L C) t x q w = w from if_pos (Or.inr (Or.inl k2)), nI_1]
        · rw [if_neg (fun z => k2 ((n1 _ (by omega)).mp z))]
          have h3 := cut_lt hx k1 k2
          have g1 : S.1 95 (x &&& fqs L C q) = nI (t (x &&& fqs L C q)) := by rw [ht1 _ h3.1]; exact h2 _ (by omega) h3.1
          have g2 : S.1 95 (x &&& (127 ^^^ fqs L C q)) = nI (t (x &&& (127 ^^^ fqs L C q))) := by rw [ht1 _ h3.2]; exact h2 _ (by omega) h3.2
          have b1 := htb _ (by omega) h3.1
          have b2 := htb _ (by omega) h3.2
          have b3 := pcn_7 (x &&& fqs L C q)
          have b4 := pcn_7 (x &&& (127 ^^^ fqs L C q))
          have b5 := pcn_7 x
          simp only [inb_nI (show x &&& fqs L C q < 128 by omega) (by decide), inb_nI (show x &&& (127 ^^^ fqs L C q) < 128 by omega) (by decide), nI_clamp (show x &&& fqs L C q < 2 ^ 31 by omega), nI_clamp (show x &&& (127 ^^^ fqs L C q) < 2 ^ 31 by omega), g1, g2, grdT]
          have hfs : fs (fqs L C) t x q w = if x &&& fqs L C q = 0 ∨ x &&& (127 ^^^ fqs L C q) = 0 ∨ t (x &&& fqs L C q) = 99 ∨ t (x &&& (127 ^^^ fqs L C q)) = 99 then w else if w.1 ≤ 1 + max (t (x &&& fqs L C q)) (t (x &&& (127 ^^^ fqs L C q))) then w else (1 + max (t (x &&& fqs L C q)) (t (x &&& (127 ^^^ fqs L C q))), q) := rfl
          generalize fs (fqs L C) t x q w = z at hfs
          generalize t (x &&& fqs L C q) = ta at b1 hfs
          generalize t (x &&& (127 ^^^ fqs L C q)) = tb at b2 hfs
          have w1 := hb.1
          have e1 : ∀ M : Int32, M = nI (max ta tb) → (1 : Int32) + M = nI (1 + max ta tb) := fun M e => by rw [e]; exact nI_add 1 _
          have key : ∀ M : Int32, M = nI (max ta tb) → (if nI w.1 ≤ (1 : Int32) + M then (if nI w.1 ≤ (1 : Int32) + M then F_X7_finds_L50 n 82 (nI x) S K fu (nI w.1) (en w.2) (nI q + 1) else F_X7_finds_L50 n 82 (nI x) S K fu ((1 : Int32) + M) (en w.2) (nI q + 1)) else (if nI w.1 ≤ (1 : Int32) + M then F_X7_finds_L50 n 82 (nI x) S K fu (nI w.1) (nI q) (nI q + 1) else F_X7_finds_L50 n 82 (nI x) S K fu ((1 : Int32) + M) (nI q) (nI q + 1))) = F_X7_finds_L50 n 82 (nI x) S K fu (nI z.1) (en z.2) (nI (q + 1)) := by
            intro M e
            rw [e1 M e, nI_1]
            by_cases k5 : w.1 ≤ 1 + max ta tb
            · have hz : z = w := by
                rw [hfs]
                split
                · rfl
                · first | rfl | exact if_pos k5
              rw [if_pos (nI_le k5 (by omega)), if_pos (nI_le k5 (by omega)), hz]
            · have hz : z = (1 + max ta tb, q) := by
                rw [hfs, if_neg, if_neg k5]
                rintro (y | y | y | y)
                · exact k1 y
                · exact k2 y
                · omega
                · omega
              rw [if_neg (nI_ge (by omega) (by omega)), if_neg (nI_ge (by omega) (by omega)), hz, en_nI (show ¬ (1 + max ta tb, q).2 = 99 by show ¬ q = 99; omega)]
          by_cases k3 : nI ta ≤ nI tb
          · rw [if_pos k3]
            exact key _ (by have := mx_d2 ta (by omega) tb (by omega); rw [if_pos k3] at this; exact this)
          · rw [if_neg k3]
            exact key _ (by have := mx_d2 ta (by omega) tb (by omega); rw [if_neg k3] at this; exact this)
end Lib15
theorem Both.sameW {S S' : aSt} (H : OK S) (k : Sm S S') {fx : Option (Int32 × aSt)} {fm : aSt → Option (Int32 × aSt)} (r : Int32) {S2 : aSt} (k2 : Sm S' S2) (h1 : fx = some (r, S')) (h2 : fm S' = some (r, S2)) : Both S fx fm := ⟨_, _, _, h1, h2, (H.sm k).sm k2⟩
theorem Both.tellW2 {S S' : aSt} (H : OK S) (k : Sm S S') {fx : Option (Int32 × aSt)} {fm : aSt → Option (Int32 × aSt)} (v r : Int32) {S2 : aSt} (k2 : Sm (xTell S' v) S2) (h1 : fx = some (r, xTell S' v)) (h2 : fm (xTell S' v) = some (r, mTell S2 v)) : Both S fx fm := by
  refine ⟨_, _, _, h1, h2, ?_⟩
  have h3 := (H.sm k).tell v
  refine h3.sm ⟨fun i q => ?_, ?_, ?_, k2.2.2.2⟩
  · unfold mTell; rw [stI_ne (by omega), stI_ne (by omega)]; exact k2.1 i q
  · unfold mTell; simp [stI_at]
  · unfold mTell; simp [stI_at]; exact k2.2.2.1
section Lib16
variable {S : aSt} {h C Q T : Nat} {L : Nat → Nat → Nat}
theorem X7_finds_loop (n : Nat) (hn : 200 < n) (H : CM S C Q T L) {a : Nat} (h0 : 0 < a) (ha : a < 128) (K : aSt → Option (Int32 × aSt)) : ∃ S', F_X7_finds_L24 n 82 (nI a) K n 1 S = K S' ∧ Sm S S' ∧ S'.1 95 a = nI (fV (fqs L C) Q a).1 ∧ S'.1 96 a = en (fV (fqs L C) Q a).2 := by
  have hC := H.2.2.1
  have key := lp_ex (fun fu i s => F_X7_finds_L24 n 82 (nI a) K fu i s) K (fun x S' => (0 < x ∧ Sm S S') ∧ ∀ y, 0 < y → y < x → S'.1 95 y = nI (fV (fqs L C) Q y).1 ∧ S'.1 96 y = en (fV (fqs L C) Q y).2) (a + 1) (fun fu S' hP => ?_) (fun fu x S' hx hP => ?_) a 1 n S (by omega) (by omega) ⟨⟨by omega, Sm.refl S⟩, fun y y0 y1 => by omega⟩
  · obtain ⟨S', hS, e⟩ := key
    exact ⟨S', e, hS.1.2, hS.2 a h0 (by omega)⟩
  · show F_X7_finds_L24 _ _ _ _ (fu + 1) _ _ = _
    rw [F_X7_finds_L24, if_pos (nI_lt (by omega) (by omega))]
  · show ∃ z, _ ∧ F_X7_finds_L24 _ _ _ _ (fu + 1) _ _ = F_X7_finds_L24 _ _ _ _ fu _ z
    obtain ⟨⟨x0, p1⟩, p2⟩ := hP
    have H' := H.sm p1
    have hx' : x < 128 := by omega
    rw [F_X7_finds_L24, if_neg (nI_nlt (show x ≤ a by omega) (by omega)), X7_isOne_eq n S' hx' x0]
    simp only [nmE, jnE, bn2S, bndS, grdT, stI_22, stL_22, stRow_22, HRm, rfdS T_83, rfdS T_84, rfdS T_85, rfdS T_86, rfdS T_87, rfdS T_88, rfdS T_89, rfdS T_90, rfdS T_91, rfdS T_92, rfdS T_93, rfdS T_94, rfdS T_95, rfdS T_96, SZ_83, SZ_84, SZ_85, SZ_86, SZ_87, SZ_88, SZ_89, SZ_90, SZ_91, SZ_92, SZ_93, SZ_94, SZ_95, SZ_96, H'.1]
    have e0 : ∀ (A B : Option (Int32 × aSt)), (if (if pcn x = 1 then (1 : Int32) else 0) = 0 then A else B) = if pcn x = 1 then B else A := fun A B => if10' A B
    rw [e0]
    have hin := X7_finds_in n (by omega) H' x0 hx' (fun y y0 yx => (p2 y y0 yx).1)
    have hif : ∀ (K : Int32 → Int32 → Option (Int32 × aSt)), (if pcn x = 1 then F_X7_finds_L50 n 82 (nI x) S' K n 0 (-9) 0 else F_X7_finds_L50 n 82 (nI x) S' K n 99 (-9) 0) = K (nI (fV (fqs L C) Q x).1) (en (fV (fqs L C) Q x).2) := by
      intro K
      have := hin K
      by_cases k : pcn x = 1
      · rw [if_pos k] at this ⊢; exact this
      · rw [if_neg k] at this ⊢; exact this
    rw [hif]
    simp only [inb_nI hx' (by decide), nI_clamp (show x < 2 ^ 31 by omega), grdT, nI_1]
    refine ⟨_, ⟨⟨by omega, (p1.stI (by decide) _ _).stI (by decide) _ _⟩, fun y y0 yx => ?_⟩, rfl⟩
    by_cases e : y = x
    · subst e
      simp [stI_at]
    · have := p2 y y0 (by omega)
      simp [stI_at, e, this]
end Lib16
theorem op_finds (n : Nat) (hn : 1000 < n) {S : aSt} (H : OK S) (a : Int32) : Both S (F_X6_finds n S 0 a) (fun S1 => F_X7_finds n S1 82 a) := by
  obtain ⟨h, d, C, Q, T, L, hX, hM, hCX, hCM, hk⟩ := H.get
  have hC := hCM.2.2.1
  have r5 : HR0 h d 5 = some 9 := rfl
  have hp : 2 ^ C ≤ 128 := Nat.pow_le_pow_right (n := 2) (by decide) hC
  have hp1 : 1 ≤ 2 ^ C := Nat.one_le_two_pow
  have e1 : (1 : Int32).toInt = 1 := rfl
  have e0 : (0 : Int32).toInt = 0 := rfl
  have ei := fun S => X7_in_i n S a 1 (nI (2 ^ C - 1))
  rw [e1, nI_toInt (show 2 ^ C - 1 < 2 ^ 31 by omega)] at ei
  have es : (1 : Int32) <<< (nI C &&& 31) - 1 = nI (2 ^ C - 1) := by rw [shl1 C (by omega)]; exact pk_sub hp1
  by_cases ha : 1 ≤ a.toInt ∧ a.toInt ≤ ((2 ^ C - 1 : Nat) : Int)
  · have hi : inb a (2 ^ C) = true := inb_iff.mpr ⟨by omega, by omega⟩
    obtain ⟨a, ha', rfl⟩ := inb_ex hi (by omega)
    have ht := nI_toInt (show a < 2 ^ 31 by omega)
    rw [ht] at ha
    have h0 : 0 < a := by omega
    have h128 : a < 128 := by omega
    obtain ⟨S1, f1, f2, f3, f4⟩ := X3_findIn_eq n (by omega) hCX hX.2.2.2.2.2.2.2.1 h0 h128
    have hr : S1.2.2 0 = HR0 h d := by rw [f2.2.2.2]; exact hX.2.1
    have hlt := fV_lt (fqs L C) Q h0 h128
    by_cases k : (fV (fqs L C) Q a).1 = 99
    · have hCM1 : CM S1 C Q T L := hCM.sm f2
      obtain ⟨S2, g1, g2, g3, g4⟩ := X7_finds_loop n (by omega) hCM1 h0 h128 (fun (x189S : aSt) => (rfd (x189S.2.2 82 19) 7 fun k190 => grd (inb (nI a) (SH k190).2) <| if (x189S.1 k190 (nI a).toNatClampNeg) < (99 : Int32) then (rfd (x189S.2.2 82 20) 7 fun k205 => grd (inb (nI a) (SH k205).2) <| bn2 (F_X7_tell n x189S 82 (x189S.1 k205 (nI a).toNatClampNeg)) fun r210 S210 => rfd (S210.2.2 82 19) 7 fun k215 => grd (inb (nI a) (SH k215).2) <| some ((S210.1 k215 (nI a).toNatClampNeg), S210)) else some ((-9 : Int32), x189S)))
      refine Both.sameW H f2 (-9) g2 ?_ ?_
      · unfold F_X6_finds
        rw [if_neg (show ¬ nI a ≤ 0 from nI_ge h0 (by omega)), X0_here hX, hCX.2.2.2.1.1, shl1 C (by omega), if_pos (nI_lt ha' (by omega))]
        simp only [nmE, jnE, bn2S, bndS, grdT, stI_22, stL_22, stRow_22, hX.2.1, r5, rfdS T_9, f1, hr, f3, k, en_99, if_true]
      · show F_X7_finds n S1 82 (nI a) = _
        unfold F_X7_finds
        rw [show (1 : Int64) = (1 : Int32).toInt64 from rfl]
        simp only [nmE, jnE, bn2S, bndS, grdT, stI_22, stL_22, stRow_22, HRm, rfdS T_83, rfdS T_84, rfdS T_85, rfdS T_86, rfdS T_87, rfdS T_88, rfdS T_89, rfdS T_90, rfdS T_91, rfdS T_92, rfdS T_93, rfdS T_94, rfdS T_95, rfdS T_96, SZ_83, SZ_84, SZ_85, SZ_86, SZ_87, SZ_88, SZ_89, SZ_90, SZ_91, SZ_92, SZ_93, SZ_94, SZ_95, SZ_96, hCM1.1, in0, hCM1.v0, es, ei, ht, ha, and_self, reduceIte, Bool.false_eq_true, one_ne0]
        refine g1.trans ?_
        simp only [nmE, jnE, bn2S, bndS, grdT, stI_22, stL_22, stRow_22, HRm, rfdS T_83, rfdS T_84, rfdS T_85, rfdS T_86, rfdS T_87, rfdS T_88, rfdS T_89, rfdS T_90, rfdS T_91, rfdS T_92, rfdS T_93, rfdS T_94, rfdS T_95, rfdS T_96, SZ_83, SZ_84, SZ_85, SZ_86, SZ_87, SZ_88, SZ_89, SZ_90, SZ_91, SZ_92, SZ_93, SZ_94, SZ_95, SZ_96, (hCM1.sm g2).1, inb_nI h128 (by decide), nI_clamp (show a < 2 ^ 31 by omega), g3, k]
        rw [if_neg (by decide)]
    · have hCM1 : CM (xTell S1 (en (fV (fqs L C) Q a).2)) C Q T L := (hCM.sm f2).congr rfl (xTell_m (by decide))
      obtain ⟨S2, g1, g2, g3, g4⟩ := X7_finds_loop n (by omega) hCM1 h0 h128 (fun (x189S : aSt) => (rfd (x189S.2.2 82 19) 7 fun k190 => grd (inb (nI a) (SH k190).2) <| if (x189S.1 k190 (nI a).toNatClampNeg) < (99 : Int32) then (rfd (x189S.2.2 82 20) 7 fun k205 => grd (inb (nI a) (SH k205).2) <| bn2 (F_X7_tell n x189S 82 (x189S.1 k205 (nI a).toNatClampNeg)) fun r210 S210 => rfd (S210.2.2 82 19) 7 fun k215 => grd (inb (nI a) (SH k215).2) <| some ((S210.1 k215 (nI a).toNatClampNeg), S210)) else some ((-9 : Int32), x189S)))
      refine Both.tellW2 H f2 (en (fV (fqs L C) Q a).2) (nI (fV (fqs L C) Q a).1) g2 ?_ ?_
      · unfold F_X6_finds
        rw [if_neg (show ¬ nI a ≤ 0 from nI_ge h0 (by omega)), X0_here hX, hCX.2.2.2.1.1, shl1 C (by omega), if_pos (nI_lt ha' (by omega))]
        simp only [nmE, jnE, bn2S, bndS, grdT, stI_22, stL_22, stRow_22, hX.2.1, r5, rfdS T_9, f1, hr, f3]
        rw [if_neg (fun z => k ((en_m9 (by omega)).mp z)), stI_ne (by decide), f3, f4, en_nI k]
        rfl
      · show F_X7_finds n (xTell S1 (en (fV (fqs L C) Q a).2)) 82 (nI a) = _
        unfold F_X7_finds
        rw [show (1 : Int64) = (1 : Int32).toInt64 from rfl]
        simp only [nmE, jnE, bn2S, bndS, grdT, stI_22, stL_22, stRow_22, HRm, rfdS T_83, rfdS T_84, rfdS T_85, rfdS T_86, rfdS T_87, rfdS T_88, rfdS T_89, rfdS T_90, rfdS T_91, rfdS T_92, rfdS T_93, rfdS T_94, rfdS T_95, rfdS T_96, SZ_83, SZ_84, SZ_85, SZ_86, SZ_87, SZ_88, SZ_89, SZ_90, SZ_91, SZ_92, SZ_93, SZ_94, SZ_95, SZ_96, hCM1.1, in0, hCM1.v0, es, ei, ht, ha, and_self, reduceIte, Bool.false_eq_true, one_ne0]
        refine g1.trans ?_
        simp only [nmE, jnE, bn2S, bndS, grdT, stI_22, stL_22, stRow_22, HRm, rfdS T_83, rfdS T_84, rfdS T_85, rfdS T_86, rfdS T_87, rfdS T_88, rfdS T_89, rfdS T_90, rfdS T_91, rfdS T_92, rfdS T_93, rfdS T_94, rfdS T_95, rfdS T_96, SZ_83, SZ_84, SZ_85, SZ_86, SZ_87, SZ_88, SZ_89, SZ_90, SZ_91, SZ_92, SZ_93, SZ_94, SZ_95, SZ_96, (hCM1.sm g2).1, inb_nI h128 (by decide), nI_clamp (show a < 2 ^ 31 by omega), g3]
        rw [if_pos (show nI (fV (fqs L C) Q a).1 < (99 : Int32) from nI_lt (b := 99) (by omega) (by decide))]
        simp only [g4, X7_tell_eq, nmE, jnE, bn2S, bndS, grdT, stI_22, stL_22, stRow_22, HRm, rfdS T_83, rfdS T_84, rfdS T_85, rfdS T_86, rfdS T_87, rfdS T_88, rfdS T_89, rfdS T_90, rfdS T_91, rfdS T_92, rfdS T_93, rfdS T_94, rfdS T_95, rfdS T_96, SZ_83, SZ_84, SZ_85, SZ_86, SZ_87, SZ_88, SZ_89, SZ_90, SZ_91, SZ_92, SZ_93, SZ_94, SZ_95, SZ_96, show (mTell S2 (en (fV (fqs L C) Q a).2)).2.2 = S2.2.2 from rfl, (hCM1.sm g2).1]
        rw [show (mTell S2 (en (fV (fqs L C) Q a).2)).1 95 = S2.1 95 from stI_ne (by decide), g3, inb_nI h128 (by decide)]
        rfl
  · refine Both.same H (-1) ?_ ?_
    · unfold F_X6_finds
      by_cases k : a ≤ 0
      · rw [if_pos k]
      · rw [if_neg k, X0_here hX, hCX.2.2.2.1.1, shl1 C (by omega), if_neg]
        rw [Int32.le_iff_toInt_le, e0] at k
        rw [Int32.lt_iff_toInt_lt, nI_toInt (by omega)]
        omega
    · unfold F_X7_finds
      rw [show (1 : Int64) = (1 : Int32).toInt64 from rfl]
      simp only [nmE, jnE, bn2S, bndS, grdT, stI_22, stL_22, stRow_22, HRm, rfdS T_83, rfdS T_84, rfdS T_85, rfdS T_86, rfdS T_87, rfdS T_88, rfdS T_89, rfdS T_90, rfdS T_91, rfdS T_92, rfdS T_93, rfdS T_94, rfdS T_95, rfdS T_96, SZ_83, SZ_84, SZ_85, SZ_86, SZ_87, SZ_88, SZ_89, SZ_90, SZ_91, SZ_92, SZ_93, SZ_94, SZ_95, SZ_96, hCM.1, in0, hCM.v0, es, ei, ha, reduceIte, Bool.false_eq_true, one_ne0]
