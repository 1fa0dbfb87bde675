/-! digest. -/
def dg (f : Nat → Int32) (a : Int64) : Nat → Int64 := itr (fun i a => 31 * a + (f i).toInt64) a
def dg2 (f : Nat → Nat → Int32) (a : Int64) : Nat → Int64 := itr (fun c a => dg (f c) a 6) a
def rg (S : aSt) (r : Nat) (a : Int64) : Int64 := dg (fun i => S.1 84 (40 * r + i)) (31 * a + (S.1 83 r).toInt64) (S.1 83 r).toNatClampNeg
def tg (S : aSt) (r : Nat) (a : Int64) : Int64 := dg (fun i => S.1 86 (80 * r + i)) (31 * a + (S.1 85 r).toInt64) (S.1 85 r).toNatClampNeg
theorem itr_cong {α : Type} {f g : Nat → α → α} {a : α} {m : Nat} : (∀ i, i < m → ∀ x, f i x = g i x) → itr f a m = itr g a m := by
  induction m with
  | zero => intro _; rfl
  | succ m ih =>
    intro h
    show f m (itr f a m) = g m (itr g a m)
    rw [ih (fun i hi => h i (by omega)), h m (by omega)]
theorem dg_cong {f g : Nat → Int32} {a : Int64} {m : Nat} (h : ∀ i, i < m → f i = g i) : dg f a m = dg g a m := by
  unfold dg
  exact itr_cong fun i hi x => by rw [h i hi]
theorem le_clamp {x : Int32} (h : x = -1 ∨ ∃ m, m ≤ 80 ∧ x = nI m) : ∃ m, m ≤ 80 ∧ x.toNatClampNeg = m ∧ (∀ i, i < m → x = nI m) ∧ x ≤ nI m ∧ ∀ i, i < m → ¬ x ≤ nI i := by
  rcases h with rfl | ⟨m, hm, rfl⟩
  · exact ⟨0, by omega, by decide, fun i hi => by omega, by decide, fun i hi => by omega⟩
  · exact ⟨m, hm, nI_clamp (by omega), fun _ _ => rfl, Int32.le_refl _, fun i hi => nI_ge hi (by omega)⟩
section Lib24
variable {S : aSt} {h C Q T : Nat} {L : Nat → Nat → Nat}
theorem X4_foldInto_eq (n : Nat) (hn : 100 < n) {k N : Nat} (hr : S.2.2 k 0 = some (k + 1)) (hT : isT (k + 1) 7 = true) (hN : (SH (k + 1)).2 = N) (hNs : N ≤ 80) {x : Int32} (e : S.1 k 1 = x) (hx : x = -1 ∨ ∃ m, m ≤ N ∧ x = nI m) (a : Int64) : F_X4_foldInto n S k a = some (dg (S.1 (k + 1)) (31 * a + x.toInt64) x.toNatClampNeg) := by
  obtain ⟨m, hm, h1, h2, h3, h4⟩ := le_clamp (x := x) (by rcases hx with z | ⟨m, z, y⟩; exact Or.inl z; exact Or.inr ⟨m, by omega, y⟩)
  have hmN : m ≤ N := by
    rcases hx with rfl | ⟨m', z, rfl⟩
    · have : (-1 : Int32).toNatClampNeg = 0 := by decide
      omega
    · rw [nI_clamp (by omega)] at h1; omega
  unfold F_X4_foldInto
  simp only [nmE, jnE, bn2S, bndS, grdT, stI_22, stL_22, stRow_22]
  rw [e, h1]
  refine lp_it (fun fu a i => F_X4_foldInto_L15 S k (fun x => some x) fu a i) (fun x => some x) _ m n _ (by omega) (fun fu a => ?_) (fun fu i a hi => ?_)
  · show F_X4_foldInto_L15 _ _ _ (fu + 1) _ _ = _
    rw [F_X4_foldInto_L15, e, if_pos h3]
  · show F_X4_foldInto_L15 _ _ _ (fu + 1) _ _ = F_X4_foldInto_L15 _ _ _ fu _ _
    rw [F_X4_foldInto_L15, e, if_neg (h4 i hi)]
    simp only [nmE, jnE, bn2S, bndS, grdT, stI_22, stL_22, stRow_22, hr, rfdS hT, hN, inb_nI (show i < N by omega) (by omega), nI_clamp (show i < 2 ^ 31 by omega), nI_1]
theorem X7_rows_fold (n : Nat) (hn : 100 < n) (hM : S.2.2 82 = HRm) (hR : PR S) (a : Int64) (K : Int64 → Option Int64) : F_X7_digest_L220 n S 82 K n a 0 = K (itr (rg S) a 6) := by
  refine lp_it (fun fu a i => F_X7_digest_L220 n S 82 K fu a i) K _ 6 n a (by omega) (fun fu a => ?_) (fun fu r a hr => ?_)
  · show F_X7_digest_L220 _ _ _ _ (fu + 1) _ _ = _
    rw [F_X7_digest_L220, if_pos (by decide)]
  · show F_X7_digest_L220 _ _ _ _ (fu + 1) _ _ = F_X7_digest_L220 _ _ _ _ fu _ _
    obtain ⟨m, hm, h1, h2, h3, h4⟩ := le_clamp (x := S.1 83 r) (by rcases (hR r hr).2 with z | ⟨m, z, y, -⟩; exact Or.inl z; exact Or.inr ⟨m, by omega, y⟩)
    have hm40 : m ≤ 40 := by
      rcases (hR r hr).2 with z | ⟨m', z, y, -⟩
      · rw [z] at h1
        have : (-1 : Int32).toNatClampNeg = 0 := by decide
        omega
      · rw [y, nI_clamp (by omega)] at h1; omega
    rw [F_X7_digest_L220, if_neg (show ¬ (6 : Int32) ≤ nI r from nI_ge hr (by decide))]
    simp only [nmE, jnE, bn2S, bndS, grdT, stI_22, stL_22, stRow_22, HRm, rfdS T_83, rfdS T_84, rfdS T_85, rfdS T_86, rfdS T_87, rfdS T_88, rfdS T_89, rfdS T_90, rfdS T_91, rfdS T_92, rfdS T_93, rfdS T_94, rfdS T_95, rfdS T_96, SZ_83, SZ_84, SZ_85, SZ_86, SZ_87, SZ_88, SZ_89, SZ_90, SZ_91, SZ_92, SZ_93, SZ_94, SZ_95, SZ_96, hM, inb_nI (show r < 6 from hr) (by decide), nI_clamp (show r < 2 ^ 31 by omega), nI_1]
    unfold rg
    rw [h1]
    refine lp_it (fun fu2 a i => F_X7_digest_L243 S 82 (nI r) 83 (fun x => F_X7_digest_L220 n S 82 K fu x (nI (r + 1))) fu2 a i) (fun x => F_X7_digest_L220 n S 82 K fu x (nI (r + 1))) _ m n _ (by omega) (fun fu2 a => ?_) (fun fu2 i a hi => ?_)
    · show F_X7_digest_L243 _ _ _ _ _ (fu2 + 1) _ _ = _
      rw [F_X7_digest_L243]
      simp only [nmE, jnE, bn2S, bndS, grdT, stI_22, stL_22, stRow_22, HRm, rfdS T_83, rfdS T_84, rfdS T_85, rfdS T_86, rfdS T_87, rfdS T_88, rfdS T_89, rfdS T_90, rfdS T_91, rfdS T_92, rfdS T_93, rfdS T_94, rfdS T_95, rfdS T_96, SZ_83, SZ_84, SZ_85, SZ_86, SZ_87, SZ_88, SZ_89, SZ_90, SZ_91, SZ_92, SZ_93, SZ_94, SZ_95, SZ_96, inb_nI (show r < 6 from hr) (by decide), nI_clamp (show r < 2 ^ 31 by omega)]
      rw [if_pos h3]
    · show F_X7_digest_L243 _ _ _ _ _ (fu2 + 1) _ _ = F_X7_digest_L243 _ _ _ _ _ fu2 _ _
      rw [F_X7_digest_L243]
      simp only [nmE, jnE, bn2S, bndS, grdT, stI_22, stL_22, stRow_22, HRm, rfdS T_83, rfdS T_84, rfdS T_85, rfdS T_86, rfdS T_87, rfdS T_88, rfdS T_89, rfdS T_90, rfdS T_91, rfdS T_92, rfdS T_93, rfdS T_94, rfdS T_95, rfdS T_96, SZ_83, SZ_84, SZ_85, SZ_86, SZ_87, SZ_88, SZ_89, SZ_90, SZ_91, SZ_92, SZ_93, SZ_94, SZ_95, SZ_96, inb_nI (show r < 6 from hr) (by decide), nI_clamp (show r < 2 ^ 31 by omega)]
      rw [if_neg (h4 i hi)]
      simp only [nmE, jnE, bn2S, bndS, grdT, stI_22, stL_22, stRow_22, HRm, rfdS T_83, rfdS T_84, rfdS T_85, rfdS T_86, rfdS T_87, rfdS T_88, rfdS T_89, rfdS T_90, rfdS T_91, rfdS T_92, rfdS T_93, rfdS T_94, rfdS T_95, rfdS T_96, SZ_83, SZ_84, SZ_85, SZ_86, SZ_87, SZ_88, SZ_89, SZ_90, SZ_91, SZ_92, SZ_93, SZ_94, SZ_95, SZ_96, hM, li_40, pk_mul, nI_add, inb_nI (show 40 * r + i < 240 by omega) (by decide), nI_clamp (show 40 * r + i < 2 ^ 31 by omega), nI_1]
theorem X7_texts_fold (n : Nat) (hn : 100 < n) (hM : S.2.2 82 = HRm) (hR : PT S) (a : Int64) (K : Int64 → Option Int64) : F_X7_digest_L288 n S 82 K n a 0 = K (itr (tg S) a 4) := by
  refine lp_it (fun fu a i => F_X7_digest_L288 n S 82 K fu a i) K _ 4 n a (by omega) (fun fu a => ?_) (fun fu r a hr => ?_)
  · show F_X7_digest_L288 _ _ _ _ (fu + 1) _ _ = _
    rw [F_X7_digest_L288, if_pos (by decide)]
  · show F_X7_digest_L288 _ _ _ _ (fu + 1) _ _ = F_X7_digest_L288 _ _ _ _ fu _ _
    obtain ⟨m, hm, h1, h2, h3, h4⟩ := le_clamp (x := S.1 85 r) (by rcases (hR r hr).2 with z | ⟨m, z, y, -⟩; exact Or.inl z; exact Or.inr ⟨m, by omega, y⟩)
    rw [F_X7_digest_L288, if_neg (show ¬ (4 : Int32) ≤ nI r from nI_ge hr (by decide))]
    simp only [nmE, jnE, bn2S, bndS, grdT, stI_22, stL_22, stRow_22, HRm, rfdS T_83, rfdS T_84, rfdS T_85, rfdS T_86, rfdS T_87, rfdS T_88, rfdS T_89, rfdS T_90, rfdS T_91, rfdS T_92, rfdS T_93, rfdS T_94, rfdS T_95, rfdS T_96, SZ_83, SZ_84, SZ_85, SZ_86, SZ_87, SZ_88, SZ_89, SZ_90, SZ_91, SZ_92, SZ_93, SZ_94, SZ_95, SZ_96, hM, inb_nI (show r < 4 from hr) (by decide), nI_clamp (show r < 2 ^ 31 by omega), nI_1]
    unfold tg
    rw [h1]
    refine lp_it (fun fu2 a i => F_X7_digest_L310 S 82 (nI r) 85 (fun x => F_X7_digest_L288 n S 82 K fu x (nI (r + 1))) fu2 a i) (fun x => F_X7_digest_L288 n S 82 K fu x (nI (r + 1))) _ m n _ (by omega) (fun fu2 a => ?_) (fun fu2 i a hi => ?_)
    · show F_X7_digest_L310 _ _ _ _ _ (fu2 + 1) _ _ = _
      rw [F_X7_digest_L310]
      simp only [nmE, jnE, bn2S, bndS, grdT, stI_22, stL_22, stRow_22, HRm, rfdS T_83, rfdS T_84, rfdS T_85, rfdS T_86, rfdS T_87, rfdS T_88, rfdS T_89, rfdS T_90, rfdS T_91, rfdS T_92, rfdS T_93, rfdS T_94, rfdS T_95, rfdS T_96, SZ_83, SZ_84, SZ_85, SZ_86, SZ_87, SZ_88, SZ_89, SZ_90, SZ_91, SZ_92, SZ_93, SZ_94, SZ_95, SZ_96, inb_nI (show r < 4 from hr) (by decide), nI_clamp (show r < 2 ^ 31 by omega)]
      rw [if_pos h3]
    · show F_X7_digest_L310 _ _ _ _ _ (fu2 + 1) _ _ = F_X7_digest_L310 _ _ _ _ _ fu2 _ _
      rw [F_X7_digest_L310]
      simp only [nmE, jnE, bn2S, bndS, grdT, stI_22, stL_22, stRow_22, HRm, rfdS T_83, rfdS T_84, rfdS T_85, rfdS T_86, rfdS T_87, rfdS T_88, rfdS T_89, rfdS T_90, rfdS T_91, rfdS T_92, rfdS T_93, rfdS T_94, rfdS T_95, rfdS T_96, SZ_83, SZ_84, SZ_85, SZ_86, SZ_87, SZ_88, SZ_89, SZ_90, SZ_91, SZ_92, SZ_93, SZ_94, SZ_95, SZ_96, inb_nI (show r < 4 from hr) (by decide), nI_clamp (show r < 2 ^ 31 by omega)]
      rw [if_neg (h4 i hi)]
      simp only [nmE, jnE, bn2S, bndS, grdT, stI_22, stL_22, stRow_22, HRm, rfdS T_83, rfdS T_84, rfdS T_85, rfdS T_86, rfdS T_87, rfdS T_88, rfdS T_89, rfdS T_90, rfdS T_91, rfdS T_92, rfdS T_93, rfdS T_94, rfdS T_95, rfdS T_96, SZ_83, SZ_84, SZ_85, SZ_86, SZ_87, SZ_88, SZ_89, SZ_90, SZ_91, SZ_92, SZ_93, SZ_94, SZ_95, SZ_96, hM, li_80, pk_mul, nI_add, inb_nI (show 80 * r + i < 320 by omega) (by decide), nI_clamp (show 80 * r + i < 2 ^ 31 by omega), nI_1]
theorem X6_rows_fold (n : Nat) (hn : 100 < n) {d : Nat} (hX : RfX S h d) (hR : PR S) (a : Int64) (K : Int64 → Option Int64) : F_X6_digest_L72 n S 0 K n a 0 = K (itr (rg S) a 6) := by
  refine lp_it (fun fu a i => F_X6_digest_L72 n S 0 K fu a i) K _ 6 n a (by omega) (fun fu a => ?_) (fun fu r a hr => ?_)
  · show F_X6_digest_L72 _ _ _ _ (fu + 1) _ _ = _
    rw [F_X6_digest_L72, if_pos (by decide)]
  · show F_X6_digest_L72 _ _ _ _ (fu + 1) _ _ = F_X6_digest_L72 _ _ _ _ fu _ _
    obtain ⟨x1, x2⟩ := xrow hX hr
    obtain ⟨t1, t2, t3⟩ := rowT hr
    obtain ⟨e1, e2⟩ := hR r hr
    have hx : S.1 83 r = -1 ∨ ∃ m, m ≤ 40 ∧ S.1 83 r = nI m := by rcases e2 with z | ⟨m, z, y, -⟩; exact Or.inl z; exact Or.inr ⟨m, z, y⟩
    rw [F_X6_digest_L72, if_neg (show ¬ (6 : Int32) ≤ nI r from nI_ge hr (by decide))]
    simp only [nmE, jnE, bn2S, bndS, grdT, stI_22, stL_22, stRow_22, HR0, rfdS T_1, rfdS T_2, rfdS T_3, rfdS T_4, rfdS T_5, rfdS T_9, SZ_1, SZ_2, SZ_3, SZ_4, hX.2.1, inb_nI (show r < 6 from hr) (by decide), nI_clamp (show r < 2 ^ 31 by omega), x1, rfdS t1, X4_foldInto_eq n hn x2 t2 t3 (by decide) e1 hx, nI_1]
    unfold rg
    rw [dg_cong (fun i hi => ?_)]
    rcases e2 with z | ⟨m, z, y, q⟩
    · rw [z] at hi
      have : (-1 : Int32).toNatClampNeg = 0 := by decide
      omega
    · rw [y, nI_clamp (by omega)] at hi
      exact q i hi
theorem X6_texts_fold (n : Nat) (hn : 100 < n) {d : Nat} (hX : RfX S h d) (hR : PT S) (a : Int64) (K : Int64 → Option Int64) : F_X6_digest_L97 n S 0 K n a 0 = K (itr (tg S) a 4) := by
  refine lp_it (fun fu a i => F_X6_digest_L97 n S 0 K fu a i) K _ 4 n a (by omega) (fun fu a => ?_) (fun fu r a hr => ?_)
  · show F_X6_digest_L97 _ _ _ _ (fu + 1) _ _ = _
    rw [F_X6_digest_L97, if_pos (by decide)]
  · show F_X6_digest_L97 _ _ _ _ (fu + 1) _ _ = F_X6_digest_L97 _ _ _ _ fu _ _
    obtain ⟨x1, x2⟩ := xtxt hX hr
    obtain ⟨t1, t2, t3⟩ := txtT hr
    obtain ⟨e1, e2⟩ := hR r hr
    have hx : S.1 85 r = -1 ∨ ∃ m, m ≤ 80 ∧ S.1 85 r = nI m := by rcases e2 with z | ⟨m, z, y, -⟩; exact Or.inl z; exact Or.inr ⟨m, z, y⟩
    rw [F_X6_digest_L97, if_neg (show ¬ (4 : Int32) ≤ nI r from nI_ge hr (by decide))]
    simp only [nmE, jnE, bn2S, bndS, grdT, stI_22, stL_22, stRow_22, HR0, rfdS T_1, rfdS T_2, rfdS T_3, rfdS T_4, rfdS T_5, rfdS T_9, SZ_1, SZ_2, SZ_3, SZ_4, hX.2.1, inb_nI (show r < 4 from hr) (by decide), nI_clamp (show r < 2 ^ 31 by omega), x1, rfdS t1, X4_foldInto_eq n hn x2 t2 t3 (by decide) e1 hx, nI_1]
    unfold tg
    rw [dg_cong (fun i hi => ?_)]
    rcases e2 with z | ⟨m, z, y, q⟩
    · rw [z] at hi
      have : (-1 : Int32).toNatClampNeg = 0 := by decide
      omega
    · rw [y, nI_clamp (by omega)] at hi
      exact q i hi
theorem X1_lib_fold (n : Nat) (hn : 100 < n) (H : CX S h C Q T L) (a : Int64) : F_X1_foldInto n S h a = some (dg (fun t => nI (L 10 t)) (dg2 (qf L) (dg2 (cf L) a C) Q) T) := by
  have hw := H.2.2.2.2
  have h7 := hw.1
  have hQ := hw.2.1
  have hT := hw.2.2.1
  unfold F_X1_foldInto
  simp only [jnE]
  have k1 : ∀ K : Int64 → Option Int64, F_X1_foldInto_L5 n S h K n a 0 = K (dg2 (cf L) a C) := fun K => by
    refine lp_it (fun fu a i => F_X1_foldInto_L5 n S h K fu a i) K _ C n a (by omega) (fun fu a => ?_) (fun fu c a hc => ?_)
    · show F_X1_foldInto_L5 _ _ _ _ (fu + 1) _ _ = _
      rw [F_X1_foldInto_L5, H.2.2.2.1.1, if_pos (Int32.le_refl _)]
    · show F_X1_foldInto_L5 _ _ _ _ (fu + 1) _ _ = F_X1_foldInto_L5 _ _ _ _ fu _ _
      rw [F_X1_foldInto_L5, H.2.2.2.1.1, if_neg (nI_ge hc (by omega))]
      simp only [jnE, nI_1]
      refine lp_it (fun fu2 a i => F_X1_foldInto_L17 n S h (nI c) (fun x => F_X1_foldInto_L5 n S h K fu x (nI (c + 1))) fu2 a i) (fun x => F_X1_foldInto_L5 n S h K fu x (nI (c + 1))) _ 6 n a (by omega) (fun fu2 a => ?_) (fun fu2 w a hw6 => ?_)
      · show F_X1_foldInto_L17 _ _ _ _ _ (fu2 + 1) _ _ = _
        rw [F_X1_foldInto_L17, if_pos (by decide)]
      · show F_X1_foldInto_L17 _ _ _ _ _ (fu2 + 1) _ _ = F_X1_foldInto_L17 _ _ _ _ _ fu2 _ _
        rw [F_X1_foldInto_L17, if_neg (show ¬ (6 : Int32) ≤ nI w from nI_ge hw6 (by decide)), X1_cardFact_eq n (by omega) H hc hw6]
        simp only [nmE, jnE, bn2S, bndS, grdT, stI_22, stL_22, stRow_22, nI_1]
  have k2 : ∀ (a : Int64) (K : Int64 → Option Int64), F_X1_foldInto_L55 n S h K n a 0 = K (dg2 (qf L) a Q) := fun a K => by
    refine lp_it (fun fu a i => F_X1_foldInto_L55 n S h K fu a i) K _ Q n a (by omega) (fun fu a => ?_) (fun fu q a hq => ?_)
    · show F_X1_foldInto_L55 _ _ _ _ (fu + 1) _ _ = _
      rw [F_X1_foldInto_L55, H.2.2.2.1.2.1, if_pos (Int32.le_refl _)]
    · show F_X1_foldInto_L55 _ _ _ _ (fu + 1) _ _ = F_X1_foldInto_L55 _ _ _ _ fu _ _
      rw [F_X1_foldInto_L55, H.2.2.2.1.2.1, if_neg (nI_ge hq (by omega))]
      simp only [jnE, nI_1]
      refine lp_it (fun fu2 a i => F_X1_foldInto_L67 n S h (nI q) (fun x => F_X1_foldInto_L55 n S h K fu x (nI (q + 1))) fu2 a i) (fun x => F_X1_foldInto_L55 n S h K fu x (nI (q + 1))) _ 6 n a (by omega) (fun fu2 a => ?_) (fun fu2 w a hw6 => ?_)
      · show F_X1_foldInto_L67 _ _ _ _ _ (fu2 + 1) _ _ = _
        rw [F_X1_foldInto_L67, if_pos (by decide)]
      · show F_X1_foldInto_L67 _ _ _ _ _ (fu2 + 1) _ _ = F_X1_foldInto_L67 _ _ _ _ _ fu2 _ _
        rw [F_X1_foldInto_L67, if_neg (show ¬ (6 : Int32) ≤ nI w from nI_ge hw6 (by decide)), X1_questionFact_eq n H hq hw6]
        simp only [nmE, jnE, bn2S, bndS, grdT, stI_22, stL_22, stRow_22, nI_1]
  rw [k1, k2]
  refine lp_it (fun fu a i => F_X1_foldInto_L105 S h (fun x => some x) fu a i) (fun x => some x) _ T n _ (by omega) (fun fu a => ?_) (fun fu t a ht => ?_)
  · show F_X1_foldInto_L105 _ _ _ (fu + 1) _ _ = _
    rw [F_X1_foldInto_L105, H.r6, rfdS (tg7 H.1), H.2.2.2.1.2.2.2.2.1, if_pos (Int32.le_refl _)]
  · show F_X1_foldInto_L105 _ _ _ (fu + 1) _ _ = F_X1_foldInto_L105 _ _ _ fu _ _
    rw [F_X1_foldInto_L105, H.r6, rfdS (tg7 H.1), H.2.2.2.1.2.2.2.2.1, if_neg (nI_ge ht (by omega))]
    simp only [nmE, jnE, bn2S, bndS, grdT, stI_22, stL_22, stRow_22, H.s4, rfdS (tgs5 H.1), sgs5 H.1, inb_nI (show t < 40 by omega) (by decide), nI_clamp (show t < 2 ^ 31 by omega), (H.2.2.2.1.2.2.2.2.2.2.2.2 t ht).1, nI_1]
theorem X7_cards_fold (n : Nat) (hn : 100 < n) (H : CM S C Q T L) (a : Int64) (K : Int64 → Option Int64) : F_X7_digest_L33 n S 82 K n a 0 = K (dg2 (cf L) a C) := by
  have h7 := H.2.2.1
  refine lp_it (fun fu a i => F_X7_digest_L33 n S 82 K fu a i) K _ C n a (by omega) (fun fu a => ?_) (fun fu c a hc => ?_)
  · show F_X7_digest_L33 _ _ _ _ (fu + 1) _ _ = _
    rw [F_X7_digest_L33]
    simp only [nmE, jnE, bn2S, bndS, grdT, stI_22, stL_22, stRow_22, HRm, rfdS T_83, rfdS T_84, rfdS T_85, rfdS T_86, rfdS T_87, rfdS T_88, rfdS T_89, rfdS T_90, rfdS T_91, rfdS T_92, rfdS T_93, rfdS T_94, rfdS T_95, rfdS T_96, SZ_83, SZ_84, SZ_85, SZ_86, SZ_87, SZ_88, SZ_89, SZ_90, SZ_91, SZ_92, SZ_93, SZ_94, SZ_95, SZ_96, H.1, in0, H.v0]
    rw [if_pos (Int32.le_refl _)]
  · show F_X7_digest_L33 _ _ _ _ (fu + 1) _ _ = F_X7_digest_L33 _ _ _ _ fu _ _
    rw [F_X7_digest_L33]
    simp only [nmE, jnE, bn2S, bndS, grdT, stI_22, stL_22, stRow_22, HRm, rfdS T_83, rfdS T_84, rfdS T_85, rfdS T_86, rfdS T_87, rfdS T_88, rfdS T_89, rfdS T_90, rfdS T_91, rfdS T_92, rfdS T_93, rfdS T_94, rfdS T_95, rfdS T_96, SZ_83, SZ_84, SZ_85, SZ_86, SZ_87, SZ_88, SZ_89, SZ_90, SZ_91, SZ_92, SZ_93, SZ_94, SZ_95, SZ_96, H.1, in0, H.v0]
    rw [if_neg (nI_ge hc (by omega)), nI_1]
    refine lp_it (fun fu2 a i => F_X7_digest_L46 n S 82 (nI c) (fun x => F_X7_digest_L33 n S 82 K fu x (nI (c + 1))) fu2 a i) (fun x => F_X7_digest_L33 n S 82 K fu x (nI (c + 1))) _ 6 n a (by omega) (fun fu2 a => ?_) (fun fu2 w a hw6 => ?_)
    · show F_X7_digest_L46 _ _ _ _ _ (fu2 + 1) _ _ = _
      rw [F_X7_digest_L46, if_pos (by decide)]
    · show F_X7_digest_L46 _ _ _ _ _ (fu2 + 1) _ _ = F_X7_digest_L46 _ _ _ _ _ fu2 _ _
      rw [F_X7_digest_L46, if_neg (show ¬ (6 : Int32) ≤ nI w from nI_ge hw6 (by decide)), X7_toldCard_eq n (by omega) H hc hw6]
      simp only [nmE, jnE, bn2S, bndS, grdT, stI_22, stL_22, stRow_22, nI_1]
theorem X7_quest_fold (n : Nat) (hn : 100 < n) (H : CM S C Q T L) (a : Int64) (K : Int64 → Option Int64) : F_X7_digest_L82 n S 82 K n a 0 = K (dg2 (qf L) a Q) := by
  have hQ := H.2.2.2.1
  refine lp_it (fun fu a i => F_X7_digest_L82 n S 82 K fu a i) K _ Q n a (by omega) (fun fu a => ?_) (fun fu q a hq => ?_)
  · show F_X7_digest_L82 _ _ _ _ (fu + 1) _ _ = _
    rw [F_X7_digest_L82]
    simp only [nmE, jnE, bn2S, bndS, grdT, stI_22, stL_22, stRow_22, HRm, rfdS T_83, rfdS T_84, rfdS T_85, rfdS T_86, rfdS T_87, rfdS T_88, rfdS T_89, rfdS T_90, rfdS T_91, rfdS T_92, rfdS T_93, rfdS T_94, rfdS T_95, rfdS T_96, SZ_83, SZ_84, SZ_85, SZ_86, SZ_87, SZ_88, SZ_89, SZ_90, SZ_91, SZ_92, SZ_93, SZ_94, SZ_95, SZ_96, H.1, in1, H.v1]
    rw [if_pos (Int32.le_refl _)]
  · show F_X7_digest_L82 _ _ _ _ (fu + 1) _ _ = F_X7_digest_L82 _ _ _ _ fu _ _
    rw [F_X7_digest_L82]
    simp only [nmE, jnE, bn2S, bndS, grdT, stI_22, stL_22, stRow_22, HRm, rfdS T_83, rfdS T_84, rfdS T_85, rfdS T_86, rfdS T_87, rfdS T_88, rfdS T_89, rfdS T_90, rfdS T_91, rfdS T_92, rfdS T_93, rfdS T_94, rfdS T_95, rfdS T_96, SZ_83, SZ_84, SZ_85, SZ_86, SZ_87, SZ_88, SZ_89, SZ_90, SZ_91, SZ_92, SZ_93, SZ_94, SZ_95, SZ_96, H.1, in1, H.v1]
    rw [if_neg (nI_ge hq (by omega)), nI_1]
    refine lp_it (fun fu2 a i => F_X7_digest_L95 S (nI q) 87 (fun x => F_X7_digest_L82 n S 82 K fu x (nI (q + 1))) fu2 a i) (fun x => F_X7_digest_L82 n S 82 K fu x (nI (q + 1))) _ 6 n a (by omega) (fun fu2 a => ?_) (fun fu2 w a hw6 => ?_)
    · show F_X7_digest_L95 _ _ _ _ (fu2 + 1) _ _ = _
      rw [F_X7_digest_L95, if_pos (by decide)]
    · show F_X7_digest_L95 _ _ _ _ (fu2 + 1) _ _ = F_X7_digest_L95 _ _ _ _ fu2 _ _
      obtain ⟨b0, b1, b2, b3, b4⟩ := H.2.1.2.2.2.2.1 q hq
      have b5 := H.2.1.2.2.2.2.2.1 q (by omega) (H.2.2.pos hq)
      have e : S.1 87 (31 + 7 * w + q) = qf L q w := by
        rcases (show w = 0 ∨ w = 1 ∨ w = 2 ∨ w = 3 ∨ w = 4 ∨ w = 5 by omega) with rfl | rfl | rfl | rfl | rfl | rfl
        · exact b0
        · exact b1
        · exact b2
        · exact b3
        · exact b4
        · exact b5
      rw [F_X7_digest_L95, if_neg (show ¬ (6 : Int32) ≤ nI w from nI_ge hw6 (by decide))]
      simp only [nmE, jnE, bn2S, bndS, grdT, stI_22, stL_22, stRow_22, HRm, rfdS T_83, rfdS T_84, rfdS T_85, rfdS T_86, rfdS T_87, rfdS T_88, rfdS T_89, rfdS T_90, rfdS T_91, rfdS T_92, rfdS T_93, rfdS T_94, rfdS T_95, rfdS T_96, SZ_83, SZ_84, SZ_85, SZ_86, SZ_87, SZ_88, SZ_89, SZ_90, SZ_91, SZ_92, SZ_93, SZ_94, SZ_95, SZ_96, li_31, li_7, pk_mul, nI_add, inb_nI (show 31 + 7 * w + q < 393 by omega) (by decide), nI_clamp (show 31 + 7 * w + q < 2 ^ 31 by omega), e, nI_1]
theorem X7_takes_fold (n : Nat) (hn : 100 < n) (H : CM S C Q T L) (a : Int64) (K : Int64 → Option Int64) : F_X7_digest_L139 S 82 K n a 0 = K (dg (fun t => nI (L 10 t)) a T) := by
  have hT := H.2.2.2.2.1
  have in2 : inb (2 : Int32) 393 = true := by decide
  have cl2 : (2 : Int32).toNatClampNeg = 2 := by decide
  refine lp_it (fun fu a i => F_X7_digest_L139 S 82 K fu a i) K _ T n a (by omega) (fun fu a => ?_) (fun fu t a ht => ?_)
  · show F_X7_digest_L139 _ _ _ (fu + 1) _ _ = _
    rw [F_X7_digest_L139]
    simp only [nmE, jnE, bn2S, bndS, grdT, stI_22, stL_22, stRow_22, HRm, rfdS T_83, rfdS T_84, rfdS T_85, rfdS T_86, rfdS T_87, rfdS T_88, rfdS T_89, rfdS T_90, rfdS T_91, rfdS T_92, rfdS T_93, rfdS T_94, rfdS T_95, rfdS T_96, SZ_83, SZ_84, SZ_85, SZ_86, SZ_87, SZ_88, SZ_89, SZ_90, SZ_91, SZ_92, SZ_93, SZ_94, SZ_95, SZ_96, H.1, in2, cl2, H.2.1.2.2.1]
    rw [if_pos (Int32.le_refl _)]
  · show F_X7_digest_L139 _ _ _ (fu + 1) _ _ = F_X7_digest_L139 _ _ _ fu _ _
    rw [F_X7_digest_L139]
    simp only [nmE, jnE, bn2S, bndS, grdT, stI_22, stL_22, stRow_22, HRm, rfdS T_83, rfdS T_84, rfdS T_85, rfdS T_86, rfdS T_87, rfdS T_88, rfdS T_89, rfdS T_90, rfdS T_91, rfdS T_92, rfdS T_93, rfdS T_94, rfdS T_95, rfdS T_96, SZ_83, SZ_84, SZ_85, SZ_86, SZ_87, SZ_88, SZ_89, SZ_90, SZ_91, SZ_92, SZ_93, SZ_94, SZ_95, SZ_96, H.1, in2, cl2, H.2.1.2.2.1]
    rw [if_neg (nI_ge ht (by omega))]
    simp only [nmE, jnE, bn2S, bndS, grdT, stI_22, stL_22, stRow_22, HRm, rfdS T_83, rfdS T_84, rfdS T_85, rfdS T_86, rfdS T_87, rfdS T_88, rfdS T_89, rfdS T_90, rfdS T_91, rfdS T_92, rfdS T_93, rfdS T_94, rfdS T_95, rfdS T_96, SZ_83, SZ_84, SZ_85, SZ_86, SZ_87, SZ_88, SZ_89, SZ_90, SZ_91, SZ_92, SZ_93, SZ_94, SZ_95, SZ_96, li_73, nI_add, inb_nI (show 73 + t < 393 by omega) (by decide), nI_clamp (show 73 + t < 2 ^ 31 by omega), (H.2.1.2.2.2.2.2.2 t ht).1, nI_1]
end Lib24
section Lib25
variable {S : aSt} {h C Q T : Nat} {L : Nat → Nat → Nat}
theorem X6_kept_fold (n : Nat) (hn : 100 < n) {d : Nat} (hX : RfX S h d) (a : Int64) (K : Int64 → Option Int64) : F_X6_digest_L42 S 0 K n a 0 = K (dg (fun k => S.1 (61 + 7 * k) 6) a 3) := by
  refine lp_it (fun fu a i => F_X6_digest_L42 S 0 K fu a i) K _ 3 n a (by omega) (fun fu a => ?_) (fun fu r a hr' => ?_)
  · show F_X6_digest_L42 _ _ _ (fu + 1) _ _ = _
    rw [F_X6_digest_L42, if_pos (by decide)]
  · show F_X6_digest_L42 _ _ _ (fu + 1) _ _ = F_X6_digest_L42 _ _ _ fu _ _
    have q1 : S.2.2 3 r = some (61 + 7 * r) := by rw [hX.2.2.2.2.1]; simp [HRs, hr']
    have q2 : isT (61 + 7 * r) 4 = true := by
      have : ∀ r, r < 3 → isT (61 + 7 * r) 4 = true := by decide +kernel
      exact this r hr'
    rw [F_X6_digest_L42, if_neg (show ¬ (3 : Int32) ≤ nI r from nI_ge hr' (by decide))]
    simp only [nmE, jnE, bn2S, bndS, grdT, stI_22, stL_22, stRow_22, HR0, rfdS T_1, rfdS T_2, rfdS T_3, rfdS T_4, rfdS T_5, rfdS T_9, SZ_1, SZ_2, SZ_3, SZ_4, hX.2.1, inb_nI (show r < 3 from hr') (by decide), nI_clamp (show r < 2 ^ 31 by omega), q1, rfdS q2, nI_1]
theorem X7_kept_fold (n : Nat) (hn : 100 < n) (hM : S.2.2 82 = HRm) (hk : PK S C Q L) (a : Int64) (K : Int64 → Option Int64) : F_X7_digest_L174 S 82 K n a 0 = K (dg (fun k => S.1 (61 + 7 * k) 6) a 3) := by
  refine lp_it (fun fu a i => F_X7_digest_L174 S 82 K fu a i) K _ 3 n a (by omega) (fun fu a => ?_) (fun fu r a hr' => ?_)
  · show F_X7_digest_L174 _ _ _ (fu + 1) _ _ = _
    rw [F_X7_digest_L174, if_pos (by decide)]
  · show F_X7_digest_L174 _ _ _ (fu + 1) _ _ = F_X7_digest_L174 _ _ _ fu _ _
    rw [F_X7_digest_L174, if_neg (show ¬ (3 : Int32) ≤ nI r from nI_ge hr' (by decide))]
    simp only [nmE, jnE, bn2S, bndS, grdT, stI_22, stL_22, stRow_22, HRm, rfdS T_83, rfdS T_84, rfdS T_85, rfdS T_86, rfdS T_87, rfdS T_88, rfdS T_89, rfdS T_90, rfdS T_91, rfdS T_92, rfdS T_93, rfdS T_94, rfdS T_95, rfdS T_96, SZ_83, SZ_84, SZ_85, SZ_86, SZ_87, SZ_88, SZ_89, SZ_90, SZ_91, SZ_92, SZ_93, SZ_94, SZ_95, SZ_96, hM, inb_nI (show r < 3 from hr') (by decide), nI_clamp (show r < 2 ^ 31 by omega), li_393, li_2, pk_mul, nI_add, inb_nI (show 393 * r + 2 < 1179 by omega) (by decide), nI_clamp (show 393 * r + 2 < 2 ^ 31 by omega), nI_1]
    rcases hk r hr' with ⟨e1, e2⟩ | ⟨e1, -, T', L', hw', -, e3, e4⟩
    · rw [if_pos e1, e2]
    · have e5 : S.1 88 (393 * r + 2) = nI T' := e4.2.2.1
      rw [if_neg (by rw [e1]; decide), e5, e3.1]
end Lib25
theorem op_digest (n : Nat) (hn : 100 < n) {S : aSt} (H : OK S) : BothL (F_X6_digest n S 0) (F_X7_digest n S 82) := by
  have H0 := H
  have H1 := H
  obtain ⟨h, d, C, Q, T, L, hX, hM, hCX, hCM, hk⟩ := H.get
  obtain ⟨-, -, -, -, -, hR, hT, -⟩ := H0
  have hM1 : S.2.2 82 = HRm := hM
  have hc : ∀ w, ∃ r, w < 9 → F_X6_count n S 0 (nI w) = some r ∧ F_X7_counted n S 82 (nI w) = some r := fun w => by
    obtain ⟨r, r1, r2⟩ := op_count n hn H1 (nI w)
    refine ⟨r, fun hw => ⟨r1, ?_⟩⟩
    unfold F_X7_count at r2
    rw [show (8 : Int64) = (nI 9 - 1).toInt64 from rfl, X7_in_sz n S (nI w) (m := 9) (by decide), if_pos (inb_nI hw (by decide))] at r2
    simp only [nmE, jnE, bn2S, bndS, grdT, stI_22, stL_22, stRow_22, reduceIte, Bool.false_eq_true, one_ne0] at r2
    cases e : F_X7_counted n S 82 (nI w) with
    | none => rw [e] at r2; cases r2
    | some v => rw [e] at r2; exact r2
  obtain ⟨g, hg⟩ := Classical.axiomOfChoice hc
  have k1 : ∀ K : Int64 → Option Int64, F_X6_digest_L6 n S 0 K n 17 0 = K (dg g 17 9) := fun K => by
    refine lp_it (fun fu a i => F_X6_digest_L6 n S 0 K fu a i) K _ 9 n 17 (by omega) (fun fu a => ?_) (fun fu w a hw => ?_)
    · show F_X6_digest_L6 _ _ _ _ (fu + 1) _ _ = _
      rw [F_X6_digest_L6, if_pos (by decide)]
    · show F_X6_digest_L6 _ _ _ _ (fu + 1) _ _ = F_X6_digest_L6 _ _ _ _ fu _ _
      rw [F_X6_digest_L6, if_neg (show ¬ (9 : Int32) ≤ nI w from nI_ge hw (by decide)), (hg w hw).1]
      simp only [nmE, jnE, bn2S, bndS, grdT, stI_22, stL_22, stRow_22, nI_1]
  have k2 : ∀ K : Int64 → Option Int64, F_X7_digest_L6 n S 82 K n 17 0 = K (dg g 17 9) := fun K => by
    refine lp_it (fun fu a i => F_X7_digest_L6 n S 82 K fu a i) K _ 9 n 17 (by omega) (fun fu a => ?_) (fun fu w a hw => ?_)
    · show F_X7_digest_L6 _ _ _ _ (fu + 1) _ _ = _
      rw [F_X7_digest_L6, if_pos (by decide)]
    · show F_X7_digest_L6 _ _ _ _ (fu + 1) _ _ = F_X7_digest_L6 _ _ _ _ fu _ _
      rw [F_X7_digest_L6, if_neg (show ¬ (9 : Int32) ≤ nI w from nI_ge hw (by decide)), (hg w hw).2]
      simp only [nmE, jnE, bn2S, bndS, grdT, stI_22, stL_22, stRow_22, nI_1]
  refine ⟨itr (tg S) (itr (rg S) (dg (fun k => S.1 (61 + 7 * k) 6) (dg (fun t => nI (L 10 t)) (dg2 (qf L) (dg2 (cf L) (dg g 17 9) C) Q) T) 3) 6) 4, ?_, ?_⟩
  rotate_left
  · unfold F_X7_digest
    simp only [jnE]
    rw [k2, X7_cards_fold n hn hCM, X7_quest_fold n hn hCM, X7_takes_fold n hn hCM, X7_kept_fold n hn hM1 hk, X7_rows_fold n hn hM1 hR, X7_texts_fold n hn hM1 hT]
  · unfold F_X6_digest
    simp only [jnE]
    rw [k1, X0_here hX, X1_lib_fold n hn hCX, bndS, X6_kept_fold n hn hX, X6_rows_fold n hn hX hR, X6_texts_fold n hn hX hT]
