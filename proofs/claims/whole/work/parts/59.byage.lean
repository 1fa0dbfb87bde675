/-! byAge. -/
def agc (L : Nat → Nat → Nat) (t : Nat) : Nat → Nat := fb_ct (fun c => decide (L 3 c = 9 - t))
def ap (L : Nat → Nat → Nat) (C : Nat) : Nat → Nat := fb_sm (fun t => agc L t C)
theorem ap_10 {L : Nat → Nat → Nat} {C : Nat} (h : ∀ c, c < C → L 3 c ≤ 9) : ap L C 10 = C := by
  have e := ct_cls (fun _ => true) (fun c => 9 - L 3 c) 10 C (fun c hc => by have := h c hc; omega)
  have e1 : fb_ct (fun _ => true) C = C := fb_ct_all.mpr fun _ _ => rfl
  rw [e1] at e
  refine Eq.trans ?_ e.symm
  refine fb_sm_cong fun t ht => fb_ct_cong fun c hc => ?_
  have := h c hc
  simp only [Bool.true_and]
  by_cases q : L 3 c = 9 - t
  · simp [q]; omega
  · simp [q]; omega
theorem ap_lt {L : Nat → Nat → Nat} {C t c : Nat} (h : ∀ c, c < C → L 3 c ≤ 9) (ht : t < 10) (hc : c < C) (q : L 3 c = 9 - t) : ap L C t + agc L t c < C := by
  have h1 := fb_sm_part (fun t => agc L t C) ht
  have h2 := ap_10 h
  have h3 : agc L t (c + 1) ≤ agc L t C := fb_ct_mono _ (by omega)
  have h4 : agc L t (c + 1) = agc L t c + 1 := by unfold agc; rw [fb_ct_succ, if_pos (by simp [q])]
  have h5 : ap L C 10 = fb_sm (fun t => agc L t C) 10 := rfl
  have h6 : ap L C t = fb_sm (fun t => agc L t C) t := rfl
  omega
def ain (L : Nat → Nat → Nat) (C b t : Nat) (f : Nat → Int32) : Nat → Nat → Int32 := itr (fun c f => if L 3 c = 9 - t then upd f (b + (ap L C t + agc L t c)) (nI c) else f) f
def aou (L : Nat → Nat → Nat) (C b : Nat) (f : Nat → Int32) : Nat → Nat → Int32 := itr (fun t f => ain L C b t f C) f
theorem ain_s (L : Nat → Nat → Nat) (C b t : Nat) (f : Nat → Int32) (c : Nat) : ain L C b t f (c + 1) = if L 3 c = 9 - t then upd (ain L C b t f c) (b + (ap L C t + agc L t c)) (nI c) else ain L C b t f c := rfl
theorem aou_s (L : Nat → Nat → Nat) (C b : Nat) (f : Nat → Int32) (t : Nat) : aou L C b f (t + 1) = ain L C b t (aou L C b f t) C := rfl
theorem ain_eq {L : Nat → Nat → Nat} {C b t : Nat} {f g : Nat → Int32} (h : ∀ i, i < 40 → f i = g (b + i)) : ∀ c i, i < 40 → ain L C 0 t f c i = ain L C b t g c (b + i)
  | 0, i, hi => h i hi
  | c + 1, i, hi => by
    rw [ain_s, ain_s]
    by_cases q : L 3 c = 9 - t
    · rw [if_pos q, if_pos q]
      unfold upd
      have := ain_eq (L := L) (C := C) (t := t) h c i hi
      by_cases z : i = 0 + (ap L C t + agc L t c)
      · rw [if_pos z, if_pos (by omega)]
      · rw [if_neg z, if_neg (by omega)]; exact this
    · rw [if_neg q, if_neg q]; exact ain_eq h c i hi
theorem aou_eq {L : Nat → Nat → Nat} {C b : Nat} {f g : Nat → Int32} (h : ∀ i, i < 40 → f i = g (b + i)) : ∀ t i, i < 40 → aou L C 0 f t i = aou L C b g t (b + i)
  | 0, i, hi => h i hi
  | t + 1, i, hi => ain_eq (aou_eq h t) C i hi
theorem ain_out {L : Nat → Nat → Nat} {C b t : Nat} {g : Nat → Int32} (hC : C ≤ 7) (hL : ∀ c, c < C → L 3 c ≤ 9) (ht : t < 10) {j : Nat} (hj : ¬ (b ≤ j ∧ j < b + 40)) : ∀ c, c ≤ C → ain L C b t g c j = g j
  | 0, _ => rfl
  | c + 1, hc => by
    rw [ain_s]
    by_cases q : L 3 c = 9 - t
    · have := ap_lt hL ht (show c < C by omega) q
      rw [if_pos q]
      unfold upd
      rw [if_neg (by omega)]
      exact ain_out hC hL ht hj c (by omega)
    · rw [if_neg q]; exact ain_out hC hL ht hj c (by omega)
theorem aou_out {L : Nat → Nat → Nat} {C b : Nat} {g : Nat → Int32} (hC : C ≤ 7) (hL : ∀ c, c < C → L 3 c ≤ 9) {j : Nat} (hj : ¬ (b ≤ j ∧ j < b + 40)) : ∀ t, t ≤ 10 → aou L C b g t j = g j
  | 0, _ => rfl
  | t + 1, ht => by rw [aou_s, ain_out hC hL (by omega) hj C (Nat.le_refl _)]; exact aou_out hC hL hj t (by omega)
theorem dn9 : ∀ t, t < 10 → (9 : Int32) - nI t = nI (9 - t) ∧ (9 : Int32) - nI t + (-1) = 9 - nI (t + 1) ∧ ¬ (9 : Int32) - nI t < 0 := by decide +kernel
section Lib21
variable {S : aSt} {h C Q T : Nat} {L : Nat → Nat → Nat}
theorem X1_byAge_loop (n : Nat) (hn : 50 < n) {d : Nat} (hX : RfX S h d) (H : CX S h C Q T L) {r : Nat} (hr : r < 6) (e1 : S.1 (41 + 2 * r) 1 = nI C) (K : aSt → Option aSt) : F_X1_layByAge_L14 n h (41 + 2 * r) K n 0 9 S = K (stRow S (41 + 2 * r + 1) (aou L C 0 (S.1 (41 + 2 * r + 1)) 10)) := by
  have hw := H.2.2.2.2
  have hC := hw.1
  have hh := H.1
  obtain ⟨x1, x2⟩ := xrow hX hr
  obtain ⟨t1, t2, t3⟩ := rowT hr
  have hL : ∀ c, c < C → L 3 c ≤ 9 := fun c hc => (hw.2.2.2.2.1 c hc).2.2.2
  have HX : ∀ f, CX (stRow S (41 + 2 * r + 1) f) h C Q T L := fun f => H.congr rfl (fun k a b => stRow_ne (by rcases hh with rfl | rfl <;> omega))
  have key := lp_ix (fun t => (9 : Int32) - nI t) (fun fu (s : Int32 × aSt) i => F_X1_layByAge_L14 n h (41 + 2 * r) K fu s.1 i s.2) (fun s => K s.2) (fun t => (nI (ap L C t), stRow S (41 + 2 * r + 1) (aou L C 0 (S.1 (41 + 2 * r + 1)) t))) 10 (fun fu => ?_) (fun fu t ht => ?_) 10 0 n (by omega) (by omega)
  · have z : stRow S (41 + 2 * r + 1) (aou L C 0 (S.1 (41 + 2 * r + 1)) 0) = S := stRow_id S _
    rw [z] at key
    exact key
  · show F_X1_layByAge_L14 _ _ _ _ (fu + 1) _ _ _ = _
    rw [F_X1_layByAge_L14, if_pos (by decide)]
  · show F_X1_layByAge_L14 _ _ _ _ (fu + 1) _ _ _ = F_X1_layByAge_L14 _ _ _ _ fu _ _ _
    obtain ⟨d1, d2, d3⟩ := dn9 t ht
    rw [F_X1_layByAge_L14, if_neg d3, d2]
    simp only [jnE]
    rw [d1, aou_s]
    generalize aou L C 0 (S.1 (41 + 2 * r + 1)) t = f0
    have key2 := lp_eq (fun fu2 (s : Int32 × aSt) i => F_X1_layByAge_L21 n h (41 + 2 * r) (nI (9 - t)) (fun x60_2 x60S => F_X1_layByAge_L14 n h (41 + 2 * r) K fu x60_2 (9 - nI (t + 1)) x60S) fu2 s.1 i s.2) (fun s => F_X1_layByAge_L14 n h (41 + 2 * r) K fu s.1 (9 - nI (t + 1)) s.2) (fun c => (nI (ap L C t + agc L t c), stRow S (41 + 2 * r + 1) (ain L C 0 t f0 c))) C (fun fu2 => ?_) (fun fu2 c hc => ?_) C 0 n (by omega) (by omega)
    · exact key2
    · show F_X1_layByAge_L21 _ _ _ _ _ (fu2 + 1) _ _ _ = _
      rw [F_X1_layByAge_L21, (HX _).2.2.2.1.1, if_pos (Int32.le_refl _)]
    · show F_X1_layByAge_L21 _ _ _ _ _ (fu2 + 1) _ _ _ = F_X1_layByAge_L21 _ _ _ _ _ fu2 _ _ _
      have w5 := hw.2.2.2.2.1 c hc
      have H' := HX (ain L C 0 t f0 c)
      rw [F_X1_layByAge_L21, H'.2.2.2.1.1, if_neg (nI_ge hc (by omega))]
      simp only [nmE, jnE, bn2S, bndS, grdT, stI_22, stL_22, stRow_22, H.r6, H.s1, rfdS (tg7 H.1), rfdS (tgs2 H.1), sgs2 H.1, inb_nI (show c < 7 by omega) (by decide), nI_clamp (show c < 2 ^ 31 by omega), (H'.2.2.2.1.2.2.2.2.2.1 c hc).2, nI_eq (show L 3 c < 2 ^ 31 by omega) (show 9 - t < 2 ^ 31 by omega), nI_1]
      by_cases q : L 3 c = 9 - t
      · have hp := ap_lt hL ht hc q
        have e2 : (stRow S (41 + 2 * r + 1) (ain L C 0 t f0 c)).1 (41 + 2 * r) 1 = nI C := by rw [stRow_ne (by omega)]; exact e1
        have f1 : F_X4_layAt n (stRow S (41 + 2 * r + 1) (ain L C 0 t f0 c)) (41 + 2 * r) (nI (ap L C t + agc L t c)) (nI c) = some (stRow S (41 + 2 * r + 1) (upd (ain L C 0 t f0 c) (ap L C t + agc L t c) (nI c))) := by
          unfold F_X4_layAt
          rw [X4_reaches_eq n (show C < 2 ^ 31 by omega) e2, if_pos (inb_nI hp (by omega))]
          simp only [nmE, jnE, bn2S, bndS, grdT, stI_22, stL_22, stRow_22, reduceIte, Bool.false_eq_true, one_ne0, x2, rfdS t2, t3, inb_nI (show ap L C t + agc L t c < 40 by omega) (by decide), nI_clamp (show ap L C t + agc L t c < 2 ^ 31 by omega), stI_stRow]
        rw [if_pos q, f1, ain_s, if_pos q, Nat.zero_add]
        have e3 : agc L t (c + 1) = agc L t c + 1 := by unfold agc; rw [fb_ct_succ, if_pos (by simp [q])]
        rw [e3]
        rfl
      · have e3 : agc L t (c + 1) = agc L t c := by unfold agc; rw [fb_ct_succ, if_neg (by simp [q]), Nat.add_zero]
        rw [if_neg q, ain_s, if_neg q, e3]
theorem X7_byAge_loop (n : Nat) (hn : 50 < n) (H : CM S C Q T L) {r : Nat} (hr : r < 6) (K : aSt → Option (Int32 × aSt)) : F_X7_byAge_L27 n 82 (nI r) (nI C) K n 0 9 S = K (stRow S 84 (aou L C (40 * r) (S.1 84) 10)) := by
  have hw := H.2.2
  have hC := hw.1
  have hL : ∀ c, c < C → L 3 c ≤ 9 := fun c hc => (hw.2.2.2.2.1 c hc).2.2.2
  have key := lp_ix (fun t => (9 : Int32) - nI t) (fun fu (s : Int32 × aSt) i => F_X7_byAge_L27 n 82 (nI r) (nI C) K fu s.1 i s.2) (fun s => K s.2) (fun t => (nI (ap L C t), stRow S 84 (aou L C (40 * r) (S.1 84) t))) 10 (fun fu => ?_) (fun fu t ht => ?_) 10 0 n (by omega) (by omega)
  · have z : stRow S 84 (aou L C (40 * r) (S.1 84) 0) = S := stRow_id S _
    rw [z] at key
    exact key
  · show F_X7_byAge_L27 _ _ _ _ _ (fu + 1) _ _ _ = _
    rw [F_X7_byAge_L27, if_pos (by decide)]
  · show F_X7_byAge_L27 _ _ _ _ _ (fu + 1) _ _ _ = F_X7_byAge_L27 _ _ _ _ _ fu _ _ _
    obtain ⟨d1, d2, d3⟩ := dn9 t ht
    rw [F_X7_byAge_L27, if_neg d3, d2]
    simp only [jnE]
    rw [d1, aou_s]
    generalize aou L C (40 * r) (S.1 84) t = f0
    have key2 := lp_eq (fun fu2 (s : Int32 × aSt) i => F_X7_byAge_L35 82 (nI r) (nI C) (nI (9 - t)) (fun x78_3 x78S => F_X7_byAge_L27 n 82 (nI r) (nI C) K fu x78_3 (9 - nI (t + 1)) x78S) fu2 s.1 i s.2) (fun s => F_X7_byAge_L27 n 82 (nI r) (nI C) K fu s.1 (9 - nI (t + 1)) s.2) (fun c => (nI (ap L C t + agc L t c), stRow S 84 (ain L C (40 * r) t f0 c))) C (fun fu2 => ?_) (fun fu2 c hc => ?_) C 0 n (by omega) (by omega)
    · exact key2
    · show F_X7_byAge_L35 _ _ _ _ _ (fu2 + 1) _ _ _ = _
      rw [F_X7_byAge_L35, if_pos (Int32.le_refl _)]
    · show F_X7_byAge_L35 _ _ _ _ _ (fu2 + 1) _ _ _ = F_X7_byAge_L35 _ _ _ _ _ fu2 _ _ _
      have w5 := hw.2.2.2.2.1 c hc
      have e24 : (24 : Int32) + nI c = nI (24 + c) := nI_add 24 c
      have v3 : (stRow S 84 (ain L C (40 * r) t f0 c)).1 87 (24 + c) = nI (L 3 c) := by rw [stRow_ne (by decide)]; exact (H.2.1.2.2.2.1 c hc).2.2.2
      rw [F_X7_byAge_L35, if_neg (nI_ge hc (by omega))]
      simp only [nmE, jnE, bn2S, bndS, grdT, stI_22, stL_22, stRow_22, HRm, rfdS T_83, rfdS T_84, rfdS T_85, rfdS T_86, rfdS T_87, rfdS T_88, rfdS T_89, rfdS T_90, rfdS T_91, rfdS T_92, rfdS T_93, rfdS T_94, rfdS T_95, rfdS T_96, SZ_83, SZ_84, SZ_85, SZ_86, SZ_87, SZ_88, SZ_89, SZ_90, SZ_91, SZ_92, SZ_93, SZ_94, SZ_95, SZ_96, H.1, e24, inb_nI (show 24 + c < 393 by omega) (by decide), nI_clamp (show 24 + c < 2 ^ 31 by omega), v3, nI_eq (show L 3 c < 2 ^ 31 by omega) (show 9 - t < 2 ^ 31 by omega), nI_1, li_40, pk_mul, nI_add]
      by_cases q : L 3 c = 9 - t
      · have hp := ap_lt hL ht hc q
        have e3 : agc L t (c + 1) = agc L t c + 1 := by unfold agc; rw [fb_ct_succ, if_pos (by simp [q])]
        rw [if_pos q, inb_nI (show 40 * r + (ap L C t + agc L t c) < 240 by omega) (by decide), nI_clamp (show 40 * r + (ap L C t + agc L t c) < 2 ^ 31 by omega), stI_stRow, ain_s, if_pos q, e3]
        rfl
      · have e3 : agc L t (c + 1) = agc L t c := by unfold agc; rw [fb_ct_succ, if_neg (by simp [q]), Nat.add_zero]
        rw [if_neg q, ain_s, if_neg q, e3]
end Lib21
set_option maxRecDepth 4000 in
theorem op_byAge (n : Nat) (hn : 100 < n) {S : aSt} (H : OK S) (r : Int32) : Both S (F_X6_byAge n S 0 r) (fun S1 => F_X7_byAge n S1 82 r) := by
  by_cases hr : inb r 6 = true
  · obtain ⟨r, hr', rfl⟩ := inb_ex hr (by decide)
    obtain ⟨h, d, C, Q, T, L, hX, hM, hCX, hCM, hk⟩ := H.get
    have hw := hCM.2.2
    have hC := hw.1
    have hL : ∀ c, c < C → L 3 c ≤ 9 := fun c hc => (hw.2.2.2.2.1 c hc).2.2.2
    have hh := hCX.1
    obtain ⟨x1, x2⟩ := xrow hX hr'
    obtain ⟨t1, t2, t3⟩ := rowT hr'
    have hc : (nI r).toNatClampNeg = r := nI_clamp (by omega)
    generalize hf : fil (S.1 (41 + 2 * r + 1)) 0 40 0 = f0
    generalize hS1 : stI (stRow S (41 + 2 * r + 1) f0) (41 + 2 * r) 1 (nI C) = S1
    have hX1 : RfX S1 h d := by rw [← hS1]; exact hX
    have hCX1 : CX S1 h C Q T L := by rw [← hS1]; exact hCX.congr rfl (fun k a b => by rw [stI_ne (by rcases hh with rfl | rfl <;> omega), stRow_ne (by rcases hh with rfl | rfl <;> omega)])
    have e1 : S1.1 (41 + 2 * r) 1 = nI C := by rw [← hS1]; simp [stI_at]
    have ef : S1.1 (41 + 2 * r + 1) = f0 := by rw [← hS1, stI_ne (by omega), stRow_self]
    have hS2 : stRow S1 (41 + 2 * r + 1) (aou L C 0 f0 10) = stI (stRow S (41 + 2 * r + 1) (aou L C 0 f0 10)) (41 + 2 * r) 1 (nI C) := by
      rw [← hS1]
      refine Prod.ext ?_ rfl
      funext a b
      rw [stRow_at, stI_at, stI_at, stRow_at, stRow_at]
      by_cases q1 : a = 41 + 2 * r + 1
      · rw [if_pos q1, if_neg (by omega), if_pos q1]
      · rw [if_neg q1, if_neg q1]
        by_cases q2 : a = 41 + 2 * r
        · rw [if_pos q2, if_pos q2]; split <;> simp [q1]
        · rw [if_neg q2, if_neg q2]; simp [q1]
    generalize hg : fil (S.1 84) (40 * r) 40 0 = g0
    refine ⟨nI C, stI (stRow S (41 + 2 * r + 1) (aou L C 0 f0 10)) (41 + 2 * r) 1 (nI C), _, ?_, ?_, H.row hr' (show C ≤ 40 by omega) (aou L C 0 f0 10) (aou L C (40 * r) g0 10) (fun i hi => ?_) (fun j hj => ?_)⟩
    · have e7 : (stI (stRow S (41 + 2 * r + 1) (aou L C 0 f0 10)) (41 + 2 * r) 1 (nI C)).1 h 7 = nI C := by
        rw [stI_ne (by rcases hh with rfl | rfl <;> omega), stRow_ne (by rcases hh with rfl | rfl <;> omega)]; exact hCX.2.2.2.1.1
      unfold F_X6_byAge F_X1_layByAge
      simp only [nmE, jnE, bn2S, bndS, grdT, stI_22, stL_22, stRow_22, HR0, rfdS T_1, rfdS T_2, rfdS T_3, rfdS T_4, rfdS T_5, rfdS T_9, SZ_1, SZ_2, SZ_3, SZ_4, reduceIte, Bool.false_eq_true, one_ne0, X6_isRow_eq, hr, hX.2.1, hc, x1, x2, rfdS t1, rfdS t2, t3, X4_isThere_eq, rfdS (tg0 hh), hCX.2.2.2.1.1, X4_begin_eq n x2 t2 t3 (by decide) (show 40 < n by omega) (show C ≤ 40 by omega), hf, hS1]
      rw [X1_byAge_loop n (by omega) hX1 hCX1 hr' e1, ef, hS2]
      simp only [nmE, jnE, bn2S, bndS, grdT, stI_22, stL_22, stRow_22, hX.2.1]
      rw [show HR0 h d 6 = some h from rfl, rfdS (tg0 hh), e7]
    · have hM2 : RfM (stI (stRow S (41 + 2 * r + 1) (aou L C 0 f0 10)) (41 + 2 * r) 1 (nI C)) := hM
      generalize hS3 : stI (stRow S (41 + 2 * r + 1) (aou L C 0 f0 10)) (41 + 2 * r) 1 (nI C) = S3 at hM2 ⊢
      have hM1 : S3.2.2 82 = HRm := hM2
      have hCM3 : CM S3 C Q T L := hCM.congr (by rw [← hS3]; rfl) (by rw [← hS3, stI_ne (by omega), stRow_ne (by omega)])
      have e84 : S3.1 84 = S.1 84 := by rw [← hS3, stI_ne (by omega), stRow_ne (by omega)]
      show F_X7_byAge n S3 82 (nI r) = _
      unfold F_X7_byAge
      simp only [nmE, jnE, bn2S, bndS, grdT, stI_22, stL_22, stRow_22, HRm, rfdS T_83, rfdS T_84, rfdS T_85, rfdS T_86, rfdS T_87, rfdS T_88, rfdS T_89, rfdS T_90, rfdS T_91, rfdS T_92, rfdS T_93, rfdS T_94, rfdS T_95, rfdS T_96, SZ_83, SZ_84, SZ_85, SZ_86, SZ_87, SZ_88, SZ_89, SZ_90, SZ_91, SZ_92, SZ_93, SZ_94, SZ_95, SZ_96, reduceIte, Bool.false_eq_true, one_ne0, X7_isRow_eq, hr, hM1, hc, in0, hCM3.v0, X7_row_eq n hM2 hr' (show C ≤ 40 by omega) hn, e84, hg]
      have hCM4 : CM (stRow (stI S3 83 r (nI C)) 84 g0) C Q T L := hCM3.congr rfl (by rw [stRow_ne (by decide), stI_ne (by decide)])
      rw [X7_byAge_loop n (by omega) hCM4 hr', stRow_self]
      have e5 : stRow (stRow (stI S3 83 r (nI C)) 84 g0) 84 (aou L C (40 * r) g0 10) = stRow (stI S3 83 r (nI C)) 84 (aou L C (40 * r) g0 10) := by
        refine Prod.ext ?_ rfl
        funext a b
        rw [stRow_at, stRow_at, stRow_at]
        by_cases q : a = 84 <;> simp [q]
      rw [e5]
    · refine aou_eq (fun i hi => ?_) 10 i (by omega)
      rw [← hf, ← hg]
      unfold fil
      rw [if_pos (by omega), if_pos (by omega)]
    · rw [aou_out hC hL hj 10 (Nat.le_refl _), ← hg]
      unfold fil
      rw [if_neg hj]
  · refine Both.same H (-1) ?_ ?_
    · unfold F_X6_byAge
      simp only [nmE, jnE, bn2S, bndS, grdT, stI_22, stL_22, stRow_22, HR0, rfdS T_1, rfdS T_2, rfdS T_3, rfdS T_4, rfdS T_5, rfdS T_9, SZ_1, SZ_2, SZ_3, SZ_4, reduceIte, Bool.false_eq_true, one_ne0, X6_isRow_eq, hr]
    · unfold F_X7_byAge
      simp only [nmE, jnE, bn2S, bndS, grdT, stI_22, stL_22, stRow_22, HRm, rfdS T_83, rfdS T_84, rfdS T_85, rfdS T_86, rfdS T_87, rfdS T_88, rfdS T_89, rfdS T_90, rfdS T_91, rfdS T_92, rfdS T_93, rfdS T_94, rfdS T_95, rfdS T_96, SZ_83, SZ_84, SZ_85, SZ_86, SZ_87, SZ_88, SZ_89, SZ_90, SZ_91, SZ_92, SZ_93, SZ_94, SZ_95, SZ_96, reduceIte, Bool.false_eq_true, one_ne0, X7_isRow_eq, hr]
