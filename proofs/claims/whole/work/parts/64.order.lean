/-! order: the two are one. -/
theorem fe_ex {M k0 : Nat} (h0 : M.testBit k0 = true) : ∀ t m, t ≤ 4 → pcn m ≤ t → (∀ k, k < 7 → m.testBit k = true → M.testBit k = true) → ∃ d, fe M t m d
  | 0, m, _, hp, hs => by
    refine ⟨fun _ => k0, fun s h1 h2 => by omega, fun k hk hb => ?_⟩
    have := fb_ct_zero.mp (show fb_ct (fun i => m.testBit i) 7 = 0 by unfold pcn at hp; omega) k hk
    rw [hb] at this; cases this
  | t + 1, m, ht, hp, hs => by
    by_cases e : ∃ k, k < 7 ∧ m.testBit k = true
    · obtain ⟨k, hk, hb⟩ := e
      have p2 := pcn_part m (2 ^ k)
      have p3 : 0 < pcn (m &&& 2 ^ k) := fb_ct_pos.mpr ⟨k, hk, by rw [Nat.testBit_and, hb, Nat.testBit_two_pow]; simp⟩
      obtain ⟨d, d1, d2⟩ := fe_ex h0 t (m &&& (127 ^^^ 2 ^ k)) (by omega) (by omega) (fun i hi hb2 => by
        rw [tb_clr hi] at hb2
        simp at hb2
        exact hs i hi hb2.1)
      refine ⟨fun s => if s = 3 - t then k else d s, fun s h1 h2 => ?_, fun i hi hmi => ?_⟩
      · dsimp only
        split
        · exact hs k hk hb
        · exact d1 s (by omega) h2
      · by_cases z : i = k
        · exact ⟨3 - t, by omega, by omega, by rw [z]; exact if_pos rfl⟩
        · obtain ⟨s, s1, s2, s3⟩ := d2 i hi (by rw [tb_clr hi, hmi]; simp [z])
          exact ⟨s, by omega, s2, by rw [← s3]; exact if_neg (by omega)⟩
    · exact ⟨fun _ => k0, fun s h1 h2 => h0, fun k hk hb => absurd ⟨k, hk, hb⟩ e⟩
theorem cov_iff {M x : Nat} (hM : M < 128) : cov M x = true ↔ ∀ k, k < 7 → M.testBit k = true → ∃ i, i < 4 ∧ dgt x i = k := by
  unfold cov
  rw [decide_eq_true_eq]
  constructor
  · intro h k hk hb
    have := congrArg (fun y => y.testBit k) h
    simp only [Nat.testBit_and, Nat.testBit_xor, tb127 k hk, hb, Nat.zero_testBit, Bool.true_and] at this
    refine (dm_test x k 4).mp ?_
    cases e : (dm x 4).testBit k
    · rw [e] at this; cases this
    · rfl
  · intro h
    refine Nat.eq_of_testBit_eq fun k => ?_
    rw [Nat.testBit_and, Nat.testBit_xor, Nat.zero_testBit]
    cases e : M.testBit k
    · rfl
    · have hk : k < 7 := by
        rcases Nat.lt_or_ge k 7 with q | q
        · exact q
        · rw [Nat.testBit_lt_two_pow (Nat.lt_of_lt_of_le hM (Nat.pow_le_pow_right (n := 2) (i := 7) (by decide) q))] at e; cases e
      rw [tb127 k hk, (dm_test x k 4).mpr (h k hk e)]; rfl
theorem code_d {d : Nat → Nat} (h : ∀ s, s < 4 → d s < 7) : ∀ s, s < 4 → dgt (d 0 + 7 * d 1 + 49 * d 2 + 343 * d 3) s = d s := by
  have h0 := h 0 (by decide)
  have h1 := h 1 (by decide)
  have h2 := h 2 (by decide)
  have h3 := h 3 (by decide)
  intro s hs
  unfold dgt
  rcases (show s = 0 ∨ s = 1 ∨ s = 2 ∨ s = 3 by omega) with rfl | rfl | rfl | rfl
  · simp only [Nat.pow_zero, Nat.div_one]; omega
  · simp only [Nat.pow_one]; omega
  · rw [show (7 : Nat) ^ 2 = 49 from rfl]; omega
  · rw [show (7 : Nat) ^ 3 = 343 from rfl]; omega
theorem sd4 (f : Nat → Nat → Nat) (d : Nat → Nat) : sd f d 4 = f (d 3) 3 + f (d 2) 2 + f (d 1) 1 + f (d 0) 0 := by
  simp [sd]
theorem dsm4 (L : Nat → Nat → Nat) (C x : Nat) : dsm L C x 4 = ly L C (dgt x 0) 0 + ly L C (dgt x 1) 1 + ly L C (dgt x 2) 2 + ly L C (dgt x 3) 3 := by
  simp [dsm, fb_sm]
theorem op_order (n : Nat) (hn : 3000 < n) {S : aSt} (H : OK S) : BothR (F_X6_order n S 0) (F_X7_order n S 82) := by
  obtain ⟨h, d, C, Q, T, L, hX, hM, hCX, hCM, hk⟩ := H.get
  have hw := hCM.2.2
  have hC := hw.1
  have hK5 : ∀ c, c < C → L 0 c ≤ 5 := fun c hc => (hw.2.2.2.2.1 c hc).1
  have hkm : km L C < 128 := Nat.lt_trans (km_lt hK5) (by decide)
  have h6 : ∀ k, (km L C).testBit k = true → k < 6 := fun k hb => by
    obtain ⟨c, hc, e⟩ := (km_test L k C).mp hb
    have := hK5 c hc
    omega
  have eM : F_X7_order n S 82 = some (eb C (itr (fun x acc => if cov (km L C) x = true then om acc (some (dsm L C x 4)) else acc) none 2401)) := by
    unfold F_X7_order
    simp only [jnE]
    rw [X7_order_km n (by omega) hCM, X7_order_all n (by omega) hCM hkm]
  have eX : F_X6_order n S 0 = some (if pcn (km L C) ≤ 4 then (if C = 0 then 0 else nI C - eo (mS (ly L C) (km L C) 4 (km L C))) else -9) := by
    unfold F_X6_order
    rw [X0_here hX, X1_fewestMoved_eq n (by omega) hCX]
    rfl
  refine ⟨_, eX, eM.trans (congrArg some ?_)⟩
  by_cases c0 : C = 0
  · have m0 : km L C = 0 := by rw [c0]; rfl
    obtain ⟨v, v1, v2⟩ := fold_ge (p := fun x => cov (km L C) x) (g := fun x => some (dsm L C x 4)) (k := 0) (x := dsm L C 0 4) (by simp [cov, m0]) rfl 2401 (by decide)
    rw [v1, if_pos (by rw [m0]; decide), if_pos c0]
    show nI (C - v) = 0
    rw [c0, Nat.zero_sub]; rfl
  · have hk0 : (km L C).testBit (L 0 0) = true := (km_test L _ C).mpr ⟨0, by omega, rfl⟩
    have hcode : ∀ d, fe (km L C) 4 (km L C) d → ∃ v, itr (fun x acc => if cov (km L C) x = true then om acc (some (dsm L C x 4)) else acc) none 2401 = some v ∧ sd (ly L C) d 4 ≤ v := fun d hd => by
      have d7 : ∀ s, s < 4 → d s < 7 := fun s hs => by have := h6 _ (hd.1 s (by omega) hs); omega
      have e := code_d d7
      have h0 := d7 0 (by decide)
      have h1 := d7 1 (by decide)
      have h2 := d7 2 (by decide)
      have h3 := d7 3 (by decide)
      obtain ⟨v, v1, v2⟩ := fold_ge (p := fun x => cov (km L C) x) (g := fun x => some (dsm L C x 4)) (k := d 0 + 7 * d 1 + 49 * d 2 + 343 * d 3) (x := dsm L C (d 0 + 7 * d 1 + 49 * d 2 + 343 * d 3) 4) ((cov_iff hkm).mpr (fun k hk hb => by
        obtain ⟨s, s1, s2, s3⟩ := hd.2 k hk hb
        exact ⟨s, s2, by rw [e s s2]; exact s3⟩)) rfl 2401 (by omega)
      refine ⟨v, v1, ?_⟩
      rw [dsm4, e 0 (by decide), e 1 (by decide), e 2 (by decide), e 3 (by decide)] at v2
      rw [sd4]
      omega
    cases e : itr (fun x acc => if cov (km L C) x = true then om acc (some (dsm L C x 4)) else acc) none 2401 with
    | none =>
      rw [if_neg]
      · rfl
      · intro hp
        obtain ⟨d, hd⟩ := fe_ex hk0 4 (km L C) (by decide) hp (fun k _ hb => hb)
        obtain ⟨v, v1, -⟩ := hcode d hd
        rw [e] at v1; cases v1
    | some y =>
      obtain ⟨x, hx, hcx, hg⟩ := fold_get (p := fun x => cov (km L C) x) (g := fun x => some (dsm L C x 4)) 2401 e
      have hgy : dsm L C x 4 = y := by cases hg; rfl
      have hl : ∀ s, s < 4 → ly L C (dgt x s) s ≤ ly L C (if (km L C).testBit (dgt x s) = true then dgt x s else L 0 0) s := fun s _ => by
        by_cases q : (km L C).testBit (dgt x s) = true
        · rw [if_pos q]; exact Nat.le_refl _
        · have : ly L C (dgt x s) s = 0 := fb_ct_zero.mpr fun c hc => by
            by_cases z : L 0 c = dgt x s
            · exact absurd ((km_test L _ C).mpr ⟨c, hc, z⟩) q
            · simp [z]
          omega
      obtain ⟨v, v1, v2⟩ := mS_compl (f := ly L C) h6 4 (km L C) (fun s => if (km L C).testBit (dgt x s) = true then dgt x s else L 0 0) (by decide) hkm ⟨fun s _ _ => by
        dsimp only
        split
        · assumption
        · exact hk0, fun k hk hb => by
        obtain ⟨i, i1, i2⟩ := (cov_iff hkm).mp hcx k hk hb
        exact ⟨i, by omega, i1, by dsimp only; rw [i2, if_pos hb]⟩⟩
      obtain ⟨d, d1, d2⟩ := mS_sound 4 (km L C) v (by decide) hkm v1
      obtain ⟨y', y1, y2⟩ := hcode d d1
      rw [e] at y1
      cases y1
      rw [sd4] at v2
      have l0 := hl 0 (by decide)
      have l1 := hl 1 (by decide)
      have l2 := hl 2 (by decide)
      have l3 := hl 3 (by decide)
      rw [dsm4] at hgy
      have hyC := dsm_le hw x
      rw [dsm4] at hyC
      have hvy : v = y := by omega
      rw [if_pos (mS_pc v1), if_neg c0, v1, hvy]
      show nI (C - y) = nI C - nI y
      rw [pk_sub (by omega)]
