/-! order: the two are one. -/
theorem fe_ex {M k0 : Nat} (h0 : M.testBit k0 = true) : ∀ t m, t ≤ 4 → pcn m ≤ t → (∀ k, k < 7 → m.testBit k = true → M.testBit k = true) → ∃ d, fe M t m d
  | 0, m, _, hp, hs => by
    refine ⟨fun _ => k0, fun s h1 h2 => by omega, fun k hk hb => ?_⟩
    have := fb_ct_zero.mp (show fb_ct (fun i => m.testBit i) 7 = 0 by unfold pcn at hp; omega) k hk
    rw [hb] at this; cases this
  | t + 1, m, ht, hp, hs => by
    by_cases e : ∃ k, k < 7 ∧ m.testBit k = true
    · obtain ⟨k, hk, hb⟩ := e
      have p2 := pcn_part m (2 ^ k)
      have p3 : 0 < pcn (m &&& 2 ^ k) := fb_ct_pos.mpr ⟨k, hk, by rw [Nat.testBit_and, hb, Nat.testBit_two_pow]; simp⟩
      obtain ⟨d, d1, d2⟩ := fe_ex h0 t (m &&& (127 ^^^ 2 ^ k)) (by omega) (by omega) (fun i hi hb2 => by
        rw [tb_clr hi] at hb2
        simp at hb2
        exact hs i hi hb2.1)
      refine ⟨fun s => if s = 3 - t then k else d s, fun s h1 h2 => ?_, fun i hi hmi => ?_⟩
      · dsimp only
        split
        · exact hs k hk hb
        · exact d1 s (by omega) h2
      · by_cases z : i = k
        · exact ⟨3 - t, by omega, by omega, by rw [z]; exact if_pos rfl⟩
        · obtain ⟨s, s1, s2, s3⟩ := d2 i hi (by rw [tb_clr hi, hmi]; simp [z])
          exact ⟨s, by omega, s2, by rw [← s3]; exact if_neg (by omega)⟩
    · exact ⟨fun _ => k0, fun s h1 h2 => h0, fun k hk hb => absurd ⟨k, hk, hb⟩ e⟩
theorem cov_iff {M x : Nat} (hM : M < 128) : cov M x = true ↔ ∀ k, k < 7 → M.testBit k = true → ∃ i, i < 4 ∧ dgt x i = k := by
  unfold cov
  rw [decide_eq_true_eq]
  constructor
  · intro h k hk hb
    have := congrArg (fun y => y.testBit k) h
    simp only [Nat.testBit_and, Nat.testBit_xor, tb127 k hk, hb, Nat.zero_testBit, Bool.true_and] at this
    refine (dm_test x k 4).mp ?_
    cases e : (dm x 4).testBit k
    · rw [e] at this; cases this
    · rfl
  · intro h
    refine Nat.eq_of_testBit_eq fun k => ?_
    rw [Nat.testBit_and, Nat.testBit_xor, Nat.zero_testBit]
    cases e : M.testBit k
    · rfl
    · have hk : k < 7 := by
        rcases Nat.lt_or_ge k 7 with q | q
        · exact q
        · rw [Nat.testBit_lt_two_pow (Nat.lt_of_lt_of_le hM (Nat.pow_le_pow_right (n := 2) (i := 7) (by decide) q))] at e; cases e
      rw [tb127 k hk, (dm_test x k 4).mpr (h k hk e)]; rfl
theorem code_d {d : Nat → Nat} (h : ∀ s, s < 4 → d s < 7) : ∀ s, s < 4 → dgt (d 0 + 7 * d 1 + 49 * d 2 + 343 * d 3) s = d s := by
  have h0 := h 0 (by decide)
  have h1 := h 1 (by decide)
  have h2 := h 2 (by decide)
  have h3 := h 3 (by decide)
  intro s hs
  unfold dgt
  rcases (show s = 0 ∨ s = 1 ∨ s = 2 ∨ s = 3 by omega) with rfl | rfl | rfl | rfl
  · simp only [Nat.pow_zero, Nat.div_one]; omega
  · simp only [Nat.pow_one]; omega
  · rw [show (7 : Nat) ^ 2 = 49 from rfl]; omega
  · rw [show (7 : Nat) ^ 3 = 343 from rfl]; omega
theorem sd4 (f : Nat → Nat → Nat) (d : Nat → Nat) : sd f d 4 = f (d 3) 3 + f (d 2) 2 + f (d 1) 1 + f (d 0) 0 := by
  simp [sd]
theorem dsm4 (L : Nat → Nat → Nat) (C x : Nat) : dsm L C x 4 = ly L C (dgt x 0) 0 + ly L C (dgt x 1) 1 + ly L C (dgt x 2) 2 + ly L C (dgt x 3) 3 := by
  simp [dsm, fb_sm]
theorem op_order (n : Nat) (hn : 3000 < n) {S : aSt} (H : OK S) : BothR (F_X6_order n S 0) (F_X7_order n S 82) := by
  obtain ⟨h, d, C, Q, T, L, hX, hM, hCX, hCM, hk⟩ := H.get
  have hw := hCM.2.2
  have hC := hw.1
  have hK5 : ∀ c, c < C → L 0 c ≤ 5 := fun c hc => (hw.2.2.2.2.1 c hc).1
  have hkm : km L C < 128 := Nat.lt_trans (km_lt hK5) (by decide)
  have h6 : ∀ k, (km L C).testBit k = true → k < 6 := fun k hb => by
    obtain ⟨c, hc, e⟩ := (km_test L k C).mp hb
    have := hK5 c hc
    omega
  have eM : F_X7_order n S 82 = some (eb C (itr (fun x acc => if cov (km L C) x = true then om acc (some (dsm L C x 4)) else acc) none 2401)) := by
    unfold F_X7_order
    simp only [jnE]
    rw [X7_order_km n (by omega) hCM, X7_order_all n (by omega) hCM hkm]
  have eX : F_X6_order n S 0 = some (if pcn (km L C) ≤ 4 then (if C = 0 then 0 else nI C - eo (mS (ly L C) (km L C) 4 (km L C))) else -9) := by
    unfold F_X6_order
    rw [X0_here hX, X1_fewestMoved_eq n (by omega) hCX]
    rfl
  refine ⟨_, eX, eM.trans (congrArg some ?_)⟩
  sorry
