/-! order: the two are one. -/
theorem fe_ex {M k0 : Nat} (h0 : M.testBit k0 = true) : ∀ t m, t ≤ 4 → pcn m ≤ t → (∀ k, k < 7 → m.testBit k = true → M.testBit k = true) → ∃ d, fe M t m d
  | 0, m, _, hp, hs => by
    refine ⟨fun _ => k0, fun s h1 h2 => by omega, fun k hk hb => ?_⟩
    have := fb_ct_zero.mp (show fb_ct (fun i => m.testBit i) 7 = 0 by unfold pcn at hp; omega) k hk
    rw [hb] at this; cases this
  | t + 1, m, ht, hp, hs => by
    by_cases e : ∃ k, k < 7 ∧ m.testBit k = true
    · obtain ⟨k, hk, hb⟩ := e
      have p2 := pcn_part m (2 ^ k)
      have p3 : 0 < pcn (m &&& 2 ^ k) := fb_ct_pos.mpr ⟨k, hk, by rw [Nat.testBit_and, hb, Nat.testBit_two_pow]; simp⟩
      obtain ⟨d, d1, d2⟩ := fe_ex h0 t (m &&& (127 ^^^ 2 ^ k)) (by omega) (by omega) (fun i hi hb2 => by
        rw [tb_clr hi] at hb2
        simp at hb2
        exact hs i hi hb2.1)
      refine ⟨fun s => if s = 3 - t then k else d s, fun s h1 h2 => ?_, fun i hi hmi => ?_⟩
      · dsimp only
        split
        · exact hs k hk hb
        · exact d1 s (by omega) h2
      · by_cases z : i = k
        · exact ⟨3 - t, by omega, by omega, by rw [z]; exact if_pos rfl⟩
        · obtain ⟨s, s1, s2, s3⟩ := d2 i hi (by rw [tb_clr hi, hmi]; simp [z])
          exact ⟨s, by omega, s2, by rw [← s3]; exact if_neg (by omega)⟩
    · exact ⟨fun _ => k0, fun s h1 h2 => h0, fun k hk hb => absurd ⟨k, hk, hb⟩ e⟩
