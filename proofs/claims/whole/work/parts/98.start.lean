/-! the law's loop, its start. -/
theorem lw_m63 (x : Int32) : ∃ j, j < 64 ∧ x &&& 63 = nI j := by
  have h : x = nI x.toBitVec.toNat := Int32.toBitVec_inj.mp (by simp [nI])
  refine ⟨x.toBitVec.toNat % 2 ^ 6, Nat.mod_lt _ (by decide), ?_⟩
  rw [← fa_mask, ← h]
  rfl
theorem lw_guard {L i : Nat} (hL : L ≤ 384) (hi : i ≤ L) (hk : ¬ (nI L - 6 < nI i)) : i + 6 ≤ L := by
  have h1 : (nI L - 6 : Int32).toInt = (L : Int) - 6 := by
    rw [Int32.toInt_sub, nI_toInt (by omega)]
    exact Int.bmod_eq_of_le (by show _ ≤ (L : Int) - 6; omega) (by show (L : Int) - 6 < _; omega)
  rw [Int32.lt_iff_toInt_lt, h1, nI_toInt (by omega)] at hk
  omega
theorem lw_in {L i k : Nat} (hL : L ≤ 384) (hi : i + 6 ≤ L) (hk : k < 6) {x : Int32} (hx : x = nI k) : inb (nI i + x) L = true := by
  rw [hx, nI_add]
  exact inb_nI (by omega) (by omega)
theorem law_loop {G : aG} {l : Launch} {nm : String} {NF : Nat} (hNF : 5000000 < NF) (hL : G.2.2.2.1 ≤ 384) : ∀ (d i : Nat) (S : aSt), i ≤ G.2.2.2.1 → G.2.2.2.1 < i + d → OK S → Go G l room_1 lw_Z (mLw nm) 97 97 7587 18 [(3, .int (nI i)), (2, .ref 82), (1, .ref 0), (0, .ref 1000)] [] S := by
  intro d
  induction d with
  | zero => intro i S h1 h2; omega
  | succ d ih =>
    intro i S h1 h2 H
    refine Go.iload_n 0 19 rfl dL_law_18 rfl ?_
    refine Go.aload_n 3 20 rfl dL_law_19 rfl ?_
    refine Go.sln 21 rfl dL_law_20 ?_
    refine Go.bipush 6 23 rfl dL_law_21 (by decide) ?_
    refine Go.isub 24 rfl dL_law_23 ?_
    refine Go.icmp_gt 1413 27 rfl dL_law_24 (by decide) (fun _ => ?_) (fun hk => ?_)
    · exact Go.iconst 1 1414 rfl dL_law_1413 rfl (Go.lend rfl (by decide) (by decide) dL_law_1414)
    · have hi : i + 6 ≤ G.2.2.2.1 := lw_guard hL h1 hk
      refine Go.aload_n 3 28 rfl dL_law_27 rfl ?_
      refine Go.iload_n 0 29 rfl dL_law_28 rfl ?_
      refine Go.sld (G.2.2.2.2.1 (nI i).toNatClampNeg) 30 rfl dL_law_29 (inb_nI (by omega) (by omega)) rfl ?_
      refine Go.bipush 63 32 rfl dL_law_30 (by decide) ?_
      refine Go.iand 33 rfl dL_law_32 ?_
      refine law_sw hNF H (lw_in hL hi (k := 1) (by omega) rfl) rfl (lw_in hL hi (k := 2) (by omega) rfl) rfl (lw_in hL hi (k := 3) (by omega) rfl) rfl (lw_in hL hi (k := 4) (by omega) rfl) rfl (lw_in hL hi (k := 5) (by omega) rfl) rfl (lw_m63 _) (fun S' H' => ?_)
      refine Go.iinc 0 1410 (nI (i + 6)) [(3, .int (nI (i + 6))), (2, .ref 82), (1, .ref 0), (0, .ref 1000)] rfl dL_law_1407 rfl (nI_add i 6) (show (3 : Nat) < 4 by decide) rfl ?_
      refine Go.goto 18 dL_law_1410 (by decide) ?_
      exact ih (i + 6) S' hi (by omega) H'
theorem nw_L_7 : aNw RL 7 5 12 := ⟨RX6, TX6, tyX6, rfl, inX6g, tyX6_ok, by decide +kernel, by decide, am_mem 64 (by decide +kernel) rfl, am_mem 65 (by decide +kernel) rfl, am_mem 52 (by decide +kernel) rfl⟩
theorem nw_L_10 : aNw RL 10 6 21 := ⟨RX7, TX7, tyX7, rfl, inX7g, tyX7_ok, by decide +kernel, by decide, am_mem 832 (by decide +kernel) rfl, am_mem 833 (by decide +kernel) rfl, am_mem 60 (by decide +kernel) rfl⟩
theorem cc_L_9 : aCI RL 9 yX6_init mX6_init 0 := ⟨Or.inl (am_mem 66 (by decide +kernel) rfl), am_mem 67 (by decide +kernel) rfl, am_mem 52 (by decide +kernel) rfl, am_mem 68 (by decide +kernel) rfl, rfl, rfl, by decide +kernel, by decide +kernel, by decide +kernel⟩
theorem cc_L_12 : aCI RL 12 yX7_init mX7_init 0 := ⟨Or.inl (am_mem 834 (by decide +kernel) rfl), am_mem 835 (by decide +kernel) rfl, am_mem 60 (by decide +kernel) rfl, am_mem 836 (by decide +kernel) rfl, rfl, rfl, by decide +kernel, by decide +kernel, by decide +kernel⟩
def S00 : aSt := (fun _ _ => 0, fun _ _ => 0, fun _ _ => none)
theorem S00_z : Zr S00 0 := fun _ _ => ⟨fun _ => rfl, fun _ => rfl, fun _ => rfl⟩
theorem law_go {G : aG} {l : Launch} {nm : String} (hL : G.2.2.2.1 ≤ 384) : Go G l room_1 lw_Z (mLw nm) 0 0 0 0 [(0, .ref 1000)] [] S00 := by
  obtain ⟨S1, k6, f6⟩ := K_X6 (G := G) (l := l) (S := S00) S00_z
  have z1 : Zr S1 82 := f6.2.2.2.2.2
  obtain ⟨S2, k7, f7⟩ := K_X7 (G := G) (l := l) (S := S1) z1
  refine Go.newO 3 1 1 12 rfl rfl rfl rfl dL_law_0 nw_L_7 (by decide +kernel) (by decide) S00_z (by decide) (by decide) ?_
  refine Go.dup 4 rfl dL_law_3 rfl ?_
  refine Go.callI 7 82 82 4703 [] [.ref 0] rfl rfl rfl rfl dL_law_4 k6 cc_L_9 (by decide) (by decide) rfl (by decide) ?_
  refine Go.astore_n 8 [(1, .ref 0), (0, .ref 1000)] rfl dL_law_7 (show (1 : Nat) < 4 by decide) rfl ?_
  refine Go.newO 11 83 83 4724 rfl rfl rfl rfl dL_law_8 nw_L_10 (by decide +kernel) (by decide) z1 (by decide) (by decide) ?_
  refine Go.dup 12 rfl dL_law_11 rfl ?_
  refine Go.callI 15 97 97 7587 [] [.ref 82] rfl rfl rfl rfl dL_law_12 k7 cc_L_12 (by decide) (by decide) rfl (by decide) ?_
  refine Go.astore_n 16 [(2, .ref 82), (1, .ref 0), (0, .ref 1000)] rfl dL_law_15 (show (2 : Nat) < 4 by decide) rfl ?_
  refine Go.iconst (nI 0) 17 rfl dL_law_16 rfl ?_
  refine Go.istore_n 18 [(3, .int (nI 0)), (2, .ref 82), (1, .ref 0), (0, .ref 1000)] rfl dL_law_17 (show (3 : Nat) < 4 by decide) rfl ?_
  exact law_loop (NF := 5000001) (by omega) hL (G.2.2.2.1 + 1) 0 S2 (by omega) (by omega) (OK_init f6 f7)
