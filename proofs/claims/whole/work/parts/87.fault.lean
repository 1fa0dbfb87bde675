/-! the reference reads a whole text; fault, library. -/
section Reads3
variable {t m : Nat} {tx : Nat → Int32}
theorem X7_reads_loop (n : Nat) {r : prR} : ∀ (pf p C Q fu : Nat) (L : Nat → Nat → Nat) (S : aSt), prs tx m pf p C Q L = some r → pf ≤ fu → p ≤ m → LI C Q L → RM S t m tx → S.1 82 13 = nI p → PMd (S.1 91) C Q L → ∃ S', F_X7_reads_L46 n 82 (nI t) (fun x116S => rfd (x116S.2.2 82 12) 7 fun k117 => grd (inb (0 : Int32) (SH k117).2) <| if (x116S.1 k117 (0 : Int32).toNatClampNeg) = 0 then (some ((x116S.1 82 13), x116S)) else some ((-9 : Int32), x116S)) (fun x111S => some ((x111S.1 82 13), x111S)) fu S = some (en r.1, S') ∧ Sm S S' ∧ (r.1 = 99 → PMd (S'.1 91) r.2.1 r.2.2.1 r.2.2.2) := by
  intro pf
  induction pf with
  | zero => intro p C Q fu L S hr; cases hr
  | succ pf ih =>
    intro p C Q fu L S hr hf hp hI H e hP
    obtain ⟨fu', rfl⟩ : ∃ z, fu = z + 1 := ⟨fu - 1, by omega⟩
    have hm := H.2.2.2.2
    have ht := H.2.2.2.1
    have hC := hI.1.1
    have r2 : ∀ {β : Type} (f : Nat → Option β), rfd (S.2.2 82 2) 7 f = f 85 := fun f => by rw [H.1]; exact rfdS T_85 f
    rw [prs] at hr
    rw [F_X7_reads_L46, r2, SZ_85, inb_nI ht (by decide), grdT, nI_clamp (show t < 2 ^ 31 by omega), H.2.1, e]
    by_cases k0 : m ≤ p
    · rw [if_pos k0] at hr
      have er := Option.some.inj hr
      have r12 : ∀ {β : Type} (f : Nat → Option β), rfd (S.2.2 82 12) 7 f = f 91 := fun f => by rw [H.1]; exact rfdS T_91 f
      have e0 : S.1 91 (0 : Int32).toNatClampNeg = nI C := hP.1.1
      rw [if_pos (nI_le k0 (by omega)), r12, SZ_91, in0, grdT, e0]
      refine ⟨S, ?_, Sm.refl S, fun _ => ?_⟩
      · rw [← er]
        by_cases k2 : C = 0
        · rw [if_pos (by rw [k2]; rfl)]
          show some (nI p, S) = some (en (if C = 0 then p else 99), S)
          rw [if_pos k2, en_nI (by omega)]
        · rw [if_neg (nI_ne0 (by omega) (by omega))]
          show some (-9, S) = some (en (if C = 0 then p else 99), S)
          rw [if_neg k2]
          rfl
      · rw [← er]
        exact hP
    · rw [if_neg k0] at hr
      rw [if_neg (nI_ge (by omega) (by omega)), X7_byteAt_eq n H (show p < 100 by omega) e, if_pos (show p < m by omega), bndS]
      by_cases k1 : tx p = 32
      · rw [if_pos k1] at hr
        rw [if_pos k1, nmE, nI_1]
        obtain ⟨S', g1, g2, g3⟩ := ih (p + 1) C Q fu' L (stI S 82 13 (nI (p + 1))) hr (by omega) (by omega) hI (H.sm (sm_at13 S _)) (by simp [stI_at]) (by rw [stI_ne (by decide)]; exact hP)
        exact ⟨S', g1, (sm_at13 S _).trans g2, g3⟩
      · rw [if_neg k1] at hr
        rw [if_neg k1, bndS]
        by_cases k2 : tx p = 113
        · rw [if_pos k2] at hr
          rw [if_pos k2]
          obtain ⟨S1, g1, g2, g3, g4⟩ := X7_takesQuestion_eq n H (show p < m by omega) e hP hI k2
          rw [g1, bn2S]
          by_cases k3 : (itm tx m p C Q L).1 = 99
          · obtain ⟨i1, i2, i3⟩ := itm_ok hI k3 (by omega) hm
            rw [if_pos k3] at hr g3
            rw [if_pos k2] at i2
            rw [if_pos k3, if_neg (by decide)]
            obtain ⟨S', j1, j2, j3⟩ := ih (p + 5) _ _ fu' _ S1 hr (by omega) i2 i1 (H.sm g2) g3 (g4 k3)
            exact ⟨S', j1, g2.trans j2, j3⟩
          · rw [if_neg k3] at hr g3
            have er := Option.some.inj hr
            have hl := itm_f k3 (show p < m by omega)
            rw [if_neg k3, if_pos rfl, g3]
            refine ⟨S1, ?_, g2, fun z => ?_⟩
            · rw [← er]
              show some (nI (itm tx m p C Q L).1, S1) = some (en (itm tx m p C Q L).1, S1)
              rw [en_nI k3]
            · rw [← er] at z
              exact absurd z k3
        · rw [if_neg k2] at hr
          rw [if_neg k2]
          obtain ⟨S1, g1, g2, g3, g4⟩ := X7_takesCard_eq n H (show p < m by omega) e hP hI k2
          rw [g1, bn2S]
          by_cases k3 : (itm tx m p C Q L).1 = 99
          · obtain ⟨i1, i2, i3⟩ := itm_ok hI k3 (by omega) hm
            rw [if_pos k3] at hr g3
            rw [if_neg k2] at i2
            rw [if_pos k3, if_neg (by decide)]
            obtain ⟨S', j1, j2, j3⟩ := ih (p + 4) _ _ fu' _ S1 hr (by omega) i2 i1 (H.sm g2) g3 (g4 k3)
            exact ⟨S', j1, g2.trans j2, j3⟩
          · rw [if_neg k3] at hr g3
            have er := Option.some.inj hr
            have hl := itm_f k3 (show p < m by omega)
            rw [if_neg k3, if_pos rfl, g3]
            refine ⟨S1, ?_, g2, fun z => ?_⟩
            · rw [← er]
              show some (nI (itm tx m p C Q L).1, S1) = some (en (itm tx m p C Q L).1, S1)
              rw [en_nI k3]
            · rw [← er] at z
              exact absurd z k3
def rd0 (k : Nat) : Int32 := if 59 ≤ k ∧ k ≤ 72 then -9 else 0
theorem X7_rd0 (n : Nat) (hn : 500 < n) {S : aSt} (hM : S.2.2 82 = HRm) (K : aSt → Option (Int32 × aSt)) : F_X7_reads_L2 n 82 K n 0 S = K (stRow S 91 (fa_fill rd0 (S.1 91) 393)) := by
  have key := lp_eq (fun fu (s : aSt) i => F_X7_reads_L2 n 82 K fu i s) K (fun c => stRow S 91 (fa_fill rd0 (S.1 91) c)) 393 (fun fu => ?_) (fun fu c hc => ?_) 393 0 n (by omega) (by omega)
  · rw [fa_fill_0, stRow_id] at key
    exact key
  · show F_X7_reads_L2 _ _ _ (fu + 1) _ _ = _
    rw [F_X7_reads_L2, if_pos (by decide)]
  · show F_X7_reads_L2 _ _ _ (fu + 1) _ _ = F_X7_reads_L2 _ _ _ fu _ _
    have ei := X7_in_i n (stRow S 91 (fa_fill rd0 (S.1 91) c)) (nI c) 59 72
    rw [nI_toInt (by omega), show (59 : Int32).toInt = 59 by decide, show (72 : Int32).toInt = 72 by decide, show (59 : Int32).toInt64 = 59 by decide, show (72 : Int32).toInt64 = 72 by decide] at ei
    rw [F_X7_reads_L2, if_neg (show ¬ (393 : Int32) ≤ nI c from nI_ge hc (by decide)), ← fa_fill_succ]
    simp only [nmE, jnE, bn2S, bndS, grdT, stI_22, stL_22, stRow_22, HRm, rfdS T_83, rfdS T_84, rfdS T_85, rfdS T_86, rfdS T_87, rfdS T_88, rfdS T_89, rfdS T_90, rfdS T_91, rfdS T_92, rfdS T_93, rfdS T_94, rfdS T_95, rfdS T_96, SZ_83, SZ_84, SZ_85, SZ_86, SZ_87, SZ_88, SZ_89, SZ_90, SZ_91, SZ_92, SZ_93, SZ_94, SZ_95, SZ_96, hM, ei, if10', inb_nI hc (by decide), nI_clamp (show c < 2 ^ 31 by omega), stI_stRow, nI_1]
    unfold rd0
    by_cases k : 59 ≤ c ∧ c ≤ 72
    · rw [if_pos (by omega), if_pos k]
    · rw [if_neg (by omega), if_neg k]
theorem X7_reads_eq (n : Nat) (hn : 500 < n) {S : aSt} (H : RM S t m tx) {r : prR} (hr : prs tx m (m + 1) 0 0 0 (fun _ _ => 99) = some r) : ∃ S', F_X7_reads n S 82 (nI t) = some (en r.1, S') ∧ Sm S S' ∧ (r.1 = 99 → PMd (S'.1 91) r.2.1 r.2.2.1 r.2.2.2) := by
  have hm := H.2.2.2.2
  generalize hS1 : stI (stRow S 91 (fa_fill rd0 (S.1 91) 393)) 82 13 0 = S1
  have m1 : Sm S S1 := by rw [← hS1]; exact ((Sm.refl S).row (by omega) _).trans (sm_at13 _ _)
  have w1 : ∀ j, j < 393 → S1.1 91 j = rd0 j := fun j hj => by rw [← hS1, stI_ne (by decide), stRow_self, fa_fill_in hj]
  have hP : PMd (S1.1 91) 0 0 (fun _ _ => 99) := by
    refine ⟨⟨?_, ?_, ?_, fun c hc => by omega, fun q hq => by omega, fun q hq h0 => by omega, fun s hs => by omega⟩, fun q hq => ?_⟩
    · rw [w1 0 (by omega)]; rfl
    · rw [w1 1 (by omega)]; rfl
    · rw [w1 2 (by omega)]; rfl
    · rw [w1 (59 + q) (by omega)]
      unfold rd0
      rw [if_pos (by omega)]
  obtain ⟨S2, g1, g2, g3⟩ := X7_reads_loop (t := t) n (m + 1) 0 0 0 n (fun _ _ => 99) S1 hr (by omega) (by omega) LI.zero (H.sm m1) (by rw [← hS1]; simp [stI_at]; rfl) hP
  refine ⟨S2, ?_, m1.trans g2, g3⟩
  unfold F_X7_reads
  rw [jnE, X7_rd0 n hn H.1, nmE, hS1, jnE, jnE]
  exact g1
end Reads3
theorem OK.dr {S S' : aSt} {h d : Nat} (H : OK S) (hX : RfX S h d) (r : Dr d S S') : OK S' := by
  obtain ⟨h', d', hX', hM, hA, hR, hT, C, Q, T, L, hw, hx, hm, hk⟩ := H
  have e6 : h' = h ∧ d' = d := by
    have a := hX.2.1
    have b := hX'.2.1
    rw [a] at b
    have b6 := congrFun b 6
    have b7 := congrFun b 7
    exact ⟨(Option.some.inj b6).symm, (Option.some.inj b7).symm⟩
  obtain ⟨rfl, rfl⟩ := e6
  have hd := hX'.1
  have e : ∀ k, ¬ (d' ≤ k ∧ k ≤ d' + 13) → S'.1 k = S.1 k := r.2
  refine ⟨h', d', ?_, ?_, ?_, hR.congr (fun k q => e k (by omega)), hT.congr (fun k q => e k (by omega)), C, Q, T, L, hw, hx.congr (fun k a b => e k (by omega)), ?_, hk.congr (fun k q => e k (by omega))⟩
  · unfold RfX at *; rw [r.1]; exact hX'
  · unfold RfM at *; rw [r.1]; exact hM
  · obtain ⟨a1, a2, a3, a4, a5⟩ := hA
    refine ⟨?_, ?_, fun f hf => ?_, ?_, ?_⟩
    · rw [e 0 (by omega), e 82 (by omega)]; exact a1
    · rw [e 0 (by omega), e 82 (by omega)]; exact a2
    · rw [e 4 (by omega), e 90 (by omega)]; exact a3 f hf
    · rw [r.1]; exact a4
    · rw [r.1]; exact a5
  · rw [e 87 (by omega)]; exact hm
theorem RfX.dd {S : aSt} {h d : Nat} (H : RfX S h d) : d = 13 ∨ d = 27 := by rcases H.1 with ⟨_, a⟩ | ⟨_, a⟩ <;> simp [a]
theorem RfX.dx {S : aSt} {h d : Nat} (H : RfX S h d) : DX S d := ⟨H.dd, (H.2.2.2.2.2.2.2.2.1 d H.dd).1, (H.2.2.2.2.2.2.2.2.1 d H.dd).2⟩
theorem RfX.r1 {S : aSt} {h d : Nat} (H : RfX S h d) {β : Type} (f : Nat → Option β) : rfd (S.2.2 0 1) 9 f = f 2 := by rw [H.2.1]; exact rfdS T_2 f
theorem RfX.r7 {S : aSt} {h d : Nat} (H : RfX S h d) {β : Type} (f : Nat → Option β) : rfd (S.2.2 0 7) 0 f = f d := by rw [H.2.1]; exact rfdS (tg0 H.dd) f
theorem op_fault (n : Nat) (hn : 1000 < n) {S : aSt} (H : OK S) (t : Int32) : Both S (F_X6_fault n S 0 t) (fun S1 => F_X7_fault n S1 82 t) := by
  by_cases ht : inb t 4 = true
  · obtain ⟨t, ht', rfl⟩ := inb_ex ht (by decide)
    obtain ⟨h, d, C, Q, T, L, hX, hM, hCX, hCM, hk⟩ := H.get
    obtain ⟨x1, x2⟩ := xtxt hX ht'
    obtain ⟨t1, t2, t3⟩ := txtT ht'
    have hc : (nI t).toNatClampNeg = t := nI_clamp (by omega)
    obtain ⟨e1, e2⟩ := H.pt t ht'
    have ry : ∀ {β : Type} (f : Nat → Option β), rfd (S.2.2 2 t) 3 f = f (53 + 2 * t) := fun f => by rw [x1]; exact rfdS t1 f
    have rm2 : ∀ {S' : aSt} {β : Type} (f : Nat → Option β), RfM S' → rfd (S'.2.2 82 2) 7 f = f 85 := fun f hs => by rw [show _ = HRm from hs]; exact rfdS T_85 f
    rcases e2 with e2 | ⟨m, hm, e2, e3⟩
    · refine Both.fnd H 1 (by decide) ?_ ?_
      · unfold F_X6_fault
        rw [X6_isText_eq, bndS, if10', if_pos ht, hX.r1, SZ_2, inb_nI ht' (by decide), grdT, hc, ry, X4_isThere_eq, bndS, e1, e2, if_pos rfl, if_pos rfl]
        rw [show F_X6_found n S 0 1 = some (-3, xFnd S 1) from X6_found_eq n hX (f := 1) (by decide), bn2S]
      · show F_X7_fault n (xFnd S 1) 82 (nI t) = _
        have hM1 : RfM (xFnd S 1) := hM
        unfold F_X7_fault
        rw [X7_isText_eq, bndS, if10', if_pos ht, rm2 _ hM1, SZ_85, inb_nI ht' (by decide), grdT, hc, xFnd_m (by decide), e2, if_neg (by decide)]
        rw [show F_X7_found n (xFnd S 1) 82 1 = some (-3, mFnd (xFnd S 1) 1) from X7_found_eq n hM1 (f := 1) (by decide), bn2S]
    · have hT : TX S (53 + 2 * t) m (S.1 (53 + 2 * t + 1)) := ⟨x2, t2, t3, by rw [e1, e2], hm, fun i _ => rfl, by omega⟩
      obtain ⟨r, S1, p1, p2, p3, p4⟩ := X1_readFrom_eq n (by omega) hT hX.dx
      have hd := hX.dd
      have hRM : RM S1 t m (S.1 (53 + 2 * t + 1)) := by
        refine ⟨?_, ?_, fun i hi => ?_, ht', hm⟩
        · rw [p3.1]; exact hM
        · rw [p3.2 85 (by omega)]; exact e2
        · rw [p3.2 86 (by omega)]; exact (e3 i hi).symm
      obtain ⟨S2, q1, q2, q3⟩ := X7_reads_eq n (by omega) hRM p1
      refine ⟨en r.1, S1, S2, ?_, ?_, (H.dr hX p3).sm q2⟩
      · unfold F_X6_fault
        rw [X6_isText_eq, bndS, if10', if_pos ht, hX.r1, SZ_2, inb_nI ht' (by decide), grdT, hc, ry, X4_isThere_eq, bndS, e1, e2, if_neg (nI_nm1 (by omega)), if_neg (by decide), hX.r7, grdT, ry, p2, bn2S]
      · show F_X7_fault n S1 82 (nI t) = _
        unfold F_X7_fault
        rw [X7_isText_eq, bndS, if10', if_pos ht, rm2 _ hRM.1, SZ_85, inb_nI ht' (by decide), grdT, hc, hRM.2.1, if_pos (nI_pos' (by omega)), q1, bn2S]
  · refine Both.same H (-1) ?_ ?_
    · unfold F_X6_fault
      rw [X6_isText_eq, bndS, if10', if_neg ht]
    · show F_X7_fault n S 82 t = _
      unfold F_X7_fault
      rw [X7_isText_eq, bndS, if10', if_neg ht]
