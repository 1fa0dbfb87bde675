/-! test, odds. -/
theorem itr_add {α : Type} (f : Nat → α → α) (a : α) (m : Nat) : ∀ k, itr f a (m + k) = itr (fun c => f (m + c)) (itr f a m) k
  | 0 => rfl
  | k + 1 => by
    show f (m + k) (itr f a (m + k)) = f (m + k) (itr (fun c => f (m + c)) (itr f a m) k)
    rw [itr_add f a m k]
theorem itr_id {α : Type} {f : Nat → α → α} {a : α} {m : Nat} : ∀ {k : Nat}, (∀ i, m ≤ i → i < m + k → ∀ s, f i s = s) → itr f a (m + k) = itr f a m
  | 0, _ => rfl
  | k + 1, h => by
    show f (m + k) (itr f a (m + k)) = itr f a m
    rw [h (m + k) (by omega) (by omega), itr_id (fun i h1 h2 => h i h1 (by omega))]
theorem itr_block {α : Type} (f : Nat → α → α) (a : α) : ∀ m, itr f a (7 * m) = itr (fun q s => itr (fun c => f (7 * q + c)) s 7) a m
  | 0 => rfl
  | m + 1 => by
    rw [show 7 * (m + 1) = 7 * m + 7 by omega, itr_add, itr_block f a m]
    rfl
theorem itr_cg {α : Type} {f g : Nat → α → α} {a : α} : ∀ {n : Nat}, (∀ i, i < n → ∀ s, f i s = g i s) → itr f a n = itr g a n
  | 0, _ => rfl
  | n + 1, h => by
    show f n (itr f a n) = g n (itr g a n)
    rw [itr_cg (fun i hi => h i (by omega)), h n (by omega)]
def wo (L : Nat → Nat → Nat) (C Q i : Nat) : Nat := if 2 * wi L C Q i ≤ tot L C Q then tot L C Q - wi L C Q i else wi L C Q i
def tst (L : Nat → Nat → Nat) (C Q i : Nat) (s : Option (Nat × Nat)) : Option (Nat × Nat) := if 0 < wi L C Q i ∧ wi L C Q i < tot L C Q then (match s with | none => some (10 * (i / 7) + i % 7, wo L C Q i) | some t => if t.2 ≤ wo L C Q i then some t else some (10 * (i / 7) + i % 7, wo L C Q i)) else s
def TI (L : Nat → Nat → Nat) (C Q : Nat) (s : Option (Nat × Nat)) : Prop := ∀ t, s = some t → t.2 < tot L C Q ∧ t.1 < 100
def eX (L : Nat → Nat → Nat) (C Q : Nat) (s : Option (Nat × Nat)) : Int32 × Int32 := match s with | none => (-9, nI (tot L C Q)) | some t => (nI t.1, nI t.2)
def eM (s : Option (Nat × Nat)) : Int32 × Int32 := match s with | none => (-9, 0) | some t => (nI t.1, nI t.2)
theorem cd49 : ∀ i, i < 49 → ((10 : Int32) * (nI i / (7 : Int32))) + (nI i - nI i / (7 : Int32) * (7 : Int32)) = nI (10 * (i / 7) + i % 7) := by decide +kernel
section Test
variable {S : aSt} {h C Q T : Nat} {L : Nat → Nat → Nat}
theorem wo_lt {i : Nat} (h1 : 0 < wi L C Q i) (h2 : wi L C Q i < tot L C Q) : wo L C Q i < tot L C Q := by
  unfold wo
  split <;> omega
theorem TI.step {i : Nat} (hi : i < 49) {s : Option (Nat × Nat)} (H : TI L C Q s) : TI L C Q (tst L C Q i s) := by
  unfold tst
  by_cases k : 0 < wi L C Q i ∧ wi L C Q i < tot L C Q
  · rw [if_pos k]
    have hw := wo_lt k.1 k.2
    intro t ht
    cases s with
    | none =>
      have := Option.some.inj ht
      rw [← this]
      exact ⟨hw, by show 10 * (i / 7) + i % 7 < 100; omega⟩
    | some u =>
      have ht2 : (if u.2 ≤ wo L C Q i then some u else some (10 * (i / 7) + i % 7, wo L C Q i)) = some t := ht
      by_cases k2 : u.2 ≤ wo L C Q i
      · rw [if_pos k2] at ht2
        exact H t ht2
      · rw [if_neg k2] at ht2
        have := Option.some.inj ht2
        rw [← this]
        exact ⟨hw, by show 10 * (i / 7) + i % 7 < 100; omega⟩
  · rw [if_neg k]
    exact H
theorem TI.itr7 {q : Nat} (hq : q < 7) {s : Option (Nat × Nat)} (H : TI L C Q s) : ∀ m, m ≤ 7 → TI L C Q (itr (fun c => tst L C Q (7 * q + c)) s m)
  | 0, _ => H
  | m + 1, hm => TI.step (by omega) (TI.itr7 hq H m (by omega))
theorem TI.all : ∀ m, m ≤ 49 → TI L C Q (itr (tst L C Q) none m)
  | 0, _ => fun t ht => by cases ht
  | m + 1, hm => TI.step (by omega) (TI.all m (by omega))
theorem TI.itrQ (hC : C ≤ 7) : ∀ m, m ≤ 7 → TI L C Q (itr (fun q s => itr (fun c => tst L C Q (7 * q + c)) s C) none m)
  | 0, _ => fun t ht => by cases ht
  | m + 1, hm => TI.itr7 (by omega) (TI.itrQ hC m (by omega)) C hC
theorem tst_out {i : Nat} (hi : Q ≤ i / 7 ∨ C ≤ i % 7) (s : Option (Nat × Nat)) : tst L C Q i s = s := by
  unfold tst
  rw [if_neg (by rw [wi_out hi]; omega)]
theorem tst_all (hC : C ≤ 7) (hQ : Q ≤ 7) : itr (tst L C Q) none 49 = itr (fun q s => itr (fun c => tst L C Q (7 * q + c)) s C) none Q := by
  rw [show 49 = 7 * 7 by rfl, itr_block, show itr (fun q s => itr (fun c => tst L C Q (7 * q + c)) s 7) none 7 = itr (fun q s => itr (fun c => tst L C Q (7 * q + c)) s C) none 7 from itr_cg (fun q hq s => ?_)]
  · have := itr_id (f := fun q s => itr (fun c => tst L C Q (7 * q + c)) s C) (a := none) (m := Q) (k := 7 - Q) (fun i h1 h2 s => by
      have z := itr_id (f := fun c => tst L C Q (7 * i + c)) (a := s) (m := 0) (k := C) (fun c _ hc t => tst_out (Or.inl (by omega)) t)
      rw [Nat.zero_add] at z
      exact z)
    rw [show Q + (7 - Q) = 7 by omega] at this
    exact this
  · have := itr_id (f := fun c => tst L C Q (7 * q + c)) (a := s) (m := C) (k := 7 - C) (fun c h1 h2 t => tst_out (Or.inr (by omega)) t)
    rw [show C + (7 - C) = 7 by omega] at this
    exact this
theorem X6_test_in (n : Nat) (hn : 200 < n) {S0 : aSt} (hX : CX S h C Q T L) (H : TF S0 S C Q L (mx C (alm L) (fun _ => 1) Q 0 0)) {q : Nat} (hq : q < Q) {s : Option (Nat × Nat)} (hs : TI L C Q s) (K : Int32 → Int32 → Option (Int32 × aSt)) : F_X6_test_L38 n S 5 (nI q) h K n (eX L C Q s).1 (eX L C Q s).2 0 = K (eX L C Q (itr (fun c => tst L C Q (7 * q + c)) s C)).1 (eX L C Q (itr (fun c => tst L C Q (7 * q + c)) s C)).2 := by
  have hQ := hX.2.2.2.2.2.1
  have hC := hX.2.2.2.2.1
  have ht := tot_le (L := L) hC hQ
  refine lp_eq (fun fu (a : Int32 × Int32) i => F_X6_test_L38 n S 5 (nI q) h K fu a.1 a.2 i) (fun a => K a.1 a.2) (fun m => eX L C Q (itr (fun c => tst L C Q (7 * q + c)) s m)) C (fun fu => ?_) (fun fu c hc => ?_) C 0 n (by omega) (by omega)
  · show F_X6_test_L38 _ _ _ _ _ _ (fu + 1) _ _ _ = _
    rw [F_X6_test_L38, hX.2.2.2.1.1, if_pos (Int32.le_refl _)]
  · show F_X6_test_L38 _ _ _ _ _ _ (fu + 1) _ _ _ = F_X6_test_L38 _ _ _ _ _ _ fu (eX L C Q (tst L C Q (7 * q + c) (itr (fun c => tst L C Q (7 * q + c)) s c))).1 (eX L C Q (tst L C Q (7 * q + c) (itr (fun c => tst L C Q (7 * q + c)) s c))).2 _
    have hI := TI.itr7 (L := L) (C := C) (Q := Q) (show q < 7 by omega) hs c (by omega)
    generalize itr (fun c => tst L C Q (7 * q + c)) s c = u at hI ⊢
    have hw := wi_le L C Q (7 * q + c)
    rw [F_X6_test_L38, hX.2.2.2.1.1, if_neg (nI_ge hc (by omega)), X2_countWith_eq n hn H hq hc, bndS, H.2.2.2.1, ← tot_ev hC, pk_sub hw]
    have ew : (if nI (wi L C Q (7 * q + c)) < nI (tot L C Q - wi L C Q (7 * q + c)) then nI (tot L C Q - wi L C Q (7 * q + c)) else nI (wi L C Q (7 * q + c))) = nI (wo L C Q (7 * q + c)) := by
      unfold wo
      by_cases k : wi L C Q (7 * q + c) < tot L C Q - wi L C Q (7 * q + c)
      · rw [if_pos (nI_lt k (by omega)), if_pos (by omega)]
      · rw [if_neg (nI_nlt (by omega) (by omega))]
        by_cases k2 : 2 * wi L C Q (7 * q + c) ≤ tot L C Q
        · rw [if_pos k2, show tot L C Q - wi L C Q (7 * q + c) = wi L C Q (7 * q + c) by omega]
        · rw [if_neg k2]
    rw [ew]
    have hwo : wo L C Q (7 * q + c) ≤ tot L C Q := by unfold wo; split <;> omega
    have hcode : (10 : Int32) * nI q + nI c = nI (10 * ((7 * q + c) / 7) + (7 * q + c) % 7) := by
      rw [li_10, nI_mulN, nI_add, show (7 * q + c) / 7 = q by omega, show (7 * q + c) % 7 = c by omega]
    simp only [nmE, jnE, hcode, nI_1]
    unfold tst
    by_cases k : 0 < wi L C Q (7 * q + c) ∧ wi L C Q (7 * q + c) < tot L C Q
    · have hlt := wo_lt k.1 k.2
      rw [if_pos k]
      cases u with
      | none =>
        show (if nI (tot L C Q) ≤ nI (wo L C Q (7 * q + c)) then _ else _) = _
        rw [if_neg (nI_ge hlt (by omega))]
        rfl
      | some t =>
        obtain ⟨t1, t2⟩ := hI t rfl
        show (if nI t.2 ≤ nI (wo L C Q (7 * q + c)) then _ else _) = F_X6_test_L38 _ _ _ _ _ _ fu (eX L C Q (if t.2 ≤ wo L C Q (7 * q + c) then some t else some (10 * ((7 * q + c) / 7) + (7 * q + c) % 7, wo L C Q (7 * q + c)))).1 (eX L C Q (if t.2 ≤ wo L C Q (7 * q + c) then some t else some (10 * ((7 * q + c) / 7) + (7 * q + c) % 7, wo L C Q (7 * q + c)))).2 _
        by_cases k2 : t.2 ≤ wo L C Q (7 * q + c)
        · rw [if_pos (nI_le k2 (by omega)), if_pos k2]
        · rw [if_neg (nI_ge (by omega) (by omega)), if_neg k2]
          rfl
    · rw [if_neg k]
      have hwe : wo L C Q (7 * q + c) = tot L C Q := by
        unfold wo
        split <;> omega
      rw [hwe]
      cases u with
      | none =>
        show (if nI (tot L C Q) ≤ nI (tot L C Q) then _ else _) = _
        rw [if_pos (Int32.le_refl _)]
      | some t =>
        obtain ⟨t1, t2⟩ := hI t rfl
        show (if nI t.2 ≤ nI (tot L C Q) then _ else _) = _
        rw [if_pos (nI_le (by omega) (by omega))]
theorem X6_test_out (n : Nat) (hn : 200 < n) {S0 : aSt} {d : Nat} (hR : RfX S h d) (hX : CX S h C Q T L) (H : TF S0 S C Q L (mx C (alm L) (fun _ => 1) Q 0 0)) (K : Int32 → Int32 → Option (Int32 × aSt)) : F_X6_test_L24 n 0 S 5 K n (-9) (nI (tot L C Q)) 0 = K (eX L C Q (itr (tst L C Q) none 49)).1 (eX L C Q (itr (tst L C Q) none 49)).2 := by
  have hQ := hX.2.2.2.2.2.1
  have hC := hX.2.2.2.2.1
  rw [tst_all hC hQ]
  refine lp_eq (fun fu (a : Int32 × Int32) i => F_X6_test_L24 n 0 S 5 K fu a.1 a.2 i) (fun a => K a.1 a.2) (fun m => eX L C Q (itr (fun q s => itr (fun c => tst L C Q (7 * q + c)) s C) none m)) Q (fun fu => ?_) (fun fu q hq => ?_) Q 0 n (by omega) (by omega)
  · show F_X6_test_L24 _ _ _ _ _ (fu + 1) _ _ _ = _
    rw [F_X6_test_L24, X0_here hR, hX.2.2.2.1.2.1, if_pos (Int32.le_refl _)]
  · show F_X6_test_L24 _ _ _ _ _ (fu + 1) _ _ _ = F_X6_test_L24 _ _ _ _ _ fu (eX L C Q (itr (fun c => tst L C Q (7 * q + c)) (itr (fun q s => itr (fun c => tst L C Q (7 * q + c)) s C) none q) C)).1 (eX L C Q (itr (fun c => tst L C Q (7 * q + c)) (itr (fun q s => itr (fun c => tst L C Q (7 * q + c)) s C) none q) C)).2 _
    have hI := TI.itrQ (L := L) (C := C) (Q := Q) hC q (by omega)
    generalize itr (fun q s => itr (fun c => tst L C Q (7 * q + c)) s C) none q = u at hI ⊢
    rw [F_X6_test_L24, X0_here hR, hX.2.2.2.1.2.1, if_neg (nI_ge hq (by omega)), jnE, X6_test_in n hn hX H hq hI, nI_1]
theorem X7_test_loop (n : Nat) (hn : 200 < n) (hM : S.2.2 82 = HRm) (hC : C ≤ 7) (hQ : Q ≤ 7) (H : CF S C Q L) (K : Int32 → Int32 → Option (Int32 × aSt)) : F_X7_test_L12 82 S K n (-9) 0 0 = K (eM (itr (tst L C Q) none 49)).1 (eM (itr (tst L C Q) none 49)).2 := by
  have ht := tot_le (L := L) hC hQ
  refine lp_eq (fun fu (a : Int32 × Int32) i => F_X7_test_L12 82 S K fu a.1 a.2 i) (fun a => K a.1 a.2) (fun m => eM (itr (tst L C Q) none m)) 49 (fun fu => ?_) (fun fu i hi => ?_) 49 0 n (by omega) (by omega)
  · show F_X7_test_L12 _ _ _ (fu + 1) _ _ _ = _
    rw [F_X7_test_L12, if_pos (by decide)]
  · show F_X7_test_L12 _ _ _ (fu + 1) _ _ _ = F_X7_test_L12 _ _ _ fu (eM (tst L C Q i (itr (tst L C Q) none i))).1 (eM (tst L C Q i (itr (tst L C Q) none i))).2 _
    have hI := TI.all (L := L) (C := C) (Q := Q) i (by omega)
    generalize itr (tst L C Q) none i = u at hI ⊢
    have hw := wi_le L C Q i
    have e2 : (2 : Int32) * nI (wi L C Q i) = nI (2 * wi L C Q i) := by rw [li_2, nI_mulN]
    rw [F_X7_test_L12, if_neg (show ¬ (49 : Int32) ≤ nI i from nI_ge hi (by decide))]
    simp only [nmE, jnE, bn2S, bndS, grdT, stI_22, stL_22, stRow_22, HRm, rfdS T_83, rfdS T_84, rfdS T_85, rfdS T_86, rfdS T_87, rfdS T_88, rfdS T_89, rfdS T_90, rfdS T_91, rfdS T_92, rfdS T_93, rfdS T_94, rfdS T_95, rfdS T_96, SZ_83, SZ_84, SZ_85, SZ_86, SZ_87, SZ_88, SZ_89, SZ_90, SZ_91, SZ_92, SZ_93, SZ_94, SZ_95, SZ_96, hM, inb_nI hi (by decide), nI_clamp (show i < 2 ^ 31 by omega), H.2.2.1 i hi, H.2.1, nI_1, e2, pk_sub hw, cd49 i hi]
    have hwo : wo L C Q i ≤ tot L C Q := by unfold wo; split <;> omega
    have step : (if nI (wi L C Q i) ≤ 0 then F_X7_test_L12 82 S K fu (eM u).1 (eM u).2 (nI (i + 1)) else if nI (tot L C Q) ≤ nI (wi L C Q i) then F_X7_test_L12 82 S K fu (eM u).1 (eM u).2 (nI (i + 1)) else if (eM u).1 = -9 then F_X7_test_L12 82 S K fu (nI (10 * (i / 7) + i % 7)) (nI (wo L C Q i)) (nI (i + 1)) else if (eM u).2 ≤ nI (wo L C Q i) then F_X7_test_L12 82 S K fu (eM u).1 (eM u).2 (nI (i + 1)) else F_X7_test_L12 82 S K fu (nI (10 * (i / 7) + i % 7)) (nI (wo L C Q i)) (nI (i + 1))) = F_X7_test_L12 82 S K fu (eM (tst L C Q i u)).1 (eM (tst L C Q i u)).2 (nI (i + 1)) := by
      unfold tst
      by_cases k1 : 0 < wi L C Q i
      · rw [if_neg (nI_nle k1 (by omega))]
        by_cases k2 : wi L C Q i < tot L C Q
        · rw [if_neg (nI_ge k2 (by omega)), if_pos (show 0 < wi L C Q i ∧ wi L C Q i < tot L C Q from ⟨k1, k2⟩)]
          cases u with
          | none =>
            exact if_pos rfl
          | some t =>
            obtain ⟨t1, t2⟩ := hI t rfl
            show (if nI t.1 = -9 then _ else if nI t.2 ≤ nI (wo L C Q i) then _ else _) = F_X7_test_L12 _ _ _ fu (eM (if t.2 ≤ wo L C Q i then some t else some (10 * (i / 7) + i % 7, wo L C Q i))).1 (eM (if t.2 ≤ wo L C Q i then some t else some (10 * (i / 7) + i % 7, wo L C Q i))).2 _
            rw [if_neg (nI_m9 (by omega))]
            by_cases k3 : t.2 ≤ wo L C Q i
            · rw [if_pos (nI_le k3 (by omega)), if_pos k3]
            · rw [if_neg (nI_ge (by omega) (by omega)), if_neg k3]
              rfl
        · rw [if_pos (nI_le (by omega) (by omega)), if_neg (fun z => k2 z.2)]
      · rw [show wi L C Q i = 0 by omega, if_pos (by decide), if_neg (by omega)]
    rw [← step]
    unfold wo
    by_cases k : 2 * wi L C Q i ≤ tot L C Q
    · rw [if_pos (nI_le k (by omega)), if_pos k]
    · rw [if_neg (nI_ge (by omega) (by omega)), if_neg k]
end Test
theorem op_test (n : Nat) (hn : 5000000 < n) {S : aSt} (H : OK S) : Both S (F_X6_test n S 0) (fun S1 => F_X7_test n S1 82) := by
  obtain ⟨h, d, C, Q, T, L, hX, hM, hCX, hCM, hk⟩ := H.get
  have hC := hCM.2.2.1
  have hQ := hCM.2.2.2.1
  obtain ⟨S1, f1, f2⟩ := X2_countIn_eq n (by omega) hX hCX
  have m1 := f2.1.1
  have ex : F_X6_test n S 0 = if (eX L C Q (itr (tst L C Q) none 49)).1 = -9 then some ((eX L C Q (itr (tst L C Q) none 49)).1, S1) else some ((eX L C Q (itr (tst L C Q) none 49)).1, xTell S1 (eX L C Q (itr (tst L C Q) none 49)).2) := by
    unfold F_X6_test
    rw [hX.r4, X0_here hX, f1, bndS, (hX.eqs m1.rf).r4, nmE, jnE, f2.2.2.2.1, ← tot_ev hC, X6_test_out n (by omega) (hX.eqs m1.rf) (hCX.sm m1) f2]
    rfl
  have em : ∀ S2, CM S2 C Q T L → ∃ S3, Sm S2 S3 ∧ F_X7_test n S2 82 = if (eM (itr (tst L C Q) none 49)).1 = -9 then some ((eM (itr (tst L C Q) none 49)).1, S3) else some ((eM (itr (tst L C Q) none 49)).1, mTell S3 (eM (itr (tst L C Q) none 49)).2) := by
    intro S2 hCM2
    obtain ⟨S3, g1, g2, g3⟩ := X7_fullest_walk n hn hCM2
    refine ⟨S3, g2, ?_⟩
    unfold F_X7_test
    rw [g1, bndS, jnE, X7_test_loop n (by omega) (hCM2.sm g2).1 hC hQ g3]
    rfl
  have hI := TI.all (L := L) (C := C) (Q := Q) 49 (Nat.le_refl _)
  generalize itr (tst L C Q) none 49 = u at hI ex em
  cases u with
  | none =>
    obtain ⟨S3, k1, k2⟩ := em S1 (hCM.sm m1)
    refine Both.sameW H m1 (-9) k1 ?_ ?_
    · rw [ex]; exact if_pos rfl
    · show F_X7_test n S1 82 = _
      rw [k2]; exact if_pos rfl
  | some t =>
    obtain ⟨t1, t2⟩ := hI t rfl
    obtain ⟨S3, k1, k2⟩ := em (xTell S1 (nI t.2)) ((hCM.sm m1).congr rfl (xTell_m (by decide)))
    refine Both.tellW2 H m1 (nI t.2) (nI t.1) k1 ?_ ?_
    · rw [ex]; exact if_neg (nI_m9 (by omega))
    · show F_X7_test n (xTell S1 (nI t.2)) 82 = _
      rw [k2]; exact if_neg (nI_m9 (by omega))
