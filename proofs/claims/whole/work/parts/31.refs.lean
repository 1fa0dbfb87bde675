/-! The cells, references, ranges, loops. -/
theorem T_0 : isT 0 5 = true := by decide +kernel
theorem T_1 : isT 1 9 = true := by decide +kernel
theorem SZ_1 : (SH 1).2 = 6 := by decide +kernel
theorem T_2 : isT 2 9 = true := by decide +kernel
theorem SZ_2 : (SH 2).2 = 4 := by decide +kernel
theorem T_3 : isT 3 10 = true := by decide +kernel
theorem SZ_3 : (SH 3).2 = 3 := by decide +kernel
theorem T_4 : isT 4 7 = true := by decide +kernel
theorem SZ_4 : (SH 4).2 = 6 := by decide +kernel
theorem T_5 : isT 5 1 = true := by decide +kernel
theorem T_6 : isT 6 7 = true := by decide +kernel
theorem SZ_6 : (SH 6).2 = 7 := by decide +kernel
theorem T_7 : isT 7 7 = true := by decide +kernel
theorem SZ_7 : (SH 7).2 = 1024 := by decide +kernel
theorem T_8 : isT 8 7 = true := by decide +kernel
theorem SZ_8 : (SH 8).2 = 1024 := by decide +kernel
theorem T_9 : isT 9 2 = true := by decide +kernel
theorem T_10 : isT 10 7 = true := by decide +kernel
theorem SZ_10 : (SH 10).2 = 10 := by decide +kernel
theorem T_11 : isT 11 7 = true := by decide +kernel
theorem SZ_11 : (SH 11).2 = 7 := by decide +kernel
theorem T_12 : isT 12 7 = true := by decide +kernel
theorem SZ_12 : (SH 12).2 = 128 := by decide +kernel
theorem T_13 : isT 13 0 = true := by decide +kernel
theorem T_14 : isT 14 7 = true := by decide +kernel
theorem SZ_14 : (SH 14).2 = 7 := by decide +kernel
theorem T_15 : isT 15 7 = true := by decide +kernel
theorem SZ_15 : (SH 15).2 = 7 := by decide +kernel
theorem T_16 : isT 16 7 = true := by decide +kernel
theorem SZ_16 : (SH 16).2 = 7 := by decide +kernel
theorem T_17 : isT 17 7 = true := by decide +kernel
theorem SZ_17 : (SH 17).2 = 7 := by decide +kernel
theorem T_18 : isT 18 7 = true := by decide +kernel
theorem SZ_18 : (SH 18).2 = 7 := by decide +kernel
theorem T_19 : isT 19 7 = true := by decide +kernel
theorem SZ_19 : (SH 19).2 = 7 := by decide +kernel
theorem T_20 : isT 20 4 = true := by decide +kernel
theorem T_21 : isT 21 7 = true := by decide +kernel
theorem SZ_21 : (SH 21).2 = 7 := by decide +kernel
theorem T_22 : isT 22 7 = true := by decide +kernel
theorem SZ_22 : (SH 22).2 = 7 := by decide +kernel
theorem T_23 : isT 23 7 = true := by decide +kernel
theorem SZ_23 : (SH 23).2 = 7 := by decide +kernel
theorem T_24 : isT 24 7 = true := by decide +kernel
theorem SZ_24 : (SH 24).2 = 7 := by decide +kernel
theorem T_25 : isT 25 7 = true := by decide +kernel
theorem SZ_25 : (SH 25).2 = 40 := by decide +kernel
theorem T_26 : isT 26 7 = true := by decide +kernel
theorem SZ_26 : (SH 26).2 = 280 := by decide +kernel
theorem T_27 : isT 27 0 = true := by decide +kernel
theorem T_28 : isT 28 7 = true := by decide +kernel
theorem SZ_28 : (SH 28).2 = 7 := by decide +kernel
theorem T_29 : isT 29 7 = true := by decide +kernel
theorem SZ_29 : (SH 29).2 = 7 := by decide +kernel
theorem T_30 : isT 30 7 = true := by decide +kernel
theorem SZ_30 : (SH 30).2 = 7 := by decide +kernel
theorem T_31 : isT 31 7 = true := by decide +kernel
theorem SZ_31 : (SH 31).2 = 7 := by decide +kernel
theorem T_32 : isT 32 7 = true := by decide +kernel
theorem SZ_32 : (SH 32).2 = 7 := by decide +kernel
theorem T_33 : isT 33 7 = true := by decide +kernel
theorem SZ_33 : (SH 33).2 = 7 := by decide +kernel
theorem T_34 : isT 34 4 = true := by decide +kernel
theorem T_35 : isT 35 7 = true := by decide +kernel
theorem SZ_35 : (SH 35).2 = 7 := by decide +kernel
theorem T_36 : isT 36 7 = true := by decide +kernel
theorem SZ_36 : (SH 36).2 = 7 := by decide +kernel
theorem T_37 : isT 37 7 = true := by decide +kernel
theorem SZ_37 : (SH 37).2 = 7 := by decide +kernel
theorem T_38 : isT 38 7 = true := by decide +kernel
theorem SZ_38 : (SH 38).2 = 7 := by decide +kernel
theorem T_39 : isT 39 7 = true := by decide +kernel
theorem SZ_39 : (SH 39).2 = 40 := by decide +kernel
theorem T_40 : isT 40 7 = true := by decide +kernel
theorem SZ_40 : (SH 40).2 = 280 := by decide +kernel
theorem T_41 : isT 41 3 = true := by decide +kernel
theorem T_42 : isT 42 7 = true := by decide +kernel
theorem SZ_42 : (SH 42).2 = 40 := by decide +kernel
theorem T_43 : isT 43 3 = true := by decide +kernel
theorem T_44 : isT 44 7 = true := by decide +kernel
theorem SZ_44 : (SH 44).2 = 40 := by decide +kernel
theorem T_45 : isT 45 3 = true := by decide +kernel
theorem T_46 : isT 46 7 = true := by decide +kernel
theorem SZ_46 : (SH 46).2 = 40 := by decide +kernel
theorem T_47 : isT 47 3 = true := by decide +kernel
theorem T_48 : isT 48 7 = true := by decide +kernel
theorem SZ_48 : (SH 48).2 = 40 := by decide +kernel
theorem T_49 : isT 49 3 = true := by decide +kernel
theorem T_50 : isT 50 7 = true := by decide +kernel
theorem SZ_50 : (SH 50).2 = 40 := by decide +kernel
theorem T_51 : isT 51 3 = true := by decide +kernel
theorem T_52 : isT 52 7 = true := by decide +kernel
theorem SZ_52 : (SH 52).2 = 40 := by decide +kernel
theorem T_53 : isT 53 3 = true := by decide +kernel
theorem T_54 : isT 54 7 = true := by decide +kernel
theorem SZ_54 : (SH 54).2 = 80 := by decide +kernel
theorem T_55 : isT 55 3 = true := by decide +kernel
theorem T_56 : isT 56 7 = true := by decide +kernel
theorem SZ_56 : (SH 56).2 = 80 := by decide +kernel
theorem T_57 : isT 57 3 = true := by decide +kernel
theorem T_58 : isT 58 7 = true := by decide +kernel
theorem SZ_58 : (SH 58).2 = 80 := by decide +kernel
theorem T_59 : isT 59 3 = true := by decide +kernel
theorem T_60 : isT 60 7 = true := by decide +kernel
theorem SZ_60 : (SH 60).2 = 80 := by decide +kernel
theorem T_61 : isT 61 4 = true := by decide +kernel
theorem T_62 : isT 62 7 = true := by decide +kernel
theorem SZ_62 : (SH 62).2 = 7 := by decide +kernel
theorem T_63 : isT 63 7 = true := by decide +kernel
theorem SZ_63 : (SH 63).2 = 7 := by decide +kernel
theorem T_64 : isT 64 7 = true := by decide +kernel
theorem SZ_64 : (SH 64).2 = 7 := by decide +kernel
theorem T_65 : isT 65 7 = true := by decide +kernel
theorem SZ_65 : (SH 65).2 = 7 := by decide +kernel
theorem T_66 : isT 66 7 = true := by decide +kernel
theorem SZ_66 : (SH 66).2 = 40 := by decide +kernel
theorem T_67 : isT 67 7 = true := by decide +kernel
theorem SZ_67 : (SH 67).2 = 280 := by decide +kernel
theorem T_68 : isT 68 4 = true := by decide +kernel
theorem T_69 : isT 69 7 = true := by decide +kernel
theorem SZ_69 : (SH 69).2 = 7 := by decide +kernel
theorem T_70 : isT 70 7 = true := by decide +kernel
theorem SZ_70 : (SH 70).2 = 7 := by decide +kernel
theorem T_71 : isT 71 7 = true := by decide +kernel
theorem SZ_71 : (SH 71).2 = 7 := by decide +kernel
theorem T_72 : isT 72 7 = true := by decide +kernel
theorem SZ_72 : (SH 72).2 = 7 := by decide +kernel
theorem T_73 : isT 73 7 = true := by decide +kernel
theorem SZ_73 : (SH 73).2 = 40 := by decide +kernel
theorem T_74 : isT 74 7 = true := by decide +kernel
theorem SZ_74 : (SH 74).2 = 280 := by decide +kernel
theorem T_75 : isT 75 4 = true := by decide +kernel
theorem T_76 : isT 76 7 = true := by decide +kernel
theorem SZ_76 : (SH 76).2 = 7 := by decide +kernel
theorem T_77 : isT 77 7 = true := by decide +kernel
theorem SZ_77 : (SH 77).2 = 7 := by decide +kernel
theorem T_78 : isT 78 7 = true := by decide +kernel
theorem SZ_78 : (SH 78).2 = 7 := by decide +kernel
theorem T_79 : isT 79 7 = true := by decide +kernel
theorem SZ_79 : (SH 79).2 = 7 := by decide +kernel
theorem T_80 : isT 80 7 = true := by decide +kernel
theorem SZ_80 : (SH 80).2 = 40 := by decide +kernel
theorem T_81 : isT 81 7 = true := by decide +kernel
theorem SZ_81 : (SH 81).2 = 280 := by decide +kernel
theorem T_82 : isT 82 6 = true := by decide +kernel
theorem T_83 : isT 83 7 = true := by decide +kernel
theorem SZ_83 : (SH 83).2 = 6 := by decide +kernel
theorem T_84 : isT 84 7 = true := by decide +kernel
theorem SZ_84 : (SH 84).2 = 240 := by decide +kernel
theorem T_85 : isT 85 7 = true := by decide +kernel
theorem SZ_85 : (SH 85).2 = 4 := by decide +kernel
theorem T_86 : isT 86 7 = true := by decide +kernel
theorem SZ_86 : (SH 86).2 = 320 := by decide +kernel
theorem T_87 : isT 87 7 = true := by decide +kernel
theorem SZ_87 : (SH 87).2 = 393 := by decide +kernel
theorem T_88 : isT 88 7 = true := by decide +kernel
theorem SZ_88 : (SH 88).2 = 1179 := by decide +kernel
theorem T_89 : isT 89 8 = true := by decide +kernel
theorem SZ_89 : (SH 89).2 = 3 := by decide +kernel
theorem T_90 : isT 90 7 = true := by decide +kernel
theorem SZ_90 : (SH 90).2 = 6 := by decide +kernel
theorem T_91 : isT 91 7 = true := by decide +kernel
theorem SZ_91 : (SH 91).2 = 393 := by decide +kernel
theorem T_92 : isT 92 7 = true := by decide +kernel
theorem SZ_92 : (SH 92).2 = 7 := by decide +kernel
theorem T_93 : isT 93 7 = true := by decide +kernel
theorem SZ_93 : (SH 93).2 = 7 := by decide +kernel
theorem T_94 : isT 94 7 = true := by decide +kernel
theorem SZ_94 : (SH 94).2 = 49 := by decide +kernel
theorem T_95 : isT 95 7 = true := by decide +kernel
theorem SZ_95 : (SH 95).2 = 128 := by decide +kernel
theorem T_96 : isT 96 7 = true := by decide +kernel
theorem SZ_96 : (SH 96).2 = 128 := by decide +kernel

theorem stI_22 (S : aSt) (k j : Nat) (v : Int32) : (stI S k j v).2.2 = S.2.2 := rfl
theorem stL_22 (S : aSt) (k j : Nat) (v : Int64) : (stL S k j v).2.2 = S.2.2 := rfl
theorem stRow_22 (S : aSt) (k : Nat) (f : Nat → Int32) : (stRow S k f).2.2 = S.2.2 := rfl
theorem stI_21 (S : aSt) (k j : Nat) (v : Int32) : (stI S k j v).2.1 = S.2.1 := rfl
theorem stRow_21 (S : aSt) (k : Nat) (f : Nat → Int32) : (stRow S k f).2.1 = S.2.1 := rfl
theorem stL_1 (S : aSt) (k j : Nat) (v : Int64) : (stL S k j v).1 = S.1 := rfl
theorem stI_at (S : aSt) (k j : Nat) (v : Int32) (a b : Nat) : (stI S k j v).1 a b = if a = k then (if b = j then v else S.1 a b) else S.1 a b := by
  unfold stI
  by_cases h : a = k
  · subst h
    simp [upd]
  · simp [h]
theorem stRow_at (S : aSt) (k : Nat) (f : Nat → Int32) (a b : Nat) : (stRow S k f).1 a b = if a = k then f b else S.1 a b := by
  unfold stRow
  by_cases h : a = k <;> simp [h]
theorem stRow_self (S : aSt) (k : Nat) (f : Nat → Int32) : (stRow S k f).1 k = f := by simp [stRow]
theorem stRow_ne {S : aSt} {k a : Nat} {f : Nat → Int32} (h : a ≠ k) : (stRow S k f).1 a = S.1 a := by simp [stRow, h]
theorem stI_stRow (S : aSt) (k j : Nat) (f : Nat → Int32) (v : Int32) : stI (stRow S k f) k j v = stRow S k (upd f j v) := by
  unfold stI stRow
  simp only [if_true]
  congr 1
  funext a
  by_cases h : a = k <;> simp [h]
theorem stRow_id (S : aSt) (k : Nat) : stRow S k (S.1 k) = S := by
  unfold stRow
  apply Prod.ext
  · funext a
    show (if a = k then S.1 k else S.1 a) = S.1 a
    by_cases h : a = k
    · subst h; simp
    · simp [h]
  · rfl
/-! references -/
def HRm : Nat → Option Nat := fun j => match j with
  | 0 => some 83
  | 1 => some 84
  | 2 => some 85
  | 3 => some 86
  | 4 => some 87
  | 5 => some 88
  | 6 => some 89
  | 11 => some 90
  | 12 => some 91
  | 14 => some 92
  | 15 => some 93
  | 16 => some 94
  | 19 => some 95
  | 20 => some 96
  | _ => none
def HR0 (h d : Nat) : Nat → Option Nat := fun j => match j with
  | 0 => some 1
  | 1 => some 2
  | 2 => some 3
  | 3 => some 4
  | 4 => some 5
  | 5 => some 9
  | 6 => some h
  | 7 => some d
  | _ => none
def HRn (k m : Nat) : Nat → Option Nat := fun j => if j < m then some (k + 1 + j) else none
def HRs (a b m : Nat) : Nat → Option Nat := fun i => if i < m then some (a + b * i) else none
def RfM (S : aSt) : Prop := S.2.2 82 = HRm
def RfX (S : aSt) (h d : Nat) : Prop := ((h = 13 ∧ d = 27) ∨ (h = 27 ∧ d = 13)) ∧ S.2.2 0 = HR0 h d ∧ S.2.2 1 = HRs 41 2 6 ∧ S.2.2 2 = HRs 53 2 4 ∧ S.2.2 3 = HRs 61 7 3 ∧ (∀ i, i < 10 → S.2.2 (41 + 2 * i) = HRn (41 + 2 * i) 1) ∧ S.2.2 5 = HRn 5 3 ∧ S.2.2 9 = HRn 9 3 ∧ (∀ k, k = 13 ∨ k = 27 → S.2.2 k = HRn k 7 ∧ S.2.2 (k + 7) = HRn (k + 7) 6) ∧ ∀ i, i < 3 → S.2.2 (61 + 7 * i) = HRn (61 + 7 * i) 6
theorem rowT {i : Nat} (h : i < 6) : isT (41 + 2 * i) 3 = true ∧ isT (41 + 2 * i + 1) 7 = true ∧ (SH (41 + 2 * i + 1)).2 = 40 := by
  have : ∀ i, i < 6 → isT (41 + 2 * i) 3 = true ∧ isT (41 + 2 * i + 1) 7 = true ∧ (SH (41 + 2 * i + 1)).2 = 40 := by decide +kernel
  exact this i h
theorem txtT {i : Nat} (h : i < 4) : isT (53 + 2 * i) 3 = true ∧ isT (53 + 2 * i + 1) 7 = true ∧ (SH (53 + 2 * i + 1)).2 = 80 := by
  have : ∀ i, i < 4 → isT (53 + 2 * i) 3 = true ∧ isT (53 + 2 * i + 1) 7 = true ∧ (SH (53 + 2 * i + 1)).2 = 80 := by decide +kernel
  exact this i h
/-! ranges -/
theorem if_in {x : Int32} {N : Nat} (hN : N < 2 ^ 31) : (if x < 0 then some (0 : Int32) else if nI N ≤ x then some (0 : Int32) else some (1 : Int32)) = some (if inb x N = true then 1 else 0) := by
  have hx := nI_toInt hN
  have e0 : (0 : Int32).toInt = 0 := rfl
  by_cases h : inb x N = true
  · have h1 := inb_iff.mp h
    rw [if_neg (by rw [Int32.lt_iff_toInt_lt]; omega), if_neg (by rw [Int32.le_iff_toInt_le]; omega), if_pos h]
  · rw [if_neg h]
    by_cases h0 : x < 0
    · rw [if_pos h0]
    · rw [if_neg h0, if_pos]
      rw [Int32.le_iff_toInt_le]
      rw [Int32.lt_iff_toInt_lt] at h0
      rw [inb_iff] at h
      omega
theorem X6_isRow_eq (n : Nat) (S : aSt) (x : Int32) : F_X6_isRow n S x = some (if inb x 6 = true then 1 else 0) := if_in (N := 6) (by decide)
theorem X6_isText_eq (n : Nat) (S : aSt) (x : Int32) : F_X6_isText n S x = some (if inb x 4 = true then 1 else 0) := if_in (N := 4) (by decide)
theorem X6_isPlaceKept_eq (n : Nat) (S : aSt) (x : Int32) : F_X6_isPlaceKept n S x = some (if inb x 3 = true then 1 else 0) := if_in (N := 3) (by decide)
theorem isB_if (c : Prop) [Decidable c] : isB (if c then 1 else 0) = true := by
  by_cases h : c <;> simp [h, isB]
theorem X7_isRow_eq (n : Nat) (S : aSt) (x : Int32) : F_X7_isRow n S x = some (if inb x 6 = true then 1 else 0) := by
  have h := X7_in_sz n S x (m := 6) (by decide)
  unfold F_X7_isRow
  rw [show (5 : Int64) = (nI 6 - 1).toInt64 from rfl, h]
  simp only [bndS, isB_if, grdT]
theorem X7_isText_eq (n : Nat) (S : aSt) (x : Int32) : F_X7_isText n S x = some (if inb x 4 = true then 1 else 0) := by
  have h := X7_in_sz n S x (m := 4) (by decide)
  unfold F_X7_isText
  rw [show (3 : Int64) = (nI 4 - 1).toInt64 from rfl, h]
  simp only [bndS, isB_if, grdT]
/-- a loop that counts up: what it does with what it gathers -/
theorem lp_up {α β : Type} (L : Nat → α → Int32 → Option β) (K : α → Option β) (f : Nat → α → α) (C : Nat) (P : Nat → α → Prop) (hC : C < 2 ^ 31)
    (hx : ∀ fu a, P C a → L (fu + 1) a (nI C) = K a) (hs : ∀ fu c a, c < C → P c a → L (fu + 1) a (nI c) = L fu (f c a) (nI (c + 1)) ∧ P (c + 1) (f c a)) :
    ∀ (m c fu : Nat) (a : α), c + m = C → m < fu → P c a → ∃ z, L fu a (nI c) = K z ∧ P C z ∧ z = Nat.rec a (fun i y => f (c + i) y) m := by
  intro m
  induction m with
  | zero =>
    intro c fu a hc hf hP
    obtain ⟨fu', rfl⟩ : ∃ k, fu = k + 1 := ⟨fu - 1, by omega⟩
    have : c = C := by omega
    subst this
    exact ⟨a, hx _ _ hP, hP, rfl⟩
  | succ m ih =>
    intro c fu a hc hf hP
    obtain ⟨fu', rfl⟩ : ∃ k, fu = k + 1 := ⟨fu - 1, by omega⟩
    obtain ⟨h1, h2⟩ := hs fu' c a (by omega) hP
    obtain ⟨z, g1, g2, g3⟩ := ih (c + 1) fu' (f c a) (by omega) (by omega) h2
    refine ⟨z, h1.trans g1, g2, ?_⟩
    rw [g3]
    clear g1 g2 g3 ih h1 h2 hP hf hc
    induction m with
    | zero => rfl
    | succ k ih2 =>
      show f (c + 1 + k) _ = f (c + (k + 1)) _
      rw [ih2, show c + 1 + k = c + (k + 1) by omega]
