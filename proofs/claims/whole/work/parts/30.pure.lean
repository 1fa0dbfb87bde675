/-! Pure rows: numbers, the parts of the functions, references. -/
theorem li_0 : (0 : Int32) = nI 0 := rfl
theorem li_1 : (1 : Int32) = nI 1 := rfl
theorem li_2 : (2 : Int32) = nI 2 := rfl
theorem li_3 : (3 : Int32) = nI 3 := rfl
theorem li_4 : (4 : Int32) = nI 4 := rfl
theorem li_5 : (5 : Int32) = nI 5 := rfl
theorem li_6 : (6 : Int32) = nI 6 := rfl
theorem li_7 : (7 : Int32) = nI 7 := rfl
theorem li_9 : (9 : Int32) = nI 9 := rfl
theorem li_10 : (10 : Int32) = nI 10 := rfl
theorem li_40 : (40 : Int32) = nI 40 := rfl
theorem li_80 : (80 : Int32) = nI 80 := rfl
theorem li_17 : (17 : Int32) = nI 17 := rfl
theorem li_24 : (24 : Int32) = nI 24 := rfl
theorem li_31 : (31 : Int32) = nI 31 := rfl
theorem li_38 : (38 : Int32) = nI 38 := rfl
theorem li_45 : (45 : Int32) = nI 45 := rfl
theorem li_52 : (52 : Int32) = nI 52 := rfl
theorem li_59 : (59 : Int32) = nI 59 := rfl
theorem li_66 : (66 : Int32) = nI 66 := rfl
theorem li_73 : (73 : Int32) = nI 73 := rfl
theorem li_113 : (113 : Int32) = nI 113 := rfl
theorem li_393 : (393 : Int32) = nI 393 := rfl
theorem grdT {α : Type} (x : Option α) : grd true x = x := rfl
theorem nmE {α β : Type} (x : α) (f : α → Option β) : nm x f = f x := rfl
theorem jnE {α β : Type} (f : α) (g : α → Option β) : jn f g = g f := rfl
theorem bn2S {α β γ : Type} (a : α) (b : β) (f : α → β → Option γ) : bn2 (some (a, b)) f = f a b := rfl
theorem bndS {α β : Type} (a : α) (f : α → Option β) : (some a).bind f = f a := rfl
theorem rfdS {β : Type} {k t : Nat} (h : isT k t = true) (f : Nat → Option β) : rfd (some k) t f = f k := by simp [rfd, h]
theorem inb_iff {x : Int32} {N : Nat} : inb x N = true ↔ 0 ≤ x.toInt ∧ x.toInt < N := by
  constructor
  · intro h
    exact vp_in_iff.mp (inb_in h)
  · intro h
    have h2 : vp_in x N := vp_in_iff.mpr h
    unfold vp_in at h2
    simp only [inb, Bool.not_eq_true', Bool.or_eq_false_iff, decide_eq_false_iff_not]
    exact ⟨fun q => h2 (Or.inl q), fun q => h2 (Or.inr q)⟩
theorem inb_nI {j N : Nat} (h : j < N) (hN : N < 2 ^ 31) : inb (nI j) N = true := by
  rw [inb_iff, nI_toInt (by omega)]
  omega
theorem inb_ex {x : Int32} {N : Nat} (h : inb x N = true) (hN : N < 2 ^ 31) : ∃ j, j < N ∧ x = nI j := by
  exact vp_in_of (inb_in h) hN
theorem inb_lt {x : Int32} {N : Nat} (h : inb x N = true) : x.toNatClampNeg < N := by
  rw [inb_iff] at h
  show x.toInt.toNat < N
  omega
theorem inb_self {x : Int32} {N : Nat} (h : inb x N = true) : nI x.toNatClampNeg = x := by
  have h1 := (inb_iff.mp h).1
  have h2 := fb_rng x
  apply Int32.toInt_inj.mp
  show (Int32.ofNat x.toInt.toNat).toInt = x.toInt
  rw [show Int32.ofNat x.toInt.toNat = nI x.toInt.toNat from rfl, nI_toInt (by omega)]
  omega
theorem X7_in_eq (n : Nat) (S : aSt) (x lo hi : Int64) : F_X7_in n S x lo hi = some (if lo ≤ x ∧ x ≤ hi then 1 else 0) := by
  have h1 := lg_cmp_ge x lo
  have h2 := lg_cmp_le x hi
  unfold F_X7_in
  by_cases c1 : lo ≤ x
  · have a1 := h1.mpr c1
    rw [if_neg (by exact Int32.not_lt.mpr a1)]
    by_cases c2 : x ≤ hi
    · rw [if_neg (by exact Int32.not_lt.mpr (h2.mpr c2)), if_pos ⟨c1, c2⟩]
    · rw [if_pos (by exact Int32.not_le.mp (fun q => c2 (h2.mp q))), if_neg (fun q => c2 q.2)]
  · rw [if_pos (by exact Int32.not_le.mp (fun q => c1 (h1.mp q))), if_neg (fun q => c1 q.1)]
theorem i64_le (x y : Int32) : x.toInt64 ≤ y.toInt64 ↔ x.toInt ≤ y.toInt := by
  rw [Int64.le_iff_toInt_le, Int32.toInt_toInt64, Int32.toInt_toInt64]
theorem X7_in_i (n : Nat) (S : aSt) (x lo hi : Int32) : F_X7_in n S x.toInt64 lo.toInt64 hi.toInt64 = some (if lo.toInt ≤ x.toInt ∧ x.toInt ≤ hi.toInt then 1 else 0) := by
  rw [X7_in_eq]
  simp only [i64_le]
theorem X7_in_sz (n : Nat) (S : aSt) (x : Int32) {m : Nat} (hm : m < 2 ^ 31) : F_X7_in n S x.toInt64 0 (nI m - 1).toInt64 = some (if inb x m = true then 1 else 0) := by
  rw [show (0 : Int64) = (0 : Int32).toInt64 from rfl, X7_in_i]
  have h : (nI m - 1).toInt = (m : Int) - 1 := by
    have a := nI_toInt hm
    have b : (1 : Int32).toInt = 1 := rfl
    rw [fb_subI (by rw [a, b]; omega) (by rw [a, b]; omega), a, b]
  rw [h]
  simp only [inb_iff]
  congr 1
  have : ((0 : Int32).toInt ≤ x.toInt ∧ x.toInt ≤ (m : Int) - 1) ↔ (0 ≤ x.toInt ∧ x.toInt < (m : Int)) := by
    show (0 ≤ x.toInt ∧ _) ↔ _
    omega
  simp only [this]
