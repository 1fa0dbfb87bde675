/-! The abstract machine: cells by number, typed contents; 'Go' is the kit's W over every concrete state that holds the abstract one. -/
def lw_g : List Cond := lw_tbl.filter goodWord
def am_nest : Cond → Bool
  | .fieldLinkNest .. => true
  | .methodLinkNest .. => true
  | _ => false
def lw_n : List Cond := lw_tbl.filter am_nest
/-- contents: ints, longs, references (numbers of cells), by cell and place -/
abbrev aSt : Type := (Nat → Nat → Int32) × (Nat → Nat → Int64) × (Nat → Nat → Option Nat)
/-- the run's constants: the heap at the law's entry, the script's address, the letters' address, the script's length and ints, classes, array classes -/
abbrev aG : Type := Heap × Nat × Nat × Nat × (Nat → Int32) × va_G × (ClassId × ClassId × ClassId × ClassId)
abbrev gB (G : aG) : Nat := G.1.size
abbrev gD (G : aG) : va_G := G.2.2.2.2.2.1
abbrev gC (G : aG) : ClassId × ClassId × ClassId × ClassId := G.2.2.2.2.2.2
/-- a method: code, locals, answer's type, class, name -/
abbrev aM : Type := ByteArray × Nat × Option FieldType × String × String
def qa (G : aG) (k : Nat) : Nat := if k = 1000 then G.2.1 else if k = 1001 then G.2.2.1 else gB G + k
/-- what each cell is: a class's number (0 to 6), or 7 ints, 8 booleans, 9 Rows, 10 Standings; how many places -/
def SHl : List (Nat × Nat) := [(5, 0), (9, 6), (9, 4), (10, 3), (7, 6), (1, 0), (7, 7), (7, 1024), (7, 1024), (2, 0), (7, 10), (7, 7), (7, 128), (0, 0), (7, 7), (7, 7), (7, 7), (7, 7), (7, 7), (7, 7), (4, 0), (7, 7), (7, 7), (7, 7), (7, 7), (7, 40), (7, 280), (0, 0), (7, 7), (7, 7), (7, 7), (7, 7), (7, 7), (7, 7), (4, 0), (7, 7), (7, 7), (7, 7), (7, 7), (7, 40), (7, 280), (3, 0), (7, 40), (3, 0), (7, 40), (3, 0), (7, 40), (3, 0), (7, 40), (3, 0), (7, 40), (3, 0), (7, 40), (3, 0), (7, 80), (3, 0), (7, 80), (3, 0), (7, 80), (3, 0), (7, 80), (4, 0), (7, 7), (7, 7), (7, 7), (7, 7), (7, 40), (7, 280), (4, 0), (7, 7), (7, 7), (7, 7), (7, 7), (7, 40), (7, 280), (4, 0), (7, 7), (7, 7), (7, 7), (7, 7), (7, 40), (7, 280), (6, 0), (7, 6), (7, 240), (7, 4), (7, 320), (7, 393), (7, 1179), (8, 3), (7, 6), (7, 393), (7, 7), (7, 7), (7, 49), (7, 128), (7, 128)]
def SH (k : Nat) : Nat × Nat := SHl.getD k (99, 0)
def ftys (c : Nat) : List Nat := match c with
  | 0 => [2, 2, 2, 2, 2, 2, 2, 0, 0]
  | 1 => [2, 2, 2, 0, 0, 0, 0, 0]
  | 2 => [2, 2, 2, 0, 0, 0, 0]
  | 3 => [2, 0]
  | 4 => [2, 2, 2, 2, 2, 2, 0]
  | 5 => [2, 2, 2, 2, 2, 2, 2, 2, 0, 1, 1, 0]
  | 6 => [2, 2, 2, 2, 2, 2, 2, 0, 1, 1, 0, 2, 2, 0, 2, 2, 2, 0, 0, 2, 2]
  | _ => []
def am_fv (G : aG) (S : aSt) (k j ty : Nat) : Value := match ty with
  | 0 => .int (S.1 k j)
  | 1 => .long (S.2.1 k j)
  | _ => va_rf ((S.2.2 k j).map (qa G))
def am_fs (G : aG) (S : aSt) (k : Nat) : List Value := (List.range (ftys (SH k).1).length).map (fun j => am_fv G S k j ((ftys (SH k).1).getD j 0))
def am_cE (G : aG) (S : aSt) (k : Nat) : va_E := match (SH k).1 with
  | 7 => .inl ((gC G).1, (SH k).2, .inl (S.1 k))
  | 8 => .inl ((gC G).2.1, (SH k).2, .inl (S.1 k))
  | 9 => .inl ((gC G).2.2.1, (SH k).2, .inr (.inr (.inr (.inr (fun i => (S.2.2 k i).map (qa G))))))
  | 10 => .inl ((gC G).2.2.2, (SH k).2, .inr (.inr (.inr (.inr (fun i => (S.2.2 k i).map (qa G))))))
  | c => .inr (c, am_fs G S k)
def aws (G : aG) (n : Nat) (S : aSt) : va_W := (List.range n).map (fun k => (gB G + k, am_cE G S k))
def aty (G : aG) : List (ClassId × FieldType) := [((gC G).1, .int), ((gC G).2.1, .boolean), ((gC G).2.2.1, .object "LostQuestions$Row"), ((gC G).2.2.2, .object "LostQuestions$Standing")]
abbrev gA (G : aG) : Nat → Prop := fun a => gB G ≤ a
def am_let : Nat → Int32 := fun j => match j with
  | 0 => 110
  | 1 => 121
  | 2 => 112
  | 3 => 118
  | 4 => 116
  | _ => 98
def aW (G : aG) (n : Nat) (S : aSt) (H : Heap) : Prop := n ≤ 100 ∧ va_P (gD G) vwCl (aws G n S) H ∧ ∀ a, a < gB G → H[a]? = G.1[a]?
def aK (G : aG) (s : State) : Prop := va_K (gD G) vwCl (aty G) s ∧ (∀ w ∈ lw_n, va_Nw w s) ∧ va_AO "LostQuestions$Row" s ∧ va_AO "LostQuestions$Standing" s ∧ va_X G.2.1 G.2.2.2.1 G.2.2.2.2.1 s G.1 ∧ va_Z "LostQuestions$Kinds" "LETTERS" "[I" (.ref G.2.2.1) (gA G) s G.1 ∧ va_T .int G.2.2.1 6 (fun j => .int (am_let j)) (gA G) s G.1
def cV (G : aG) (v : Value) : Value := match v with
  | .ref k => .ref (qa G k)
  | w => w
def cL (G : aG) (q : Nat × Value) : Nat × Value := (q.1, cV G q.2)
theorem cV_cat (G : aG) (v : Value) : (cV G v).category = v.category := by cases v <;> rfl
theorem aK.moved {G : aG} {s U : State} (hW : s.WarmedH U.vm) (h : aK G s) : aK G U := by
  obtain ⟨h1, h2, h3, h4, h5, h6, h7⟩ := h
  refine ⟨h1.moved hW.alike, fun w hw => ?_, h3.moved hW.alike, h4.moved hW.alike, h5.moved hW.alike, h6.moved hW.alike, h7.moved hW.alike⟩
  have hz := h2 w hw
  have hn : am_nest w = true := (List.mem_filter.mp hw).2
  cases w <;> simp [am_nest] at hn
  · exact va_Nw.warmM hW hz
  · exact va_Nw.warmF hW hz
theorem aws_len (G : aG) (n : Nat) (S : aSt) : (aws G n S).length = n := by simp [aws]
theorem aws_get {G : aG} {n : Nat} {S : aSt} {k : Nat} (h : k < n) : (aws G n S)[k]? = some (gB G + k, am_cE G S k) := by
  simp [aws, h]
theorem aws_some {G : aG} {n : Nat} {S : aSt} {k : Nat} {q : Nat × va_E} (h : (aws G n S)[k]? = some q) : k < n ∧ q = (gB G + k, am_cE G S k) := by
  have hk : k < n := by have := (List.getElem?_eq_some_iff.mp h).1; simpa [aws_len] using this
  rw [aws_get hk] at h
  exact ⟨hk, (Option.some.inj h).symm⟩
theorem aws_D (G : aG) (n : Nat) (S : aSt) : va_D (gA G) (aws G n S) := by
  refine ⟨fun i j p q hi hj h => ?_, fun k q hk => ?_⟩
  · obtain ⟨-, rfl⟩ := aws_some hi
    obtain ⟨-, rfl⟩ := aws_some hj
    simpa using h
  · obtain ⟨-, rfl⟩ := aws_some hk
    exact Nat.le_add_right _ _
theorem aws_set {G : aG} {n : Nat} {S S' : aSt} {k : Nat} {e : va_E} (he : am_cE G S' k = e) (ho : ∀ j, j ≠ k → am_cE G S' j = am_cE G S j) : (aws G n S).set k (gB G + k, e) = aws G n S' := by
  apply List.ext_getElem?
  intro j
  by_cases hjk : j = k
  · subst hjk
    by_cases hj : j < n
    · rw [List.getElem?_set_self (by rw [aws_len]; exact hj), aws_get hj, he]
    · rw [List.getElem?_eq_none (by rw [List.length_set, aws_len]; omega), List.getElem?_eq_none (by rw [aws_len]; omega)]
  · rw [List.getElem?_set_ne (Ne.symm hjk)]
    by_cases hj : j < n
    · rw [aws_get hj, aws_get hj, ho j hjk]
    · rw [List.getElem?_eq_none (by rw [aws_len]; omega), List.getElem?_eq_none (by rw [aws_len]; omega)]
theorem am_cE_congr {G : aG} {S S' : aSt} {j : Nat} (h1 : S'.1 j = S.1 j) (h2 : S'.2.1 j = S.2.1 j) (h3 : S'.2.2 j = S.2.2 j) : am_cE G S' j = am_cE G S j := by
  have hf : am_fs G S' j = am_fs G S j := by
    unfold am_fs am_fv
    rw [h1, h2, h3]
  unfold am_cE
  rw [h1, h3, hf]
theorem qa_own {G : aG} {k : Nat} (h : k < 1000) : qa G k = gB G + k := by
  unfold qa
  rw [if_neg (by omega), if_neg (by omega)]
/-- a write of an int, a long, a reference -/
def stI (S : aSt) (k j : Nat) (v : Int32) : aSt := (fun a => if a = k then upd (S.1 k) j v else S.1 a, S.2)
def stL (S : aSt) (k j : Nat) (v : Int64) : aSt := (S.1, fun a => if a = k then vp_updL (S.2.1 k) j v else S.2.1 a, S.2.2)
def stR (S : aSt) (k j : Nat) (v : Option Nat) : aSt := (S.1, S.2.1, fun a => if a = k then va_up (S.2.2 k) j v else S.2.2 a)
/-- a whole row -/
def stRow (S : aSt) (k : Nat) (f : Nat → Int32) : aSt := (fun a => if a = k then f else S.1 a, S.2)
theorem stI_row (S : aSt) (k j : Nat) (v : Int32) : stI S k j v = stRow S k (upd (S.1 k) j v) := rfl
theorem stI_self (S : aSt) (k j : Nat) (v : Int32) : (stI S k j v).1 k = upd (S.1 k) j v := by simp [stI]
theorem stI_ne {S : aSt} {k j a : Nat} {v : Int32} (h : a ≠ k) : (stI S k j v).1 a = S.1 a := by simp [stI, h]
def inb (i : Int32) (n : Nat) : Bool := !(decide (i < 0) || decide (n ≤ i.toNatClampNeg))
theorem inb_in {i : Int32} {n : Nat} (h : inb i n = true) : vp_in i n := by
  simp [inb] at h
  intro q
  rcases q with q | q
  · exact absurd q (by simpa using h.1)
  · omega
/-- the parts of the functions that the code is read as -/
def grd {α : Type} (b : Bool) (x : Option α) : Option α := if b then x else none
def nm {α β : Type} (x : α) (f : α → Option β) : Option β := f x
def jn {α β : Type} (f : α) (g : α → Option β) : Option β := g f
def isT (k t : Nat) : Bool := decide (k < 97) && decide ((SH k).1 = t)
/-- a reference that is read: not null, of its kind -/
def rfd {β : Type} (o : Option Nat) (t : Nat) (f : Nat → Option β) : Option β := match o with
  | some k => if isT k t then f k else none
  | none => none
theorem f_grd {α : Type} {b : Bool} {x : Option α} {r : α} (h : grd b x = some r) : b = true ∧ x = some r := by
  unfold grd at h
  cases b
  · simp at h
  · exact ⟨rfl, by simpa using h⟩
theorem f_nm {α β : Type} {x : α} {f : α → Option β} {r : β} (h : nm x f = some r) : ∃ z, z = x ∧ f z = some r := ⟨x, rfl, h⟩
theorem f_jn {α β : Type} {f : α} {g : α → Option β} {r : β} (h : jn f g = some r) : ∃ z, z = f ∧ g z = some r := ⟨f, rfl, h⟩
theorem f_rfd {β : Type} {o : Option Nat} {t : Nat} {f : Nat → Option β} {r : β} (h : rfd o t f = some r) : ∃ k, o = some k ∧ isT k t = true ∧ f k = some r := by
  cases o with
  | none => cases h
  | some k =>
    unfold rfd at h
    dsimp only at h
    by_cases hk : isT k t = true
    · rw [if_pos hk] at h
      exact ⟨k, rfl, hk, h⟩
    · rw [if_neg hk] at h
      cases h
theorem f_bnd {α β : Type} {o : Option α} {f : α → Option β} {r : β} (h : o.bind f = some r) : ∃ z, o = some z ∧ f z = some r := by
  cases o with
  | none => cases h
  | some z => exact ⟨z, rfl, h⟩
theorem f_if {α : Type} {c : Prop} [Decidable c] {x y : Option α} {r : α} (h : (if c then x else y) = some r) (hc : c) : x = some r := by rw [if_pos hc] at h; exact h
theorem f_el {α : Type} {c : Prop} [Decidable c] {x y : Option α} {r : α} (h : (if c then x else y) = some r) (hc : ¬ c) : y = some r := by rw [if_neg hc] at h; exact h
theorem isT_lt {k t : Nat} (h : isT k t = true) : k < 97 := by simp [isT] at h; exact h.1
theorem isT_sh {k t : Nat} (h : isT k t = true) : (SH k).1 = t := by simp [isT] at h; exact h.2
