/-! Rows of 'Go' that make cells. -/
/-- from cell n on nothing has been written -/
def Zr (S : aSt) (n : Nat) : Prop := ∀ i, n ≤ i → (∀ j, S.1 i j = 0) ∧ (∀ j, S.2.1 i j = 0) ∧ ∀ j, S.2.2 i j = none
theorem Zr.up {S : aSt} {n n' : Nat} (h : Zr S n) (hn : n ≤ n') : Zr S n' := fun i hi => h i (by omega)
theorem Zr.I {S : aSt} {n k j : Nat} {v : Int32} (h : Zr S n) (hk : k < n) : Zr (stI S k j v) n := fun i hi => ⟨fun j' => by rw [stI_ne (by omega)]; exact (h i hi).1 j', (h i hi).2⟩
theorem Zr.W {S : aSt} {n k : Nat} {f : Nat → Int32} (h : Zr S n) (hk : k < n) : Zr (stRow S k f) n := fun i hi => ⟨fun j' => by rw [stRow_ne (by omega)]; exact (h i hi).1 j', (h i hi).2⟩
theorem Zr.L {S : aSt} {n k j : Nat} {v : Int64} (h : Zr S n) (hk : k < n) : Zr (stL S k j v) n := fun i hi => ⟨(h i hi).1, fun j' => by rw [stL_at, if_neg (by omega)]; exact (h i hi).2.1 j', (h i hi).2.2⟩
theorem Zr.R {S : aSt} {n k j : Nat} {v : Option Nat} (h : Zr S n) (hk : k < n) : Zr (stR S k j v) n := fun i hi => ⟨(h i hi).1, (h i hi).2.1, fun j' => by rw [stR_ne (by omega)]; exact (h i hi).2.2 j'⟩
theorem aws_push (G : aG) (n : Nat) (S : aSt) : aws G (n + 1) S = aws G n S ++ [(gB G + n, am_cE G S n)] := by
  unfold aws
  rw [List.range_succ, List.map_append]
  rfl
theorem am_fresh {G : aG} {n q : Nat} {S : aSt} {E : va_E} {H1 : Heap} (hP : va_P (gD G) vwCl (aws G n S ++ [(q, E)]) H1) (hD : va_D (gA G) (aws G n S ++ [(q, E)])) (hz : H1.size ≤ gB G + n + 1) : q = gB G + n := by
  have hl : (aws G n S ++ [(q, E)])[n]? = some (q, E) := by
    rw [List.getElem?_append_right (by rw [aws_len]; exact Nat.le_refl _), aws_len, Nat.sub_self]
    rfl
  have h1 : gB G ≤ q := hD.2 n _ hl
  have h2 : q < H1.size := (hP n _ hl).lt
  rcases Nat.lt_or_ge q (gB G + n) with h | h
  · have hk : (aws G n S ++ [(q, E)])[q - gB G]? = some (gB G + (q - gB G), am_cE G S (q - gB G)) := by
      rw [List.getElem?_append_left (by rw [aws_len]; omega), aws_get (by omega)]
    have := hD.1 (q - gB G) n _ _ hk hl (by show gB G + (q - gB G) = q; omega)
    omega
  · omega
def dfv (ty : Nat) : Value := match ty with
  | 0 => .int 0
  | 1 => .long 0
  | _ => .null
theorem am_fv_z {G : aG} {S : aSt} {n j ty : Nat} (h : Zr S n) : am_fv G S n j ty = dfv ty := by
  obtain ⟨h1, h2, h3⟩ := h n (Nat.le_refl _)
  unfold am_fv dfv
  rw [h1, h2, h3]
  rfl
/-- the words of 'new' -/
def aNw (own : String) (ix ci N : Nat) : Prop := ∃ (C : String) (T : u_T) (ty : Nat → FieldType), vwCl[ci]? = some (C, T, N) ∧ (∀ w ∈ u_ws C T N, w ∈ lw_g) ∧ (∀ k, k < N → parseFieldDescriptor (T k).2.2.1 = some (ty k)) ∧ (∀ j, j < N → defaultValue (ty j) = dfv ((ftys ci).getD j 0)) ∧ (ftys ci).length = N ∧ Cond.classLink own ix C ∈ lw_g ∧ Cond.instantiable C N ∈ lw_g ∧ Cond.initialized C ∈ lw_g
abbrev acv : aG → Value → Value := cV
theorem am_rv (G : aG) {n : Nat} (h : n < 1000) (st : List Value) : (Value.ref n :: st).map (cV G) = Value.ref (gB G + n) :: st.map (cV G) := by
  show Value.ref (qa G n) :: st.map (cV G) = _
  rw [qa_own h]
section GN
variable {G : aG} {l : Launch} {R : Room} {Tm : List Frame → Array Value → State → State → Prop} {M : aM} {n cells slots pc : Nat} {lv : List (Nat × Value)} {st : List Value} {S : aSt}
theorem Go.stG (S' : aSt) (h : S' = S) (k : Go G l R Tm M n cells slots pc lv st S') : Go G l R Tm M n cells slots pc lv st S := by subst h; exact k
theorem Go.newO {ix ci N : Nat} (pc' n' c' s' : Nat) (hp : pc + 3 = pc') (e1 : n + 1 = n') (e2 : cells + 1 = c') (e3 : slots + N = s') (hd : decode M.1 pc = .ok (.new ix, 3)) (hf : aNw M.2.2.2.1 ix ci N) (hk : (SH n).1 = ci) (h100 : n < 100) (hz : Zr S n) (hc : c' ≤ R.cells) (hs : s' ≤ R.slots) (kk : Go G l R Tm M n' c' s' pc' lv (.ref n :: st) S) : Go G l R Tm M n cells slots pc lv st S := by
  subst hp
  subst e1
  subst e2
  subst e3
  intro p e s m args below meth c H locs ls C hn hS hW hl
  obtain ⟨Cn, T, ty, hcl, hws, hty, hdf, hlen, w1, w2, w3⟩ := hf
  have hts := C.2.2.2.2.2.2.2.1
  have hA : ∀ q, s.heap.size ≤ q → gA G q := fun q hq => by
    show gB G ≤ q
    have hb := C.2.2.2.2.2.2.2.2.2
    rcases Nat.lt_or_ge s.heap.size (gB G) with h | h
    · have h2 := hb s.heap.size h
      rw [show G.1[s.heap.size]? = some (G.1[s.heap.size]'h) from Array.getElem?_eq_getElem h] at h2
      exact absurd (Array.getElem?_eq_some_iff.mp h2).1 (Nat.lt_irrefl _)
    · omega
  refine va_new (ci := ci) (fs := am_fs G S n) C.1 C.2.1 hts hws ty hty C.2.2.2.2.1 (hts _ w1) (hts _ w2) (hts _ w3) C.2.2.2.2.2.2.2.2.1.1 hW.2.1 (aws_D G n S) hS hA hcl (fun j hj => ?_) hc hs hd (fun q H1 hP1 hD1 hS1 => ?_)
  · have hj2 : (ftys ci)[j]? = some ((ftys ci).getD j 0) := by
      rw [List.getD_eq_getElem?_getD, List.getElem?_eq_getElem (by omega)]
      rfl
    have := am_fs_get (G := G) (S := S) hk hj2
    rw [hdf j hj]
    have h2 : (am_fs G S n).getD j .null = am_fv G S n j ((ftys ci).getD j 0) := by
      rw [List.getD_eq_getElem?_getD, this]
      rfl
    show _ = (am_fs G S n).getD j .null
    rw [h2, am_fv_z hz]
  · refine w_size (fun hsz => ?_)
    have hq := am_fresh hP1 hD1 (by omega)
    subst hq
    have hci : ci < 7 := vw_lt hcl
    have ew : aws G n S ++ [(gB G + n, .inr (ci, am_fs G S n))] = aws G (n + 1) S := by rw [aws_push, am_cE_obj hk hci]
    rw [ew] at hP1
    have := kk p e s m args below meth c H1 locs ls C (by omega) hS1 ⟨by omega, hP1, am_old C.2.2.2.2.2.2.2.2.2 hS1⟩ hl
    rw [am_rv G (show n < 1000 by omega) st] at this
    exact this
theorem Go.newA {ty : FieldType} {at_ : ArrayType} {N t0 : Nat} {v : Int32} (cA0 : ClassId) (pc' n' c' s' : Nat) (hp : pc + 2 = pc') (e1 : n + 1 = n') (e2 : cells + 1 = c') (e3 : slots + N = s') (hd : decode M.1 pc = .ok (.newarray at_, 2)) (hat : newarray.typeOf at_ = ty) (hw : Cond.arrayClass (newarray.typeOf at_) ∈ lw_g) (hdef : defaultValue ty = .int 0) (hprim : ∀ U cA, va_RA U cA ty → U.vm.findClass ("[" ++ ty.toString) = some cA) (ht : (aty G)[t0]? = some (cA0, ty)) (hE : am_cE G S n = .inl (cA0, N, .inl (S.1 n))) (hv : ¬ v < 0) (hN : v.toNatClampNeg = N) (hby : N * componentBytes ty ≤ 536870912) (h100 : n < 100) (hz : Zr S n) (hc : c' ≤ R.cells) (hs : s' ≤ R.slots) (kk : Go G l R Tm M n' c' s' pc' lv (.ref n :: st) S) : Go G l R Tm M n cells slots pc lv (.int v :: st) S := by
  subst hp
  subst e1
  subst e2
  subst e3
  intro p e s m args below meth c H locs ls C hn hS hW hl
  have hts := C.2.2.2.2.2.2.2.1
  have hK := C.2.2.2.2.2.2.2.2.1.1
  have hA : ∀ q, s.heap.size ≤ q → gA G q := fun q hq => by
    show gB G ≤ q
    have hb := C.2.2.2.2.2.2.2.2.2
    rcases Nat.lt_or_ge s.heap.size (gB G) with h | h
    · have h2 := hb s.heap.size h
      rw [show G.1[s.heap.size]? = some (G.1[s.heap.size]'h) from Array.getElem?_eq_getElem h] at h2
      exact absurd (Array.getElem?_eq_some_iff.mp h2).1 (Nat.lt_irrefl _)
    · omega
  refine va_newa (a0 := (N, .inl (S.1 n))) C.1 C.2.1 (hts _ hw) hat hK hW.2.1 (aws_D G n S) hS hA (fun cA => ?_) hv hN hby hc hs hd (fun q cA H1 hK1 hP1 hD1 hS1 => ?_)
  · rw [vp_cell_i, hdef]
    congr 1
    funext j
    rw [(hz n (Nat.le_refl _)).1 j]
  · refine w_size (fun hsz => ?_)
    have hq := am_fresh hP1 hD1 (by omega)
    subst hq
    have hcA : cA = cA0 := by
      have a := hprim s cA (hK1.2 (aty G).length (cA, ty) (by rw [List.getElem?_append_right (Nat.le_refl _), Nat.sub_self]; rfl)).2
      have b := hprim s cA0 (hK.2 t0 _ ht).2
      rw [a] at b
      exact Option.some.inj b
    subst hcA
    have ew : aws G n S ++ [(gB G + n, .inl (cA, N, .inl (S.1 n)))] = aws G (n + 1) S := by rw [aws_push, hE]
    rw [ew] at hP1
    have := kk p e s m args below meth c H1 locs ls C (by omega) hS1 ⟨by omega, hP1, am_old C.2.2.2.2.2.2.2.2.2 hS1⟩ hl
    rw [am_rv G (show n < 1000 by omega) st] at this
    exact this
theorem Go.newI {N : Nat} {v : Int32} (pc' n' c' s' : Nat) (hp : pc + 2 = pc') (e1 : n + 1 = n') (e2 : cells + 1 = c') (e3 : slots + N = s') (hd : decode M.1 pc = .ok (.newarray .int, 2)) (hk : SH n = (7, N)) (hv : v = nI N) (hN : N < 100000) (h100 : n < 100) (hz : Zr S n) (hw : Cond.arrayClass .int ∈ lw_g) (hc : c' ≤ R.cells) (hs : s' ≤ R.slots) (kk : Go G l R Tm M n' c' s' pc' lv (.ref n :: st) S) : Go G l R Tm M n cells slots pc lv (.int v :: st) S := by
  refine Go.newA (ty := .int) (t0 := 0) (gC G).1 pc' n' c' s' hp e1 e2 e3 hd rfl hw rfl (fun U cA h => h) rfl (by rw [am_cE_int (by rw [hk]), hk]) (by rw [hv]; exact nI_pos (by omega)) (by rw [hv]; exact nI_clamp (by omega)) ?_ h100 hz hc hs kk
  show N * 4 ≤ _
  omega
theorem Go.newZ {N : Nat} {v : Int32} (pc' n' c' s' : Nat) (hp : pc + 2 = pc') (e1 : n + 1 = n') (e2 : cells + 1 = c') (e3 : slots + N = s') (hd : decode M.1 pc = .ok (.newarray .boolean, 2)) (hk : SH n = (8, N)) (hv : v = nI N) (hN : N < 100000) (h100 : n < 100) (hz : Zr S n) (hw : Cond.arrayClass .boolean ∈ lw_g) (hc : c' ≤ R.cells) (hs : s' ≤ R.slots) (kk : Go G l R Tm M n' c' s' pc' lv (.ref n :: st) S) : Go G l R Tm M n cells slots pc lv (.int v :: st) S := by
  refine Go.newA (ty := .boolean) (t0 := 1) (gC G).2.1 pc' n' c' s' hp e1 e2 e3 hd rfl hw rfl (fun U cA h => h) rfl (by rw [am_cE_bool (by rw [hk]), hk]) (by rw [hv]; exact nI_pos (by omega)) (by rw [hv]; exact nI_clamp (by omega)) ?_ h100 hz hc hs kk
  show N * 1 ≤ _
  omega
theorem Go.newQ {ix N t0 : Nat} {Cn : String} {v : Int32} (cA0 : ClassId) (pc' n' c' s' : Nat) (hp : pc + 3 = pc') (e1 : n + 1 = n') (e2 : cells + 1 = c') (e3 : slots + N = s') (hd : decode M.1 pc = .ok (.anewarray ix, 3)) (hw : Cond.classLink M.2.2.2.1 ix Cn ∈ lw_g) (hao : ∀ s, aK G s → va_AO Cn s) (ht : (aty G)[t0]? = some (cA0, .object Cn)) (hE : am_cE G S n = .inl (cA0, N, .inr (.inr (.inr (.inr (fun i => (S.2.2 n i).map (qa G))))))) (hv : v = nI N) (hN : N < 100000) (h100 : n < 100) (hz : Zr S n) (hc : c' ≤ R.cells) (hs : s' ≤ R.slots) (kk : Go G l R Tm M n' c' s' pc' lv (.ref n :: st) S) : Go G l R Tm M n cells slots pc lv (.int v :: st) S := by
  subst hp
  subst e1
  subst e2
  subst e3
  intro p e s m args below meth c H locs ls C hn hS hW hl
  have hts := C.2.2.2.2.2.2.2.1
  have hK := C.2.2.2.2.2.2.2.2.1.1
  have hA : ∀ q, s.heap.size ≤ q → gA G q := fun q hq => by
    show gB G ≤ q
    have hb := C.2.2.2.2.2.2.2.2.2
    rcases Nat.lt_or_ge s.heap.size (gB G) with h | h
    · have h2 := hb s.heap.size h
      rw [show G.1[s.heap.size]? = some (G.1[s.heap.size]'h) from Array.getElem?_eq_getElem h] at h2
      exact absurd (Array.getElem?_eq_some_iff.mp h2).1 (Nat.lt_irrefl _)
    · omega
  refine va_newq C.1 C.2.1 C.2.2.2.2.1 (hts _ hw) (hao s C.2.2.2.2.2.2.2.2.1) hK hW.2.1 (aws_D G n S) hS hA (by rw [hv]; exact nI_pos (by omega)) (by rw [hv]; exact nI_clamp (by omega)) (by omega) hc hs hd (fun q cA H1 hK1 hP1 hD1 hS1 => ?_)
  refine w_size (fun hsz => ?_)
  have hq := am_fresh hP1 hD1 (by omega)
  subst hq
  have hcA : cA = cA0 := by
    obtain ⟨-, -, -, -, -, a⟩ := (hK1.2 (aty G).length (cA, .object Cn) (by rw [List.getElem?_append_right (Nat.le_refl _), Nat.sub_self]; rfl)).2
    obtain ⟨-, -, -, -, -, b⟩ := (hK.2 t0 _ ht).2
    rw [a] at b
    exact Option.some.inj b
  subst hcA
  have hnone : (fun i => (S.2.2 n i).map (qa G)) = fun _ => none := by
    funext i
    rw [(hz n (Nat.le_refl _)).2.2 i]
    rfl
  have ew : aws G n S ++ [(gB G + n, .inl (cA, N, .inr (.inr (.inr (.inr (fun _ => none))))))] = aws G (n + 1) S := by rw [aws_push, hE, hnone]
  rw [ew] at hP1
  have := kk p e s m args below meth c H1 locs ls C (by omega) hS1 ⟨by omega, hP1, am_old C.2.2.2.2.2.2.2.2.2 hS1⟩ hl
  rw [am_rv G (show n < 1000 by omega) st] at this
  exact this
theorem Go.newR {ix N : Nat} {v : Int32} (pc' n' c' s' : Nat) (hp : pc + 3 = pc') (e1 : n + 1 = n') (e2 : cells + 1 = c') (e3 : slots + N = s') (hd : decode M.1 pc = .ok (.anewarray ix, 3)) (hw : Cond.classLink M.2.2.2.1 ix "LostQuestions$Row" ∈ lw_g) (hk : SH n = (9, N)) (hv : v = nI N) (hN : N < 100000) (h100 : n < 100) (hz : Zr S n) (hc : c' ≤ R.cells) (hs : s' ≤ R.slots) (kk : Go G l R Tm M n' c' s' pc' lv (.ref n :: st) S) : Go G l R Tm M n cells slots pc lv (.int v :: st) S :=
  Go.newQ (t0 := 2) (gC G).2.2.1 pc' n' c' s' hp e1 e2 e3 hd hw (fun s h => h.2.2.1) rfl (by rw [am_cE_rows (by rw [hk]), hk]) hv hN h100 hz hc hs kk
theorem Go.newS {ix N : Nat} {v : Int32} (pc' n' c' s' : Nat) (hp : pc + 3 = pc') (e1 : n + 1 = n') (e2 : cells + 1 = c') (e3 : slots + N = s') (hd : decode M.1 pc = .ok (.anewarray ix, 3)) (hw : Cond.classLink M.2.2.2.1 ix "LostQuestions$Standing" ∈ lw_g) (hk : SH n = (10, N)) (hv : v = nI N) (hN : N < 100000) (h100 : n < 100) (hz : Zr S n) (hc : c' ≤ R.cells) (hs : s' ≤ R.slots) (kk : Go G l R Tm M n' c' s' pc' lv (.ref n :: st) S) : Go G l R Tm M n cells slots pc lv (.int v :: st) S :=
  Go.newQ (t0 := 3) (gC G).2.2.2 pc' n' c' s' hp e1 e2 e3 hd hw (fun s h => h.2.2.2.1) rfl (by rw [am_cE_std (by rw [hk]), hk]) hv hN h100 hz hc hs kk
/-- a reference into a row of references -/
theorem Go.aastQ {k q t0 ci : Nat} {i : Int32} {r : vw_C} (cA0 : ClassId) (pc' : Nat) (hp : pc + 1 = pc') (hd : decode M.1 pc = .ok (.aastore, 1)) (hk : k < n) (hq : q < n) (ht : (aty G)[t0]? = some (cA0, .object r.1)) (hE : ∀ S' : aSt, am_cE G S' k = .inl (cA0, (SH k).2, .inr (.inr (.inr (.inr (fun i => (S'.2.2 k i).map (qa G))))))) (hr : vwCl[ci]? = some r) (hqt : (SH q).1 = ci) (hin : inb i (SH k).2 = true) (kk : Go G l R Tm M n cells slots pc' lv st (stR S k i.toNatClampNeg (some q))) : Go G l R Tm M n cells slots pc lv (.ref q :: .int i :: .ref k :: st) S := by
  subst hp
  intro p e s m args below meth c H locs ls C hn hS hW hl
  have hqq : qa G q = gB G + q := qa_own (by have := hW.1; omega)
  have hqk : qa G k = gB G + k := qa_own (by have := hW.1; omega)
  show W p l e R s m args below meth c H locs cells slots (Tm below args s) (F0 m pc ls (.ref (qa G q) :: .int i :: .ref (qa G k) :: st.map (acv G)))
  rw [hqk, hqq]
  refine va_astq C.1 C.2.1 C.2.2.2.2.2.2.2.2.1.1 hW.2.1 (aws_D G n S) hS k t0 q ci (by rw [aws_get hk, hE]) ht (by rw [aws_get hq, am_cE_obj hqt (vw_lt hr)]) hr (inb_in hin) hd (fun H1 locs1 hP1 hD1 hS1 => ?_)
  have hfun : (fun j => ((stR S k i.toNatClampNeg (some q)).2.2 k j).map (qa G)) = va_up (fun j => (S.2.2 k j).map (qa G)) i.toNatClampNeg (some (gB G + q)) := by
    funext j
    rw [stR_self]
    unfold va_up
    by_cases h : j = i.toNatClampNeg
    · rw [if_pos h, if_pos h]
      show some (qa G q) = _
      rw [hqq]
    · rw [if_neg h, if_neg h]
  have hset : (aws G n S).set k (gB G + k, .inl (cA0, (SH k).2, .inr (.inr (.inr (.inr (va_up (fun j => (S.2.2 k j).map (qa G)) i.toNatClampNeg (some (gB G + q)))))))) = aws G n (stR S k i.toNatClampNeg (some q)) := by
    refine aws_set ?_ (fun j hj => am_cE_congr rfl rfl (stR_ne hj))
    rw [hE, hfun]
  rw [hset] at hP1
  exact kk p e s m args below meth c H1 locs1 ls C hn hS1 ⟨hW.1, hP1, am_old C.2.2.2.2.2.2.2.2.2 hS1⟩ hl
/-- Object.<init> -/
theorem Go.objI {ix k : Nat} (pc' : Nat) (hp : pc + 3 = pc') (hd : decode M.1 pc = .ok (.invokespecial ix, 3)) (w1 : Cond.methodLink M.2.2.2.1 ix Lib.objectInit ∈ lw_g) (w2 : Cond.instanceMethod Lib.objectInit ∈ lw_g) (w3 : Cond.code Lib.objectInit ⟨#[0xb1]⟩ 1 none ∈ lw_g) (hf : 1 ≤ R.frames) (hlo : (st.map fun v => v.category).sum + 12 ≤ R.locals) (kk : Go G l R Tm M n cells slots pc' lv st S) : Go G l R Tm M n cells slots pc lv (.ref k :: st) S := by
  subst hp
  intro p e s m args below meth c H locs ls C hn hS hW hl
  have hts := C.2.2.2.2.2.2.2.1
  exact W.objInit C.1 C.2.1 C.2.2.2.2.1 (hts _ w1) (hts _ w2) (hts _ w3) rfl (hl.1.trans C.2.2.1.symm) rfl hd hf (by
    show 2 * 0 + _ + 12 ≤ _
    rw [am_cat]
    omega) (kk p e s m args below meth c H locs ls C hn hS hW hl)
theorem Go.mxG {ix : Nat} {x y : Int32} (pc' : Nat) (hp : pc + 3 = pc') (hd : decode M.1 pc = .ok (.invokestatic ix, 3)) (w1 : Cond.methodLink M.2.2.2.1 ix Lib.Math.max.name ∈ lw_g) (w2 : Cond.static Lib.Math.max.name ∈ lw_g) (w3 : Cond.initialized "java/lang/Math" ∈ lw_g) (w4 : Cond.code Lib.Math.max.name Lib.Math.max.code 2 (some .int) ∈ lw_g) (hf : 1 ≤ R.frames) (hlo : (st.map fun v => v.category).sum + 13 ≤ R.locals) (hc : cells ≤ R.cells) (hs : slots ≤ R.slots) (k : Go G l R Tm M n cells slots pc' lv (.int (if x < y then y else x) :: st) S) : Go G l R Tm M n cells slots pc lv (.int y :: .int x :: st) S := by
  subst hp
  intro p e s m args below meth c H locs ls C hn hS hW hl
  exact va_mmax C.1 C.2.1 (C.2.2.1.trans hl.1.symm) C.2.2.2.2.1 (C.2.2.2.2.2.2.2.1 _ w1) (C.2.2.2.2.2.2.2.1 _ w2) (C.2.2.2.2.2.2.2.1 _ w3) (C.2.2.2.2.2.2.2.1 _ w4) hf (by rw [am_cat]; exact hlo) hc hs hd (k p e s m args below meth c H locs ls C hn hS hW hl)
/-- the words of a constructor's call -/
def aCI (own : String) (ix : Nat) (y : MethodName) (M' : aM) (k : Nat) : Prop := (Cond.methodLink own ix y ∈ lw_g ∨ ∃ host, Cond.methodLinkNest own ix y host ∈ lw_n) ∧ Cond.instanceMethod y ∈ lw_g ∧ Cond.initialized y.cls ∈ lw_g ∧ Cond.code y M'.1 M'.2.1 none ∈ lw_g ∧ M'.2.2.1 = none ∧ y.name = "<init>" ∧ y.cls ≠ "java/lang/invoke/MethodHandle" ∧ y.cls ≠ "java/lang/invoke/VarHandle" ∧ (parseMethodDescriptor y.desc).map (fun d => d.parameters.length) = some k
theorem Go.callI {y : MethodName} {M' : aM} {rm : Room} {ix k : Nat} {S' : aSt} {st0 : List Value} (pc' n' c' s' : Nat) (As st : List Value) (hp : pc + 3 = pc') (e1 : n + rm.cells = n') (e2 : cells + rm.cells = c') (e3 : slots + rm.slots = s') (hd : decode M.1 pc = .ok (.invokespecial ix, 3)) (hM : Ctr G l y M' rm n n' S (.ref k :: As) none S') (hw : aCI M.2.2.2.1 ix y M' As.length) (hR : rm.frames + 1 ≤ R.frames ∧ 8 + (M'.2.1 + 11) + rm.locals ≤ R.locals) (hc : c' ≤ R.cells ∧ s' ≤ R.slots) (hs : st0 = As.reverse ++ .ref k :: st) (hst : (st.map fun v => v.category).sum ≤ 8) (kk : Go G l R Tm M n' c' s' pc' lv st S') : Go G l R Tm M n cells slots pc lv st0 S := by
  subst hs
  subst e1
  subst e2
  subst e3
  refine Go.run (rm := rm) (As := .ref k :: As) (r := none) (S' := S') (st := st) hp rfl ?_ kk
  intro p e s m args below meth c H locs ls C hn hS hW hl hPc hz
  obtain ⟨w1, w2, w3, w4, w5, w6, w7⟩ := hw
  have hts := C.2.2.2.2.2.2.2.1
  have hws : ∀ w ∈ (Cond.code y M'.1 M'.2.1 none :: lw_g), w ∈ lw_g := by
    intro w h
    rcases List.mem_cons.mp h with rfl | h
    · exact w4
    · exact h
  have hM2 : Met l y (.code y M'.1 M'.2.1 none :: lw_g) rm (aPc G n S (.ref k :: As)) (aQ G none (n + rm.cells) S') rm.cells rm.slots (gA G) := by
    have := hM
    unfold Ctr at this
    rw [w5] at this
    exact this
  rcases w1 with w1 | ⟨host, w1⟩
  · exact va_runI (b := qa G k) (As := As.map (acv G)) (n := As.length) (Ts := lw_g) (own := M.2.2.2.1) (nL := M.2.1) (cc := M.1) ⟨C.1, C.2.1, C.2.2.1, C.2.2.2.2.1, hts⟩ hM2 (cwI _ hts (am_goodIn hws) rfl rfl rfl (hts _ w3) (hts _ w1) (hts _ w2) w6 w7 hR) ⟨aPc_blind G n S _, fun U hU hWm => hPc U hU hWm hz⟩ rfl (by simp) hl.1 (by simp [List.map_reverse]; rfl) (lv_room (by rw [am_cat]; exact hst)) hd hc
  · exact va_runIN (host := host) (b := qa G k) (As := As.map (acv G)) (n := As.length) (Ts := lw_g) (own := M.2.2.2.1) (nL := M.2.1) (cc := M.1) ⟨C.1, C.2.1, C.2.2.1, C.2.2.2.2.1, hts⟩ hM2 ⟨va_cnB _ hts (am_goodIn hws) rfl rfl rfl (C.2.2.2.2.2.2.2.2.1.2.1 _ w1) (hts _ w3) w7 hR, w6, hts _ w2⟩ ⟨aPc_blind G n S _, fun U hU hWm => hPc U hU hWm hz⟩ rfl (by simp) hl.1 (by simp [List.map_reverse]; rfl) (lv_room (by rw [am_cat]; exact hst)) hd hc
end GN
