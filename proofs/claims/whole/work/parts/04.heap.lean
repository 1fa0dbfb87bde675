/-! Rows of 'Go' over the heap: fields, arrays. -/
theorem w_size {p : Program} {l : Launch} {e : Env} {R : Room} {s : State} {m : MethodId} {args : Array Value} {below : List Frame} {meth : Method} {c : Code} {H : Heap} {locs : List Loc} {cells slots : Nat} {Q : State → Prop} {g : JFrame} (k : H.size ≤ s.heap.size + cells → W p l e R s m args below meth c H locs cells slots Q g) : W p l e R s m args below meth c H locs cells slots Q g :=
  fun T hT X => k (by rw [← hT]; exact X.same.2.2.1) T hT X
def aFl (own : String) (ix ci j : Nat) : Prop := ∃ (C : String) (T : u_T) (N : Nat), vwCl[ci]? = some (C, T, N) ∧ j < N ∧ (∀ w ∈ u_ws C T N, w ∈ lw_g) ∧ (Cond.fieldLink own ix (T j).1 (T j).2.1 (T j).2.2.1 ∈ lw_g ∨ ∃ host, Cond.fieldLinkNest own ix (T j).1 (T j).2.1 (T j).2.2.1 host ∈ lw_n)
def aFp (own : String) (ix ci j : Nat) (ty : FieldType) (fin : Bool) : Prop := ∃ (C : String) (T : u_T) (N : Nat) (ty0 : Nat → FieldType), vwCl[ci]? = some (C, T, N) ∧ j < N ∧ (∀ w ∈ u_ws C T N, w ∈ lw_g) ∧ (Cond.fieldLink own ix (T j).1 (T j).2.1 (T j).2.2.1 ∈ lw_g ∨ ((∃ host, Cond.fieldLinkNest own ix (T j).1 (T j).2.1 (T j).2.2.1 host ∈ lw_n) ∧ fin = false)) ∧ (∀ k, k < N → parseFieldDescriptor (T k).2.2.1 = some (ty0 k)) ∧ (∀ a, a < N → ∀ b, b < N → a ≠ b → (T a).2.1 ≠ (T b).2.1) ∧ (T j).2.2.2 = fin ∧ parseFieldDescriptor (T j).2.2.1 = some ty ∧ (fin = true → (T j).1 = own)
theorem am_cE_obj {G : aG} {S : aSt} {k tag : Nat} (h : (SH k).1 = tag) (ht : tag < 7) : am_cE G S k = .inr (tag, am_fs G S k) := by
  unfold am_cE
  rw [h]
  rcases tag with _ | _ | _ | _ | _ | _ | _ | t <;> first | rfl | omega
theorem am_cE_int {G : aG} {S : aSt} {k : Nat} (h : (SH k).1 = 7) : am_cE G S k = .inl ((gC G).1, (SH k).2, .inl (S.1 k)) := by simp [am_cE, h]
theorem am_cE_bool {G : aG} {S : aSt} {k : Nat} (h : (SH k).1 = 8) : am_cE G S k = .inl ((gC G).2.1, (SH k).2, .inl (S.1 k)) := by simp [am_cE, h]
theorem am_cE_rows {G : aG} {S : aSt} {k : Nat} (h : (SH k).1 = 9) : am_cE G S k = .inl ((gC G).2.2.1, (SH k).2, .inr (.inr (.inr (.inr (fun i => (S.2.2 k i).map (qa G)))))) := by simp [am_cE, h]
theorem am_cE_std {G : aG} {S : aSt} {k : Nat} (h : (SH k).1 = 10) : am_cE G S k = .inl ((gC G).2.2.2, (SH k).2, .inr (.inr (.inr (.inr (fun i => (S.2.2 k i).map (qa G)))))) := by simp [am_cE, h]
theorem vw_lt {ci : Nat} {q : vw_C} (h : vwCl[ci]? = some q) : ci < 7 := (List.getElem?_eq_some_iff.mp h).1
theorem am_fs_get {G : aG} {S : aSt} {k tag j ty : Nat} (h : (SH k).1 = tag) (hj : (ftys tag)[j]? = some ty) : (am_fs G S k)[j]? = some (am_fv G S k j ty) := by
  have hl := (List.getElem?_eq_some_iff.mp hj).1
  unfold am_fs
  rw [h, List.getElem?_map, List.getElem?_range hl]
  show some (am_fv G S k j ((ftys tag).getD j 0)) = _
  rw [List.getD_eq_getElem?_getD, hj]
  rfl
theorem am_fs_len {G : aG} {S : aSt} {k tag j ty : Nat} (h : (SH k).1 = tag) (hj : (ftys tag)[j]? = some ty) : j < (am_fs G S k).length := by
  have hl := (List.getElem?_eq_some_iff.mp hj).1
  unfold am_fs
  rw [h]
  simpa using hl
theorem am_fs_set {G : aG} {S S' : aSt} {k tag j ty : Nat} {v : Value} (h : (SH k).1 = tag) (hj : (ftys tag)[j]? = some ty) (hv : am_fv G S' k j ty = v) (ho : ∀ i t, i ≠ j → am_fv G S' k i t = am_fv G S k i t) : (am_fs G S k).set j v = am_fs G S' k := by
  have hl := (List.getElem?_eq_some_iff.mp hj).1
  apply List.ext_getElem?
  intro i
  by_cases hij : i = j
  · subst hij
    rw [List.getElem?_set_self (am_fs_len h hj), am_fs_get h hj, hv]
  · rw [List.getElem?_set_ne (Ne.symm hij)]
    unfold am_fs
    rw [List.getElem?_map, List.getElem?_map]
    by_cases hi : i < (ftys (SH k).1).length
    · rw [List.getElem?_range hi]
      show some (am_fv G S k i _) = some (am_fv G S' k i _)
      rw [ho i _ hij]
    · rw [List.getElem?_eq_none (by simpa using hi)]
      rfl
theorem am_old {G : aG} {s : State} {H : Heap} {locs : List Loc} (h : ∀ a, a < gB G → s.heap[a]? = G.1[a]?) (hS : va_S (gA G) s.heap H locs) : ∀ a, a < gB G → H[a]? = G.1[a]? := by
  intro a ha
  have h1 := h a ha
  by_cases hlt : a < s.heap.size
  · rw [hS.2.1 a hlt (by show ¬ gB G ≤ a; omega)]
    exact h1
  · rw [show G.1[a]? = some (G.1[a]'ha) from Array.getElem?_eq_getElem ha] at h1
    exact absurd (Array.getElem?_eq_some_iff.mp h1).1 hlt
section GH
variable {G : aG} {l : Launch} {R : Room} {Tm : List Frame → Array Value → State → State → Prop} {M : aM} {n cells slots pc : Nat} {lv : List (Nat × Value)} {st : List Value} {S : aSt}
theorem Go.getV {ix k tag j ty : Nat} (pc' : Nat) (hp : pc + 3 = pc') (hd : decode M.1 pc = .ok (.getfield ix, 3)) (hf : aFl M.2.2.2.1 ix tag j) (hj : (ftys tag)[j]? = some ty) (hk : k < n) (ht : (SH k).1 = tag) (v : Value) (hv : am_fv G S k j ty = cV G v) (kk : Go G l R Tm M n cells slots pc' lv (v :: st) S) : Go G l R Tm M n cells slots pc lv (.ref k :: st) S := by
  subst hp
  intro p e s m args below meth c H locs ls C hn hS hW hl
  obtain ⟨Cn, T, N, hc, hjN, hws, hlk⟩ := hf
  have hq : qa G k = gB G + k := qa_own (by have := hW.1; omega)
  have he : (aws G n S)[k]? = some (gB G + k, .inr (tag, am_fs G S k)) := by rw [aws_get hk, am_cE_obj ht (vw_lt hc)]
  have hfs := am_fs_get (G := G) (S := S) ht hj
  rw [hv] at hfs
  have hgo := kk p e s m args below meth c H locs ls C hn hS hW hl
  show W p l e R s m args below meth c H locs cells slots (Tm below args s) (F0 m pc ls (.ref (qa G k) :: st.map (cV G)))
  rw [hq]
  rcases hlk with hlk | ⟨host, hlk⟩
  · exact va_get C.1 C.2.1 C.2.2.2.2.2.2.2.1 hws C.2.2.2.2.1 C.2.2.2.2.2.2.2.2.1.1 hW.2.1 k he hc j hjN (C.2.2.2.2.2.2.2.1 _ hlk) (fun _ h9 => h9) hfs hd hgo
  · exact va_getN C.1 C.2.1 C.2.2.2.2.2.2.2.1 hws C.2.2.2.2.1 C.2.2.2.2.2.2.2.2.1.1 hW.2.1 k he hc j hjN (va_Nw.use rfl (C.2.2.2.2.2.2.2.2.1.2.1 _ hlk)) (fun _ h9 => h9) hfs hd hgo
theorem Go.getI {ix k tag j : Nat} (pc' : Nat) (hp : pc + 3 = pc') (hd : decode M.1 pc = .ok (.getfield ix, 3)) (hf : aFl M.2.2.2.1 ix tag j) (hj : (ftys tag)[j]? = some 0) (hk : k < n) (ht : (SH k).1 = tag) (kk : Go G l R Tm M n cells slots pc' lv (.int (S.1 k j) :: st) S) : Go G l R Tm M n cells slots pc lv (.ref k :: st) S := Go.getV pc' hp hd hf hj hk ht (.int (S.1 k j)) rfl kk
theorem Go.getL {ix k tag j : Nat} (pc' : Nat) (hp : pc + 3 = pc') (hd : decode M.1 pc = .ok (.getfield ix, 3)) (hf : aFl M.2.2.2.1 ix tag j) (hj : (ftys tag)[j]? = some 1) (hk : k < n) (ht : (SH k).1 = tag) (kk : Go G l R Tm M n cells slots pc' lv (.long (S.2.1 k j) :: st) S) : Go G l R Tm M n cells slots pc lv (.ref k :: st) S := Go.getV pc' hp hd hf hj hk ht (.long (S.2.1 k j)) rfl kk
theorem Go.getR {ix k tag j k' : Nat} (pc' : Nat) (hp : pc + 3 = pc') (hd : decode M.1 pc = .ok (.getfield ix, 3)) (hf : aFl M.2.2.2.1 ix tag j) (hj : (ftys tag)[j]? = some 2) (hk : k < n) (ht : (SH k).1 = tag) (hr : S.2.2 k j = some k') (kk : Go G l R Tm M n cells slots pc' lv (.ref k' :: st) S) : Go G l R Tm M n cells slots pc lv (.ref k :: st) S := Go.getV pc' hp hd hf hj hk ht (.ref k') (by show va_rf ((S.2.2 k j).map (qa G)) = _; rw [hr]; rfl) kk
theorem Go.putV {ix k tag j tyn : Nat} {ty : FieldType} {fin : Bool} {v : Value} (pc' : Nat) (S' : aSt) (hp : pc + 3 = pc') (hd : decode M.1 pc = .ok (.putfield ix, 3)) (hf : aFp M.2.2.2.1 ix tag j ty fin) (hj : (ftys tag)[j]? = some tyn) (hk : k < n) (ht : (SH k).1 = tag) (hnr : narrow ty (cV G v) = cV G v) (hfit : fits ty (cV G v) = true) (hfin : fin = true → M.2.2.2.2 = "<init>") (hv : am_fv G S' k j tyn = cV G v) (ho : ∀ i t, i ≠ j → am_fv G S' k i t = am_fv G S k i t) (ho2 : ∀ a, a ≠ k → am_cE G S' a = am_cE G S a) (kk : Go G l R Tm M n cells slots pc' lv st S') : Go G l R Tm M n cells slots pc lv (v :: .ref k :: st) S := by
  subst hp
  intro p e s m args below meth c H locs ls C hn hS hW hl
  obtain ⟨Cn, T, N, ty0, hc, hjN, hws, hlk, hty, hnm, hfi, hpd, hown⟩ := hf
  have hq : qa G k = gB G + k := qa_own (by have := hW.1; omega)
  have he : (aws G n S)[k]? = some (gB G + k, .inr (tag, am_fs G S k)) := by rw [aws_get hk, am_cE_obj ht (vw_lt hc)]
  have hset : (aws G n S).set k (gB G + k, .inr (tag, (am_fs G S k).set j (cV G v))) = aws G n S' := aws_set (by rw [am_cE_obj ht (vw_lt hc), am_fs_set ht hj hv ho]) ho2
  have hgo : ∀ (H1 : Heap) (locs1 : List Loc), va_P (gD G) vwCl ((aws G n S).set k (gB G + k, .inr (tag, (am_fs G S k).set j (cV G v)))) H1 → va_D (gA G) ((aws G n S).set k (gB G + k, .inr (tag, (am_fs G S k).set j (cV G v)))) → va_S (gA G) s.heap H1 locs1 → W p l e R s m args below meth c H1 locs1 cells slots (Tm below args s) (F0 m (pc + 3) ls (st.map (cV G))) := by
    intro H1 locs1 hP1 _ hS1
    rw [hset] at hP1
    exact kk p e s m args below meth c H1 locs1 ls C hn hS1 ⟨hW.1, hP1, am_old C.2.2.2.2.2.2.2.2.2 hS1⟩ hl
  show W p l e R s m args below meth c H locs cells slots (Tm below args s) (F0 m pc ls (cV G v :: .ref (qa G k) :: st.map (cV G)))
  rw [hq]
  cases fin with
  | false =>
    rcases hlk with hlk | ⟨⟨host, hlk⟩, -⟩
    · exact va_put C.1 C.2.1 C.2.2.2.2.2.2.2.1 hws ty0 hty hnm C.2.2.2.2.1 C.2.2.2.2.2.2.2.2.1.1 hW.2.1 (aws_D G n S) hS k he hc j hjN (C.2.2.2.2.2.2.2.1 _ hlk) (fun _ h9 => h9) hfi hpd hnr hfit (am_fs_len ht hj) hd hgo
    · exact va_putN C.1 C.2.1 C.2.2.2.2.2.2.2.1 hws ty0 hty hnm C.2.2.2.2.1 C.2.2.2.2.2.2.2.2.1.1 hW.2.1 (aws_D G n S) hS k he hc j hjN (va_Nw.use rfl (C.2.2.2.2.2.2.2.2.1.2.1 _ hlk)) (fun _ h9 => h9) hfi hpd hnr hfit (am_fs_len ht hj) hd hgo
  | true =>
    rcases hlk with hlk | ⟨-, h0⟩
    · exact va_putF C.1 C.2.1 C.2.2.2.2.2.2.2.1 hws ty0 hty hnm C.2.2.2.2.1 C.2.2.2.2.2.2.2.2.1.1 hW.2.1 (aws_D G n S) hS k he hc j hjN (C.2.2.2.2.2.2.2.1 _ hlk) (fun _ h9 => h9) hfi (C.2.2.2.2.2.1.trans (hfin rfl)) (hown rfl) hpd hnr hfit (am_fs_len ht hj) hd hgo
    · cases h0
theorem am_fv_ne {G : aG} {S S' : aSt} {k i t : Nat} (h1 : S'.1 k i = S.1 k i) (h2 : S'.2.1 k i = S.2.1 k i) (h3 : S'.2.2 k i = S.2.2 k i) : am_fv G S' k i t = am_fv G S k i t := by
  unfold am_fv
  rw [h1, h2, h3]
theorem Go.putI {ix k tag j : Nat} {fin : Bool} {v : Int32} (pc' : Nat) (hp : pc + 3 = pc') (hd : decode M.1 pc = .ok (.putfield ix, 3)) (hf : aFp M.2.2.2.1 ix tag j .int fin) (hj : (ftys tag)[j]? = some 0) (hk : k < n) (ht : (SH k).1 = tag) (hfin : fin = true → M.2.2.2.2 = "<init>") (kk : Go G l R Tm M n cells slots pc' lv st (stI S k j v)) : Go G l R Tm M n cells slots pc lv (.int v :: .ref k :: st) S := by
  refine Go.putV (v := .int v) pc' (stI S k j v) hp hd hf hj hk ht rfl rfl hfin ?_ (fun i t hij => am_fv_ne ?_ rfl rfl) (fun a ha => am_cE_congr (stI_ne ha) rfl rfl) kk
  · show Value.int ((stI S k j v).1 k j) = Value.int v
    rw [stI_self]
    simp [upd]
  · rw [stI_self]
    simp [upd, hij]
theorem Go.putL {ix k tag j : Nat} {fin : Bool} {v : Int64} (pc' : Nat) (hp : pc + 3 = pc') (hd : decode M.1 pc = .ok (.putfield ix, 3)) (hf : aFp M.2.2.2.1 ix tag j .long fin) (hj : (ftys tag)[j]? = some 1) (hk : k < n) (ht : (SH k).1 = tag) (hfin : fin = true → M.2.2.2.2 = "<init>") (kk : Go G l R Tm M n cells slots pc' lv st (stL S k j v)) : Go G l R Tm M n cells slots pc lv (.long v :: .ref k :: st) S := by
  refine Go.putV (v := .long v) pc' (stL S k j v) hp hd hf hj hk ht rfl rfl hfin ?_ (fun i t hij => am_fv_ne rfl ?_ rfl) (fun a ha => am_cE_congr rfl (by simp [stL, ha]) rfl) kk
  · show Value.long ((stL S k j v).2.1 k j) = Value.long v
    simp [stL, vp_updL]
  · simp [stL, vp_updL, hij]
theorem Go.putR {ix k tag j v : Nat} {ty : FieldType} {fin : Bool} (pc' : Nat) (hp : pc + 3 = pc') (hd : decode M.1 pc = .ok (.putfield ix, 3)) (hf : aFp M.2.2.2.1 ix tag j ty fin) (hty : (∃ q, ty = .object q) ∨ ∃ q, ty = .array q) (hj : (ftys tag)[j]? = some 2) (hk : k < n) (ht : (SH k).1 = tag) (hfin : fin = true → M.2.2.2.2 = "<init>") (kk : Go G l R Tm M n cells slots pc' lv st (stR S k j (some v))) : Go G l R Tm M n cells slots pc lv (.ref v :: .ref k :: st) S := by
  refine Go.putV (v := .ref v) pc' (stR S k j (some v)) hp hd hf hj hk ht ?_ ?_ hfin ?_ (fun i t hij => am_fv_ne rfl rfl ?_) (fun a ha => am_cE_congr rfl rfl (by simp [stR, ha])) kk
  · rcases hty with ⟨q, rfl⟩ | ⟨q, rfl⟩ <;> rfl
  · rcases hty with ⟨q, rfl⟩ | ⟨q, rfl⟩ <;> rfl
  · show va_rf (((stR S k j (some v)).2.2 k j).map (qa G)) = Value.ref (qa G v)
    simp [stR, va_up, va_rf]
  · simp [stR, va_up, hij]
/-! arrays -/
theorem Go.iald {k : Nat} {i : Int32} (pc' : Nat) (hp : pc + 1 = pc') (hd : decode M.1 pc = .ok (.iaload, 1)) (hk : k < n) (ht : (SH k).1 = 7) (hin : inb i (SH k).2 = true) (kk : Go G l R Tm M n cells slots pc' lv (.int (S.1 k i.toNatClampNeg) :: st) S) : Go G l R Tm M n cells slots pc lv (.int i :: .ref k :: st) S := by
  subst hp
  intro p e s m args below meth c H locs ls C hn hS hW hl
  have hq : qa G k = gB G + k := qa_own (by have := hW.1; omega)
  show W p l e R s m args below meth c H locs cells slots (Tm below args s) (F0 m pc ls (.int i :: .ref (qa G k) :: st.map (cV G)))
  rw [hq]
  exact va_iald C.1 C.2.1 C.2.2.2.2.2.2.2.2.1.1 hW.2.1 k 0 (by rw [aws_get hk, am_cE_int ht]) rfl (inb_in hin) hd (kk p e s m args below meth c H locs ls C hn hS hW hl)
theorem Go.zald {k : Nat} {i : Int32} (pc' : Nat) (hp : pc + 1 = pc') (hd : decode M.1 pc = .ok (.baload, 1)) (hk : k < n) (ht : (SH k).1 = 8) (hin : inb i (SH k).2 = true) (kk : Go G l R Tm M n cells slots pc' lv (.int (S.1 k i.toNatClampNeg) :: st) S) : Go G l R Tm M n cells slots pc lv (.int i :: .ref k :: st) S := by
  subst hp
  intro p e s m args below meth c H locs ls C hn hS hW hl
  have hq : qa G k = gB G + k := qa_own (by have := hW.1; omega)
  show W p l e R s m args below meth c H locs cells slots (Tm below args s) (F0 m pc ls (.int i :: .ref (qa G k) :: st.map (cV G)))
  rw [hq]
  exact va_zald C.1 C.2.1 C.2.2.2.2.2.2.2.2.1.1 hW.2.1 k 1 (by rw [aws_get hk, am_cE_bool ht]) rfl (inb_in hin) hd (kk p e s m args below meth c H locs ls C hn hS hW hl)
theorem Go.aaldR {k k' : Nat} {i : Int32} (pc' : Nat) (hp : pc + 1 = pc') (hd : decode M.1 pc = .ok (.aaload, 1)) (hk : k < n) (ht : (SH k).1 = 9) (hin : inb i (SH k).2 = true) (hr : S.2.2 k i.toNatClampNeg = some k') (kk : Go G l R Tm M n cells slots pc' lv (.ref k' :: st) S) : Go G l R Tm M n cells slots pc lv (.int i :: .ref k :: st) S := by
  subst hp
  intro p e s m args below meth c H locs ls C hn hS hW hl
  have hq : qa G k = gB G + k := qa_own (by have := hW.1; omega)
  show W p l e R s m args below meth c H locs cells slots (Tm below args s) (F0 m pc ls (.int i :: .ref (qa G k) :: st.map (cV G)))
  rw [hq]
  refine va_aldq C.1 C.2.1 C.2.2.2.2.2.2.2.2.1.1 hW.2.1 k 2 (by rw [aws_get hk, am_cE_rows ht]) rfl (inb_in hin) hd ?_
  rw [hr]
  exact kk p e s m args below meth c H locs ls C hn hS hW hl
theorem Go.aaldS {k k' : Nat} {i : Int32} (pc' : Nat) (hp : pc + 1 = pc') (hd : decode M.1 pc = .ok (.aaload, 1)) (hk : k < n) (ht : (SH k).1 = 10) (hin : inb i (SH k).2 = true) (hr : S.2.2 k i.toNatClampNeg = some k') (kk : Go G l R Tm M n cells slots pc' lv (.ref k' :: st) S) : Go G l R Tm M n cells slots pc lv (.int i :: .ref k :: st) S := by
  subst hp
  intro p e s m args below meth c H locs ls C hn hS hW hl
  have hq : qa G k = gB G + k := qa_own (by have := hW.1; omega)
  show W p l e R s m args below meth c H locs cells slots (Tm below args s) (F0 m pc ls (.int i :: .ref (qa G k) :: st.map (cV G)))
  rw [hq]
  refine va_aldq C.1 C.2.1 C.2.2.2.2.2.2.2.2.1.1 hW.2.1 k 3 (by rw [aws_get hk, am_cE_std ht]) rfl (inb_in hin) hd ?_
  rw [hr]
  exact kk p e s m args below meth c H locs ls C hn hS hW hl
theorem Go.iast {k : Nat} {i x : Int32} (pc' : Nat) (hp : pc + 1 = pc') (hd : decode M.1 pc = .ok (.iastore, 1)) (hk : k < n) (ht : (SH k).1 = 7) (hin : inb i (SH k).2 = true) (kk : Go G l R Tm M n cells slots pc' lv st (stI S k i.toNatClampNeg x)) : Go G l R Tm M n cells slots pc lv (.int x :: .int i :: .ref k :: st) S := by
  subst hp
  intro p e s m args below meth c H locs ls C hn hS hW hl
  have hq : qa G k = gB G + k := qa_own (by have := hW.1; omega)
  show W p l e R s m args below meth c H locs cells slots (Tm below args s) (F0 m pc ls (.int x :: .int i :: .ref (qa G k) :: st.map (cV G)))
  rw [hq]
  refine va_iast C.1 C.2.1 C.2.2.2.2.2.2.2.2.1.1 hW.2.1 (aws_D G n S) hS k 0 (by rw [aws_get hk, am_cE_int ht]) rfl (inb_in hin) hd (fun H1 locs1 hP1 _ hS1 => ?_)
  rw [aws_set (S := S) (S' := stI S k i.toNatClampNeg x) (by rw [am_cE_int ht, stI_self]) (fun a ha => am_cE_congr (stI_ne ha) rfl rfl)] at hP1
  exact kk p e s m args below meth c H1 locs1 ls C hn hS1 ⟨hW.1, hP1, am_old C.2.2.2.2.2.2.2.2.2 hS1⟩ hl
theorem Go.zast {k : Nat} {i x : Int32} (pc' : Nat) (hp : pc + 1 = pc') (hd : decode M.1 pc = .ok (.bastore, 1)) (hk : k < n) (ht : (SH k).1 = 8) (hin : inb i (SH k).2 = true) (kk : Go G l R Tm M n cells slots pc' lv st (stI S k i.toNatClampNeg (vp_nar .boolean x))) : Go G l R Tm M n cells slots pc lv (.int x :: .int i :: .ref k :: st) S := by
  subst hp
  intro p e s m args below meth c H locs ls C hn hS hW hl
  have hq : qa G k = gB G + k := qa_own (by have := hW.1; omega)
  show W p l e R s m args below meth c H locs cells slots (Tm below args s) (F0 m pc ls (.int x :: .int i :: .ref (qa G k) :: st.map (cV G)))
  rw [hq]
  refine va_zast C.1 C.2.1 C.2.2.2.2.2.2.2.2.1.1 hW.2.1 (aws_D G n S) hS k 1 (by rw [aws_get hk, am_cE_bool ht]) rfl (inb_in hin) hd (fun H1 locs1 hP1 _ hS1 => ?_)
  rw [aws_set (S := S) (S' := stI S k i.toNatClampNeg (vp_nar .boolean x)) (by rw [am_cE_bool ht, stI_self]) (fun a ha => am_cE_congr (stI_ne ha) rfl rfl)] at hP1
  exact kk p e s m args below meth c H1 locs1 ls C hn hS1 ⟨hW.1, hP1, am_old C.2.2.2.2.2.2.2.2.2 hS1⟩ hl
theorem Go.alenI {k : Nat} (pc' : Nat) (hp : pc + 1 = pc') (hd : decode M.1 pc = .ok (.arraylength, 1)) (hk : k < n) (ht : (SH k).1 = 7) (kk : Go G l R Tm M n cells slots pc' lv (.int (Int32.ofNat (SH k).2) :: st) S) : Go G l R Tm M n cells slots pc lv (.ref k :: st) S := by
  subst hp
  intro p e s m args below meth c H locs ls C hn hS hW hl
  have hq : qa G k = gB G + k := qa_own (by have := hW.1; omega)
  show W p l e R s m args below meth c H locs cells slots (Tm below args s) (F0 m pc ls (.ref (qa G k) :: st.map (cV G)))
  rw [hq]
  exact va_alen (x := ((SH k).2, .inl (S.1 k))) C.1 C.2.1 C.2.2.2.2.2.2.2.2.1.1 hW.2.1 k 0 (by rw [aws_get hk, am_cE_int ht]) rfl rfl hd (kk p e s m args below meth c H locs ls C hn hS hW hl)
theorem Go.alenR {k : Nat} (pc' : Nat) (hp : pc + 1 = pc') (hd : decode M.1 pc = .ok (.arraylength, 1)) (hk : k < n) (ht : (SH k).1 = 9) (kk : Go G l R Tm M n cells slots pc' lv (.int (Int32.ofNat (SH k).2) :: st) S) : Go G l R Tm M n cells slots pc lv (.ref k :: st) S := by
  subst hp
  intro p e s m args below meth c H locs ls C hn hS hW hl
  have hq : qa G k = gB G + k := qa_own (by have := hW.1; omega)
  show W p l e R s m args below meth c H locs cells slots (Tm below args s) (F0 m pc ls (.ref (qa G k) :: st.map (cV G)))
  rw [hq]
  exact va_alen (x := ((SH k).2, .inr (.inr (.inr (.inr (fun i => (S.2.2 k i).map (qa G))))))) C.1 C.2.1 C.2.2.2.2.2.2.2.2.1.1 hW.2.1 k 2 (by rw [aws_get hk, am_cE_rows ht]) rfl rfl hd (kk p e s m args below meth c H locs ls C hn hS hW hl)
def cpok (sp dp c : Int32) (n0 n1 : Nat) : Bool := !decide (sp < 0) && !decide (dp < 0) && !decide (c < 0) && decide (sp.toNatClampNeg + c.toNatClampNeg ≤ n0) && decide (dp.toNatClampNeg + c.toNatClampNeg ≤ n1)
theorem Go.acpy {k0 k1 ix : Nat} {sp dp c0 : Int32} (pc' : Nat) (hp : pc + 3 = pc') (hd : decode M.1 pc = .ok (.invokestatic ix, 3)) (hlk : Cond.methodLink M.2.2.2.1 ix arraycopyName ∈ lw_g) (hnat : Cond.native arraycopyName ∈ lw_g) (hstt : Cond.static arraycopyName ∈ lw_g) (hini : Cond.initialized "java/lang/System" ∈ lw_g) (hk0 : k0 < n) (ht0 : (SH k0).1 = 7) (hk1 : k1 < n) (ht1 : (SH k1).1 = 7) (hin : cpok sp dp c0 (SH k0).2 (SH k1).2 = true) (hfr : 1 ≤ R.frames) (hlo : (st.map fun v => v.category).sum + (nativeFrameWords "java/lang/System" "arraycopy" 5 + 11) ≤ R.locals) (kk : Go G l R Tm M n cells slots pc' lv st (stRow S k1 (va_cpy (S.1 k0) (S.1 k1) sp.toNatClampNeg dp.toNatClampNeg c0.toNatClampNeg))) : Go G l R Tm M n cells slots pc lv (.int c0 :: .int dp :: .ref k1 :: .int sp :: .ref k0 :: st) S := by
  subst hp
  intro p e s m args below meth c H locs ls C hn hS hW hl
  have hq : qa G k0 = gB G + k0 := qa_own (by have := hW.1; omega)
  have hq1 : qa G k1 = gB G + k1 := qa_own (by have := hW.1; omega)
  simp [cpok] at hin
  obtain ⟨⟨⟨⟨i1, i2⟩, i3⟩, i4⟩, i5⟩ := hin
  have hcat : ((st.map (cV G)).map fun v => v.category).sum = (st.map fun v => v.category).sum := by
    rw [List.map_map]
    congr 1
    apply List.map_congr_left
    intro v _
    exact cV_cat G v
  show W p l e R s m args below meth c H locs cells slots (Tm below args s) (F0 m pc ls (.int c0 :: .int dp :: .ref (qa G k1) :: .int sp :: .ref (qa G k0) :: st.map (cV G)))
  rw [hq, hq1]
  refine va_copyi C.1 C.2.1 (C.2.2.1.trans hl.1.symm) C.2.2.2.2.1 (C.2.2.2.2.2.2.2.1 _ hlk) (C.2.2.2.2.2.2.2.1 _ hnat) (C.2.2.2.2.2.2.2.1 _ hstt) (C.2.2.2.2.2.2.2.1 _ hini) C.2.2.2.2.2.2.2.2.1.1 hW.2.1 (aws_D G n S) hS k0 k1 0 0 (ty := .int) (by rw [aws_get hk0, am_cE_int ht0]) (by rw [aws_get hk1, am_cE_int ht1]) rfl rfl rfl (by simpa using i1) (by simpa using i2) (by simpa using i3) i4 i5 (fun i hi => rfl) hfr (by rw [hcat]; exact hlo) hd (fun H1 locs1 hP1 _ hS1 => ?_)
  rw [aws_set (S := S) (S' := stRow S k1 (va_cpy (S.1 k0) (S.1 k1) sp.toNatClampNeg dp.toNatClampNeg c0.toNatClampNeg)) (by rw [am_cE_int ht1]; simp [stRow]) (fun a ha => am_cE_congr (by simp [stRow, ha]) rfl rfl)] at hP1
  exact kk p e s m args below meth c H1 locs1 ls C hn hS1 ⟨hW.1, hP1, am_old C.2.2.2.2.2.2.2.2.2 hS1⟩ hl
/-! the letters -/
theorem Go.gets {ix : Nat} (pc' : Nat) (hp : pc + 3 = pc') (hd : decode M.1 pc = .ok (.getstatic ix, 3)) (hlk : Cond.fieldLink M.2.2.2.1 ix "LostQuestions$Kinds" "LETTERS" "[I" ∈ lw_g) (kk : Go G l R Tm M n cells slots pc' lv (.ref 1001 :: st) S) : Go G l R Tm M n cells slots pc lv st S := by
  subst hp
  intro p e s m args below meth c H locs ls C hn hS hW hl
  have hZ := (C.2.2.2.2.2.2.2.2.1.2.2.2.2.2.1).kept (H1 := s.heap) (fun a ha _ => C.2.2.2.2.2.2.2.2.2 a ha)
  exact va_gets C.1 C.2.1 hZ hS C.2.2.2.2.1 (C.2.2.2.2.2.2.2.1 _ hlk) (fun _ h9 => h9) hd (kk p e s m args below meth c H locs ls C hn hS hW hl)
theorem Go.ildT {i : Int32} (pc' : Nat) (hp : pc + 1 = pc') (hd : decode M.1 pc = .ok (.iaload, 1)) (hin : inb i 6 = true) (kk : Go G l R Tm M n cells slots pc' lv (.int (am_let i.toNatClampNeg) :: st) S) : Go G l R Tm M n cells slots pc lv (.int i :: .ref 1001 :: st) S := by
  subst hp
  intro p e s m args below meth c H locs ls C hn hS hW hl
  have hT := (C.2.2.2.2.2.2.2.2.1.2.2.2.2.2.2).kept (H1 := s.heap) (fun a ha _ => C.2.2.2.2.2.2.2.2.2 a ha)
  exact va_ti C.1 C.2.1 hT hS (inb_in hin) rfl hd (kk p e s m args below meth c H locs ls C hn hS hW hl)
end GH
