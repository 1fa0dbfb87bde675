/-! The judgement 'Go' and its rows: one an instruction. -/
/-- what holds in a method's frame: the machine, its code, its words, the run's constants -/
def aC (G : aG) (M : aM) (p : Program) (s : State) (m : MethodId) (args : Array Value) (meth : Method) (c : Code) : Prop :=
  p.tables.exec = Jvm.exec ∧ c.code = M.1 ∧ c.maxLocals = M.2.1 ∧ meth.sig.returnType = M.2.2.1 ∧ s.vm.findClass M.2.2.2.1 = some m.cls ∧ meth.name = M.2.2.2.2 ∧ meth.locks = false ∧ (∀ w ∈ lw_g, w.before args s = true) ∧ aK G s ∧ ∀ a, a < gB G → s.heap[a]? = G.1[a]?
def Go (G : aG) (l : Launch) (R : Room) (Tm : List Frame → Array Value → State → State → Prop) (M : aM) (n cells slots : Nat) (pc : Nat) (lv : List (Nat × Value)) (st : List Value) (S : aSt) : Prop :=
  ∀ (p : Program) (e : Env) (s : State) (m : MethodId) (args : Array Value) (below : List Frame) (meth : Method) (c : Code) (H : Heap) (locs : List Loc) (ls : Array Slot),
    aC G M p s m args meth c → s.heap.size + cells = gB G + n → va_S (gA G) s.heap H locs → aW G n S H → lv_has ls M.2.1 (lv.map (cL G)) → W p l e R s m args below meth c H locs cells slots (Tm below args s) (F0 m pc ls (st.map (cV G)))
section GO
variable {G : aG} {l : Launch} {R : Room} {Tm : List Frame → Array Value → State → State → Prop} {M : aM} {n cells slots pc : Nat} {lv : List (Nat × Value)} {st : List Value} {S : aSt}
theorem am_at {ls : Array Slot} {nL : Nat} {lv : List (Nat × Value)} {G : aG} (h : lv_has ls nL (lv.map (cL G))) (j : Nat) {i : Nat} {v : Value} (hj : lv[j]? = some (i, v)) : ls[i]? = some (.val (cV G v)) :=
  lv_at h j (by rw [List.getElem?_map, hj]; rfl)
theorem am_filter (G : aG) (i : Nat) (lv : List (Nat × Value)) : (lv.map (cL G)).filter (fun q => !(q.1 == i) && !(q.1 + 1 == i && q.2.category == 2)) = (lv.filter (fun q => !(q.1 == i) && !(q.1 + 1 == i && q.2.category == 2))).map (cL G) := by
  rw [List.filter_map]
  congr 1
  apply List.filter_congr
  intro q _
  simp [cL, cV_cat]
theorem am_filterL (G : aG) (i : Nat) (lv : List (Nat × Value)) : (lv.map (cL G)).filter (fun q => !(q.1 == i) && (!(q.1 == i + 1) && !(q.1 + 1 == i && q.2.category == 2))) = (lv.filter (fun q => !(q.1 == i) && (!(q.1 == i + 1) && !(q.1 + 1 == i && q.2.category == 2)))).map (cL G) := by
  rw [List.filter_map]
  congr 1
  apply List.filter_congr
  intro q _
  simp [cL, cV_cat]

theorem Go.iload_n {i : Fin 4} {x : Int32} (j : Nat) (pc' : Nat) (hp : pc + 1 = pc') (hd : decode M.1 pc = .ok (.iload_n i, 1)) (hj : lv[j]? = some ((i : Nat), .int x)) (k : Go G l R Tm M n cells slots pc' lv (.int x :: st) S) : Go G l R Tm M n cells slots pc lv (st) S := by
  subst hp
  intro p e s m args below meth c H locs ls C hn hS hW hl
  exact lv_iload_n C.1 C.2.1 hd rfl (am_at hl j hj) (k p e s m args below meth c H locs ls C hn hS hW hl)

theorem Go.iload {i : Nat} {x : Int32} (j : Nat) (pc' : Nat) (hp : pc + 2 = pc') (hd : decode M.1 pc = .ok (.iload i, 2)) (hj : lv[j]? = some (i, .int x)) (k : Go G l R Tm M n cells slots pc' lv (.int x :: st) S) : Go G l R Tm M n cells slots pc lv (st) S := by
  subst hp
  intro p e s m args below meth c H locs ls C hn hS hW hl
  exact lv_iload C.1 C.2.1 hd (am_at hl j hj) (k p e s m args below meth c H locs ls C hn hS hW hl)

theorem Go.lload_n {i : Fin 4} {x : Int64} (j : Nat) (pc' : Nat) (hp : pc + 1 = pc') (hd : decode M.1 pc = .ok (.lload_n i, 1)) (hj : lv[j]? = some ((i : Nat), .long x)) (k : Go G l R Tm M n cells slots pc' lv (.long x :: st) S) : Go G l R Tm M n cells slots pc lv (st) S := by
  subst hp
  intro p e s m args below meth c H locs ls C hn hS hW hl
  exact lv_lload_n C.1 C.2.1 hd rfl (am_at hl j hj) (k p e s m args below meth c H locs ls C hn hS hW hl)

theorem Go.lload {i : Nat} {x : Int64} (j : Nat) (pc' : Nat) (hp : pc + 2 = pc') (hd : decode M.1 pc = .ok (.lload i, 2)) (hj : lv[j]? = some (i, .long x)) (k : Go G l R Tm M n cells slots pc' lv (.long x :: st) S) : Go G l R Tm M n cells slots pc lv (st) S := by
  subst hp
  intro p e s m args below meth c H locs ls C hn hS hW hl
  exact lv_lload C.1 C.2.1 hd (am_at hl j hj) (k p e s m args below meth c H locs ls C hn hS hW hl)

theorem Go.aload_n {i : Fin 4} {x : Nat} (j : Nat) (pc' : Nat) (hp : pc + 1 = pc') (hd : decode M.1 pc = .ok (.aload_n i, 1)) (hj : lv[j]? = some ((i : Nat), .ref x)) (k : Go G l R Tm M n cells slots pc' lv (.ref x :: st) S) : Go G l R Tm M n cells slots pc lv (st) S := by
  subst hp
  intro p e s m args below meth c H locs ls C hn hS hW hl
  exact lv_aload_n C.1 C.2.1 hd rfl (am_at hl j hj) (k p e s m args below meth c H locs ls C hn hS hW hl)

theorem Go.aload {i : Nat} {x : Nat} (j : Nat) (pc' : Nat) (hp : pc + 2 = pc') (hd : decode M.1 pc = .ok (.aload i, 2)) (hj : lv[j]? = some (i, .ref x)) (k : Go G l R Tm M n cells slots pc' lv (.ref x :: st) S) : Go G l R Tm M n cells slots pc lv (st) S := by
  subst hp
  intro p e s m args below meth c H locs ls C hn hS hW hl
  exact lv_aload C.1 C.2.1 hd (am_at hl j hj) (k p e s m args below meth c H locs ls C hn hS hW hl)

theorem Go.istore_n {i : Fin 4} {x : Int32} (pc' : Nat) (lv' : List (Nat × Value)) (hp : pc + 1 = pc') (hd : decode M.1 pc = .ok (.istore_n i, 1)) (hi : (i : Nat) < M.2.1) (hv : ((i : Nat), Value.int x) :: lv.filter (fun q => !(q.1 == (i : Nat)) && !(q.1 + 1 == (i : Nat) && q.2.category == 2)) = lv') (k : Go G l R Tm M n cells slots pc' lv' st S) : Go G l R Tm M n cells slots pc lv (.int x :: st) S := by
  subst hp
  subst hv
  intro p e s m args below meth c H locs ls C hn hS hW hl
  exact lv_istore_n C.1 C.2.1 hd rfl hl hi (by rw [am_filter]; rfl) (fun ls' hl' => k p e s m args below meth c H locs ls' C hn hS hW hl')

theorem Go.istore {i : Nat} {x : Int32} (pc' : Nat) (lv' : List (Nat × Value)) (hp : pc + 2 = pc') (hd : decode M.1 pc = .ok (.istore i, 2)) (hi : i < M.2.1) (hv : (i, Value.int x) :: lv.filter (fun q => !(q.1 == i) && !(q.1 + 1 == i && q.2.category == 2)) = lv') (k : Go G l R Tm M n cells slots pc' lv' st S) : Go G l R Tm M n cells slots pc lv (.int x :: st) S := by
  subst hp
  subst hv
  intro p e s m args below meth c H locs ls C hn hS hW hl
  exact lv_istore C.1 C.2.1 hd hl hi (by rw [am_filter]; rfl) (fun ls' hl' => k p e s m args below meth c H locs ls' C hn hS hW hl')

theorem Go.astore_n {i : Fin 4} {x : Nat} (pc' : Nat) (lv' : List (Nat × Value)) (hp : pc + 1 = pc') (hd : decode M.1 pc = .ok (.astore_n i, 1)) (hi : (i : Nat) < M.2.1) (hv : ((i : Nat), Value.ref x) :: lv.filter (fun q => !(q.1 == (i : Nat)) && !(q.1 + 1 == (i : Nat) && q.2.category == 2)) = lv') (k : Go G l R Tm M n cells slots pc' lv' st S) : Go G l R Tm M n cells slots pc lv (.ref x :: st) S := by
  subst hp
  subst hv
  intro p e s m args below meth c H locs ls C hn hS hW hl
  exact lv_astore_n C.1 C.2.1 hd rfl hl hi (by rw [am_filter]; rfl) (fun ls' hl' => k p e s m args below meth c H locs ls' C hn hS hW hl')

theorem Go.astore {i : Nat} {x : Nat} (pc' : Nat) (lv' : List (Nat × Value)) (hp : pc + 2 = pc') (hd : decode M.1 pc = .ok (.astore i, 2)) (hi : i < M.2.1) (hv : (i, Value.ref x) :: lv.filter (fun q => !(q.1 == i) && !(q.1 + 1 == i && q.2.category == 2)) = lv') (k : Go G l R Tm M n cells slots pc' lv' st S) : Go G l R Tm M n cells slots pc lv (.ref x :: st) S := by
  subst hp
  subst hv
  intro p e s m args below meth c H locs ls C hn hS hW hl
  exact lv_astore C.1 C.2.1 hd hl hi (by rw [am_filter]; rfl) (fun ls' hl' => k p e s m args below meth c H locs ls' C hn hS hW hl')

theorem Go.lstore_n {i : Fin 4} {x : Int64} (pc' : Nat) (lv' : List (Nat × Value)) (hp : pc + 1 = pc') (hd : decode M.1 pc = .ok (.lstore_n i, 1)) (hi : (i : Nat) + 1 < M.2.1) (hv : ((i : Nat), Value.long x) :: lv.filter (fun q => !(q.1 == (i : Nat)) && (!(q.1 == (i : Nat) + 1) && !(q.1 + 1 == (i : Nat) && q.2.category == 2))) = lv') (k : Go G l R Tm M n cells slots pc' lv' st S) : Go G l R Tm M n cells slots pc lv (.long x :: st) S := by
  subst hp
  subst hv
  intro p e s m args below meth c H locs ls C hn hS hW hl
  exact lv_lstore_n C.1 C.2.1 hd rfl hl hi (by rw [am_filterL]; rfl) (fun ls' hl' => k p e s m args below meth c H locs ls' C hn hS hW hl')

theorem Go.lstore {i : Nat} {x : Int64} (pc' : Nat) (lv' : List (Nat × Value)) (hp : pc + 2 = pc') (hd : decode M.1 pc = .ok (.lstore i, 2)) (hi : i + 1 < M.2.1) (hv : (i, Value.long x) :: lv.filter (fun q => !(q.1 == i) && (!(q.1 == i + 1) && !(q.1 + 1 == i && q.2.category == 2))) = lv') (k : Go G l R Tm M n cells slots pc' lv' st S) : Go G l R Tm M n cells slots pc lv (.long x :: st) S := by
  subst hp
  subst hv
  intro p e s m args below meth c H locs ls C hn hS hW hl
  exact lv_lstore C.1 C.2.1 hd hl hi (by rw [am_filterL]; rfl) (fun ls' hl' => k p e s m args below meth c H locs ls' C hn hS hW hl')

theorem Go.iinc {i : Nat} {d : Int} {x : Int32} (j : Nat) (pc' : Nat) (y : Int32) (lv' : List (Nat × Value)) (hp : pc + 3 = pc') (hd : decode M.1 pc = .ok (.iinc i d, 3)) (hj : lv[j]? = some (i, .int x)) (hy : x + Int32.ofInt d = y) (hi : i < M.2.1) (hv : (i, Value.int y) :: lv.filter (fun q => !(q.1 == i) && !(q.1 + 1 == i && q.2.category == 2)) = lv') (k : Go G l R Tm M n cells slots pc' lv' st S) : Go G l R Tm M n cells slots pc lv st S := by
  subst hp
  subst hv
  intro p e s m args below meth c H locs ls C hn hS hW hl
  exact lv_iinc C.1 C.2.1 hd hl (k := j) (by rw [List.getElem?_map, hj]; rfl) hy hi (by rw [am_filter]; rfl) (fun ls' hl' => k p e s m args below meth c H locs ls' C hn hS hW hl')

theorem Go.iconst {z : Int} (v : Int32) (pc' : Nat) (hp : pc + 1 = pc') (hd : decode M.1 pc = .ok (.iconst z, 1)) (hv : Int32.ofInt z = v) (k : Go G l R Tm M n cells slots pc' lv (.int v :: st) S) : Go G l R Tm M n cells slots pc lv (st) S := by
  subst hp
  intro p e s m args below meth c H locs ls C hn hS hW hl
  exact lv_iconst C.1 C.2.1 hd hv (k p e s m args below meth c H locs ls C hn hS hW hl)

theorem Go.bipush {z : Int} (v : Int32) (pc' : Nat) (hp : pc + 2 = pc') (hd : decode M.1 pc = .ok (.bipush z, 2)) (hv : (Int8.ofInt z).toInt32 = v) (k : Go G l R Tm M n cells slots pc' lv (.int v :: st) S) : Go G l R Tm M n cells slots pc lv (st) S := by
  subst hp
  intro p e s m args below meth c H locs ls C hn hS hW hl
  exact lv_bipush C.1 C.2.1 hd hv (k p e s m args below meth c H locs ls C hn hS hW hl)

theorem Go.sipush {z : Int} (v : Int32) (pc' : Nat) (hp : pc + 3 = pc') (hd : decode M.1 pc = .ok (.sipush z, 3)) (hv : (Int16.ofInt z).toInt32 = v) (k : Go G l R Tm M n cells slots pc' lv (.int v :: st) S) : Go G l R Tm M n cells slots pc lv (st) S := by
  subst hp
  intro p e s m args below meth c H locs ls C hn hS hW hl
  exact lv_sipush C.1 C.2.1 hd hv (k p e s m args below meth c H locs ls C hn hS hW hl)

theorem Go.lconst {z : Fin 2} (v : Int64) (pc' : Nat) (hp : pc + 1 = pc') (hd : decode M.1 pc = .ok (.lconst z, 1)) (hv : Int64.ofNat (z : Nat) = v) (k : Go G l R Tm M n cells slots pc' lv (.long v :: st) S) : Go G l R Tm M n cells slots pc lv (st) S := by
  subst hp
  intro p e s m args below meth c H locs ls C hn hS hW hl
  exact lv_lconst C.1 C.2.1 hd hv (k p e s m args below meth c H locs ls C hn hS hW hl)

theorem Go.ldc {ix : Nat} (v : Int32) (pc' : Nat) (hp : pc + 2 = pc') (hd : decode M.1 pc = .ok (.ldc ix, 2)) (hw : Cond.constant M.2.2.2.1 ix v ∈ lw_g) (k : Go G l R Tm M n cells slots pc' lv (.int v :: st) S) : Go G l R Tm M n cells slots pc lv (st) S := by
  subst hp
  intro p e s m args below meth c H locs ls C hn hS hW hl
  exact lv_ldc C.1 C.2.1 C.2.2.2.2.1 (C.2.2.2.2.2.2.2.1 _ hw) hd (k p e s m args below meth c H locs ls C hn hS hW hl)

theorem Go.ldcw {ix : Nat} (v : Int32) (pc' : Nat) (hp : pc + 3 = pc') (hd : decode M.1 pc = .ok (.ldc_w ix, 3)) (hw : Cond.constant M.2.2.2.1 ix v ∈ lw_g) (k : Go G l R Tm M n cells slots pc' lv (.int v :: st) S) : Go G l R Tm M n cells slots pc lv (st) S := by
  subst hp
  intro p e s m args below meth c H locs ls C hn hS hW hl
  exact lv_ldcw C.1 C.2.1 C.2.2.2.2.1 (C.2.2.2.2.2.2.2.1 _ hw) hd (k p e s m args below meth c H locs ls C hn hS hW hl)

theorem Go.ldc2 {ix : Nat} (v : Int64) (pc' : Nat) (hp : pc + 3 = pc') (hd : decode M.1 pc = .ok (.ldc2_w ix, 3)) (hw : Cond.constantLong M.2.2.2.1 ix v ∈ lw_g) (k : Go G l R Tm M n cells slots pc' lv (.long v :: st) S) : Go G l R Tm M n cells slots pc lv (st) S := by
  subst hp
  intro p e s m args below meth c H locs ls C hn hS hW hl
  exact lv_ldc2 C.1 C.2.1 C.2.2.2.2.1 (C.2.2.2.2.2.2.2.1 _ hw) hd (k p e s m args below meth c H locs ls C hn hS hW hl)

theorem Go.iadd {x y : Int32} (pc' : Nat) (hp : pc + 1 = pc') (hd : decode M.1 pc = .ok (.iadd, 1)) (k : Go G l R Tm M n cells slots pc' lv (.int (x + y) :: st) S) : Go G l R Tm M n cells slots pc lv (.int y :: .int x :: st) S := by
  subst hp
  intro p e s m args below meth c H locs ls C hn hS hW hl
  exact lv_iadd C.1 C.2.1 hd (k p e s m args below meth c H locs ls C hn hS hW hl)

theorem Go.isub {x y : Int32} (pc' : Nat) (hp : pc + 1 = pc') (hd : decode M.1 pc = .ok (.isub, 1)) (k : Go G l R Tm M n cells slots pc' lv (.int (x - y) :: st) S) : Go G l R Tm M n cells slots pc lv (.int y :: .int x :: st) S := by
  subst hp
  intro p e s m args below meth c H locs ls C hn hS hW hl
  exact lv_isub C.1 C.2.1 hd (k p e s m args below meth c H locs ls C hn hS hW hl)

theorem Go.imul {x y : Int32} (pc' : Nat) (hp : pc + 1 = pc') (hd : decode M.1 pc = .ok (.imul, 1)) (k : Go G l R Tm M n cells slots pc' lv (.int (x * y) :: st) S) : Go G l R Tm M n cells slots pc lv (.int y :: .int x :: st) S := by
  subst hp
  intro p e s m args below meth c H locs ls C hn hS hW hl
  exact lv_imul C.1 C.2.1 hd (k p e s m args below meth c H locs ls C hn hS hW hl)

theorem Go.iand {x y : Int32} (pc' : Nat) (hp : pc + 1 = pc') (hd : decode M.1 pc = .ok (.iand, 1)) (k : Go G l R Tm M n cells slots pc' lv (.int (x &&& y) :: st) S) : Go G l R Tm M n cells slots pc lv (.int y :: .int x :: st) S := by
  subst hp
  intro p e s m args below meth c H locs ls C hn hS hW hl
  exact lv_iand C.1 C.2.1 hd (k p e s m args below meth c H locs ls C hn hS hW hl)

theorem Go.ior {x y : Int32} (pc' : Nat) (hp : pc + 1 = pc') (hd : decode M.1 pc = .ok (.ior, 1)) (k : Go G l R Tm M n cells slots pc' lv (.int (x ||| y) :: st) S) : Go G l R Tm M n cells slots pc lv (.int y :: .int x :: st) S := by
  subst hp
  intro p e s m args below meth c H locs ls C hn hS hW hl
  exact lv_ior C.1 C.2.1 hd (k p e s m args below meth c H locs ls C hn hS hW hl)

theorem Go.ixor {x y : Int32} (pc' : Nat) (hp : pc + 1 = pc') (hd : decode M.1 pc = .ok (.ixor, 1)) (k : Go G l R Tm M n cells slots pc' lv (.int (x ^^^ y) :: st) S) : Go G l R Tm M n cells slots pc lv (.int y :: .int x :: st) S := by
  subst hp
  intro p e s m args below meth c H locs ls C hn hS hW hl
  exact lv_ixor C.1 C.2.1 hd (k p e s m args below meth c H locs ls C hn hS hW hl)

theorem Go.ishl {x y : Int32} (pc' : Nat) (hp : pc + 1 = pc') (hd : decode M.1 pc = .ok (.ishl, 1)) (k : Go G l R Tm M n cells slots pc' lv (.int (x <<< (y &&& 31)) :: st) S) : Go G l R Tm M n cells slots pc lv (.int y :: .int x :: st) S := by
  subst hp
  intro p e s m args below meth c H locs ls C hn hS hW hl
  exact lv_ishl C.1 C.2.1 hd (k p e s m args below meth c H locs ls C hn hS hW hl)

theorem Go.ishr {x y : Int32} (pc' : Nat) (hp : pc + 1 = pc') (hd : decode M.1 pc = .ok (.ishr, 1)) (k : Go G l R Tm M n cells slots pc' lv (.int (x >>> (y &&& 31)) :: st) S) : Go G l R Tm M n cells slots pc lv (.int y :: .int x :: st) S := by
  subst hp
  intro p e s m args below meth c H locs ls C hn hS hW hl
  exact lv_ishr C.1 C.2.1 hd (k p e s m args below meth c H locs ls C hn hS hW hl)

theorem Go.iushr {x y : Int32} (pc' : Nat) (hp : pc + 1 = pc') (hd : decode M.1 pc = .ok (.iushr, 1)) (k : Go G l R Tm M n cells slots pc' lv (.int (x.toUInt32 >>> (y.toUInt32 &&& Int32.toUInt32 31)).toInt32 :: st) S) : Go G l R Tm M n cells slots pc lv (.int y :: .int x :: st) S := by
  subst hp
  intro p e s m args below meth c H locs ls C hn hS hW hl
  exact lv_iushr C.1 C.2.1 hd rfl (k p e s m args below meth c H locs ls C hn hS hW hl)

theorem Go.idiv {x y : Int32} (pc' : Nat) (hp : pc + 1 = pc') (hd : decode M.1 pc = .ok (.idiv, 1)) (h0 : ¬ y = 0) (k : Go G l R Tm M n cells slots pc' lv (.int (x / y) :: st) S) : Go G l R Tm M n cells slots pc lv (.int y :: .int x :: st) S := by
  subst hp
  intro p e s m args below meth c H locs ls C hn hS hW hl
  exact lv_idiv C.1 C.2.1 hd h0 (k p e s m args below meth c H locs ls C hn hS hW hl)

theorem Go.irem {x y : Int32} (pc' : Nat) (hp : pc + 1 = pc') (hd : decode M.1 pc = .ok (.irem, 1)) (h0 : ¬ y = 0) (k : Go G l R Tm M n cells slots pc' lv (.int (x - x / y * y) :: st) S) : Go G l R Tm M n cells slots pc lv (.int y :: .int x :: st) S := by
  subst hp
  intro p e s m args below meth c H locs ls C hn hS hW hl
  exact lv_irem C.1 C.2.1 hd h0 (k p e s m args below meth c H locs ls C hn hS hW hl)

theorem Go.ladd {x y : Int64} (pc' : Nat) (hp : pc + 1 = pc') (hd : decode M.1 pc = .ok (.ladd, 1)) (k : Go G l R Tm M n cells slots pc' lv (.long (x + y) :: st) S) : Go G l R Tm M n cells slots pc lv (.long y :: .long x :: st) S := by
  subst hp
  intro p e s m args below meth c H locs ls C hn hS hW hl
  exact lv_ladd C.1 C.2.1 hd (k p e s m args below meth c H locs ls C hn hS hW hl)

theorem Go.lsub {x y : Int64} (pc' : Nat) (hp : pc + 1 = pc') (hd : decode M.1 pc = .ok (.lsub, 1)) (k : Go G l R Tm M n cells slots pc' lv (.long (x - y) :: st) S) : Go G l R Tm M n cells slots pc lv (.long y :: .long x :: st) S := by
  subst hp
  intro p e s m args below meth c H locs ls C hn hS hW hl
  exact lv_lsub C.1 C.2.1 hd (k p e s m args below meth c H locs ls C hn hS hW hl)

theorem Go.lmul {x y : Int64} (pc' : Nat) (hp : pc + 1 = pc') (hd : decode M.1 pc = .ok (.lmul, 1)) (k : Go G l R Tm M n cells slots pc' lv (.long (x * y) :: st) S) : Go G l R Tm M n cells slots pc lv (.long y :: .long x :: st) S := by
  subst hp
  intro p e s m args below meth c H locs ls C hn hS hW hl
  exact lv_lmul C.1 C.2.1 hd (k p e s m args below meth c H locs ls C hn hS hW hl)

theorem Go.ldiv {x y : Int64} (pc' : Nat) (hp : pc + 1 = pc') (hd : decode M.1 pc = .ok (.ldiv, 1)) (h0 : ¬ y = 0) (k : Go G l R Tm M n cells slots pc' lv (.long (x / y) :: st) S) : Go G l R Tm M n cells slots pc lv (.long y :: .long x :: st) S := by
  subst hp
  intro p e s m args below meth c H locs ls C hn hS hW hl
  exact lv_ldiv C.1 C.2.1 hd h0 (k p e s m args below meth c H locs ls C hn hS hW hl)

theorem Go.lrem {x y : Int64} (pc' : Nat) (hp : pc + 1 = pc') (hd : decode M.1 pc = .ok (.lrem, 1)) (h0 : ¬ y = 0) (k : Go G l R Tm M n cells slots pc' lv (.long (x - x / y * y) :: st) S) : Go G l R Tm M n cells slots pc lv (.long y :: .long x :: st) S := by
  subst hp
  intro p e s m args below meth c H locs ls C hn hS hW hl
  exact lv_lrem C.1 C.2.1 hd h0 (k p e s m args below meth c H locs ls C hn hS hW hl)

theorem Go.ineg {x : Int32} (pc' : Nat) (hp : pc + 1 = pc') (hd : decode M.1 pc = .ok (.ineg, 1)) (k : Go G l R Tm M n cells slots pc' lv (.int (-x) :: st) S) : Go G l R Tm M n cells slots pc lv (.int x :: st) S := by
  subst hp
  intro p e s m args below meth c H locs ls C hn hS hW hl
  exact lv_ineg C.1 C.2.1 hd (k p e s m args below meth c H locs ls C hn hS hW hl)

theorem Go.i2l {x : Int32} (pc' : Nat) (hp : pc + 1 = pc') (hd : decode M.1 pc = .ok (.i2l, 1)) (k : Go G l R Tm M n cells slots pc' lv (.long x.toInt64 :: st) S) : Go G l R Tm M n cells slots pc lv (.int x :: st) S := by
  subst hp
  intro p e s m args below meth c H locs ls C hn hS hW hl
  exact lv_i2l C.1 C.2.1 hd rfl (k p e s m args below meth c H locs ls C hn hS hW hl)

theorem Go.l2i {x : Int64} (pc' : Nat) (hp : pc + 1 = pc') (hd : decode M.1 pc = .ok (.l2i, 1)) (k : Go G l R Tm M n cells slots pc' lv (.int x.toInt32 :: st) S) : Go G l R Tm M n cells slots pc lv (.long x :: st) S := by
  subst hp
  intro p e s m args below meth c H locs ls C hn hS hW hl
  exact lv_l2i C.1 C.2.1 hd rfl (k p e s m args below meth c H locs ls C hn hS hW hl)

theorem Go.i2b {x : Int32} (pc' : Nat) (hp : pc + 1 = pc') (hd : decode M.1 pc = .ok (.i2b, 1)) (k : Go G l R Tm M n cells slots pc' lv (.int x.toInt8.toInt32 :: st) S) : Go G l R Tm M n cells slots pc lv (.int x :: st) S := by
  subst hp
  intro p e s m args below meth c H locs ls C hn hS hW hl
  exact lv_i2b C.1 C.2.1 hd rfl (k p e s m args below meth c H locs ls C hn hS hW hl)

theorem Go.lcmp {x y : Int64} (pc' : Nat) (hp : pc + 1 = pc') (hd : decode M.1 pc = .ok (.lcmp, 1)) (k : Go G l R Tm M n cells slots pc' lv (.int (lg_cmp x y) :: st) S) : Go G l R Tm M n cells slots pc lv (.long y :: .long x :: st) S := by
  subst hp
  intro p e s m args below meth c H locs ls C hn hS hW hl
  exact W.lcmp C.1 C.2.1 hd (k p e s m args below meth c H locs ls C hn hS hW hl)

theorem Go.dup {v : Value} (pc' : Nat) (hp : pc + 1 = pc') (hd : decode M.1 pc = .ok (.dup, 1)) (hc : v.category = 1) (k : Go G l R Tm M n cells slots pc' lv (v :: v :: st) S) : Go G l R Tm M n cells slots pc lv (v :: st) S := by
  subst hp
  intro p e s m args below meth c H locs ls C hn hS hW hl
  exact lv_dup C.1 C.2.1 hd ((cV_cat G v).trans hc) (k p e s m args below meth c H locs ls C hn hS hW hl)

theorem Go.dup2 {v w : Value} (pc' : Nat) (hp : pc + 1 = pc') (hd : decode M.1 pc = .ok (.dup2, 1)) (hc : v.category = 1) (hc2 : w.category = 1) (k : Go G l R Tm M n cells slots pc' lv (v :: w :: v :: w :: st) S) : Go G l R Tm M n cells slots pc lv (v :: w :: st) S := by
  subst hp
  intro p e s m args below meth c H locs ls C hn hS hW hl
  exact lv_dup2_11 C.1 C.2.1 hd ((cV_cat G v).trans hc) ((cV_cat G w).trans hc2) (k p e s m args below meth c H locs ls C hn hS hW hl)

theorem Go.icmp_eq {x y : Int32} {off : Int} (tgt pc' : Nat) (hp : pc + 3 = pc') (hd : decode M.1 pc = .ok (.if_icmp .eq off, 3)) (ht : (pc : Int) + off = (tgt : Int)) (kt : x = y → Go G l R Tm M n cells slots tgt lv st S) (kf : ¬ x = y → Go G l R Tm M n cells slots pc' lv st S) : Go G l R Tm M n cells slots pc lv (.int y :: .int x :: st) S := by
  subst hp
  intro p e s m args below meth c H locs ls C hn hS hW hl
  exact lv_icmp_eq C.1 C.2.1 hd ht (fun h => kt h p e s m args below meth c H locs ls C hn hS hW hl) (fun h => kf h p e s m args below meth c H locs ls C hn hS hW hl)

theorem Go.icmp_ne {x y : Int32} {off : Int} (tgt pc' : Nat) (hp : pc + 3 = pc') (hd : decode M.1 pc = .ok (.if_icmp .ne off, 3)) (ht : (pc : Int) + off = (tgt : Int)) (kt : ¬ x = y → Go G l R Tm M n cells slots tgt lv st S) (kf : x = y → Go G l R Tm M n cells slots pc' lv st S) : Go G l R Tm M n cells slots pc lv (.int y :: .int x :: st) S := by
  subst hp
  intro p e s m args below meth c H locs ls C hn hS hW hl
  exact lv_icmp_ne C.1 C.2.1 hd ht (fun h => kt h p e s m args below meth c H locs ls C hn hS hW hl) (fun h => kf h p e s m args below meth c H locs ls C hn hS hW hl)

theorem Go.icmp_lt {x y : Int32} {off : Int} (tgt pc' : Nat) (hp : pc + 3 = pc') (hd : decode M.1 pc = .ok (.if_icmp .lt off, 3)) (ht : (pc : Int) + off = (tgt : Int)) (kt : x < y → Go G l R Tm M n cells slots tgt lv st S) (kf : ¬ x < y → Go G l R Tm M n cells slots pc' lv st S) : Go G l R Tm M n cells slots pc lv (.int y :: .int x :: st) S := by
  subst hp
  intro p e s m args below meth c H locs ls C hn hS hW hl
  exact lv_icmp_lt C.1 C.2.1 hd ht (fun h => kt h p e s m args below meth c H locs ls C hn hS hW hl) (fun h => kf h p e s m args below meth c H locs ls C hn hS hW hl)

theorem Go.icmp_ge {x y : Int32} {off : Int} (tgt pc' : Nat) (hp : pc + 3 = pc') (hd : decode M.1 pc = .ok (.if_icmp .ge off, 3)) (ht : (pc : Int) + off = (tgt : Int)) (kt : y ≤ x → Go G l R Tm M n cells slots tgt lv st S) (kf : ¬ y ≤ x → Go G l R Tm M n cells slots pc' lv st S) : Go G l R Tm M n cells slots pc lv (.int y :: .int x :: st) S := by
  subst hp
  intro p e s m args below meth c H locs ls C hn hS hW hl
  exact lv_icmp_ge C.1 C.2.1 hd ht (fun h => kt h p e s m args below meth c H locs ls C hn hS hW hl) (fun h => kf h p e s m args below meth c H locs ls C hn hS hW hl)

theorem Go.icmp_gt {x y : Int32} {off : Int} (tgt pc' : Nat) (hp : pc + 3 = pc') (hd : decode M.1 pc = .ok (.if_icmp .gt off, 3)) (ht : (pc : Int) + off = (tgt : Int)) (kt : y < x → Go G l R Tm M n cells slots tgt lv st S) (kf : ¬ y < x → Go G l R Tm M n cells slots pc' lv st S) : Go G l R Tm M n cells slots pc lv (.int y :: .int x :: st) S := by
  subst hp
  intro p e s m args below meth c H locs ls C hn hS hW hl
  exact lv_icmp_gt C.1 C.2.1 hd ht (fun h => kt h p e s m args below meth c H locs ls C hn hS hW hl) (fun h => kf h p e s m args below meth c H locs ls C hn hS hW hl)

theorem Go.icmp_le {x y : Int32} {off : Int} (tgt pc' : Nat) (hp : pc + 3 = pc') (hd : decode M.1 pc = .ok (.if_icmp .le off, 3)) (ht : (pc : Int) + off = (tgt : Int)) (kt : x ≤ y → Go G l R Tm M n cells slots tgt lv st S) (kf : ¬ x ≤ y → Go G l R Tm M n cells slots pc' lv st S) : Go G l R Tm M n cells slots pc lv (.int y :: .int x :: st) S := by
  subst hp
  intro p e s m args below meth c H locs ls C hn hS hW hl
  exact lv_icmp_le C.1 C.2.1 hd ht (fun h => kt h p e s m args below meth c H locs ls C hn hS hW hl) (fun h => kf h p e s m args below meth c H locs ls C hn hS hW hl)

theorem Go.if_eq {x : Int32} {off : Int} (tgt pc' : Nat) (hp : pc + 3 = pc') (hd : decode M.1 pc = .ok (.ifCond .eq off, 3)) (ht : (pc : Int) + off = (tgt : Int)) (kt : x = 0 → Go G l R Tm M n cells slots tgt lv st S) (kf : ¬ x = 0 → Go G l R Tm M n cells slots pc' lv st S) : Go G l R Tm M n cells slots pc lv (.int x :: st) S := by
  subst hp
  intro p e s m args below meth c H locs ls C hn hS hW hl
  exact lv_if_eq C.1 C.2.1 hd ht (fun h => kt h p e s m args below meth c H locs ls C hn hS hW hl) (fun h => kf h p e s m args below meth c H locs ls C hn hS hW hl)

theorem Go.if_ne {x : Int32} {off : Int} (tgt pc' : Nat) (hp : pc + 3 = pc') (hd : decode M.1 pc = .ok (.ifCond .ne off, 3)) (ht : (pc : Int) + off = (tgt : Int)) (kt : ¬ x = 0 → Go G l R Tm M n cells slots tgt lv st S) (kf : x = 0 → Go G l R Tm M n cells slots pc' lv st S) : Go G l R Tm M n cells slots pc lv (.int x :: st) S := by
  subst hp
  intro p e s m args below meth c H locs ls C hn hS hW hl
  exact lv_if_ne C.1 C.2.1 hd ht (fun h => kt h p e s m args below meth c H locs ls C hn hS hW hl) (fun h => kf h p e s m args below meth c H locs ls C hn hS hW hl)

theorem Go.if_lt {x : Int32} {off : Int} (tgt pc' : Nat) (hp : pc + 3 = pc') (hd : decode M.1 pc = .ok (.ifCond .lt off, 3)) (ht : (pc : Int) + off = (tgt : Int)) (kt : x < 0 → Go G l R Tm M n cells slots tgt lv st S) (kf : ¬ x < 0 → Go G l R Tm M n cells slots pc' lv st S) : Go G l R Tm M n cells slots pc lv (.int x :: st) S := by
  subst hp
  intro p e s m args below meth c H locs ls C hn hS hW hl
  exact lv_if_lt C.1 C.2.1 hd ht (fun h => kt h p e s m args below meth c H locs ls C hn hS hW hl) (fun h => kf h p e s m args below meth c H locs ls C hn hS hW hl)

theorem Go.if_ge {x : Int32} {off : Int} (tgt pc' : Nat) (hp : pc + 3 = pc') (hd : decode M.1 pc = .ok (.ifCond .ge off, 3)) (ht : (pc : Int) + off = (tgt : Int)) (kt : 0 ≤ x → Go G l R Tm M n cells slots tgt lv st S) (kf : ¬ 0 ≤ x → Go G l R Tm M n cells slots pc' lv st S) : Go G l R Tm M n cells slots pc lv (.int x :: st) S := by
  subst hp
  intro p e s m args below meth c H locs ls C hn hS hW hl
  exact lv_if_ge C.1 C.2.1 hd ht (fun h => kt h p e s m args below meth c H locs ls C hn hS hW hl) (fun h => kf h p e s m args below meth c H locs ls C hn hS hW hl)

theorem Go.if_gt {x : Int32} {off : Int} (tgt pc' : Nat) (hp : pc + 3 = pc') (hd : decode M.1 pc = .ok (.ifCond .gt off, 3)) (ht : (pc : Int) + off = (tgt : Int)) (kt : 0 < x → Go G l R Tm M n cells slots tgt lv st S) (kf : ¬ 0 < x → Go G l R Tm M n cells slots pc' lv st S) : Go G l R Tm M n cells slots pc lv (.int x :: st) S := by
  subst hp
  intro p e s m args below meth c H locs ls C hn hS hW hl
  exact lv_if_gt C.1 C.2.1 hd ht (fun h => kt h p e s m args below meth c H locs ls C hn hS hW hl) (fun h => kf h p e s m args below meth c H locs ls C hn hS hW hl)

theorem Go.if_le {x : Int32} {off : Int} (tgt pc' : Nat) (hp : pc + 3 = pc') (hd : decode M.1 pc = .ok (.ifCond .le off, 3)) (ht : (pc : Int) + off = (tgt : Int)) (kt : x ≤ 0 → Go G l R Tm M n cells slots tgt lv st S) (kf : ¬ x ≤ 0 → Go G l R Tm M n cells slots pc' lv st S) : Go G l R Tm M n cells slots pc lv (.int x :: st) S := by
  subst hp
  intro p e s m args below meth c H locs ls C hn hS hW hl
  exact lv_if_le C.1 C.2.1 hd ht (fun h => kt h p e s m args below meth c H locs ls C hn hS hW hl) (fun h => kf h p e s m args below meth c H locs ls C hn hS hW hl)

theorem Go.goto {off : Int} (tgt : Nat) (hd : decode M.1 pc = .ok (.goto off, 3)) (ht : (pc : Int) + off = (tgt : Int)) (k : Go G l R Tm M n cells slots tgt lv st S) : Go G l R Tm M n cells slots pc lv st S := by
  intro p e s m args below meth c H locs ls C hn hS hW hl
  exact lv_goto C.1 C.2.1 hd ht (k p e s m args below meth c H locs ls C hn hS hW hl)

theorem Go.tin {dflt lo hi : Int} {offs : Array Int} {len : Nat} {x : Int32} {off : Int} (v : Int32) (tgt : Nat) (hx : x = v) (hd : decode M.1 pc = .ok (.tableswitch dflt lo hi offs, len)) (h1 : ¬ v.toInt < lo) (h2 : ¬ hi < v.toInt) (ho : offs[(v.toInt - lo).toNat]? = some off) (ht : (pc : Int) + off = (tgt : Int)) (k : Go G l R Tm M n cells slots tgt lv st S) : Go G l R Tm M n cells slots pc lv (.int x :: st) S := by
  subst hx
  intro p e s m args below meth c H locs ls C hn hS hW hl
  exact lv_tableIn C.1 C.2.1 hd h1 h2 ho ht (k p e s m args below meth c H locs ls C hn hS hW hl)

theorem Go.tout {dflt lo hi : Int} {offs : Array Int} {len : Nat} {x : Int32} (tgt : Nat) (hd : decode M.1 pc = .ok (.tableswitch dflt lo hi offs, len)) (h : x.toInt < lo ∨ hi < x.toInt) (ht : (pc : Int) + dflt = (tgt : Int)) (k : Go G l R Tm M n cells slots tgt lv st S) : Go G l R Tm M n cells slots pc lv (.int x :: st) S := by
  intro p e s m args below meth c H locs ls C hn hS hW hl
  exact lv_tableOut C.1 C.2.1 hd h ht (k p e s m args below meth c H locs ls C hn hS hW hl)

/-- fewer locals, in another order -/
theorem Go.sub (ks : List Nat) (lv' : List (Nat × Value)) (h : lv_pick lv ks = lv') (k : Go G l R Tm M n cells slots pc lv' st S) : Go G l R Tm M n cells slots pc lv st S := by
  intro p e s m args below meth c H locs ls C hn hS hW hl
  refine k p e s m args below meth c H locs ls C hn hS hW (lv_sub hl ks ?_)
  subst h
  simp [lv_pick, List.map_filterMap, Function.comp_def]

end GO
