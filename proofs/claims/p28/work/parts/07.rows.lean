section RW
variable {p : Program} {l : Launch} {e : Env} {R : Room} {s : State} {m : MethodId} {args : Array Value} {below : List Frame} {meth : Method} {c : Code} {Q : State → Prop} {E : EV} {nL pc : Nat} {lv lv' : List (Nat × Value)} {st : List Value} {S : PS} {cells slots : Nat} {cc : ByteArray} {own : String} {ret : Option FieldType}
theorem MC.hx (M : MC E p s m args meth c cc own nL ret) : p.tables.exec = Jvm.exec := M.1
theorem MC.hb (M : MC E p s m args meth c cc own nL ret) : c.code = cc := M.2.1
theorem MC.hml (M : MC E p s m args meth c cc own nL ret) : c.maxLocals = nL := M.2.2.1
theorem MC.hown (M : MC E p s m args meth c cc own nL ret) : s.vm.findClass own = some m.cls := M.2.2.2.1
theorem MC.hts (M : MC E p s m args meth c cc own nL ret) : ∀ w ∈ wsU, w.before args s = true := M.2.2.2.2.1
theorem MC.vp (M : MC E p s m args meth c cc own nL ret) : VP E s s.heap := M.2.2.2.2.2.1
theorem MC.hlk (M : MC E p s m args meth c cc own nL ret) : meth.locks = false := M.2.2.2.2.2.2.1
theorem MC.hsz (M : MC E p s m args meth c cc own nL ret) : eB E ≤ s.heap.size := M.2.2.2.2.2.2.2.1
theorem MC.hr (M : MC E p s m args meth c cc own nL ret) : meth.sig.returnType = ret := M.2.2.2.2.2.2.2.2
theorem MC.hK (M : MC E p s m args meth c cc own nL ret) : va_K E.1 vwCl (tyE E) s := M.vp.1
theorem MC.hA (M : MC E p s m args meth c cc own nL ret) : ∀ q : Nat, s.heap.size ≤ q → AE E q := fun _ h => Nat.le_trans M.hsz h
theorem j_iload_n (M : MC E p s m args meth c cc own nL ret) {k : Fin 4} {x : Int32} (hdg : decode cc pc = .ok (.iload_n k, 1)) (h : lvg lv k = some (.int x)) (K : J p l e R s m args below meth c Q E nL (pc + 1) lv (.int x :: st) S cells slots) : J p l e R s m args below meth c Q E nL (pc) lv (st) S cells slots :=
  fun H locs ls hH hS hl => lv_iload_n M.hx M.hb hdg rfl (lvg_at hl h) (K H locs ls hH hS hl)
theorem j_iload (M : MC E p s m args meth c cc own nL ret) {i : Nat} {x : Int32} (hdg : decode cc pc = .ok (.iload i, 2)) (h : lvg lv i = some (.int x)) (K : J p l e R s m args below meth c Q E nL (pc + 2) lv (.int x :: st) S cells slots) : J p l e R s m args below meth c Q E nL (pc) lv (st) S cells slots :=
  fun H locs ls hH hS hl => lv_iload M.hx M.hb hdg (lvg_at hl h) (K H locs ls hH hS hl)
theorem j_lload_n (M : MC E p s m args meth c cc own nL ret) {k : Fin 4} {x : Int64} (hdg : decode cc pc = .ok (.lload_n k, 1)) (h : lvg lv k = some (.long x)) (K : J p l e R s m args below meth c Q E nL (pc + 1) lv (.long x :: st) S cells slots) : J p l e R s m args below meth c Q E nL (pc) lv (st) S cells slots :=
  fun H locs ls hH hS hl => lv_lload_n M.hx M.hb hdg rfl (lvg_at hl h) (K H locs ls hH hS hl)
theorem j_lload (M : MC E p s m args meth c cc own nL ret) {i : Nat} {x : Int64} (hdg : decode cc pc = .ok (.lload i, 2)) (h : lvg lv i = some (.long x)) (K : J p l e R s m args below meth c Q E nL (pc + 2) lv (.long x :: st) S cells slots) : J p l e R s m args below meth c Q E nL (pc) lv (st) S cells slots :=
  fun H locs ls hH hS hl => lv_lload M.hx M.hb hdg (lvg_at hl h) (K H locs ls hH hS hl)
theorem j_aload_n (M : MC E p s m args meth c cc own nL ret) {k : Fin 4} {x : Nat} (hdg : decode cc pc = .ok (.aload_n k, 1)) (h : lvg lv k = some (.ref x)) (K : J p l e R s m args below meth c Q E nL (pc + 1) lv (.ref x :: st) S cells slots) : J p l e R s m args below meth c Q E nL (pc) lv (st) S cells slots :=
  fun H locs ls hH hS hl => lv_aload_n M.hx M.hb hdg rfl (lvg_at hl h) (K H locs ls hH hS hl)
theorem j_aload (M : MC E p s m args meth c cc own nL ret) {i : Nat} {x : Nat} (hdg : decode cc pc = .ok (.aload i, 2)) (h : lvg lv i = some (.ref x)) (K : J p l e R s m args below meth c Q E nL (pc + 2) lv (.ref x :: st) S cells slots) : J p l e R s m args below meth c Q E nL (pc) lv (st) S cells slots :=
  fun H locs ls hH hS hl => lv_aload M.hx M.hb hdg (lvg_at hl h) (K H locs ls hH hS hl)
theorem j_istore_n (M : MC E p s m args meth c cc own nL ret) {k : Fin 4} {i : Nat} {x : Int32} (hdg : decode cc pc = .ok (.istore_n k, 1)) (hi : (k : Nat) = i) (hn : i < nL) (hl' : (i, Value.int x) :: lv.filter (fun q => !(q.1 == i) && !(q.1 + 1 == i && q.2.category == 2)) = lv') (K : J p l e R s m args below meth c Q E nL (pc + 1) lv' (st) S cells slots) : J p l e R s m args below meth c Q E nL (pc) lv (.int x :: st) S cells slots :=
  fun H locs ls hH hS hl => lv_istore_n M.hx M.hb hdg hi hl hn hl' (fun ls' h2 => K H locs ls' hH hS h2)
theorem j_istore (M : MC E p s m args meth c cc own nL ret) {i : Nat} {x : Int32} (hdg : decode cc pc = .ok (.istore i, 2)) (hn : i < nL) (hl' : (i, Value.int x) :: lv.filter (fun q => !(q.1 == i) && !(q.1 + 1 == i && q.2.category == 2)) = lv') (K : J p l e R s m args below meth c Q E nL (pc + 2) lv' (st) S cells slots) : J p l e R s m args below meth c Q E nL (pc) lv (.int x :: st) S cells slots :=
  fun H locs ls hH hS hl => lv_istore M.hx M.hb hdg hl hn hl' (fun ls' h2 => K H locs ls' hH hS h2)
theorem j_lstore_n (M : MC E p s m args meth c cc own nL ret) {k : Fin 4} {i : Nat} {x : Int64} (hdg : decode cc pc = .ok (.lstore_n k, 1)) (hi : (k : Nat) = i) (hn : i + 1 < nL) (hl' : (i, Value.long x) :: lv.filter (fun q => !(q.1 == i) && (!(q.1 == i + 1) && !(q.1 + 1 == i && q.2.category == 2))) = lv') (K : J p l e R s m args below meth c Q E nL (pc + 1) lv' (st) S cells slots) : J p l e R s m args below meth c Q E nL (pc) lv (.long x :: st) S cells slots :=
  fun H locs ls hH hS hl => lv_lstore_n M.hx M.hb hdg hi hl hn hl' (fun ls' h2 => K H locs ls' hH hS h2)
theorem j_lstore (M : MC E p s m args meth c cc own nL ret) {i : Nat} {x : Int64} (hdg : decode cc pc = .ok (.lstore i, 2)) (hn : i + 1 < nL) (hl' : (i, Value.long x) :: lv.filter (fun q => !(q.1 == i) && (!(q.1 == i + 1) && !(q.1 + 1 == i && q.2.category == 2))) = lv') (K : J p l e R s m args below meth c Q E nL (pc + 2) lv' (st) S cells slots) : J p l e R s m args below meth c Q E nL (pc) lv (.long x :: st) S cells slots :=
  fun H locs ls hH hS hl => lv_lstore M.hx M.hb hdg hl hn hl' (fun ls' h2 => K H locs ls' hH hS h2)
theorem j_astore_n (M : MC E p s m args meth c cc own nL ret) {k : Fin 4} {i : Nat} {x : Nat} (hdg : decode cc pc = .ok (.astore_n k, 1)) (hi : (k : Nat) = i) (hn : i < nL) (hl' : (i, Value.ref x) :: lv.filter (fun q => !(q.1 == i) && !(q.1 + 1 == i && q.2.category == 2)) = lv') (K : J p l e R s m args below meth c Q E nL (pc + 1) lv' (st) S cells slots) : J p l e R s m args below meth c Q E nL (pc) lv (.ref x :: st) S cells slots :=
  fun H locs ls hH hS hl => lv_astore_n M.hx M.hb hdg hi hl hn hl' (fun ls' h2 => K H locs ls' hH hS h2)
theorem j_astore (M : MC E p s m args meth c cc own nL ret) {i : Nat} {x : Nat} (hdg : decode cc pc = .ok (.astore i, 2)) (hn : i < nL) (hl' : (i, Value.ref x) :: lv.filter (fun q => !(q.1 == i) && !(q.1 + 1 == i && q.2.category == 2)) = lv') (K : J p l e R s m args below meth c Q E nL (pc + 2) lv' (st) S cells slots) : J p l e R s m args below meth c Q E nL (pc) lv (.ref x :: st) S cells slots :=
  fun H locs ls hH hS hl => lv_astore M.hx M.hb hdg hl hn hl' (fun ls' h2 => K H locs ls' hH hS h2)
theorem j_iinc (M : MC E p s m args meth c cc own nL ret) {i : Nat} {n : Int} {x v : Int32} (hdg : decode cc pc = .ok (.iinc i n, 3)) (h : lvg lv i = some (.int x)) (hv : x + Int32.ofInt n = v) (hn : i < nL) (hl' : (i, Value.int v) :: lv.filter (fun q => !(q.1 == i) && !(q.1 + 1 == i && q.2.category == 2)) = lv') (K : J p l e R s m args below meth c Q E nL (pc + 3) lv' (st) S cells slots) : J p l e R s m args below meth c Q E nL (pc) lv (st) S cells slots := by
  obtain ⟨k, hk⟩ := List.getElem?_of_mem (lvg_mem h)
  exact fun H locs ls hH hS hl => lv_iinc M.hx M.hb hdg hl hk hv hn hl' (fun ls' h2 => K H locs ls' hH hS h2)
theorem j_iconst (M : MC E p s m args meth c cc own nL ret) {n : Int} {v : Int32} (hdg : decode cc pc = .ok (.iconst n, 1)) (hv : Int32.ofInt n = v) (K : J p l e R s m args below meth c Q E nL (pc + 1) lv (.int v :: st) S cells slots) : J p l e R s m args below meth c Q E nL (pc) lv (st) S cells slots :=
  fun H locs ls hH hS hl => lv_iconst M.hx M.hb hdg hv (K H locs ls hH hS hl)
theorem j_bipush (M : MC E p s m args meth c cc own nL ret) {n : Int} {v : Int32} (hdg : decode cc pc = .ok (.bipush n, 2)) (hv : (Int8.ofInt n).toInt32 = v) (K : J p l e R s m args below meth c Q E nL (pc + 2) lv (.int v :: st) S cells slots) : J p l e R s m args below meth c Q E nL (pc) lv (st) S cells slots :=
  fun H locs ls hH hS hl => lv_bipush M.hx M.hb hdg hv (K H locs ls hH hS hl)
theorem j_sipush (M : MC E p s m args meth c cc own nL ret) {n : Int} {v : Int32} (hdg : decode cc pc = .ok (.sipush n, 3)) (hv : (Int16.ofInt n).toInt32 = v) (K : J p l e R s m args below meth c Q E nL (pc + 3) lv (.int v :: st) S cells slots) : J p l e R s m args below meth c Q E nL (pc) lv (st) S cells slots :=
  fun H locs ls hH hS hl => lv_sipush M.hx M.hb hdg hv (K H locs ls hH hS hl)
theorem j_ldc (M : MC E p s m args meth c cc own nL ret) {index : Nat} {v : Int32} (hc : Cond.constant own index v ∈ wsU) (hdg : decode cc pc = .ok (.ldc index, 2)) (K : J p l e R s m args below meth c Q E nL (pc + 2) lv (.int v :: st) S cells slots) : J p l e R s m args below meth c Q E nL (pc) lv (st) S cells slots :=
  fun H locs ls hH hS hl => lv_ldc M.hx M.hb M.hown (M.hts _ hc) hdg (K H locs ls hH hS hl)
theorem j_ldcw (M : MC E p s m args meth c cc own nL ret) {index : Nat} {v : Int32} (hc : Cond.constant own index v ∈ wsU) (hdg : decode cc pc = .ok (.ldc_w index, 3)) (K : J p l e R s m args below meth c Q E nL (pc + 3) lv (.int v :: st) S cells slots) : J p l e R s m args below meth c Q E nL (pc) lv (st) S cells slots :=
  fun H locs ls hH hS hl => lv_ldcw M.hx M.hb M.hown (M.hts _ hc) hdg (K H locs ls hH hS hl)
theorem j_ldc2 (M : MC E p s m args meth c cc own nL ret) {index : Nat} {v : Int64} (hc : Cond.constantLong own index v ∈ wsU) (hdg : decode cc pc = .ok (.ldc2_w index, 3)) (K : J p l e R s m args below meth c Q E nL (pc + 3) lv (.long v :: st) S cells slots) : J p l e R s m args below meth c Q E nL (pc) lv (st) S cells slots :=
  fun H locs ls hH hS hl => lv_ldc2 M.hx M.hb M.hown (M.hts _ hc) hdg (K H locs ls hH hS hl)
theorem j_null (M : MC E p s m args meth c cc own nL ret) (hdg : decode cc pc = .ok (.aconst_null, 1)) (K : J p l e R s m args below meth c Q E nL (pc + 1) lv (.null :: st) S cells slots) : J p l e R s m args below meth c Q E nL (pc) lv (st) S cells slots :=
  fun H locs ls hH hS hl => lv_null M.hx M.hb hdg (K H locs ls hH hS hl)
theorem j_iadd (M : MC E p s m args meth c cc own nL ret) {x y : Int32} (hdg : decode cc pc = .ok (.iadd, 1)) (K : J p l e R s m args below meth c Q E nL (pc + 1) lv (.int (x + y) :: st) S cells slots) : J p l e R s m args below meth c Q E nL (pc) lv (.int y :: .int x :: st) S cells slots :=
  fun H locs ls hH hS hl => lv_iadd M.hx M.hb hdg (K H locs ls hH hS hl)
theorem j_isub (M : MC E p s m args meth c cc own nL ret) {x y : Int32} (hdg : decode cc pc = .ok (.isub, 1)) (K : J p l e R s m args below meth c Q E nL (pc + 1) lv (.int (x - y) :: st) S cells slots) : J p l e R s m args below meth c Q E nL (pc) lv (.int y :: .int x :: st) S cells slots :=
  fun H locs ls hH hS hl => lv_isub M.hx M.hb hdg (K H locs ls hH hS hl)
theorem j_imul (M : MC E p s m args meth c cc own nL ret) {x y : Int32} (hdg : decode cc pc = .ok (.imul, 1)) (K : J p l e R s m args below meth c Q E nL (pc + 1) lv (.int (x * y) :: st) S cells slots) : J p l e R s m args below meth c Q E nL (pc) lv (.int y :: .int x :: st) S cells slots :=
  fun H locs ls hH hS hl => lv_imul M.hx M.hb hdg (K H locs ls hH hS hl)
theorem j_iand (M : MC E p s m args meth c cc own nL ret) {x y : Int32} (hdg : decode cc pc = .ok (.iand, 1)) (K : J p l e R s m args below meth c Q E nL (pc + 1) lv (.int (x &&& y) :: st) S cells slots) : J p l e R s m args below meth c Q E nL (pc) lv (.int y :: .int x :: st) S cells slots :=
  fun H locs ls hH hS hl => lv_iand M.hx M.hb hdg (K H locs ls hH hS hl)
theorem j_ior (M : MC E p s m args meth c cc own nL ret) {x y : Int32} (hdg : decode cc pc = .ok (.ior, 1)) (K : J p l e R s m args below meth c Q E nL (pc + 1) lv (.int (x ||| y) :: st) S cells slots) : J p l e R s m args below meth c Q E nL (pc) lv (.int y :: .int x :: st) S cells slots :=
  fun H locs ls hH hS hl => lv_ior M.hx M.hb hdg (K H locs ls hH hS hl)
theorem j_ishl (M : MC E p s m args meth c cc own nL ret) {x y : Int32} (hdg : decode cc pc = .ok (.ishl, 1)) (K : J p l e R s m args below meth c Q E nL (pc + 1) lv (.int (x <<< (y &&& 31)) :: st) S cells slots) : J p l e R s m args below meth c Q E nL (pc) lv (.int y :: .int x :: st) S cells slots :=
  fun H locs ls hH hS hl => lv_ishl M.hx M.hb hdg (K H locs ls hH hS hl)
theorem j_ishr (M : MC E p s m args meth c cc own nL ret) {x y : Int32} (hdg : decode cc pc = .ok (.ishr, 1)) (K : J p l e R s m args below meth c Q E nL (pc + 1) lv (.int (x >>> (y &&& 31)) :: st) S cells slots) : J p l e R s m args below meth c Q E nL (pc) lv (.int y :: .int x :: st) S cells slots :=
  fun H locs ls hH hS hl => lv_ishr M.hx M.hb hdg (K H locs ls hH hS hl)
theorem j_idiv (M : MC E p s m args meth c cc own nL ret) {x y : Int32} (hdg : decode cc pc = .ok (.idiv, 1)) (hne : ¬ y = 0) (K : J p l e R s m args below meth c Q E nL (pc + 1) lv (.int (x / y) :: st) S cells slots) : J p l e R s m args below meth c Q E nL (pc) lv (.int y :: .int x :: st) S cells slots :=
  fun H locs ls hH hS hl => lv_idiv M.hx M.hb hdg hne (K H locs ls hH hS hl)
theorem j_irem (M : MC E p s m args meth c cc own nL ret) {x y : Int32} (hdg : decode cc pc = .ok (.irem, 1)) (hne : ¬ y = 0) (K : J p l e R s m args below meth c Q E nL (pc + 1) lv (.int (x - x / y * y) :: st) S cells slots) : J p l e R s m args below meth c Q E nL (pc) lv (.int y :: .int x :: st) S cells slots :=
  fun H locs ls hH hS hl => lv_irem M.hx M.hb hdg hne (K H locs ls hH hS hl)
theorem j_iushr (M : MC E p s m args meth c cc own nL ret) {x y v : Int32} (hdg : decode cc pc = .ok (.iushr, 1)) (hv : (x.toUInt32 >>> (y.toUInt32 &&& Int32.toUInt32 31)).toInt32 = v) (K : J p l e R s m args below meth c Q E nL (pc + 1) lv (.int v :: st) S cells slots) : J p l e R s m args below meth c Q E nL (pc) lv (.int y :: .int x :: st) S cells slots :=
  fun H locs ls hH hS hl => lv_iushr M.hx M.hb hdg hv (K H locs ls hH hS hl)
theorem j_ineg (M : MC E p s m args meth c cc own nL ret) {x : Int32} (hdg : decode cc pc = .ok (.ineg, 1)) (K : J p l e R s m args below meth c Q E nL (pc + 1) lv (.int (-x) :: st) S cells slots) : J p l e R s m args below meth c Q E nL (pc) lv (.int x :: st) S cells slots :=
  fun H locs ls hH hS hl => lv_ineg M.hx M.hb hdg (K H locs ls hH hS hl)
theorem j_i2l (M : MC E p s m args meth c cc own nL ret) {x : Int32} (hdg : decode cc pc = .ok (.i2l, 1)) (K : J p l e R s m args below meth c Q E nL (pc + 1) lv (.long x.toInt64 :: st) S cells slots) : J p l e R s m args below meth c Q E nL (pc) lv (.int x :: st) S cells slots :=
  fun H locs ls hH hS hl => lv_i2l M.hx M.hb hdg rfl (K H locs ls hH hS hl)
theorem j_ladd (M : MC E p s m args meth c cc own nL ret) {x y : Int64} (hdg : decode cc pc = .ok (.ladd, 1)) (K : J p l e R s m args below meth c Q E nL (pc + 1) lv (.long (x + y) :: st) S cells slots) : J p l e R s m args below meth c Q E nL (pc) lv (.long y :: .long x :: st) S cells slots :=
  fun H locs ls hH hS hl => lv_ladd M.hx M.hb hdg (K H locs ls hH hS hl)
theorem j_lmul (M : MC E p s m args meth c cc own nL ret) {x y : Int64} (hdg : decode cc pc = .ok (.lmul, 1)) (K : J p l e R s m args below meth c Q E nL (pc + 1) lv (.long (x * y) :: st) S cells slots) : J p l e R s m args below meth c Q E nL (pc) lv (.long y :: .long x :: st) S cells slots :=
  fun H locs ls hH hS hl => lv_lmul M.hx M.hb hdg (K H locs ls hH hS hl)
theorem j_lcmp (M : MC E p s m args meth c cc own nL ret) {x y : Int64} (hdg : decode cc pc = .ok (.lcmp, 1)) (K : J p l e R s m args below meth c Q E nL (pc + 1) lv (.int (lg_cmp x y) :: st) S cells slots) : J p l e R s m args below meth c Q E nL (pc) lv (.long y :: .long x :: st) S cells slots :=
  fun H locs ls hH hS hl => W.lcmp M.hx M.hb hdg (K H locs ls hH hS hl)
theorem j_dup (M : MC E p s m args meth c cc own nL ret) {v : Value} (hdg : decode cc pc = .ok (.dup, 1)) (hv : v.category = 1) (K : J p l e R s m args below meth c Q E nL (pc + 1) lv (v :: v :: st) S cells slots) : J p l e R s m args below meth c Q E nL (pc) lv (v :: st) S cells slots :=
  fun H locs ls hH hS hl => lv_dup M.hx M.hb hdg hv (K H locs ls hH hS hl)
theorem j_pop (M : MC E p s m args meth c cc own nL ret) {v : Value} (hdg : decode cc pc = .ok (.pop, 1)) (hv : v.category = 1) (K : J p l e R s m args below meth c Q E nL (pc + 1) lv (st) S cells slots) : J p l e R s m args below meth c Q E nL (pc) lv (v :: st) S cells slots :=
  fun H locs ls hH hS hl => lv_pop M.hx M.hb hdg hv (K H locs ls hH hS hl)
theorem j_dup_x1 (M : MC E p s m args meth c cc own nL ret) {v w : Value} (hdg : decode cc pc = .ok (.dup_x1, 1)) (hv : v.category = 1) (hw : w.category = 1) (K : J p l e R s m args below meth c Q E nL (pc + 1) lv (v :: w :: v :: st) S cells slots) : J p l e R s m args below meth c Q E nL (pc) lv (v :: w :: st) S cells slots :=
  fun H locs ls hH hS hl => lv_dup_x1 M.hx M.hb hdg hv hw (K H locs ls hH hS hl)
theorem j_if_eq (M : MC E p s m args meth c cc own nL ret) {x : Int32} {off : Int} {tgt : Nat} (hdg : decode cc pc = .ok (.ifCond .eq off, 3)) (ht : (pc : Int) + off = (tgt : Int)) (kt : x = 0 → J p l e R s m args below meth c Q E nL (tgt) lv (st) S cells slots) (kf : ¬ x = 0 → J p l e R s m args below meth c Q E nL (pc + 3) lv (st) S cells slots) : J p l e R s m args below meth c Q E nL (pc) lv (.int x :: st) S cells slots :=
  fun H locs ls hH hS hl => lv_if_eq M.hx M.hb hdg ht (fun q => kt q H locs ls hH hS hl) (fun q => kf q H locs ls hH hS hl)
theorem j_icmp_eq (M : MC E p s m args meth c cc own nL ret) {x y : Int32} {off : Int} {tgt : Nat} (hdg : decode cc pc = .ok (.if_icmp .eq off, 3)) (ht : (pc : Int) + off = (tgt : Int)) (kt : x = y → J p l e R s m args below meth c Q E nL (tgt) lv (st) S cells slots) (kf : ¬ x = y → J p l e R s m args below meth c Q E nL (pc + 3) lv (st) S cells slots) : J p l e R s m args below meth c Q E nL (pc) lv (.int y :: .int x :: st) S cells slots :=
  fun H locs ls hH hS hl => lv_icmp_eq M.hx M.hb hdg ht (fun q => kt q H locs ls hH hS hl) (fun q => kf q H locs ls hH hS hl)
theorem j_if_ne (M : MC E p s m args meth c cc own nL ret) {x : Int32} {off : Int} {tgt : Nat} (hdg : decode cc pc = .ok (.ifCond .ne off, 3)) (ht : (pc : Int) + off = (tgt : Int)) (kt : ¬ x = 0 → J p l e R s m args below meth c Q E nL (tgt) lv (st) S cells slots) (kf : x = 0 → J p l e R s m args below meth c Q E nL (pc + 3) lv (st) S cells slots) : J p l e R s m args below meth c Q E nL (pc) lv (.int x :: st) S cells slots :=
  fun H locs ls hH hS hl => lv_if_ne M.hx M.hb hdg ht (fun q => kt q H locs ls hH hS hl) (fun q => kf q H locs ls hH hS hl)
theorem j_icmp_ne (M : MC E p s m args meth c cc own nL ret) {x y : Int32} {off : Int} {tgt : Nat} (hdg : decode cc pc = .ok (.if_icmp .ne off, 3)) (ht : (pc : Int) + off = (tgt : Int)) (kt : ¬ x = y → J p l e R s m args below meth c Q E nL (tgt) lv (st) S cells slots) (kf : x = y → J p l e R s m args below meth c Q E nL (pc + 3) lv (st) S cells slots) : J p l e R s m args below meth c Q E nL (pc) lv (.int y :: .int x :: st) S cells slots :=
  fun H locs ls hH hS hl => lv_icmp_ne M.hx M.hb hdg ht (fun q => kt q H locs ls hH hS hl) (fun q => kf q H locs ls hH hS hl)
theorem j_if_lt (M : MC E p s m args meth c cc own nL ret) {x : Int32} {off : Int} {tgt : Nat} (hdg : decode cc pc = .ok (.ifCond .lt off, 3)) (ht : (pc : Int) + off = (tgt : Int)) (kt : x < 0 → J p l e R s m args below meth c Q E nL (tgt) lv (st) S cells slots) (kf : ¬ x < 0 → J p l e R s m args below meth c Q E nL (pc + 3) lv (st) S cells slots) : J p l e R s m args below meth c Q E nL (pc) lv (.int x :: st) S cells slots :=
  fun H locs ls hH hS hl => lv_if_lt M.hx M.hb hdg ht (fun q => kt q H locs ls hH hS hl) (fun q => kf q H locs ls hH hS hl)
theorem j_icmp_lt (M : MC E p s m args meth c cc own nL ret) {x y : Int32} {off : Int} {tgt : Nat} (hdg : decode cc pc = .ok (.if_icmp .lt off, 3)) (ht : (pc : Int) + off = (tgt : Int)) (kt : x < y → J p l e R s m args below meth c Q E nL (tgt) lv (st) S cells slots) (kf : ¬ x < y → J p l e R s m args below meth c Q E nL (pc + 3) lv (st) S cells slots) : J p l e R s m args below meth c Q E nL (pc) lv (.int y :: .int x :: st) S cells slots :=
  fun H locs ls hH hS hl => lv_icmp_lt M.hx M.hb hdg ht (fun q => kt q H locs ls hH hS hl) (fun q => kf q H locs ls hH hS hl)
theorem j_if_ge (M : MC E p s m args meth c cc own nL ret) {x : Int32} {off : Int} {tgt : Nat} (hdg : decode cc pc = .ok (.ifCond .ge off, 3)) (ht : (pc : Int) + off = (tgt : Int)) (kt : 0 ≤ x → J p l e R s m args below meth c Q E nL (tgt) lv (st) S cells slots) (kf : ¬ 0 ≤ x → J p l e R s m args below meth c Q E nL (pc + 3) lv (st) S cells slots) : J p l e R s m args below meth c Q E nL (pc) lv (.int x :: st) S cells slots :=
  fun H locs ls hH hS hl => lv_if_ge M.hx M.hb hdg ht (fun q => kt q H locs ls hH hS hl) (fun q => kf q H locs ls hH hS hl)
theorem j_icmp_ge (M : MC E p s m args meth c cc own nL ret) {x y : Int32} {off : Int} {tgt : Nat} (hdg : decode cc pc = .ok (.if_icmp .ge off, 3)) (ht : (pc : Int) + off = (tgt : Int)) (kt : y ≤ x → J p l e R s m args below meth c Q E nL (tgt) lv (st) S cells slots) (kf : ¬ y ≤ x → J p l e R s m args below meth c Q E nL (pc + 3) lv (st) S cells slots) : J p l e R s m args below meth c Q E nL (pc) lv (.int y :: .int x :: st) S cells slots :=
  fun H locs ls hH hS hl => lv_icmp_ge M.hx M.hb hdg ht (fun q => kt q H locs ls hH hS hl) (fun q => kf q H locs ls hH hS hl)
theorem j_if_gt (M : MC E p s m args meth c cc own nL ret) {x : Int32} {off : Int} {tgt : Nat} (hdg : decode cc pc = .ok (.ifCond .gt off, 3)) (ht : (pc : Int) + off = (tgt : Int)) (kt : 0 < x → J p l e R s m args below meth c Q E nL (tgt) lv (st) S cells slots) (kf : ¬ 0 < x → J p l e R s m args below meth c Q E nL (pc + 3) lv (st) S cells slots) : J p l e R s m args below meth c Q E nL (pc) lv (.int x :: st) S cells slots :=
  fun H locs ls hH hS hl => lv_if_gt M.hx M.hb hdg ht (fun q => kt q H locs ls hH hS hl) (fun q => kf q H locs ls hH hS hl)
theorem j_icmp_gt (M : MC E p s m args meth c cc own nL ret) {x y : Int32} {off : Int} {tgt : Nat} (hdg : decode cc pc = .ok (.if_icmp .gt off, 3)) (ht : (pc : Int) + off = (tgt : Int)) (kt : y < x → J p l e R s m args below meth c Q E nL (tgt) lv (st) S cells slots) (kf : ¬ y < x → J p l e R s m args below meth c Q E nL (pc + 3) lv (st) S cells slots) : J p l e R s m args below meth c Q E nL (pc) lv (.int y :: .int x :: st) S cells slots :=
  fun H locs ls hH hS hl => lv_icmp_gt M.hx M.hb hdg ht (fun q => kt q H locs ls hH hS hl) (fun q => kf q H locs ls hH hS hl)
theorem j_if_le (M : MC E p s m args meth c cc own nL ret) {x : Int32} {off : Int} {tgt : Nat} (hdg : decode cc pc = .ok (.ifCond .le off, 3)) (ht : (pc : Int) + off = (tgt : Int)) (kt : x ≤ 0 → J p l e R s m args below meth c Q E nL (tgt) lv (st) S cells slots) (kf : ¬ x ≤ 0 → J p l e R s m args below meth c Q E nL (pc + 3) lv (st) S cells slots) : J p l e R s m args below meth c Q E nL (pc) lv (.int x :: st) S cells slots :=
  fun H locs ls hH hS hl => lv_if_le M.hx M.hb hdg ht (fun q => kt q H locs ls hH hS hl) (fun q => kf q H locs ls hH hS hl)
theorem j_icmp_le (M : MC E p s m args meth c cc own nL ret) {x y : Int32} {off : Int} {tgt : Nat} (hdg : decode cc pc = .ok (.if_icmp .le off, 3)) (ht : (pc : Int) + off = (tgt : Int)) (kt : x ≤ y → J p l e R s m args below meth c Q E nL (tgt) lv (st) S cells slots) (kf : ¬ x ≤ y → J p l e R s m args below meth c Q E nL (pc + 3) lv (st) S cells slots) : J p l e R s m args below meth c Q E nL (pc) lv (.int y :: .int x :: st) S cells slots :=
  fun H locs ls hH hS hl => lv_icmp_le M.hx M.hb hdg ht (fun q => kt q H locs ls hH hS hl) (fun q => kf q H locs ls hH hS hl)
theorem j_acmp_eq (M : MC E p s m args meth c cc own nL ret) {a b : Nat} {off : Int} {tgt : Nat} (hdg : decode cc pc = .ok (.if_acmp .eq off, 3)) (ht : (pc : Int) + off = (tgt : Int)) (kt : a = b → J p l e R s m args below meth c Q E nL (tgt) lv (st) S cells slots) (kf : ¬ a = b → J p l e R s m args below meth c Q E nL (pc + 3) lv (st) S cells slots) : J p l e R s m args below meth c Q E nL (pc) lv (.ref b :: .ref a :: st) S cells slots :=
  fun H locs ls hH hS hl => lv_acmp_eq (rx := some a) (ry := some b) M.hx M.hb hdg ht (fun q => kt (Option.some.inj q) H locs ls hH hS hl) (fun q => kf (fun z => q (congrArg some z)) H locs ls hH hS hl)
theorem j_acmp_ne (M : MC E p s m args meth c cc own nL ret) {a b : Nat} {off : Int} {tgt : Nat} (hdg : decode cc pc = .ok (.if_acmp .ne off, 3)) (ht : (pc : Int) + off = (tgt : Int)) (kt : ¬ a = b → J p l e R s m args below meth c Q E nL (tgt) lv (st) S cells slots) (kf : a = b → J p l e R s m args below meth c Q E nL (pc + 3) lv (st) S cells slots) : J p l e R s m args below meth c Q E nL (pc) lv (.ref b :: .ref a :: st) S cells slots :=
  fun H locs ls hH hS hl => lv_acmp_ne (rx := some a) (ry := some b) M.hx M.hb hdg ht (fun q => kt (fun z => q (congrArg some z)) H locs ls hH hS hl) (fun q => kf (Option.some.inj q) H locs ls hH hS hl)
theorem j_ifnull (M : MC E p s m args meth c cc own nL ret) {a : Nat} {off : Int} (hdg : decode cc pc = .ok (.ifnull off, 3)) (K : J p l e R s m args below meth c Q E nL (pc + 3) lv (st) S cells slots) : J p l e R s m args below meth c Q E nL (pc) lv (.ref a :: st) S cells slots :=
  fun H locs ls hH hS hl => lv_ifnull M.hx M.hb hdg (K H locs ls hH hS hl)
theorem j_ifnullN (M : MC E p s m args meth c cc own nL ret) {off : Int} {tgt : Nat} (hdg : decode cc pc = .ok (.ifnull off, 3)) (ht : (pc : Int) + off = (tgt : Int)) (K : J p l e R s m args below meth c Q E nL (tgt) lv (st) S cells slots) : J p l e R s m args below meth c Q E nL (pc) lv (.null :: st) S cells slots :=
  fun H locs ls hH hS hl => lv_ifnullN M.hx M.hb hdg ht (K H locs ls hH hS hl)
theorem j_ifnonnull (M : MC E p s m args meth c cc own nL ret) {a : Nat} {off : Int} {tgt : Nat} (hdg : decode cc pc = .ok (.ifnonnull off, 3)) (ht : (pc : Int) + off = (tgt : Int)) (K : J p l e R s m args below meth c Q E nL (tgt) lv (st) S cells slots) : J p l e R s m args below meth c Q E nL (pc) lv (.ref a :: st) S cells slots :=
  fun H locs ls hH hS hl => lv_ifnonnull M.hx M.hb hdg ht (K H locs ls hH hS hl)
theorem j_ifnonnullN (M : MC E p s m args meth c cc own nL ret) {off : Int} (hdg : decode cc pc = .ok (.ifnonnull off, 3)) (K : J p l e R s m args below meth c Q E nL (pc + 3) lv (st) S cells slots) : J p l e R s m args below meth c Q E nL (pc) lv (.null :: st) S cells slots :=
  fun H locs ls hH hS hl => lv_ifnonnullN M.hx M.hb hdg (K H locs ls hH hS hl)
theorem j_goto (M : MC E p s m args meth c cc own nL ret) {off : Int} {tgt : Nat} (hdg : decode cc pc = .ok (.goto off, 3)) (ht : (pc : Int) + off = (tgt : Int)) (K : J p l e R s m args below meth c Q E nL (tgt) lv (st) S cells slots) : J p l e R s m args below meth c Q E nL (pc) lv (st) S cells slots :=
  fun H locs ls hH hS hl => lv_goto M.hx M.hb hdg ht (K H locs ls hH hS hl)
theorem j_tableOut (M : MC E p s m args meth c cc own nL ret) {dflt lo hi : Int} {offs : Array Int} {len tgt : Nat} {x : Int32} (hdg : decode cc pc = .ok (.tableswitch dflt lo hi offs, len)) (h : x.toInt < lo ∨ hi < x.toInt) (ht : (pc : Int) + dflt = (tgt : Int)) (K : J p l e R s m args below meth c Q E nL (tgt) lv (st) S cells slots) : J p l e R s m args below meth c Q E nL (pc) lv (.int x :: st) S cells slots :=
  fun H locs ls hH hS hl => lv_tableOut M.hx M.hb hdg h ht (K H locs ls hH hS hl)
theorem j_tableIn (M : MC E p s m args meth c cc own nL ret) {dflt lo hi off : Int} {offs : Array Int} {len tgt : Nat} {x : Int32} (hdg : decode cc pc = .ok (.tableswitch dflt lo hi offs, len)) (h1 : ¬ x.toInt < lo) (h2 : ¬ hi < x.toInt) (ho : offs[(x.toInt - lo).toNat]? = some off) (ht : (pc : Int) + off = (tgt : Int)) (K : J p l e R s m args below meth c Q E nL (tgt) lv (st) S cells slots) : J p l e R s m args below meth c Q E nL (pc) lv (.int x :: st) S cells slots :=
  fun H locs ls hH hS hl => lv_tableIn M.hx M.hb hdg h1 h2 ho ht (K H locs ls hH hS hl)
theorem j_name {e0 : Int32} (K : ∀ x : Int32, x = e0 → J p l e R s m args below meth c Q E nL (pc) lv (.int x :: st) S cells slots) : J p l e R s m args below meth c Q E nL (pc) lv (.int e0 :: st) S cells slots := K e0 rfl
theorem j_get (M : MC E p s m args meth c cc own nL ret) {ref C : String} {T : u_T} {N ci index a : Nat} {fs : List Value} {v : Value} (haL : a ∈ sL S) (hF : pF E S a = .inr (ci, fs)) (hc : vwCl[ci]? = some (C, T, N)) (hin : ∀ w ∈ u_ws C T N, w ∈ wsU) (k : Nat) (hk : k < N) (hlink : Cond.fieldLink own index ref (T k).2.1 (T k).2.2.1 ∈ wsU) (hsame : ∀ x, s.fieldFound? (T k).1 (T k).2.1 (T k).2.2.1 = some x → s.fieldFound? ref (T k).2.1 (T k).2.2.1 = some x) (hv : fs[k]? = some v) (hdg : decode cc pc = .ok (.getfield index, 3)) (K : J p l e R s m args below meth c Q E nL (pc + 3) lv (v :: st) S cells slots) : J p l e R s m args below meth c Q E nL (pc) lv (.ref a :: st) S cells slots := by
  intro H locs ls hH hS hl
  obtain ⟨q0, hq⟩ := pGet (E := E) haL
  rw [hF] at hq
  exact va_get M.hx M.hb M.hts hin M.hown M.hK hH.2.1 q0 hq hc k hk (M.hts _ hlink) hsame hv hdg (K H locs ls hH hS hl)
theorem j_getN (M : MC E p s m args meth c cc own nL ret) {ref C : String} {T : u_T} {N ci index a : Nat} {fs : List Value} {v : Value} (haL : a ∈ sL S) (hF : pF E S a = .inr (ci, fs)) (hc : vwCl[ci]? = some (C, T, N)) (hin : ∀ w ∈ u_ws C T N, w ∈ wsU) (k : Nat) (hk : k < N) {host : String} (hlink : Cond.fieldLinkNest own index ref (T k).2.1 (T k).2.2.1 host ∈ lw_tbl) (hsame : ∀ x, s.fieldFound? (T k).1 (T k).2.1 (T k).2.2.1 = some x → s.fieldFound? ref (T k).2.1 (T k).2.2.1 = some x) (hv : fs[k]? = some v) (hdg : decode cc pc = .ok (.getfield index, 3)) (K : J p l e R s m args below meth c Q E nL (pc + 3) lv (v :: st) S cells slots) : J p l e R s m args below meth c Q E nL (pc) lv (.ref a :: st) S cells slots := by
  intro H locs ls hH hS hl
  obtain ⟨q0, hq⟩ := pGet (E := E) haL
  rw [hF] at hq
  exact va_getN M.hx M.hb M.hts hin M.hown M.hK hH.2.1 q0 hq hc k hk (va_Nw.use rfl (M.vp.2.1 _ hlink rfl)) hsame hv hdg (K H locs ls hH hS hl)
theorem j_put (M : MC E p s m args meth c cc own nL ret) {host : String} {ref C : String} {T : u_T} {N ci index a : Nat} {fs : List Value} {v : Value} (haL : a ∈ sL S) (hF : pF E S a = .inr (ci, fs)) (hc : vwCl[ci]? = some (C, T, N)) (hin : ∀ w ∈ u_ws C T N, w ∈ wsU) (k : Nat) (hk : k < N) (ty0 : Nat → FieldType) (hty : ∀ k, k < N → parseFieldDescriptor (T k).2.2.1 = some (ty0 k)) (hnm : ∀ a, a < N → ∀ b, b < N → a ≠ b → (T a).2.1 ≠ (T b).2.1) (hlink : Cond.fieldLink own index ref (T k).2.1 (T k).2.2.1 ∈ wsU) (hsame : ∀ x, s.fieldFound? (T k).1 (T k).2.1 (T k).2.2.1 = some x → s.fieldFound? ref (T k).2.1 (T k).2.2.1 = some x) (hfin : (T k).2.2.2 = false) {ty : FieldType} (hd : parseFieldDescriptor (T k).2.2.1 = some ty) (hn : narrow ty v = v) (hfit : fits ty v = true) (hl0 : k < fs.length) {S2 : PS} (hL2 : sL S2 = sL S) (hu : ∀ b, va_up (pF E S) a (.inr (ci, fs.set k v)) b = pF E S2 b) (hdg : decode cc pc = .ok (.putfield index, 3)) (K : J p l e R s m args below meth c Q E nL (pc + 3) lv (st) S2 cells slots) : J p l e R s m args below meth c Q E nL (pc) lv (v :: .ref a :: st) S cells slots := by
  intro H locs ls hH hS hl
  obtain ⟨q0, hq⟩ := pGet (E := E) haL
  have hq1 := hq
  rw [hF] at hq
  refine va_put M.hx M.hb M.hts hin ty0 hty hnm M.hown M.hK hH.2.1 hH.2.2 hS q0 hq hc k hk (M.hts _ hlink) hsame hfin hd hn hfit hl0 hdg (fun H1 locs1 hP1 hD1 hS1 => ?_)
  have e := pSet (e := .inr (ci, fs.set k v)) hH.2.2 haL hq1 hL2 hu
  rw [e] at hP1 hD1
  exact K H1 locs1 ls ⟨Nat.le_trans M.hsz hS1.1, hP1, hD1⟩ hS1 hl
theorem j_putN (M : MC E p s m args meth c cc own nL ret) {host : String} {ref C : String} {T : u_T} {N ci index a : Nat} {fs : List Value} {v : Value} (haL : a ∈ sL S) (hF : pF E S a = .inr (ci, fs)) (hc : vwCl[ci]? = some (C, T, N)) (hin : ∀ w ∈ u_ws C T N, w ∈ wsU) (k : Nat) (hk : k < N) (ty0 : Nat → FieldType) (hty : ∀ k, k < N → parseFieldDescriptor (T k).2.2.1 = some (ty0 k)) (hnm : ∀ a, a < N → ∀ b, b < N → a ≠ b → (T a).2.1 ≠ (T b).2.1) (hlink : Cond.fieldLinkNest own index ref (T k).2.1 (T k).2.2.1 host ∈ lw_tbl) (hsame : ∀ x, s.fieldFound? (T k).1 (T k).2.1 (T k).2.2.1 = some x → s.fieldFound? ref (T k).2.1 (T k).2.2.1 = some x) (hfin : (T k).2.2.2 = false) {ty : FieldType} (hd : parseFieldDescriptor (T k).2.2.1 = some ty) (hn : narrow ty v = v) (hfit : fits ty v = true) (hl0 : k < fs.length) {S2 : PS} (hL2 : sL S2 = sL S) (hu : ∀ b, va_up (pF E S) a (.inr (ci, fs.set k v)) b = pF E S2 b) (hdg : decode cc pc = .ok (.putfield index, 3)) (K : J p l e R s m args below meth c Q E nL (pc + 3) lv (st) S2 cells slots) : J p l e R s m args below meth c Q E nL (pc) lv (v :: .ref a :: st) S cells slots := by
  intro H locs ls hH hS hl
  obtain ⟨q0, hq⟩ := pGet (E := E) haL
  have hq1 := hq
  rw [hF] at hq
  refine va_putN M.hx M.hb M.hts hin ty0 hty hnm M.hown M.hK hH.2.1 hH.2.2 hS q0 hq hc k hk (va_Nw.use rfl (M.vp.2.1 _ hlink rfl)) hsame hfin hd hn hfit hl0 hdg (fun H1 locs1 hP1 hD1 hS1 => ?_)
  have e := pSet (e := .inr (ci, fs.set k v)) hH.2.2 haL hq1 hL2 hu
  rw [e] at hP1 hD1
  exact K H1 locs1 ls ⟨Nat.le_trans M.hsz hS1.1, hP1, hD1⟩ hS1 hl
theorem j_putF (M : MC E p s m args meth c cc own nL ret) {host : String} {ref C : String} {T : u_T} {N ci index a : Nat} {fs : List Value} {v : Value} (haL : a ∈ sL S) (hF : pF E S a = .inr (ci, fs)) (hc : vwCl[ci]? = some (C, T, N)) (hin : ∀ w ∈ u_ws C T N, w ∈ wsU) (k : Nat) (hk : k < N) (ty0 : Nat → FieldType) (hty : ∀ k, k < N → parseFieldDescriptor (T k).2.2.1 = some (ty0 k)) (hnm : ∀ a, a < N → ∀ b, b < N → a ≠ b → (T a).2.1 ≠ (T b).2.1) (hlink : Cond.fieldLink own index ref (T k).2.1 (T k).2.2.1 ∈ wsU) (hsame : ∀ x, s.fieldFound? (T k).1 (T k).2.1 (T k).2.2.1 = some x → s.fieldFound? ref (T k).2.1 (T k).2.2.1 = some x) (hfin : (T k).2.2.2 = true) (hin2 : meth.name = "<init>") (hdecl : (T k).1 = own) {ty : FieldType} (hd : parseFieldDescriptor (T k).2.2.1 = some ty) (hn : narrow ty v = v) (hfit : fits ty v = true) (hl0 : k < fs.length) {S2 : PS} (hL2 : sL S2 = sL S) (hu : ∀ b, va_up (pF E S) a (.inr (ci, fs.set k v)) b = pF E S2 b) (hdg : decode cc pc = .ok (.putfield index, 3)) (K : J p l e R s m args below meth c Q E nL (pc + 3) lv (st) S2 cells slots) : J p l e R s m args below meth c Q E nL (pc) lv (v :: .ref a :: st) S cells slots := by
  intro H locs ls hH hS hl
  obtain ⟨q0, hq⟩ := pGet (E := E) haL
  have hq1 := hq
  rw [hF] at hq
  refine va_putF M.hx M.hb M.hts hin ty0 hty hnm M.hown M.hK hH.2.1 hH.2.2 hS q0 hq hc k hk (M.hts _ hlink) hsame hfin hin2 hdecl hd hn hfit hl0 hdg (fun H1 locs1 hP1 hD1 hS1 => ?_)
  have e := pSet (e := .inr (ci, fs.set k v)) hH.2.2 haL hq1 hL2 hu
  rw [e] at hP1 hD1
  exact K H1 locs1 ls ⟨Nat.le_trans M.hsz hS1.1, hP1, hD1⟩ hS1 hl
theorem j_iald (M : MC E p s m args meth c cc own nL ret) {a : Nat} {i : Int32} (haL : a ∈ sL S) (hk : sK S a = 9) (hin : vp_in i (sN S a)) (hdg : decode cc pc = .ok (.iaload, 1)) (K : J p l e R s m args below meth c Q E nL (pc + 1) lv (.int (sA S a i.toNatClampNeg) :: st) S cells slots) : J p l e R s m args below meth c Q E nL (pc) lv (.int i :: .ref a :: st) S cells slots := by
  intro H locs ls hH hS hl
  obtain ⟨q0, hq⟩ := pGet (E := E) haL
  rw [pAt_9 E S hk] at hq
  exact va_iald M.hx M.hb M.hK hH.2.1 q0 0 hq rfl hin hdg (K H locs ls hH hS hl)
theorem j_iast (M : MC E p s m args meth c cc own nL ret) {a : Nat} {i x : Int32} (haL : a ∈ sL S) (hk : sK S a = 9) (hin : vp_in i (sN S a)) (hdg : decode cc pc = .ok (.iastore, 1)) (K : J p l e R s m args below meth c Q E nL (pc + 1) lv (st) (uA S a (upd (sA S a) i.toNatClampNeg x)) cells slots) : J p l e R s m args below meth c Q E nL (pc) lv (.int x :: .int i :: .ref a :: st) S cells slots := by
  intro H locs ls hH hS hl
  obtain ⟨q0, hq⟩ := pGet (E := E) haL
  have hq1 := hq
  rw [pAt_9 E S hk] at hq
  refine va_iast M.hx M.hb M.hK hH.2.1 hH.2.2 hS q0 0 hq rfl hin hdg (fun H1 locs1 hP1 hD1 hS1 => ?_)
  have e := pSet (S' := uA S a (upd (sA S a) i.toNatClampNeg x)) (e := .inl (E.2.1, sN S a, .inl (upd (sA S a) i.toNatClampNeg x))) hH.2.2 haL hq1 rfl (pUp_A E S hk _)
  rw [e] at hP1 hD1
  exact K H1 locs1 ls ⟨Nat.le_trans M.hsz hS1.1, hP1, hD1⟩ hS1 hl
theorem j_alen (M : MC E p s m args meth c cc own nL ret) {a : Nat} (haL : a ∈ sL S) (hk : sK S a = 9) (hdg : decode cc pc = .ok (.arraylength, 1)) (K : J p l e R s m args below meth c Q E nL (pc + 1) lv (.int (nI (sN S a)) :: st) S cells slots) : J p l e R s m args below meth c Q E nL (pc) lv (.ref a :: st) S cells slots := by
  intro H locs ls hH hS hl
  obtain ⟨q0, hq⟩ := pGet (E := E) haL
  rw [pAt_9 E S hk] at hq
  exact va_alen M.hx M.hb M.hK hH.2.1 q0 0 hq rfl rfl hdg (K H locs ls hH hS hl)
end RW
