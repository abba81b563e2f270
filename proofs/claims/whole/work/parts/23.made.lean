/-! walks that make cells: a world is a list of cells; yq_W: the walk; yq_M: a constructor's contract -/
def yq_M (l : Launch) (D : va_G) (cl : List vw_C) (y : MethodName) (ws : List Cond) (d mc ms : Nat) (As : List Value) (w0 : va_W) (sz : Nat) (Pre : State → Prop) (post : List (ClassId × FieldType) → va_W → Prop) : Prop :=
  Met l y ws ({ frames := d, cells := mc, slots := ms, locals := 32 * d }) (va_Pc As (fun U => U.heap.size = sz ∧ va_P D cl w0 U.heap ∧ va_K D cl [] U ∧ va_D (fun _ => True) w0 ∧ Pre U))
    (fun _ st o t => (∃ (tys : List (ClassId × FieldType)) (w1 : va_W), o = .returned none ∧ post tys w1 ∧ va_P D cl w1 t.heap ∧ va_K D cl tys t ∧ va_D (va_A w0 sz) w1) ∧ va_F (va_A w0 sz) st t) mc ms (va_A w0 sz)
section YQ
variable {p : Program} {l : Launch} {e : Env} {R : Room} {s : State} {m : MethodId} {args : Array Value} {below : List Frame} {meth : Method} {c : Code} {Q : State → Prop}
variable {D : va_G} {cl : List vw_C} {tys : List (ClassId × FieldType)} {A : Nat → Prop} {ws : va_W} {Ts : List Cond} {own : String} {cc : ByteArray} {nL : Nat}
variable {qc qs pc : Nat} {L : List (Nat × Value)} {st : List Value}
def yq_C (p : Program) (s : State) (m : MethodId) (args : Array Value) (c : Code) (A : Nat → Prop) (Ts : List Cond) (own : String) (cc : ByteArray) (nL : Nat) : Prop :=
  p.tables.exec = Jvm.exec ∧ c.code = cc ∧ c.maxLocals = nL ∧ s.vm.findClass own = some m.cls ∧ (∀ w ∈ Ts, w.before args s = true) ∧ ∀ q, s.heap.size ≤ q → A q
def yq_W (p : Program) (l : Launch) (e : Env) (R : Room) (s : State) (m : MethodId) (args : Array Value) (below : List Frame) (meth : Method) (c : Code) (D : va_G) (cl : List vw_C) (A : Nat → Prop) (tys : List (ClassId × FieldType)) (qc qs : Nat) (Q : State → Prop) (nL pc : Nat) (L : List (Nat × Value)) (st : List Value) (ws : va_W) : Prop :=
  ∀ (H : Heap) (locs : List Loc) (ls : Array Slot), lv_has ls nL L → va_P D cl ws H → va_D A ws → va_S A s.heap H locs → va_K D cl tys s → W p l e R s m args below meth c H locs qc qs Q (F0 m pc ls st)
theorem yq_met {y : MethodName} {ws' : List Cond} {d maxL mc ms sz : Nat} {As : List Value} {w0 : va_W} {Pre : State → Prop} {post : List (ClassId × FieldType) → va_W → Prop} (hy : plainName y.cls = true) (hl : (lg_sl As).length ≤ maxL)
    (body : ∀ (p : Program) (e : Env) (s : State) (m : MethodId) (args : Array Value) (below : List Frame) (meth : Method) (c : Code), yq_C p s m args c (va_A w0 sz) ws' y.cls cc maxL → meth.sig.returnType = none → meth.locks = false → meth.name = y.name → Pre s →
      yq_W p l e ({ frames := d, cells := mc, slots := ms, locals := 32 * d }) s m args below meth c D cl (va_A w0 sz) [] 0 0 (MQ below (fun _ st o t => (∃ (tys : List (ClassId × FieldType)) (w1 : va_W), o = .returned none ∧ post tys w1 ∧ va_P D cl w1 t.heap ∧ va_K D cl tys t ∧ va_D (va_A w0 sz) w1) ∧ va_F (va_A w0 sz) st t) args s mc ms (va_A w0 sz)) maxL 0 (lv_args 0 As) [] w0) :
    yq_M l D cl y (Cond.code y cc maxL none :: ws') d mc ms As w0 sz Pre post := by
  refine Met.ofW (cc := cc) (maxL := maxL) (ret := none) hy rfl ?_
  intro p e s m args below meth c s₁ B hml hv
  obtain ⟨rfl, hsz, hP, hK, hD, hPre⟩ := hv
  have hx := B.exec
  have hb := B.bytes
  have hr := B.returns
  have hts := atoms_spec (ws := Cond.code y cc maxL none :: ws') B.pre
  have hown : s.vm.findClass y.cls = some m.cls := findClass_of_methodNamed B.named
  have hlocks := B.notSynchronized
  have hin : meth.name = y.name := (name_of_methodNamed B.named B.method).1
  rw [lg_entry_eq]
  exact body p e s m _ below meth c ⟨hx, hb, hml, hown, fun w hw => hts w (List.mem_cons_of_mem _ hw), fun q h => Or.inr (by rw [← hsz]; exact h)⟩ hr hlocks hin hPre _ _ _ (lv_entry As hl) hP hD.self va_S.rf hK
theorem yq_vret {A0 : Nat → Prop} {post : List (ClassId × FieldType) → va_W → Prop} (X : yq_C p s m args c A Ts own cc nL) (hr : meth.sig.returnType = none) (hlo : meth.locks = false) (hp : post tys ws) (hd : decode cc pc = .ok (.return_, 1)) :
    yq_W p l e R s m args below meth c D cl A tys qc qs (MQ below (fun _ st o t => (∃ (tys : List (ClassId × FieldType)) (w1 : va_W), o = .returned none ∧ post tys w1 ∧ va_P D cl w1 t.heap ∧ va_K D cl tys t ∧ va_D A w1) ∧ va_F A st t) args s qc qs A) nL pc L [] ws := by
  intro H locs ls h1 hP hD hS hK
  exact W.vret X.1 X.2.1 hr (fun t ht hW => ⟨⟨tys, ws, rfl, hp, by rw [ht]; exact hP, va_K.moved hW.alike hK, hD⟩, hS.F ht⟩) hS.2.2 hd hlo
theorem yq_aload_n (X : yq_C p s m args c A Ts own cc nL) {n : Fin 4} {i x : Nat} (hd : decode cc pc = .ok (.aload_n n, 1)) (j : Nat) (hL : L[j]? = some (i, .ref x)) (hi : (n : Nat) = i)
    (k : yq_W p l e R s m args below meth c D cl A tys qc qs Q nL (pc + 1) L (.ref x :: st) ws) : yq_W p l e R s m args below meth c D cl A tys qc qs Q nL pc L st ws :=
  fun H locs ls h1 h2 h3 h4 h5 => lv_aload_n X.1 X.2.1 hd hi (lv_at h1 j hL) (k H locs ls h1 h2 h3 h4 h5)
theorem yq_iload_n (X : yq_C p s m args c A Ts own cc nL) {n : Fin 4} {i : Nat} {x : Int32} (hd : decode cc pc = .ok (.iload_n n, 1)) (j : Nat) (hL : L[j]? = some (i, .int x)) (hi : (n : Nat) = i)
    (k : yq_W p l e R s m args below meth c D cl A tys qc qs Q nL (pc + 1) L (.int x :: st) ws) : yq_W p l e R s m args below meth c D cl A tys qc qs Q nL pc L st ws :=
  fun H locs ls h1 h2 h3 h4 h5 => lv_iload_n X.1 X.2.1 hd hi (lv_at h1 j hL) (k H locs ls h1 h2 h3 h4 h5)
theorem yq_iconst (X : yq_C p s m args c A Ts own cc nL) {n : Int} {v : Int32} (hd : decode cc pc = .ok (.iconst n, 1)) (hv : Int32.ofInt n = v)
    (k : yq_W p l e R s m args below meth c D cl A tys qc qs Q nL (pc + 1) L (.int v :: st) ws) : yq_W p l e R s m args below meth c D cl A tys qc qs Q nL pc L st ws :=
  fun H locs ls h1 h2 h3 h4 h5 => lv_iconst X.1 X.2.1 hd hv (k H locs ls h1 h2 h3 h4 h5)
theorem yq_bipush (X : yq_C p s m args c A Ts own cc nL) {n : Int} {v : Int32} (hd : decode cc pc = .ok (.bipush n, 2)) (hv : (Int8.ofInt n).toInt32 = v)
    (k : yq_W p l e R s m args below meth c D cl A tys qc qs Q nL (pc + 2) L (.int v :: st) ws) : yq_W p l e R s m args below meth c D cl A tys qc qs Q nL pc L st ws :=
  fun H locs ls h1 h2 h3 h4 h5 => lv_bipush X.1 X.2.1 hd hv (k H locs ls h1 h2 h3 h4 h5)
theorem yq_dup (X : yq_C p s m args c A Ts own cc nL) {v : Value} (hd : decode cc pc = .ok (.dup, 1)) (hv : v.category = 1)
    (k : yq_W p l e R s m args below meth c D cl A tys qc qs Q nL (pc + 1) L (v :: v :: st) ws) : yq_W p l e R s m args below meth c D cl A tys qc qs Q nL pc L (v :: st) ws :=
  fun H locs ls h1 h2 h3 h4 h5 => lv_dup X.1 X.2.1 hd hv (k H locs ls h1 h2 h3 h4 h5)
theorem yq_istore_n (X : yq_C p s m args c A Ts own cc nL) {n : Fin 4} {i : Nat} {x : Int32} (hd : decode cc pc = .ok (.istore_n n, 1)) (L' : List (Nat × Value)) (hL : (i, Value.int x) :: L.filter (fun q => !(q.1 == i) && !(q.1 + 1 == i && q.2.category == 2)) = L') (hi : (n : Nat) = i) (hn : i < nL)
    (k : yq_W p l e R s m args below meth c D cl A tys qc qs Q nL (pc + 1) L' st ws) : yq_W p l e R s m args below meth c D cl A tys qc qs Q nL pc L (.int x :: st) ws :=
  fun H locs ls h1 h2 h3 h4 h5 => lv_istore_n X.1 X.2.1 hd hi h1 hn hL (fun ls' h => k H locs ls' h h2 h3 h4 h5)
theorem yq_iinc (X : yq_C p s m args c A Ts own cc nL) {i : Nat} {n : Int} {x v : Int32} (hd : decode cc pc = .ok (.iinc i n, 3)) (j : Nat) (hj : L[j]? = some (i, .int x)) (L' : List (Nat × Value)) (hL : (i, Value.int v) :: L.filter (fun q => !(q.1 == i) && !(q.1 + 1 == i && q.2.category == 2)) = L') (hv : x + Int32.ofInt n = v) (hn : i < nL)
    (k : yq_W p l e R s m args below meth c D cl A tys qc qs Q nL (pc + 3) L' st ws) : yq_W p l e R s m args below meth c D cl A tys qc qs Q nL pc L st ws :=
  fun H locs ls h1 h2 h3 h4 h5 => lv_iinc X.1 X.2.1 hd h1 hj hv hn hL (fun ls' h => k H locs ls' h h2 h3 h4 h5)
theorem yq_sub (ks : List Nat) (L' : List (Nat × Value)) (hl : lv_pick L ks = L') (k : yq_W p l e R s m args below meth c D cl A tys qc qs Q nL pc L' st ws) : yq_W p l e R s m args below meth c D cl A tys qc qs Q nL pc L st ws :=
  fun H locs ls h1 h2 h3 h4 h5 => k H locs ls (lv_sub h1 ks hl) h2 h3 h4 h5
theorem yq_goto (X : yq_C p s m args c A Ts own cc nL) {off : Int} (hd : decode cc pc = .ok (.goto off, 3)) (tgt : Nat) (ht : (pc : Int) + off = (tgt : Int)) (k : yq_W p l e R s m args below meth c D cl A tys qc qs Q nL tgt L st ws) : yq_W p l e R s m args below meth c D cl A tys qc qs Q nL pc L st ws :=
  fun H locs ls h1 h2 h3 h4 h5 => lv_goto X.1 X.2.1 hd ht (k H locs ls h1 h2 h3 h4 h5)
theorem yq_icmp_ge (X : yq_C p s m args c A Ts own cc nL) {x y : Int32} {off : Int} (hd : decode cc pc = .ok (.if_icmp .ge off, 3)) (tgt : Nat) (ht : (pc : Int) + off = (tgt : Int))
    (kt : y ≤ x → yq_W p l e R s m args below meth c D cl A tys qc qs Q nL tgt L st ws) (kf : ¬ y ≤ x → yq_W p l e R s m args below meth c D cl A tys qc qs Q nL (pc + 3) L st ws) : yq_W p l e R s m args below meth c D cl A tys qc qs Q nL pc L (.int y :: .int x :: st) ws :=
  fun H locs ls h1 h2 h3 h4 h5 => lv_icmp_ge X.1 X.2.1 hd ht (fun h => kt h H locs ls h1 h2 h3 h4 h5) (fun h => kf h H locs ls h1 h2 h3 h4 h5)
theorem yq_icmp_le (X : yq_C p s m args c A Ts own cc nL) {x y : Int32} {off : Int} (hd : decode cc pc = .ok (.if_icmp .le off, 3)) (tgt : Nat) (ht : (pc : Int) + off = (tgt : Int))
    (kt : x ≤ y → yq_W p l e R s m args below meth c D cl A tys qc qs Q nL tgt L st ws) (kf : ¬ x ≤ y → yq_W p l e R s m args below meth c D cl A tys qc qs Q nL (pc + 3) L st ws) : yq_W p l e R s m args below meth c D cl A tys qc qs Q nL pc L (.int y :: .int x :: st) ws :=
  fun H locs ls h1 h2 h3 h4 h5 => lv_icmp_le X.1 X.2.1 hd ht (fun h => kt h H locs ls h1 h2 h3 h4 h5) (fun h => kf h H locs ls h1 h2 h3 h4 h5)
theorem yq_obj (X : yq_C p s m args c A Ts own cc nL) {idx a : Nat} (hl : Cond.methodLink own idx Lib.objectInit ∈ Ts) (hi : Cond.instanceMethod Lib.objectInit ∈ Ts) (hc : Cond.code Lib.objectInit ⟨#[0xb1]⟩ 1 none ∈ Ts) (hf : 1 ≤ R.frames) (hlo : (st.map fun v => v.category).sum + 12 ≤ R.locals) (hd : decode cc pc = .ok (.invokespecial idx, 3))
    (k : yq_W p l e R s m args below meth c D cl A tys qc qs Q nL (pc + 3) L st ws) : yq_W p l e R s m args below meth c D cl A tys qc qs Q nL pc L (.ref a :: st) ws :=
  fun H locs ls h1 h2 h3 h4 h5 => W.objInit (g := F0 m pc ls (.ref a :: st)) X.1 X.2.1 X.2.2.2.1 (X.2.2.2.2.1 _ hl) (X.2.2.2.2.1 _ hi) (X.2.2.2.2.1 _ hc) rfl (h1.1.trans X.2.2.1.symm) rfl hd hf (by show 2 * 0 + _ + 12 ≤ _; omega) (k H locs ls h1 h2 h3 h4 h5)
theorem yq_get (X : yq_C p s m args c A Ts own cc nL) {index ci j a : Nat} {fs : List Value} {v : Value} (hF : xq_F Ts own index cl ci j) (q0 : Nat) (he : ws[q0]? = some (a, .inr (ci, fs))) (hv : fs[j]? = some v) (hd : decode cc pc = .ok (.getfield index, 3))
    (k : yq_W p l e R s m args below meth c D cl A tys qc qs Q nL (pc + 3) L (v :: st) ws) : yq_W p l e R s m args below meth c D cl A tys qc qs Q nL pc L (.ref a :: st) ws := by
  obtain ⟨C, T, N, f1, f2, f3, f4⟩ := hF
  exact fun H locs ls h1 h2 h3 h4 h5 => va_get X.1 X.2.1 X.2.2.2.2.1 f2 X.2.2.2.1 h5 h2 q0 he f1 j f3 (X.2.2.2.2.1 _ f4) (fun _ h => h) hv hd (k H locs ls h1 h2 h3 h4 h5)
theorem yq_put (X : yq_C p s m args c A Ts own cc nL) {index ci j a : Nat} {ty : FieldType} {fs : List Value} {v : Value} {ws' : va_W} (hF : xq_F Ts own index cl ci j) (hT : xq_T cl ci) (hN : xq_N cl ci j ty) (q0 : Nat) (he : ws[q0]? = some (a, .inr (ci, fs))) (hl : j < fs.length) (hn : narrow ty v = v) (hf : fits ty v = true) (hw : ws.set q0 (a, .inr (ci, fs.set j v)) = ws') (hd : decode cc pc = .ok (.putfield index, 3))
    (k : yq_W p l e R s m args below meth c D cl A tys qc qs Q nL (pc + 3) L st ws') : yq_W p l e R s m args below meth c D cl A tys qc qs Q nL pc L (v :: .ref a :: st) ws := by
  obtain ⟨C, T, N, f1, f2, f3, f4⟩ := hF
  obtain ⟨C2, T2, N2, ty0, g1, g2, g3⟩ := hT
  obtain ⟨C3, T3, N3, n1, n2, n3⟩ := hN
  cases f1.symm.trans g1
  cases f1.symm.trans n1
  subst hw
  exact fun H locs ls h1 h2 h3 h4 h5 => va_put X.1 X.2.1 X.2.2.2.2.1 f2 ty0 g2 g3 X.2.2.2.1 h5 h2 h3 h4 q0 he f1 j f3 (X.2.2.2.2.1 _ f4) (fun _ h => h) n2 n3 hn hf hl hd (fun H1 locs1 p1 p2 p3 => k H1 locs1 ls h1 p1 p2 p3 h5)
def yq_N (cl : List vw_C) (ci j : Nat) (own : String) (ty : FieldType) : Prop := ∃ (C : String) (T : u_T) (N : Nat), cl[ci]? = some (C, T, N) ∧ (T j).2.2.2 = true ∧ (T j).1 = own ∧ parseFieldDescriptor (T j).2.2.1 = some ty
theorem yq_putF (X : yq_C p s m args c A Ts own cc nL) {index ci j a : Nat} {ty : FieldType} {fs : List Value} {v : Value} {ws' : va_W} (hF : xq_F Ts own index cl ci j) (hT : xq_T cl ci) (hN : yq_N cl ci j own ty) (hm : meth.name = "<init>") (q0 : Nat) (he : ws[q0]? = some (a, .inr (ci, fs))) (hl : j < fs.length) (hn : narrow ty v = v) (hf : fits ty v = true) (hw : ws.set q0 (a, .inr (ci, fs.set j v)) = ws') (hd : decode cc pc = .ok (.putfield index, 3))
    (k : yq_W p l e R s m args below meth c D cl A tys qc qs Q nL (pc + 3) L st ws') : yq_W p l e R s m args below meth c D cl A tys qc qs Q nL pc L (v :: .ref a :: st) ws := by
  obtain ⟨C, T, N, f1, f2, f3, f4⟩ := hF
  obtain ⟨C2, T2, N2, ty0, g1, g2, g3⟩ := hT
  obtain ⟨C3, T3, N3, n1, n2, n4, n3⟩ := hN
  cases f1.symm.trans g1
  cases f1.symm.trans n1
  subst hw
  exact fun H locs ls h1 h2 h3 h4 h5 => va_putF X.1 X.2.1 X.2.2.2.2.1 f2 ty0 g2 g3 X.2.2.2.1 h5 h2 h3 h4 q0 he f1 j f3 (X.2.2.2.2.1 _ f4) (fun _ h => h) n2 hm n4 n3 hn hf hl hd (fun H1 locs1 p1 p2 p3 => k H1 locs1 ls h1 p1 p2 p3 h5)
theorem yq_new (X : yq_C p s m args c A Ts own cc nL) {index ci N : Nat} {C : String} {T : u_T} {fs : List Value} (hc : cl[ci]? = some (C, T, N)) (hin : ∀ w ∈ u_ws C T N, w ∈ Ts) (ty : Nat → FieldType) (hty : ∀ k, k < N → parseFieldDescriptor (T k).2.2.1 = some (ty k)) (hl : Cond.classLink own index C ∈ Ts) (hi : Cond.instantiable C N ∈ Ts) (hini : Cond.initialized C ∈ Ts) (hfs : ∀ j, j < N → defaultValue (ty j) = vp_V fs j) (h1 : qc + 1 ≤ R.cells) (h2 : qs + N ≤ R.slots) (hd : decode cc pc = .ok (.new index, 3))
    (k : ∀ q, yq_W p l e R s m args below meth c D cl A tys (qc + 1) (qs + N) Q nL (pc + 3) L (.ref q :: st) (ws ++ [(q, .inr (ci, fs))])) : yq_W p l e R s m args below meth c D cl A tys qc qs Q nL pc L st ws :=
  fun H locs ls a1 a2 a3 a4 a5 => va_new (fs := fs) X.1 X.2.1 X.2.2.2.2.1 hin ty hty X.2.2.2.1 (X.2.2.2.2.1 _ hl) (X.2.2.2.2.1 _ hi) (X.2.2.2.2.1 _ hini) a5 a2 a3 a4 X.2.2.2.2.2 hc hfs h1 h2 hd (fun q H1 p1 p2 p3 => k q H1 locs ls a1 p1 p2 p3 a5)
theorem yq_newa (X : yq_C p s m args c A Ts own cc nL) {atype : ArrayType} {ty : FieldType} (hw : Cond.arrayClass (newarray.typeOf atype) ∈ Ts) (hty : newarray.typeOf atype = ty) {n : Int32} {N : Nat} {a0 : vp_A} (ha : ∀ cA : ClassId, vp_cell cA a0 = arrV cA N (fun _ => defaultValue ty)) (hn : ¬ n < 0) (hN : n.toNatClampNeg = N) (hby : N * componentBytes ty ≤ 536870912) (h1 : qc + 1 ≤ R.cells) (h2 : qs + N ≤ R.slots) (hd : decode cc pc = .ok (.newarray atype, 2))
    (k : ∀ q cA, yq_W p l e R s m args below meth c D cl A (tys ++ [(cA, ty)]) (qc + 1) (qs + N) Q nL (pc + 2) L (.ref q :: st) (ws ++ [(q, .inl (cA, a0))])) : yq_W p l e R s m args below meth c D cl A tys qc qs Q nL pc L (.int n :: st) ws :=
  fun H locs ls a1 a2 a3 a4 a5 => va_newa X.1 X.2.1 (X.2.2.2.2.1 _ hw) hty a5 a2 a3 a4 X.2.2.2.2.2 ha hn hN hby h1 h2 hd (fun q cA H1 p0 p1 p2 p3 => k q cA H1 locs ls a1 p1 p2 p3 p0)
theorem yq_newq (X : yq_C p s m args c A Ts own cc nL) {C : String} {index : Nat} (hl : Cond.classLink own index C ∈ Ts) (hov : va_AO C s) {n : Int32} {N : Nat} (hn : ¬ n < 0) (hN : n.toNatClampNeg = N) (hby : N * 4 ≤ 536870912) (h1 : qc + 1 ≤ R.cells) (h2 : qs + N ≤ R.slots) (hd : decode cc pc = .ok (.anewarray index, 3))
    (k : ∀ q cA, yq_W p l e R s m args below meth c D cl A (tys ++ [(cA, .object C)]) (qc + 1) (qs + N) Q nL (pc + 3) L (.ref q :: st) (ws ++ [(q, .inl (cA, N, .inr (.inr (.inr (.inr (fun _ => none))))))])) : yq_W p l e R s m args below meth c D cl A tys qc qs Q nL pc L (.int n :: st) ws :=
  fun H locs ls a1 a2 a3 a4 a5 => va_newq X.1 X.2.1 X.2.2.2.1 (X.2.2.2.2.1 _ hl) hov a5 a2 a3 a4 X.2.2.2.2.2 hn hN hby h1 h2 hd (fun q cA H1 p0 p1 p2 p3 => k q cA H1 locs ls a1 p1 p2 p3 p0)
theorem yq_astq (X : yq_C p s m args c A Ts own cc nL) (q0 t0 qk ci : Nat) {cA : ClassId} {r : vw_C} {n v a : Nat} {vs : List Value} {f : Nat → Option Nat} (ha : ws[q0]? = some (a, .inl (cA, n, .inr (.inr (.inr (.inr f)))))) (ht : tys[t0]? = some (cA, .object r.1)) (hv : ws[qk]? = some (v, .inr (ci, vs))) (hc : cl[ci]? = some r) {i : Int32} (hin : vp_in i n) {ws' : va_W} (hw : ws.set q0 (a, .inl (cA, n, .inr (.inr (.inr (.inr (va_up f i.toNatClampNeg (some v))))))) = ws') (hd : decode cc pc = .ok (.aastore, 1))
    (k : yq_W p l e R s m args below meth c D cl A tys qc qs Q nL (pc + 1) L st ws') : yq_W p l e R s m args below meth c D cl A tys qc qs Q nL pc L (.ref v :: .int i :: .ref a :: st) ws := by
  subst hw
  exact fun H locs ls a1 a2 a3 a4 a5 => va_astq X.1 X.2.1 a5 a2 a3 a4 q0 t0 qk ci ha ht hv hc hin hd (fun H1 locs1 p1 p2 p3 => k H1 locs1 ls a1 p1 p2 p3 a5)
theorem yq_min (X : yq_C p s m args c A Ts own cc nL) {index : Nat} {x y v : Int32} (hl : Cond.methodLink own index Lib.Math.min.name ∈ Ts) (h2 : Cond.static Lib.Math.min.name ∈ Ts) (h3 : Cond.initialized "java/lang/Math" ∈ Ts) (h4 : Cond.code Lib.Math.min.name Lib.Math.min.code 2 (some .int) ∈ Ts) (hcs : qc ≤ R.cells ∧ qs ≤ R.slots) (hf : 1 ≤ R.frames) (hlo : (st.map fun v => v.category).sum + 13 ≤ R.locals) (hv : (if y < x then y else x) = v) (hd : decode cc pc = .ok (.invokestatic index, 3))
    (k : yq_W p l e R s m args below meth c D cl A tys qc qs Q nL (pc + 3) L (.int v :: st) ws) : yq_W p l e R s m args below meth c D cl A tys qc qs Q nL pc L (.int y :: .int x :: st) ws := by
  subst hv
  exact fun H locs ls a1 a2 a3 a4 a5 => va_mmin X.1 X.2.1 (X.2.2.1.trans a1.1.symm) X.2.2.2.1 (X.2.2.2.2.1 _ hl) (X.2.2.2.2.1 _ h2) (X.2.2.2.2.1 _ h3) (X.2.2.2.2.1 _ h4) hf hlo hcs.1 hcs.2 hd (k H locs ls a1 a2 a3 a4 a5)
theorem yq_max (X : yq_C p s m args c A Ts own cc nL) {index : Nat} {x y v : Int32} (hl : Cond.methodLink own index Lib.Math.max.name ∈ Ts) (h2 : Cond.static Lib.Math.max.name ∈ Ts) (h3 : Cond.initialized "java/lang/Math" ∈ Ts) (h4 : Cond.code Lib.Math.max.name Lib.Math.max.code 2 (some .int) ∈ Ts) (hcs : qc ≤ R.cells ∧ qs ≤ R.slots) (hf : 1 ≤ R.frames) (hlo : (st.map fun v => v.category).sum + 13 ≤ R.locals) (hv : (if x < y then y else x) = v) (hd : decode cc pc = .ok (.invokestatic index, 3))
    (k : yq_W p l e R s m args below meth c D cl A tys qc qs Q nL (pc + 3) L (.int v :: st) ws) : yq_W p l e R s m args below meth c D cl A tys qc qs Q nL pc L (.int y :: .int x :: st) ws := by
  subst hv
  exact fun H locs ls a1 a2 a3 a4 a5 => va_mmax X.1 X.2.1 (X.2.2.1.trans a1.1.symm) X.2.2.2.1 (X.2.2.2.2.1 _ hl) (X.2.2.2.2.1 _ h2) (X.2.2.2.2.1 _ h3) (X.2.2.2.2.1 _ h4) hf hlo hcs.1 hcs.2 hd (k H locs ls a1 a2 a3 a4 a5)
theorem yq_at {ws : va_W} {x : Nat × va_E} : (ws ++ [x])[ws.length]? = some x := by simp
theorem yq_join {ws w1 : va_W} {e0 : va_E} {q : Nat} {H H1 : Heap} (hP : va_P D cl (ws ++ [(q, e0)]) H) (hD : va_D A (ws ++ [(q, e0)])) (hk : ∀ x : Nat, x < H.size → ¬ va_A [(q, e0)] H.size x → H1[x]? = H[x]?) (hF : ∀ x, va_A [(q, e0)] H.size x → A x) (hP1 : va_P D cl w1 H1) (hD1 : va_D (va_A [(q, e0)] H.size) w1) : va_P D cl (ws ++ w1) H1 ∧ va_D A (ws ++ w1) := by
  have hl : ∀ (i : Nat) (x : Nat × va_E), ws[i]? = some x → (ws ++ [(q, e0)])[i]? = some x := by
    intro i x hx
    rw [List.getElem?_append_left (List.getElem?_eq_some_iff.mp hx).1]
    exact hx
  have hn : ∀ (i : Nat) (x : Nat × va_E), ws[i]? = some x → x.1 < H.size ∧ ¬ va_A [(q, e0)] H.size x.1 := by
    intro i x hx
    have hlt := (hP i x (hl i x hx)).lt
    refine ⟨hlt, fun h => ?_⟩
    rcases h with ⟨k, e, h⟩ | h
    · have hq : x.1 = q := by
        have := List.mem_of_getElem? h
        simp at this
        exact this.1
      have := hD.1 i ws.length x (q, e0) (hl i x hx) yq_at hq
      have h2 := (List.getElem?_eq_some_iff.mp hx).1
      omega
    · omega
  refine ⟨va_P.app (fun i x hx => ?_) hP1, va_D.app ⟨fun i j x y hx hy hxy => hD.1 i j x y (hl i x hx) (hl j y hy) hxy, fun i x hx => hD.2 i x (hl i x hx)⟩ (hD1.weaken (fun k x _ h => hF x.1 h)) (fun i j x y hx hy hxy => ?_)⟩
  · obtain ⟨g1, g2⟩ := hn i x hx
    exact (hP i x (hl i x hx)).kept (hk x.1 g1 g2)
  · exact (hn i x hx).2 (by rw [hxy]; exact hD1.2 j y hy)
theorem yq_callI (X : yq_C p s m args c A Ts own cc nL) (hg : ∀ w ∈ Ts, xq_g w) {index d mc ms maxL n q : Nat} {e0 : va_E} {y : MethodName} {code : ByteArray} {As rest : List Value} {post : List (ClassId × FieldType) → va_W → Prop} (hM : ∀ sz, yq_M l D cl y (Cond.code y code maxL none :: Ts) d mc ms (.ref q :: As) [(q, e0)] sz (fun _ => True) post)
    (hcd : Cond.code y code maxL none ∈ Ts) (hl : Cond.methodLink own index y ∈ Ts) (hi : Cond.instanceMethod y ∈ Ts) (hini : Cond.initialized y.cls ∈ Ts) (hy : y.name = "<init>") (hd0 : y.cls ≠ "java/lang/invoke/MethodHandle" ∧ y.cls ≠ "java/lang/invoke/VarHandle" ∧ (parseMethodDescriptor y.desc).map (fun d => d.parameters.length) = some n) (hn : As.length = n) (hR : d + 1 ≤ R.frames ∧ 8 + (maxL + 11) + 32 * d ≤ R.locals)
    (hf : qc + mc ≤ R.cells ∧ qs + ms ≤ R.slots) (hst : (rest.map fun v => v.category).sum ≤ 8) (hs : st = As.reverse ++ .ref q :: rest) (hd : decode cc pc = .ok (.invokespecial index, 3))
    (k : ∀ tys1 w1, post tys1 w1 → yq_W p l e R s m args below meth c D cl A (tys ++ tys1) (qc + mc) (qs + ms) Q nL (pc + 3) L rest (ws ++ w1)) : yq_W p l e R s m args below meth c D cl A tys qc qs Q nL pc L st (ws ++ [(q, e0)]) := by
  intro H locs ls h1 hP hD hS hK
  subst hs
  have hts := X.2.2.2.2.1
  have hPc : va_P D cl [(q, e0)] H := hP.sub [ws.length] (by simp)
  have hDc : va_D A [(q, e0)] := hD.sub [ws.length] (by simp [va_nd]) (by simp)
  have hF : ∀ x, va_A [(q, e0)] H.size x → A x := by
    intro x h
    rcases h with ⟨k, e, h⟩ | h
    · exact hDc.2 k _ h
    · exact X.2.2.2.2.2 x (Nat.le_trans hS.1 h)
  have hB : CallB R s args own index y code maxL none (Cond.code y code maxL none :: Ts) ({ frames := d, cells := mc, slots := ms, locals := 32 * d }) mc ms n := callB_of n hts (xq_w1 hg hcd) rfl rfl rfl (hts _ hini) (hts _ hl) hd0 hR
  have hr := va_runI (p := p) (l := l) (e := e) (below := below) (meth := meth) (locs := locs) (cells := qc) (slots := qs) (g := F0 m pc ls (As.reverse ++ .ref q :: rest)) (As := As) (rest := rest) (b := q) ⟨X.1, X.2.1, X.2.2.1, X.2.2.2.1, hts⟩ (hM H.size) ⟨hB, hy, hts _ hi⟩
    ⟨fun a U g mk z => ⟨z.1, z.2.1, z.2.2.1, va_K.moved (u := U) (U := U.calling g mk a) (Vm.Alike.refl U.vm) z.2.2.2.1, z.2.2.2.2.1, trivial⟩, fun U hU hW => ⟨rfl, by rw [hU], by rw [hU]; exact hPc, va_K.moved hW.alike (hK.sub [] rfl), hDc.weaken (fun _ _ _ _ => trivial), trivial⟩⟩ rfl hn h1.1 rfl (lv_room hst) hd hf
  intro T hT X0
  obtain ⟨v, st₀, t, T', Lo, h0, X', hLo, e1, e2, ⟨⟨tys1, w1, hv, hpost, hP1, hK1, hD1⟩, hz, hk⟩, go⟩ := hr T hT X0
  cases hv
  rw [h0] at hz hk
  rw [← e1] at hP1 hz hk
  obtain ⟨hPj, hDj⟩ := yq_join hP hD hk hF hP1 hD1
  have hSj : va_S A s.heap T'.heap (locs ++ Lo) := ⟨Nat.le_trans hS.1 hz, fun x g1 g2 => by rw [hk x (Nat.lt_of_lt_of_le g1 hS.1) (fun z => g2 (hF x z))]; exact hS.2.1 x g1 g2, fun x hx => by
    rcases List.mem_append.mp hx with h | h
    · exact hS.2.2 x h
    · exact hF _ (hLo x h)⟩
  have hKj : va_K D cl (tys ++ tys1) s := hK.app (va_K.moved (by rw [← e2]; exact X'.warmed.alike.symm) hK1)
  obtain ⟨t2, a1, b1⟩ := k tys1 w1 hpost T'.heap (locs ++ Lo) ls h1 hPj hDj hSj hKj T' rfl X'
  exact ⟨t2, go t2 a1, b1⟩
end YQ
