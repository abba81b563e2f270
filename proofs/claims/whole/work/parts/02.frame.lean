/-! The frame of all later rows: a world is a list of cell names, an address for each, and a reading of a memory as cells.
xq_W: the walk of a method's body over such a world (nothing is made). xq_M: a method's contract: from memory M it answers v and leaves memory M'. -/
abbrev xq_I : Type := Nat × Nat
def xq_w {μ : Type} (cs : List xq_I) (ad : xq_I → Nat) (en : μ → xq_I → va_E) (M : μ) : va_W := cs.map (fun c => (ad c, en M c))
def xq_in (cs : List xq_I) (ad : xq_I → Nat) : Nat → Prop := fun q => ∃ c, c ∈ cs ∧ q = ad c
def xq_ap (cs : List xq_I) (ad : xq_I → Nat) : Prop := ∀ (i j : Nat) (c c' : xq_I), cs[i]? = some c → cs[j]? = some c' → ad c = ad c' → i = j
theorem xq_wat {μ : Type} {cs : List xq_I} {ad : xq_I → Nat} {en : μ → xq_I → va_E} {M : μ} {i : Nat} {c : xq_I} (h : cs[i]? = some c) : (xq_w cs ad en M)[i]? = some (ad c, en M c) := by
  unfold xq_w
  rw [List.getElem?_map, h]
  rfl
theorem xq_wof {μ : Type} {cs : List xq_I} {ad : xq_I → Nat} {en : μ → xq_I → va_E} {M : μ} {i : Nat} {q : Nat × va_E} (h : (xq_w cs ad en M)[i]? = some q) : ∃ c, cs[i]? = some c ∧ q = (ad c, en M c) := by
  unfold xq_w at h
  rw [List.getElem?_map] at h
  cases hc : cs[i]? with
  | none => rw [hc] at h; cases h
  | some c => rw [hc] at h; exact ⟨c, rfl, (Option.some.inj h).symm⟩
theorem xq_D {μ : Type} {cs : List xq_I} {ad : xq_I → Nat} {en : μ → xq_I → va_E} (h : xq_ap cs ad) (M : μ) : va_D (xq_in cs ad) (xq_w cs ad en M) := by
  refine ⟨fun i j p q hi hj hpq => ?_, fun k q hk => ?_⟩
  · obtain ⟨c, h1, h2⟩ := xq_wof hi
    obtain ⟨c', h3, h4⟩ := xq_wof hj
    subst h2; subst h4
    exact h i j c c' h1 h3 hpq
  · obtain ⟨c, h1, h2⟩ := xq_wof hk
    subst h2
    exact ⟨c, List.mem_of_getElem? h1, rfl⟩
theorem xq_set {μ : Type} {cs : List xq_I} {ad : xq_I → Nat} {en : μ → xq_I → va_E} {M M' : μ} {p : Nat} {c : xq_I} (hA : xq_ap cs ad) (hp : cs[p]? = some c) (he : ∀ c', c' ∈ cs → c' ≠ c → en M' c' = en M c') : (xq_w cs ad en M).set p (ad c, en M' c) = xq_w cs ad en M' := by
  apply List.ext_getElem?
  intro j
  by_cases hj : j = p
  · subst hj
    have hl : j < (xq_w cs ad en M).length := (List.getElem?_eq_some_iff.mp (xq_wat (ad := ad) (en := en) (M := M) hp)).1
    rw [List.getElem?_set_self hl, xq_wat hp]
  · rw [List.getElem?_set_ne (Ne.symm hj)]
    unfold xq_w
    rw [List.getElem?_map, List.getElem?_map]
    cases hc : cs[j]? with
    | none => rfl
    | some c' =>
      have hne : c' ≠ c := fun q => hj (hA j p c' c hc hp (by rw [q]))
      show some (ad c', en M c') = some (ad c', en M' c')
      rw [he c' (List.mem_of_getElem? hc) hne]
abbrev xq_r (d : Nat) : Room := { frames := d, cells := 0, slots := 0, locals := 32 * d }
section XQ
variable {μ : Type} {p : Program} {l : Launch} {e : Env} {R : Room} {s : State} {m : MethodId} {args : Array Value} {below : List Frame} {meth : Method} {c : Code} {Q : State → Prop}
variable {D : va_G} {cl : List vw_C} {tys : List (ClassId × FieldType)} {cs : List xq_I} {ad : xq_I → Nat} {en : μ → xq_I → va_E} {Ts : List Cond} {own : String} {cc : ByteArray} {nL : Nat} {ret : Option FieldType}
variable {qc qs pc : Nat} {L : List (Nat × Value)} {st : List Value} {M : μ}
/-- what stands throughout a method's body -/
def xq_C (p : Program) (s : State) (m : MethodId) (args : Array Value) (meth : Method) (c : Code) (D : va_G) (cl : List vw_C) (tys : List (ClassId × FieldType)) (cs : List xq_I) (ad : xq_I → Nat) (Ts : List Cond) (own : String) (cc : ByteArray) (nL : Nat) (ret : Option FieldType) : Prop :=
  p.tables.exec = Jvm.exec ∧ c.code = cc ∧ c.maxLocals = nL ∧ s.vm.findClass own = some m.cls ∧ (∀ w ∈ Ts, w.before args s = true) ∧ meth.sig.returnType = ret ∧ meth.locks = false ∧ va_K D cl tys s ∧ xq_ap cs ad
def xq_W (p : Program) (l : Launch) (e : Env) (R : Room) (s : State) (m : MethodId) (args : Array Value) (below : List Frame) (meth : Method) (c : Code) (D : va_G) (cl : List vw_C) (cs : List xq_I) (ad : xq_I → Nat) (en : μ → xq_I → va_E) (qc qs : Nat) (Q : State → Prop) (nL : Nat) (pc : Nat) (L : List (Nat × Value)) (st : List Value) (M : μ) : Prop :=
  ∀ (H : Heap) (locs : List Loc) (ls : Array Slot), lv_has ls nL L → va_P D cl (xq_w cs ad en M) H → va_S (xq_in cs ad) s.heap H locs → W p l e R s m args below meth c H locs qc qs Q (F0 m pc ls st)
/-- a method's end, and its contract -/
def xq_Q (D : va_G) (cl : List vw_C) (cs : List xq_I) (ad : xq_I → Nat) (en : μ → xq_I → va_E) (v : Option Value) (M' : μ) : Array Value → State → Outcome → State → Prop :=
  fun _ st o t => o = .returned v ∧ va_P D cl (xq_w cs ad en M') t.heap ∧ va_F (xq_in cs ad) st t
def xq_P (D : va_G) (cl : List vw_C) (tys : List (ClassId × FieldType)) (cs : List xq_I) (ad : xq_I → Nat) (en : μ → xq_I → va_E) (As : List Value) (M : μ) : Array Value → State → Prop :=
  va_Pc As (fun U => va_P D cl (xq_w cs ad en M) U.heap ∧ va_K D cl tys U)
def xq_M (l : Launch) (D : va_G) (cl : List vw_C) (tys : List (ClassId × FieldType)) (cs : List xq_I) (ad : xq_I → Nat) (en : μ → xq_I → va_E) (y : MethodName) (ws : List Cond) (d : Nat) (As : List Value) (M : μ) (v : Option Value) (M' : μ) : Prop :=
  Met l y ws (xq_r d) (xq_P D cl tys cs ad en As M) (xq_Q D cl cs ad en v M') 0 0 (xq_in cs ad)
theorem xq_blind {As : List Value} : FrameBlind (xq_P D cl tys cs ad en As M) := by
  intro a U g mk h
  obtain ⟨h1, h2, h3⟩ := h
  exact ⟨h1, h2, va_K.moved (u := U) (U := U.calling g mk a) (Vm.Alike.refl U.vm) h3⟩
/-- from a body's walk to the contract -/
theorem xq_met {y : MethodName} {ws' : List Cond} {d maxL : Nat} {As : List Value} {v : Option Value} {M' : μ} (hy : plainName y.cls = true) (hl : (lg_sl As).length ≤ maxL) (hap : xq_ap cs ad)
    (body : ∀ (p : Program) (e : Env) (s : State) (m : MethodId) (args : Array Value) (below : List Frame) (meth : Method) (c : Code), xq_C p s m args meth c D cl tys cs ad ws' y.cls cc maxL ret → xq_W p l e (xq_r d) s m args below meth c D cl cs ad en 0 0 (MQ below (xq_Q D cl cs ad en v M') args s 0 0 (xq_in cs ad)) maxL 0 (lv_args 0 As) [] M) :
    xq_M l D cl tys cs ad en y (Cond.code y cc maxL ret :: ws') d As M v M' := by
  refine Met.ofW (cc := cc) (maxL := maxL) (ret := ret) hy rfl ?_
  intro p e s m args below meth c s₁ B hml hv
  obtain ⟨rfl, hP, hK⟩ := hv
  have hx := B.exec
  have hb := B.bytes
  have hr := B.returns
  have hts := atoms_spec (ws := Cond.code y cc maxL ret :: ws') B.pre
  have hown : s.vm.findClass y.cls = some m.cls := findClass_of_methodNamed B.named
  have hlocks := B.notSynchronized
  rw [lg_entry_eq]
  exact body p e s m _ below meth c ⟨hx, hb, hml, hown, fun w hw => hts w (List.mem_cons_of_mem _ hw), hr, hlocks, hK, hap⟩ _ _ _ (lv_entry As hl) hP va_S.rf
theorem xq_iconst (X : xq_C p s m args meth c D cl tys cs ad Ts own cc nL ret) {n : Int} {v : Int32} (hd : decode cc pc = .ok (.iconst n, 1)) (hv : Int32.ofInt n = v)
    (k : xq_W p l e R s m args below meth c D cl cs ad en qc qs Q nL (pc + 1) L (.int v :: st) M) : xq_W p l e R s m args below meth c D cl cs ad en qc qs Q nL pc L st M :=
  fun H locs ls h1 h2 h3 => lv_iconst X.1 X.2.1 hd hv (k H locs ls h1 h2 h3)
theorem xq_bipush (X : xq_C p s m args meth c D cl tys cs ad Ts own cc nL ret) {n : Int} {v : Int32} (hd : decode cc pc = .ok (.bipush n, 2)) (hv : (Int8.ofInt n).toInt32 = v)
    (k : xq_W p l e R s m args below meth c D cl cs ad en qc qs Q nL (pc + 2) L (.int v :: st) M) : xq_W p l e R s m args below meth c D cl cs ad en qc qs Q nL pc L st M :=
  fun H locs ls h1 h2 h3 => lv_bipush X.1 X.2.1 hd hv (k H locs ls h1 h2 h3)
theorem xq_sipush (X : xq_C p s m args meth c D cl tys cs ad Ts own cc nL ret) {n : Int} {v : Int32} (hd : decode cc pc = .ok (.sipush n, 3)) (hv : (Int16.ofInt n).toInt32 = v)
    (k : xq_W p l e R s m args below meth c D cl cs ad en qc qs Q nL (pc + 3) L (.int v :: st) M) : xq_W p l e R s m args below meth c D cl cs ad en qc qs Q nL pc L st M :=
  fun H locs ls h1 h2 h3 => lv_sipush X.1 X.2.1 hd hv (k H locs ls h1 h2 h3)
theorem xq_ldc (X : xq_C p s m args meth c D cl tys cs ad Ts own cc nL ret) {index : Nat} {v : Int32} (hw : Cond.constant own index v ∈ Ts) (hd : decode cc pc = .ok (.ldc index, 2))
    (k : xq_W p l e R s m args below meth c D cl cs ad en qc qs Q nL (pc + 2) L (.int v :: st) M) : xq_W p l e R s m args below meth c D cl cs ad en qc qs Q nL pc L st M :=
  fun H locs ls h1 h2 h3 => lv_ldc X.1 X.2.1 X.2.2.2.1 (X.2.2.2.2.1 _ hw) hd (k H locs ls h1 h2 h3)
theorem xq_iload_n (X : xq_C p s m args meth c D cl tys cs ad Ts own cc nL ret) {n : Fin 4} {i : Nat} {x : Int32} (hd : decode cc pc = .ok (.iload_n n, 1)) (j : Nat) (hL : L[j]? = some (i, .int x)) (hi : (n : Nat) = i)
    (k : xq_W p l e R s m args below meth c D cl cs ad en qc qs Q nL (pc + 1) L (.int x :: st) M) : xq_W p l e R s m args below meth c D cl cs ad en qc qs Q nL pc L st M :=
  fun H locs ls h1 h2 h3 => lv_iload_n X.1 X.2.1 hd hi (lv_at h1 j hL) (k H locs ls h1 h2 h3)
theorem xq_iload (X : xq_C p s m args meth c D cl tys cs ad Ts own cc nL ret) {i : Nat} {x : Int32} (hd : decode cc pc = .ok (.iload i, 2)) (j : Nat) (hL : L[j]? = some (i, .int x))
    (k : xq_W p l e R s m args below meth c D cl cs ad en qc qs Q nL (pc + 2) L (.int x :: st) M) : xq_W p l e R s m args below meth c D cl cs ad en qc qs Q nL pc L st M :=
  fun H locs ls h1 h2 h3 => lv_iload X.1 X.2.1 hd (lv_at h1 j hL) (k H locs ls h1 h2 h3)
theorem xq_aload_n (X : xq_C p s m args meth c D cl tys cs ad Ts own cc nL ret) {n : Fin 4} {i x : Nat} (hd : decode cc pc = .ok (.aload_n n, 1)) (j : Nat) (hL : L[j]? = some (i, .ref x)) (hi : (n : Nat) = i)
    (k : xq_W p l e R s m args below meth c D cl cs ad en qc qs Q nL (pc + 1) L (.ref x :: st) M) : xq_W p l e R s m args below meth c D cl cs ad en qc qs Q nL pc L st M :=
  fun H locs ls h1 h2 h3 => lv_aload_n X.1 X.2.1 hd hi (lv_at h1 j hL) (k H locs ls h1 h2 h3)
theorem xq_aload (X : xq_C p s m args meth c D cl tys cs ad Ts own cc nL ret) {i x : Nat} (hd : decode cc pc = .ok (.aload i, 2)) (j : Nat) (hL : L[j]? = some (i, .ref x))
    (k : xq_W p l e R s m args below meth c D cl cs ad en qc qs Q nL (pc + 2) L (.ref x :: st) M) : xq_W p l e R s m args below meth c D cl cs ad en qc qs Q nL pc L st M :=
  fun H locs ls h1 h2 h3 => lv_aload X.1 X.2.1 hd (lv_at h1 j hL) (k H locs ls h1 h2 h3)
theorem xq_istore_n (X : xq_C p s m args meth c D cl tys cs ad Ts own cc nL ret) {n : Fin 4} {i : Nat} {x : Int32} (hd : decode cc pc = .ok (.istore_n n, 1)) (L' : List (Nat × Value)) (hL : (i, Value.int x) :: L.filter (fun q => !(q.1 == i) && !(q.1 + 1 == i && q.2.category == 2)) = L') (hi : (n : Nat) = i) (hn : i < nL)
    (k : xq_W p l e R s m args below meth c D cl cs ad en qc qs Q nL (pc + 1) L' st M) : xq_W p l e R s m args below meth c D cl cs ad en qc qs Q nL pc L (.int x :: st) M :=
  fun H locs ls h1 h2 h3 => lv_istore_n X.1 X.2.1 hd hi h1 hn hL (fun ls' h => k H locs ls' h h2 h3)
theorem xq_istore (X : xq_C p s m args meth c D cl tys cs ad Ts own cc nL ret) {i : Nat} {x : Int32} (hd : decode cc pc = .ok (.istore i, 2)) (L' : List (Nat × Value)) (hL : (i, Value.int x) :: L.filter (fun q => !(q.1 == i) && !(q.1 + 1 == i && q.2.category == 2)) = L') (hn : i < nL)
    (k : xq_W p l e R s m args below meth c D cl cs ad en qc qs Q nL (pc + 2) L' st M) : xq_W p l e R s m args below meth c D cl cs ad en qc qs Q nL pc L (.int x :: st) M :=
  fun H locs ls h1 h2 h3 => lv_istore X.1 X.2.1 hd h1 hn hL (fun ls' h => k H locs ls' h h2 h3)
theorem xq_astore_n (X : xq_C p s m args meth c D cl tys cs ad Ts own cc nL ret) {n : Fin 4} {i : Nat} {x : Nat} (hd : decode cc pc = .ok (.astore_n n, 1)) (L' : List (Nat × Value)) (hL : (i, Value.ref x) :: L.filter (fun q => !(q.1 == i) && !(q.1 + 1 == i && q.2.category == 2)) = L') (hi : (n : Nat) = i) (hn : i < nL)
    (k : xq_W p l e R s m args below meth c D cl cs ad en qc qs Q nL (pc + 1) L' st M) : xq_W p l e R s m args below meth c D cl cs ad en qc qs Q nL pc L (.ref x :: st) M :=
  fun H locs ls h1 h2 h3 => lv_astore_n X.1 X.2.1 hd hi h1 hn hL (fun ls' h => k H locs ls' h h2 h3)
theorem xq_astore (X : xq_C p s m args meth c D cl tys cs ad Ts own cc nL ret) {i : Nat} {x : Nat} (hd : decode cc pc = .ok (.astore i, 2)) (L' : List (Nat × Value)) (hL : (i, Value.ref x) :: L.filter (fun q => !(q.1 == i) && !(q.1 + 1 == i && q.2.category == 2)) = L') (hn : i < nL)
    (k : xq_W p l e R s m args below meth c D cl cs ad en qc qs Q nL (pc + 2) L' st M) : xq_W p l e R s m args below meth c D cl cs ad en qc qs Q nL pc L (.ref x :: st) M :=
  fun H locs ls h1 h2 h3 => lv_astore X.1 X.2.1 hd h1 hn hL (fun ls' h => k H locs ls' h h2 h3)
theorem xq_astore_nN (X : xq_C p s m args meth c D cl tys cs ad Ts own cc nL ret) {n : Fin 4} {i : Nat} (hd : decode cc pc = .ok (.astore_n n, 1)) (L' : List (Nat × Value)) (hL : (i, Value.null) :: L.filter (fun q => !(q.1 == i) && !(q.1 + 1 == i && q.2.category == 2)) = L') (hi : (n : Nat) = i) (hn : i < nL)
    (k : xq_W p l e R s m args below meth c D cl cs ad en qc qs Q nL (pc + 1) L' st M) : xq_W p l e R s m args below meth c D cl cs ad en qc qs Q nL pc L (.null :: st) M :=
  fun H locs ls h1 h2 h3 => lv_astore_nN X.1 X.2.1 hd hi h1 hn hL (fun ls' h => k H locs ls' h h2 h3)
theorem xq_aload_nN (X : xq_C p s m args meth c D cl tys cs ad Ts own cc nL ret) {n : Fin 4} {i : Nat} (hd : decode cc pc = .ok (.aload_n n, 1)) (j : Nat) (hL : L[j]? = some (i, .null)) (hi : (n : Nat) = i)
    (k : xq_W p l e R s m args below meth c D cl cs ad en qc qs Q nL (pc + 1) L (.null :: st) M) : xq_W p l e R s m args below meth c D cl cs ad en qc qs Q nL pc L st M :=
  fun H locs ls h1 h2 h3 => lv_aload_nN X.1 X.2.1 hd hi (lv_at h1 j hL) (k H locs ls h1 h2 h3)
theorem xq_iinc (X : xq_C p s m args meth c D cl tys cs ad Ts own cc nL ret) {i : Nat} {n : Int} {x v : Int32} (hd : decode cc pc = .ok (.iinc i n, 3)) (j : Nat) (hj : L[j]? = some (i, .int x)) (L' : List (Nat × Value)) (hL : (i, Value.int v) :: L.filter (fun q => !(q.1 == i) && !(q.1 + 1 == i && q.2.category == 2)) = L') (hv : x + Int32.ofInt n = v) (hn : i < nL)
    (k : xq_W p l e R s m args below meth c D cl cs ad en qc qs Q nL (pc + 3) L' st M) : xq_W p l e R s m args below meth c D cl cs ad en qc qs Q nL pc L st M :=
  fun H locs ls h1 h2 h3 => lv_iinc X.1 X.2.1 hd h1 hj hv hn hL (fun ls' h => k H locs ls' h h2 h3)
theorem xq_iadd (X : xq_C p s m args meth c D cl tys cs ad Ts own cc nL ret) {x y : Int32} (hd : decode cc pc = .ok (.iadd, 1))
    (k : xq_W p l e R s m args below meth c D cl cs ad en qc qs Q nL (pc + 1) L (.int (x + y) :: st) M) : xq_W p l e R s m args below meth c D cl cs ad en qc qs Q nL pc L (.int y :: .int x :: st) M :=
  fun H locs ls h1 h2 h3 => lv_iadd X.1 X.2.1 hd (k H locs ls h1 h2 h3)
theorem xq_isub (X : xq_C p s m args meth c D cl tys cs ad Ts own cc nL ret) {x y : Int32} (hd : decode cc pc = .ok (.isub, 1))
    (k : xq_W p l e R s m args below meth c D cl cs ad en qc qs Q nL (pc + 1) L (.int (x - y) :: st) M) : xq_W p l e R s m args below meth c D cl cs ad en qc qs Q nL pc L (.int y :: .int x :: st) M :=
  fun H locs ls h1 h2 h3 => lv_isub X.1 X.2.1 hd (k H locs ls h1 h2 h3)
theorem xq_imul (X : xq_C p s m args meth c D cl tys cs ad Ts own cc nL ret) {x y : Int32} (hd : decode cc pc = .ok (.imul, 1))
    (k : xq_W p l e R s m args below meth c D cl cs ad en qc qs Q nL (pc + 1) L (.int (x * y) :: st) M) : xq_W p l e R s m args below meth c D cl cs ad en qc qs Q nL pc L (.int y :: .int x :: st) M :=
  fun H locs ls h1 h2 h3 => lv_imul X.1 X.2.1 hd (k H locs ls h1 h2 h3)
theorem xq_iand (X : xq_C p s m args meth c D cl tys cs ad Ts own cc nL ret) {x y : Int32} (hd : decode cc pc = .ok (.iand, 1))
    (k : xq_W p l e R s m args below meth c D cl cs ad en qc qs Q nL (pc + 1) L (.int (x &&& y) :: st) M) : xq_W p l e R s m args below meth c D cl cs ad en qc qs Q nL pc L (.int y :: .int x :: st) M :=
  fun H locs ls h1 h2 h3 => lv_iand X.1 X.2.1 hd (k H locs ls h1 h2 h3)
theorem xq_ior (X : xq_C p s m args meth c D cl tys cs ad Ts own cc nL ret) {x y : Int32} (hd : decode cc pc = .ok (.ior, 1))
    (k : xq_W p l e R s m args below meth c D cl cs ad en qc qs Q nL (pc + 1) L (.int (x ||| y) :: st) M) : xq_W p l e R s m args below meth c D cl cs ad en qc qs Q nL pc L (.int y :: .int x :: st) M :=
  fun H locs ls h1 h2 h3 => lv_ior X.1 X.2.1 hd (k H locs ls h1 h2 h3)
theorem xq_ixor (X : xq_C p s m args meth c D cl tys cs ad Ts own cc nL ret) {x y : Int32} (hd : decode cc pc = .ok (.ixor, 1))
    (k : xq_W p l e R s m args below meth c D cl cs ad en qc qs Q nL (pc + 1) L (.int (x ^^^ y) :: st) M) : xq_W p l e R s m args below meth c D cl cs ad en qc qs Q nL pc L (.int y :: .int x :: st) M :=
  fun H locs ls h1 h2 h3 => lv_ixor X.1 X.2.1 hd (k H locs ls h1 h2 h3)
theorem xq_ishl (X : xq_C p s m args meth c D cl tys cs ad Ts own cc nL ret) {x y : Int32} (hd : decode cc pc = .ok (.ishl, 1))
    (k : xq_W p l e R s m args below meth c D cl cs ad en qc qs Q nL (pc + 1) L (.int (x <<< (y &&& 31)) :: st) M) : xq_W p l e R s m args below meth c D cl cs ad en qc qs Q nL pc L (.int y :: .int x :: st) M :=
  fun H locs ls h1 h2 h3 => lv_ishl X.1 X.2.1 hd (k H locs ls h1 h2 h3)
theorem xq_idiv (X : xq_C p s m args meth c D cl tys cs ad Ts own cc nL ret) {x y : Int32} (hd : decode cc pc = .ok (.idiv, 1)) (hy : ¬ y = 0)
    (k : xq_W p l e R s m args below meth c D cl cs ad en qc qs Q nL (pc + 1) L (.int (x / y) :: st) M) : xq_W p l e R s m args below meth c D cl cs ad en qc qs Q nL pc L (.int y :: .int x :: st) M :=
  fun H locs ls h1 h2 h3 => lv_idiv X.1 X.2.1 hd hy (k H locs ls h1 h2 h3)
theorem xq_dup (X : xq_C p s m args meth c D cl tys cs ad Ts own cc nL ret) {v : Value} (hd : decode cc pc = .ok (.dup, 1)) (hv : v.category = 1)
    (k : xq_W p l e R s m args below meth c D cl cs ad en qc qs Q nL (pc + 1) L (v :: v :: st) M) : xq_W p l e R s m args below meth c D cl cs ad en qc qs Q nL pc L (v :: st) M :=
  fun H locs ls h1 h2 h3 => lv_dup X.1 X.2.1 hd hv (k H locs ls h1 h2 h3)
theorem xq_pop (X : xq_C p s m args meth c D cl tys cs ad Ts own cc nL ret) {v : Value} (hd : decode cc pc = .ok (.pop, 1)) (hv : v.category = 1)
    (k : xq_W p l e R s m args below meth c D cl cs ad en qc qs Q nL (pc + 1) L st M) : xq_W p l e R s m args below meth c D cl cs ad en qc qs Q nL pc L (v :: st) M :=
  fun H locs ls h1 h2 h3 => lv_pop X.1 X.2.1 hd hv (k H locs ls h1 h2 h3)
theorem xq_if_eq (X : xq_C p s m args meth c D cl tys cs ad Ts own cc nL ret) {x : Int32} {off : Int} (hd : decode cc pc = .ok (.ifCond .eq off, 3)) (tgt : Nat) (ht : (pc : Int) + off = (tgt : Int))
    (kt : x = 0 → xq_W p l e R s m args below meth c D cl cs ad en qc qs Q nL tgt L st M) (kf : ¬ x = 0 → xq_W p l e R s m args below meth c D cl cs ad en qc qs Q nL (pc + 3) L st M) : xq_W p l e R s m args below meth c D cl cs ad en qc qs Q nL pc L (.int x :: st) M :=
  fun H locs ls h1 h2 h3 => lv_if_eq X.1 X.2.1 hd ht (fun h => kt h H locs ls h1 h2 h3) (fun h => kf h H locs ls h1 h2 h3)
theorem xq_icmp_eq (X : xq_C p s m args meth c D cl tys cs ad Ts own cc nL ret) {x y : Int32} {off : Int} (hd : decode cc pc = .ok (.if_icmp .eq off, 3)) (tgt : Nat) (ht : (pc : Int) + off = (tgt : Int))
    (kt : x = y → xq_W p l e R s m args below meth c D cl cs ad en qc qs Q nL tgt L st M) (kf : ¬ x = y → xq_W p l e R s m args below meth c D cl cs ad en qc qs Q nL (pc + 3) L st M) : xq_W p l e R s m args below meth c D cl cs ad en qc qs Q nL pc L (.int y :: .int x :: st) M :=
  fun H locs ls h1 h2 h3 => lv_icmp_eq X.1 X.2.1 hd ht (fun h => kt h H locs ls h1 h2 h3) (fun h => kf h H locs ls h1 h2 h3)
theorem xq_if_ne (X : xq_C p s m args meth c D cl tys cs ad Ts own cc nL ret) {x : Int32} {off : Int} (hd : decode cc pc = .ok (.ifCond .ne off, 3)) (tgt : Nat) (ht : (pc : Int) + off = (tgt : Int))
    (kt : ¬ x = 0 → xq_W p l e R s m args below meth c D cl cs ad en qc qs Q nL tgt L st M) (kf : x = 0 → xq_W p l e R s m args below meth c D cl cs ad en qc qs Q nL (pc + 3) L st M) : xq_W p l e R s m args below meth c D cl cs ad en qc qs Q nL pc L (.int x :: st) M :=
  fun H locs ls h1 h2 h3 => lv_if_ne X.1 X.2.1 hd ht (fun h => kt h H locs ls h1 h2 h3) (fun h => kf h H locs ls h1 h2 h3)
theorem xq_icmp_ne (X : xq_C p s m args meth c D cl tys cs ad Ts own cc nL ret) {x y : Int32} {off : Int} (hd : decode cc pc = .ok (.if_icmp .ne off, 3)) (tgt : Nat) (ht : (pc : Int) + off = (tgt : Int))
    (kt : ¬ x = y → xq_W p l e R s m args below meth c D cl cs ad en qc qs Q nL tgt L st M) (kf : x = y → xq_W p l e R s m args below meth c D cl cs ad en qc qs Q nL (pc + 3) L st M) : xq_W p l e R s m args below meth c D cl cs ad en qc qs Q nL pc L (.int y :: .int x :: st) M :=
  fun H locs ls h1 h2 h3 => lv_icmp_ne X.1 X.2.1 hd ht (fun h => kt h H locs ls h1 h2 h3) (fun h => kf h H locs ls h1 h2 h3)
theorem xq_if_lt (X : xq_C p s m args meth c D cl tys cs ad Ts own cc nL ret) {x : Int32} {off : Int} (hd : decode cc pc = .ok (.ifCond .lt off, 3)) (tgt : Nat) (ht : (pc : Int) + off = (tgt : Int))
    (kt : x < 0 → xq_W p l e R s m args below meth c D cl cs ad en qc qs Q nL tgt L st M) (kf : ¬ x < 0 → xq_W p l e R s m args below meth c D cl cs ad en qc qs Q nL (pc + 3) L st M) : xq_W p l e R s m args below meth c D cl cs ad en qc qs Q nL pc L (.int x :: st) M :=
  fun H locs ls h1 h2 h3 => lv_if_lt X.1 X.2.1 hd ht (fun h => kt h H locs ls h1 h2 h3) (fun h => kf h H locs ls h1 h2 h3)
theorem xq_icmp_lt (X : xq_C p s m args meth c D cl tys cs ad Ts own cc nL ret) {x y : Int32} {off : Int} (hd : decode cc pc = .ok (.if_icmp .lt off, 3)) (tgt : Nat) (ht : (pc : Int) + off = (tgt : Int))
    (kt : x < y → xq_W p l e R s m args below meth c D cl cs ad en qc qs Q nL tgt L st M) (kf : ¬ x < y → xq_W p l e R s m args below meth c D cl cs ad en qc qs Q nL (pc + 3) L st M) : xq_W p l e R s m args below meth c D cl cs ad en qc qs Q nL pc L (.int y :: .int x :: st) M :=
  fun H locs ls h1 h2 h3 => lv_icmp_lt X.1 X.2.1 hd ht (fun h => kt h H locs ls h1 h2 h3) (fun h => kf h H locs ls h1 h2 h3)
theorem xq_if_ge (X : xq_C p s m args meth c D cl tys cs ad Ts own cc nL ret) {x : Int32} {off : Int} (hd : decode cc pc = .ok (.ifCond .ge off, 3)) (tgt : Nat) (ht : (pc : Int) + off = (tgt : Int))
    (kt : 0 ≤ x → xq_W p l e R s m args below meth c D cl cs ad en qc qs Q nL tgt L st M) (kf : ¬ 0 ≤ x → xq_W p l e R s m args below meth c D cl cs ad en qc qs Q nL (pc + 3) L st M) : xq_W p l e R s m args below meth c D cl cs ad en qc qs Q nL pc L (.int x :: st) M :=
  fun H locs ls h1 h2 h3 => lv_if_ge X.1 X.2.1 hd ht (fun h => kt h H locs ls h1 h2 h3) (fun h => kf h H locs ls h1 h2 h3)
theorem xq_icmp_ge (X : xq_C p s m args meth c D cl tys cs ad Ts own cc nL ret) {x y : Int32} {off : Int} (hd : decode cc pc = .ok (.if_icmp .ge off, 3)) (tgt : Nat) (ht : (pc : Int) + off = (tgt : Int))
    (kt : y ≤ x → xq_W p l e R s m args below meth c D cl cs ad en qc qs Q nL tgt L st M) (kf : ¬ y ≤ x → xq_W p l e R s m args below meth c D cl cs ad en qc qs Q nL (pc + 3) L st M) : xq_W p l e R s m args below meth c D cl cs ad en qc qs Q nL pc L (.int y :: .int x :: st) M :=
  fun H locs ls h1 h2 h3 => lv_icmp_ge X.1 X.2.1 hd ht (fun h => kt h H locs ls h1 h2 h3) (fun h => kf h H locs ls h1 h2 h3)
theorem xq_if_gt (X : xq_C p s m args meth c D cl tys cs ad Ts own cc nL ret) {x : Int32} {off : Int} (hd : decode cc pc = .ok (.ifCond .gt off, 3)) (tgt : Nat) (ht : (pc : Int) + off = (tgt : Int))
    (kt : 0 < x → xq_W p l e R s m args below meth c D cl cs ad en qc qs Q nL tgt L st M) (kf : ¬ 0 < x → xq_W p l e R s m args below meth c D cl cs ad en qc qs Q nL (pc + 3) L st M) : xq_W p l e R s m args below meth c D cl cs ad en qc qs Q nL pc L (.int x :: st) M :=
  fun H locs ls h1 h2 h3 => lv_if_gt X.1 X.2.1 hd ht (fun h => kt h H locs ls h1 h2 h3) (fun h => kf h H locs ls h1 h2 h3)
theorem xq_icmp_gt (X : xq_C p s m args meth c D cl tys cs ad Ts own cc nL ret) {x y : Int32} {off : Int} (hd : decode cc pc = .ok (.if_icmp .gt off, 3)) (tgt : Nat) (ht : (pc : Int) + off = (tgt : Int))
    (kt : y < x → xq_W p l e R s m args below meth c D cl cs ad en qc qs Q nL tgt L st M) (kf : ¬ y < x → xq_W p l e R s m args below meth c D cl cs ad en qc qs Q nL (pc + 3) L st M) : xq_W p l e R s m args below meth c D cl cs ad en qc qs Q nL pc L (.int y :: .int x :: st) M :=
  fun H locs ls h1 h2 h3 => lv_icmp_gt X.1 X.2.1 hd ht (fun h => kt h H locs ls h1 h2 h3) (fun h => kf h H locs ls h1 h2 h3)
theorem xq_if_le (X : xq_C p s m args meth c D cl tys cs ad Ts own cc nL ret) {x : Int32} {off : Int} (hd : decode cc pc = .ok (.ifCond .le off, 3)) (tgt : Nat) (ht : (pc : Int) + off = (tgt : Int))
    (kt : x ≤ 0 → xq_W p l e R s m args below meth c D cl cs ad en qc qs Q nL tgt L st M) (kf : ¬ x ≤ 0 → xq_W p l e R s m args below meth c D cl cs ad en qc qs Q nL (pc + 3) L st M) : xq_W p l e R s m args below meth c D cl cs ad en qc qs Q nL pc L (.int x :: st) M :=
  fun H locs ls h1 h2 h3 => lv_if_le X.1 X.2.1 hd ht (fun h => kt h H locs ls h1 h2 h3) (fun h => kf h H locs ls h1 h2 h3)
theorem xq_icmp_le (X : xq_C p s m args meth c D cl tys cs ad Ts own cc nL ret) {x y : Int32} {off : Int} (hd : decode cc pc = .ok (.if_icmp .le off, 3)) (tgt : Nat) (ht : (pc : Int) + off = (tgt : Int))
    (kt : x ≤ y → xq_W p l e R s m args below meth c D cl cs ad en qc qs Q nL tgt L st M) (kf : ¬ x ≤ y → xq_W p l e R s m args below meth c D cl cs ad en qc qs Q nL (pc + 3) L st M) : xq_W p l e R s m args below meth c D cl cs ad en qc qs Q nL pc L (.int y :: .int x :: st) M :=
  fun H locs ls h1 h2 h3 => lv_icmp_le X.1 X.2.1 hd ht (fun h => kt h H locs ls h1 h2 h3) (fun h => kf h H locs ls h1 h2 h3)
theorem xq_goto (X : xq_C p s m args meth c D cl tys cs ad Ts own cc nL ret) {off : Int} (hd : decode cc pc = .ok (.goto off, 3)) (tgt : Nat) (ht : (pc : Int) + off = (tgt : Int)) (k : xq_W p l e R s m args below meth c D cl cs ad en qc qs Q nL tgt L st M) : xq_W p l e R s m args below meth c D cl cs ad en qc qs Q nL pc L st M :=
  fun H locs ls h1 h2 h3 => lv_goto X.1 X.2.1 hd ht (k H locs ls h1 h2 h3)
theorem xq_ifnull (X : xq_C p s m args meth c D cl tys cs ad Ts own cc nL ret) {x : Nat} {off : Int} (hd : decode cc pc = .ok (.ifnull off, 3)) (k : xq_W p l e R s m args below meth c D cl cs ad en qc qs Q nL (pc + 3) L st M) : xq_W p l e R s m args below meth c D cl cs ad en qc qs Q nL pc L (.ref x :: st) M :=
  fun H locs ls h1 h2 h3 => lv_ifnull X.1 X.2.1 hd (k H locs ls h1 h2 h3)
theorem xq_ifnullN (X : xq_C p s m args meth c D cl tys cs ad Ts own cc nL ret) {off : Int} (hd : decode cc pc = .ok (.ifnull off, 3)) (tgt : Nat) (ht : (pc : Int) + off = (tgt : Int)) (k : xq_W p l e R s m args below meth c D cl cs ad en qc qs Q nL tgt L st M) : xq_W p l e R s m args below meth c D cl cs ad en qc qs Q nL pc L (.null :: st) M :=
  fun H locs ls h1 h2 h3 => lv_ifnullN X.1 X.2.1 hd ht (k H locs ls h1 h2 h3)
theorem xq_ifnonnull (X : xq_C p s m args meth c D cl tys cs ad Ts own cc nL ret) {x : Nat} {off : Int} (hd : decode cc pc = .ok (.ifnonnull off, 3)) (tgt : Nat) (ht : (pc : Int) + off = (tgt : Int)) (k : xq_W p l e R s m args below meth c D cl cs ad en qc qs Q nL tgt L st M) : xq_W p l e R s m args below meth c D cl cs ad en qc qs Q nL pc L (.ref x :: st) M :=
  fun H locs ls h1 h2 h3 => lv_ifnonnull X.1 X.2.1 hd ht (k H locs ls h1 h2 h3)
theorem xq_ifnonnullN (X : xq_C p s m args meth c D cl tys cs ad Ts own cc nL ret) {off : Int} (hd : decode cc pc = .ok (.ifnonnull off, 3)) (k : xq_W p l e R s m args below meth c D cl cs ad en qc qs Q nL (pc + 3) L st M) : xq_W p l e R s m args below meth c D cl cs ad en qc qs Q nL pc L (.null :: st) M :=
  fun H locs ls h1 h2 h3 => lv_ifnonnullN X.1 X.2.1 hd (k H locs ls h1 h2 h3)
theorem xq_null (X : xq_C p s m args meth c D cl tys cs ad Ts own cc nL ret) (hd : decode cc pc = .ok (.aconst_null, 1)) (k : xq_W p l e R s m args below meth c D cl cs ad en qc qs Q nL (pc + 1) L (.null :: st) M) : xq_W p l e R s m args below meth c D cl cs ad en qc qs Q nL pc L st M :=
  fun H locs ls h1 h2 h3 => lv_null X.1 X.2.1 hd (k H locs ls h1 h2 h3)
theorem xq_tableOut (X : xq_C p s m args meth c D cl tys cs ad Ts own cc nL ret) {dflt lo hi : Int} {offs : Array Int} {len : Nat} {x : Int32} (hd : decode cc pc = .ok (.tableswitch dflt lo hi offs, len)) (tgt : Nat) (h : x.toInt < lo ∨ hi < x.toInt) (ht : (pc : Int) + dflt = (tgt : Int)) (k : xq_W p l e R s m args below meth c D cl cs ad en qc qs Q nL tgt L st M) : xq_W p l e R s m args below meth c D cl cs ad en qc qs Q nL pc L (.int x :: st) M :=
  fun H locs ls h1 h2 h3 => lv_tableOut X.1 X.2.1 hd h ht (k H locs ls h1 h2 h3)
theorem xq_tableIn (X : xq_C p s m args meth c D cl tys cs ad Ts own cc nL ret) {dflt lo hi : Int} {offs : Array Int} {len : Nat} {x : Int32} {off : Int} (hd : decode cc pc = .ok (.tableswitch dflt lo hi offs, len)) (tgt : Nat) (ha : ¬ x.toInt < lo) (hb : ¬ hi < x.toInt) (ho : offs[(x.toInt - lo).toNat]? = some off) (ht : (pc : Int) + off = (tgt : Int)) (k : xq_W p l e R s m args below meth c D cl cs ad en qc qs Q nL tgt L st M) : xq_W p l e R s m args below meth c D cl cs ad en qc qs Q nL pc L (.int x :: st) M :=
  fun H locs ls h1 h2 h3 => lv_tableIn X.1 X.2.1 hd ha hb ho ht (k H locs ls h1 h2 h3)
/-- fewer locals; the top of the stack under another name; the memory under another name -/
theorem xq_sub (ks : List Nat) (L' : List (Nat × Value)) (hl : lv_pick L ks = L') (k : xq_W p l e R s m args below meth c D cl cs ad en qc qs Q nL pc L' st M) : xq_W p l e R s m args below meth c D cl cs ad en qc qs Q nL pc L st M :=
  fun H locs ls h1 h2 h3 => k H locs ls (lv_sub h1 ks hl) h2 h3
theorem xq_top {x : Int32} (y : Int32) (h : x = y) (k : xq_W p l e R s m args below meth c D cl cs ad en qc qs Q nL pc L (.int y :: st) M) : xq_W p l e R s m args below meth c D cl cs ad en qc qs Q nL pc L (.int x :: st) M := h ▸ k
theorem xq_mem {M' : μ} (h : M = M') (k : xq_W p l e R s m args below meth c D cl cs ad en qc qs Q nL pc L st M') : xq_W p l e R s m args below meth c D cl cs ad en qc qs Q nL pc L st M := h ▸ k
theorem xq_eqv {L' : List (Nat × Value)} {st' : List Value} (h1 : L = L') (h2 : st = st') (k : xq_W p l e R s m args below meth c D cl cs ad en qc qs Q nL pc L' st' M) : xq_W p l e R s m args below meth c D cl cs ad en qc qs Q nL pc L st M := by subst h1; subst h2; exact k
/-- the ends -/
theorem xq_vret (X : xq_C p s m args meth c D cl tys cs ad Ts own cc nL ret) {M' : μ} (hr : ret = none) (hM : M = M') (hd : decode cc pc = .ok (.return_, 1)) : xq_W p l e R s m args below meth c D cl cs ad en qc qs (MQ below (xq_Q D cl cs ad en none M') args s qc qs (xq_in cs ad)) nL pc L [] M := by
  subst hM
  exact fun H locs ls h1 h2 h3 => W.vret X.1 X.2.1 (X.2.2.2.2.2.1.trans hr) (fun t ht hW => ⟨rfl, by rw [ht]; exact h2, h3.F ht⟩) h3.2.2 hd X.2.2.2.2.2.2.1
theorem xq_iret (X : xq_C p s m args meth c D cl tys cs ad Ts own cc nL ret) {M' : μ} {x v : Int32} {ty : FieldType} (hr : ret = some ty) (hn : narrow ty (.int x) = .int x) (hv : x = v) (hM : M = M') (hd : decode cc pc = .ok (.ireturn, 1)) : xq_W p l e R s m args below meth c D cl cs ad en qc qs (MQ below (xq_Q D cl cs ad en (some (.int v)) M') args s qc qs (xq_in cs ad)) nL pc L [.int x] M := by
  subst hM
  subst hv
  exact fun H locs ls h1 h2 h3 => W.zret X.1 X.2.1 (X.2.2.2.2.2.1.trans hr) hn (fun t ht hW => ⟨rfl, by rw [ht]; exact h2, h3.F ht⟩) h3.2.2 hd X.2.2.2.2.2.2.1
theorem xq_aret (X : xq_C p s m args meth c D cl tys cs ad Ts own cc nL ret) {M' : μ} {x v : Value} {n : String} (hr : ret = some (.object n)) (hx : x = .null ∨ ∃ a, x = .ref a) (hv : x = v) (hM : M = M') (hd : decode cc pc = .ok (.areturn, 1)) : xq_W p l e R s m args below meth c D cl cs ad en qc qs (MQ below (xq_Q D cl cs ad en (some v) M') args s qc qs (xq_in cs ad)) nL pc L [x] M := by
  subst hM
  subst hv
  exact fun H locs ls h1 h2 h3 => W.aret X.1 X.2.1 (X.2.2.2.2.2.1.trans hr) (Or.inl ⟨_, rfl⟩) hx (fun t ht hW => ⟨rfl, by rw [ht]; exact h2, h3.F ht⟩) h3.2.2 hd X.2.2.2.2.2.2.1

/-- what the tables say of a field that a class's code names by a number: field j of class ci -/
def xq_F (Ts : List Cond) (own : String) (index : Nat) (cl : List vw_C) (ci j : Nat) : Prop := ∃ (C : String) (T : u_T) (N : Nat), cl[ci]? = some (C, T, N) ∧ (∀ w ∈ u_ws C T N, w ∈ Ts) ∧ j < N ∧ Cond.fieldLink own index (T j).1 (T j).2.1 (T j).2.2.1 ∈ Ts
def xq_T (cl : List vw_C) (ci : Nat) : Prop := ∃ (C : String) (T : u_T) (N : Nat) (ty : Nat → FieldType), cl[ci]? = some (C, T, N) ∧ (∀ k, k < N → parseFieldDescriptor (T k).2.2.1 = some (ty k)) ∧ ∀ a, a < N → ∀ b, b < N → a ≠ b → (T a).2.1 ≠ (T b).2.1
def xq_N (cl : List vw_C) (ci j : Nat) (ty : FieldType) : Prop := ∃ (C : String) (T : u_T) (N : Nat), cl[ci]? = some (C, T, N) ∧ (T j).2.2.2 = false ∧ parseFieldDescriptor (T j).2.2.1 = some ty
theorem xq_get (X : xq_C p s m args meth c D cl tys cs ad Ts own cc nL ret) {index ci j : Nat} {i : xq_I} {fs : List Value} {v : Value} (hF : xq_F Ts own index cl ci j) (hi : i ∈ cs) (he : en M i = .inr (ci, fs)) (hv : fs[j]? = some v) (hd : decode cc pc = .ok (.getfield index, 3))
    (k : xq_W p l e R s m args below meth c D cl cs ad en qc qs Q nL (pc + 3) L (v :: st) M) : xq_W p l e R s m args below meth c D cl cs ad en qc qs Q nL pc L (.ref (ad i) :: st) M := by
  obtain ⟨C, T, N, f1, f2, f3, f4⟩ := hF
  obtain ⟨q0, hq⟩ := List.getElem?_of_mem hi
  intro H locs ls h1 h2 h3
  exact va_get X.1 X.2.1 X.2.2.2.2.1 f2 X.2.2.2.1 X.2.2.2.2.2.2.2.1 h2 q0 ((xq_wat hq).trans (by rw [he])) f1 j f3 (X.2.2.2.2.1 _ f4) (fun _ h => h) hv hd (k H locs ls h1 h2 h3)
theorem xq_put (X : xq_C p s m args meth c D cl tys cs ad Ts own cc nL ret) {index ci j : Nat} {ty : FieldType} {i : xq_I} {fs : List Value} {v : Value} {M' : μ} (hF : xq_F Ts own index cl ci j) (hT : xq_T cl ci) (hN : xq_N cl ci j ty) (hi : i ∈ cs) (he : en M i = .inr (ci, fs)) (hl : j < fs.length) (hn : narrow ty v = v) (hf : fits ty v = true)
    (he' : en M' i = .inr (ci, fs.set j v)) (ho : ∀ i', i' ∈ cs → i' ≠ i → en M' i' = en M i') (hd : decode cc pc = .ok (.putfield index, 3))
    (k : xq_W p l e R s m args below meth c D cl cs ad en qc qs Q nL (pc + 3) L st M') : xq_W p l e R s m args below meth c D cl cs ad en qc qs Q nL pc L (v :: .ref (ad i) :: st) M := by
  obtain ⟨C, T, N, f1, f2, f3, f4⟩ := hF
  obtain ⟨C2, T2, N2, ty0, g1, g2, g3⟩ := hT
  obtain ⟨C3, T3, N3, n1, n2, n3⟩ := hN
  cases f1.symm.trans g1
  cases f1.symm.trans n1
  obtain ⟨q0, hq⟩ := List.getElem?_of_mem hi
  intro H locs ls h1 h2 h3
  refine va_put X.1 X.2.1 X.2.2.2.2.1 f2 ty0 g2 g3 X.2.2.2.1 X.2.2.2.2.2.2.2.1 h2 (xq_D X.2.2.2.2.2.2.2.2 M) h3 q0 ((xq_wat hq).trans (by rw [he])) f1 j f3 (X.2.2.2.2.1 _ f4) (fun _ h => h) n2 n3 hn hf hl hd (fun H1 locs1 p1 _ p3 => ?_)
  rw [← he', xq_set X.2.2.2.2.2.2.2.2 hq ho] at p1
  exact k H1 locs1 ls h1 p1 p3
/-- arrays -/
theorem xq_iald (X : xq_C p s m args meth c D cl tys cs ad Ts own cc nL ret) {i : xq_I} {t0 : Nat} {cA : ClassId} {n : Nat} {f : Nat → Int32} {x v : Int32} (hi : i ∈ cs) (ht : tys[t0]? = some (cA, .int)) (he : en M i = .inl (cA, n, .inl f)) (hx : vp_in x n) (hv : f x.toNatClampNeg = v) (hd : decode cc pc = .ok (.iaload, 1))
    (k : xq_W p l e R s m args below meth c D cl cs ad en qc qs Q nL (pc + 1) L (.int v :: st) M) : xq_W p l e R s m args below meth c D cl cs ad en qc qs Q nL pc L (.int x :: .ref (ad i) :: st) M := by
  subst hv
  obtain ⟨q0, hq⟩ := List.getElem?_of_mem hi
  exact fun H locs ls h1 h2 h3 => va_iald X.1 X.2.1 X.2.2.2.2.2.2.2.1 h2 q0 t0 ((xq_wat hq).trans (by rw [he])) ht hx hd (k H locs ls h1 h2 h3)
theorem xq_zald (X : xq_C p s m args meth c D cl tys cs ad Ts own cc nL ret) {i : xq_I} {t0 : Nat} {cA : ClassId} {n : Nat} {f : Nat → Int32} {x v : Int32} (hi : i ∈ cs) (ht : tys[t0]? = some (cA, .boolean)) (he : en M i = .inl (cA, n, .inl f)) (hx : vp_in x n) (hv : f x.toNatClampNeg = v) (hd : decode cc pc = .ok (.baload, 1))
    (k : xq_W p l e R s m args below meth c D cl cs ad en qc qs Q nL (pc + 1) L (.int v :: st) M) : xq_W p l e R s m args below meth c D cl cs ad en qc qs Q nL pc L (.int x :: .ref (ad i) :: st) M := by
  subst hv
  obtain ⟨q0, hq⟩ := List.getElem?_of_mem hi
  exact fun H locs ls h1 h2 h3 => va_zald X.1 X.2.1 X.2.2.2.2.2.2.2.1 h2 q0 t0 ((xq_wat hq).trans (by rw [he])) ht hx hd (k H locs ls h1 h2 h3)
theorem xq_aald (X : xq_C p s m args meth c D cl tys cs ad Ts own cc nL ret) {i : xq_I} {t0 : Nat} {cA : ClassId} {n : Nat} {C : String} {f : Nat → Option Nat} {x : Int32} {v : Value} (hi : i ∈ cs) (ht : tys[t0]? = some (cA, .object C)) (he : en M i = .inl (cA, n, .inr (.inr (.inr (.inr f))))) (hx : vp_in x n) (hv : va_rf (f x.toNatClampNeg) = v) (hd : decode cc pc = .ok (.aaload, 1))
    (k : xq_W p l e R s m args below meth c D cl cs ad en qc qs Q nL (pc + 1) L (v :: st) M) : xq_W p l e R s m args below meth c D cl cs ad en qc qs Q nL pc L (.int x :: .ref (ad i) :: st) M := by
  subst hv
  obtain ⟨q0, hq⟩ := List.getElem?_of_mem hi
  exact fun H locs ls h1 h2 h3 => va_aldq X.1 X.2.1 X.2.2.2.2.2.2.2.1 h2 q0 t0 ((xq_wat hq).trans (by rw [he])) ht hx hd (k H locs ls h1 h2 h3)
theorem xq_alen (X : xq_C p s m args meth c D cl tys cs ad Ts own cc nL ret) {i : xq_I} {t0 : Nat} {cA : ClassId} {x : vp_A} {ty : FieldType} {v : Int32} (hi : i ∈ cs) (ht : tys[t0]? = some (cA, ty)) (he : en M i = .inl (cA, x)) (hv : Int32.ofNat x.1 = v) (hd : decode cc pc = .ok (.arraylength, 1))
    (k : xq_W p l e R s m args below meth c D cl cs ad en qc qs Q nL (pc + 1) L (.int v :: st) M) : xq_W p l e R s m args below meth c D cl cs ad en qc qs Q nL pc L (.ref (ad i) :: st) M := by
  obtain ⟨q0, hq⟩ := List.getElem?_of_mem hi
  exact fun H locs ls h1 h2 h3 => va_alen X.1 X.2.1 X.2.2.2.2.2.2.2.1 h2 q0 t0 ((xq_wat hq).trans (by rw [he])) ht hv hd (k H locs ls h1 h2 h3)
theorem xq_iast (X : xq_C p s m args meth c D cl tys cs ad Ts own cc nL ret) {i : xq_I} {t0 : Nat} {cA : ClassId} {n : Nat} {f : Nat → Int32} {x v : Int32} {M' : μ} (hi : i ∈ cs) (ht : tys[t0]? = some (cA, .int)) (he : en M i = .inl (cA, n, .inl f)) (hx : vp_in x n)
    (he' : en M' i = .inl (cA, n, .inl (upd f x.toNatClampNeg v))) (ho : ∀ i', i' ∈ cs → i' ≠ i → en M' i' = en M i') (hd : decode cc pc = .ok (.iastore, 1))
    (k : xq_W p l e R s m args below meth c D cl cs ad en qc qs Q nL (pc + 1) L st M') : xq_W p l e R s m args below meth c D cl cs ad en qc qs Q nL pc L (.int v :: .int x :: .ref (ad i) :: st) M := by
  obtain ⟨q0, hq⟩ := List.getElem?_of_mem hi
  intro H locs ls h1 h2 h3
  refine va_iast X.1 X.2.1 X.2.2.2.2.2.2.2.1 h2 (xq_D X.2.2.2.2.2.2.2.2 M) h3 q0 t0 ((xq_wat hq).trans (by rw [he])) ht hx hd (fun H1 locs1 p1 _ p3 => ?_)
  rw [← he', xq_set X.2.2.2.2.2.2.2.2 hq ho] at p1
  exact k H1 locs1 ls h1 p1 p3
theorem xq_zast (X : xq_C p s m args meth c D cl tys cs ad Ts own cc nL ret) {i : xq_I} {t0 : Nat} {cA : ClassId} {n : Nat} {f : Nat → Int32} {x v : Int32} {M' : μ} (hi : i ∈ cs) (ht : tys[t0]? = some (cA, .boolean)) (he : en M i = .inl (cA, n, .inl f)) (hx : vp_in x n)
    (he' : en M' i = .inl (cA, n, .inl (upd f x.toNatClampNeg (v &&& 1)))) (ho : ∀ i', i' ∈ cs → i' ≠ i → en M' i' = en M i') (hd : decode cc pc = .ok (.bastore, 1))
    (k : xq_W p l e R s m args below meth c D cl cs ad en qc qs Q nL (pc + 1) L st M') : xq_W p l e R s m args below meth c D cl cs ad en qc qs Q nL pc L (.int v :: .int x :: .ref (ad i) :: st) M := by
  obtain ⟨q0, hq⟩ := List.getElem?_of_mem hi
  intro H locs ls h1 h2 h3
  refine va_zast X.1 X.2.1 X.2.2.2.2.2.2.2.1 h2 (xq_D X.2.2.2.2.2.2.2.2 M) h3 q0 t0 ((xq_wat hq).trans (by rw [he])) ht hx hd (fun H1 locs1 p1 _ p3 => ?_)
  have hb : vp_nar .boolean v = v &&& 1 := rfl
  rw [hb, ← he', xq_set X.2.2.2.2.2.2.2.2 hq ho] at p1
  exact k H1 locs1 ls h1 p1 p3
/-- calls: the callee's contract, and what the tables say of it -/
def xq_g (w : Cond) : Prop := (w.onTables && w.keeps) = true ∨ ∃ ty, w = .arrayClass ty
theorem xq_w1 {w0 : Cond} (hg : ∀ w ∈ Ts, xq_g w) (h0 : w0 ∈ Ts) : GoodIn Ts (w0 :: Ts) := by
  intro w hw
  rcases List.mem_cons.mp hw with h | h
  · subst h
    exact ⟨h0, hg _ h0⟩
  · exact ⟨h, hg _ h⟩
theorem xq_run {v : Option Value} {M' : μ} {rest : List Value} {a : Array Value} {ls : Array Slot} {H : Heap} {locs : List Loc} (h3 : va_S (xq_in cs ad) s.heap H locs) (hl : lv_has ls nL L)
    (hr : va_Run p l e R s m args below meth c H locs qc qs 0 0 (F0 m pc ls st) rest (xq_Q D cl cs ad en v M' a) (xq_in cs ad))
    (k : xq_W p l e R s m args below meth c D cl cs ad en qc qs Q nL (pc + 3) L (v.toList ++ rest) M') : W p l e R s m args below meth c H locs qc qs Q (F0 m pc ls st) := by
  intro T hT X
  obtain ⟨v', st₀, t, T', Lo, h0, X', hLo, e1, e2, ⟨hv, hP, hz, hk⟩, go⟩ := hr T hT X
  cases hv
  rw [h0] at hz hk
  rw [← e1] at hP hz hk
  have hS : va_S (xq_in cs ad) s.heap T'.heap (locs ++ Lo) := ⟨Nat.le_trans h3.1 hz, fun q h1 h2 => by rw [hk q (Nat.lt_of_lt_of_le h1 h3.1) h2]; exact h3.2.1 q h1 h2, fun q hq => by
    rcases List.mem_append.mp hq with h | h
    · exact h3.2.2 q h
    · exact hLo q h⟩
  obtain ⟨t2, a1, b1⟩ := k T'.heap (locs ++ Lo) ls hl hP hS T' rfl X'
  exact ⟨t2, go t2 a1, b1⟩
theorem xq_callV (X : xq_C p s m args meth c D cl tys cs ad Ts own cc nL ret) {index ci d maxL n : Nat} {i : xq_I} {fs : List Value} {y : MethodName} {code : ByteArray} {rt : Option FieldType} {As rest : List Value} {v : Option Value} {M' : μ} {q : vw_C}
    (hM : xq_M l D cl tys cs ad en y (Cond.code y code maxL rt :: Ts) d (.ref (ad i) :: As) M v M') (hg : ∀ w ∈ Ts, xq_g w) (hcd : Cond.code y code maxL rt ∈ Ts) (hi : i ∈ cs) (he : en M i = .inr (ci, fs)) (hc : cl[ci]? = some q) (hy : y.cls = q.1)
    (hlink : Cond.methodLink own index y ∈ Ts) (hinst : Cond.instanceMethod y ∈ Ts) (hsel : Cond.selects q.1 y y ∈ Ts) (hini : Cond.initialized y.cls ∈ Ts)
    (hd0 : y.cls ≠ "java/lang/invoke/MethodHandle" ∧ y.cls ≠ "java/lang/invoke/VarHandle" ∧ (parseMethodDescriptor y.desc).map (fun d => d.parameters.length) = some n) (hn : As.length = n) (hR : d + 1 ≤ R.frames ∧ 8 + (maxL + 11) + 32 * d ≤ R.locals)
    (hcs : qc ≤ R.cells ∧ qs ≤ R.slots) (hst : (rest.map fun v => v.category).sum ≤ 8) (hs : st = As.reverse ++ .ref (ad i) :: rest) (hd : decode cc pc = .ok (.invokevirtual index, 3))
    (k : xq_W p l e R s m args below meth c D cl cs ad en qc qs Q nL (pc + 3) L (v.toList ++ rest) M') : xq_W p l e R s m args below meth c D cl cs ad en qc qs Q nL pc L st M := by
  intro H locs ls h1 h2 h3
  have hts := X.2.2.2.2.1
  obtain ⟨q0, hq⟩ := List.getElem?_of_mem hi
  have hcell := va_recv X.2.2.2.2.2.2.2.1 h2 hc ((xq_wat hq).trans (by rw [he]))
  have hB : CallB R s args own index y code maxL rt (Cond.code y code maxL rt :: Ts) (xq_r d) 0 0 n := callB_of n hts (xq_w1 hg hcd) rfl rfl rfl (hts _ hini) (hts _ hlink) hd0 hR
  subst hs
  refine xq_run h3 h1 (va_runV (C := q.1) (As := As) (rest := rest) (b := ad i) ⟨X.1, X.2.1, X.2.2.1, X.2.2.2.1, hts⟩ hM ⟨hB, hts _ hinst, hts _ hsel⟩ ⟨xq_blind, hcell, fun U hU hW => ⟨rfl, by rw [hU]; exact h2, va_K.moved hW.alike X.2.2.2.2.2.2.2.1⟩⟩ rfl hn h1.1 rfl (lv_room hst) hd hcs) k
theorem xq_callS (X : xq_C p s m args meth c D cl tys cs ad Ts own cc nL ret) {index d maxL n : Nat} {y : MethodName} {code : ByteArray} {rt : Option FieldType} {As rest : List Value} {v : Option Value} {M' : μ}
    (hM : xq_M l D cl tys cs ad en y (Cond.code y code maxL rt :: Ts) d As M v M') (hg : ∀ w ∈ Ts, xq_g w) (hcd : Cond.code y code maxL rt ∈ Ts)
    (hlink : Cond.methodLink own index y ∈ Ts) (hinst : Cond.static y ∈ Ts) (hini : Cond.initialized y.cls ∈ Ts)
    (hd0 : y.cls ≠ "java/lang/invoke/MethodHandle" ∧ y.cls ≠ "java/lang/invoke/VarHandle" ∧ (parseMethodDescriptor y.desc).map (fun d => d.parameters.length) = some n) (hn : As.length = n) (hR : d + 1 ≤ R.frames ∧ 8 + (maxL + 11) + 32 * d ≤ R.locals)
    (hcs : qc ≤ R.cells ∧ qs ≤ R.slots) (hst : (rest.map fun v => v.category).sum ≤ 8) (hs : st = As.reverse ++ rest) (hd : decode cc pc = .ok (.invokestatic index, 3))
    (k : xq_W p l e R s m args below meth c D cl cs ad en qc qs Q nL (pc + 3) L (v.toList ++ rest) M') : xq_W p l e R s m args below meth c D cl cs ad en qc qs Q nL pc L st M := by
  intro H locs ls h1 h2 h3
  have hts := X.2.2.2.2.1
  have hB : CallB R s args own index y code maxL rt (Cond.code y code maxL rt :: Ts) (xq_r d) 0 0 n := callB_of n hts (xq_w1 hg hcd) rfl rfl rfl (hts _ hini) (hts _ hlink) hd0 hR
  subst hs
  refine xq_run h3 h1 (va_runS (As := As) (rest := rest) ⟨X.1, X.2.1, X.2.2.1, X.2.2.2.1, hts⟩ hM ⟨hB, hts _ hinst⟩ ⟨xq_blind, fun U hU hW => ⟨rfl, by rw [hU]; exact h2, va_K.moved hW.alike X.2.2.2.2.2.2.2.1⟩⟩ rfl hn h1.1 rfl (lv_room hst) hd hcs) k
theorem xq_max (X : xq_C p s m args meth c D cl tys cs ad Ts own cc nL ret) {index : Nat} {x y v : Int32} (hl : Cond.methodLink own index Lib.Math.max.name ∈ Ts) (h2 : Cond.static Lib.Math.max.name ∈ Ts) (h3 : Cond.initialized "java/lang/Math" ∈ Ts) (h4 : Cond.code Lib.Math.max.name Lib.Math.max.code 2 (some .int) ∈ Ts) (hcs : qc ≤ R.cells ∧ qs ≤ R.slots) (hf : 1 ≤ R.frames) (hlo : (st.map fun v => v.category).sum + 13 ≤ R.locals) (hv : (if x < y then y else x) = v) (hd : decode cc pc = .ok (.invokestatic index, 3))
    (k : xq_W p l e R s m args below meth c D cl cs ad en qc qs Q nL (pc + 3) L (.int v :: st) M) : xq_W p l e R s m args below meth c D cl cs ad en qc qs Q nL pc L (.int y :: .int x :: st) M := by
  subst hv
  exact fun H locs ls a1 a2 a3 => va_mmax X.1 X.2.1 (X.2.2.1.trans a1.1.symm) X.2.2.2.1 (X.2.2.2.2.1 _ hl) (X.2.2.2.2.1 _ h2) (X.2.2.2.2.1 _ h3) (X.2.2.2.2.1 _ h4) hf hlo hcs.1 hcs.2 hd (k H locs ls a1 a2 a3)
theorem xq_min (X : xq_C p s m args meth c D cl tys cs ad Ts own cc nL ret) {index : Nat} {x y v : Int32} (hl : Cond.methodLink own index Lib.Math.min.name ∈ Ts) (h2 : Cond.static Lib.Math.min.name ∈ Ts) (h3 : Cond.initialized "java/lang/Math" ∈ Ts) (h4 : Cond.code Lib.Math.min.name Lib.Math.min.code 2 (some .int) ∈ Ts) (hcs : qc ≤ R.cells ∧ qs ≤ R.slots) (hf : 1 ≤ R.frames) (hlo : (st.map fun v => v.category).sum + 13 ≤ R.locals) (hv : (if y < x then y else x) = v) (hd : decode cc pc = .ok (.invokestatic index, 3))
    (k : xq_W p l e R s m args below meth c D cl cs ad en qc qs Q nL (pc + 3) L (.int v :: st) M) : xq_W p l e R s m args below meth c D cl cs ad en qc qs Q nL pc L (.int y :: .int x :: st) M := by
  subst hv
  exact fun H locs ls a1 a2 a3 => va_mmin X.1 X.2.1 (X.2.2.1.trans a1.1.symm) X.2.2.2.1 (X.2.2.2.2.1 _ hl) (X.2.2.2.2.1 _ h2) (X.2.2.2.2.1 _ h3) (X.2.2.2.2.1 _ h4) hf hlo hcs.1 hcs.2 hd (k H locs ls a1 a2 a3)
/-- what the tables say of a method that a class's code names by a number -/
def xq_G (Ts : List Cond) (own : String) (index : Nat) (y : MethodName) (code : ByteArray) (maxL : Nat) (rt : Option FieldType) (n : Nat) : Prop :=
  Cond.code y code maxL rt ∈ Ts ∧ Cond.methodLink own index y ∈ Ts ∧ Cond.instanceMethod y ∈ Ts ∧ Cond.selects y.cls y y ∈ Ts ∧ Cond.initialized y.cls ∈ Ts ∧ (y.cls ≠ "java/lang/invoke/MethodHandle" ∧ y.cls ≠ "java/lang/invoke/VarHandle" ∧ (parseMethodDescriptor y.desc).map (fun d => d.parameters.length) = some n)
def xq_GS (Ts : List Cond) (own : String) (index : Nat) (y : MethodName) (code : ByteArray) (maxL : Nat) (rt : Option FieldType) (n : Nat) : Prop :=
  Cond.code y code maxL rt ∈ Ts ∧ Cond.methodLink own index y ∈ Ts ∧ Cond.static y ∈ Ts ∧ Cond.initialized y.cls ∈ Ts ∧ (y.cls ≠ "java/lang/invoke/MethodHandle" ∧ y.cls ≠ "java/lang/invoke/VarHandle" ∧ (parseMethodDescriptor y.desc).map (fun d => d.parameters.length) = some n)
theorem xq_cv (X : xq_C p s m args meth c D cl tys cs ad Ts own cc nL ret) (hg : ∀ w ∈ Ts, xq_g w) {index ci d maxL n : Nat} {i : xq_I} {fs : List Value} {y : MethodName} {code : ByteArray} {rt : Option FieldType} {As rest : List Value} {v : Option Value} {M' : μ} {q : vw_C} (hG : xq_G Ts own index y code maxL rt n)
    (hM : xq_M l D cl tys cs ad en y (Cond.code y code maxL rt :: Ts) d (.ref (ad i) :: As) M v M') (hi : i ∈ cs) (he : en M i = .inr (ci, fs)) (hc : cl[ci]? = some q) (hy : y.cls = q.1)
    (hn : As.length = n) (hR : d + 1 ≤ R.frames ∧ 8 + (maxL + 11) + 32 * d ≤ R.locals) (hcs : qc ≤ R.cells ∧ qs ≤ R.slots)
    (hst : (rest.map fun v => v.category).sum ≤ 8) (hs : st = As.reverse ++ .ref (ad i) :: rest) (hd : decode cc pc = .ok (.invokevirtual index, 3))
    (k : xq_W p l e R s m args below meth c D cl cs ad en qc qs Q nL (pc + 3) L (v.toList ++ rest) M') : xq_W p l e R s m args below meth c D cl cs ad en qc qs Q nL pc L st M :=
  xq_callV X hM hg hG.1 hi he hc hy hG.2.1 hG.2.2.1 (hy ▸ hG.2.2.2.1) hG.2.2.2.2.1 hG.2.2.2.2.2 hn hR hcs hst hs hd k
end XQ
