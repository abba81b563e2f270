/-! the class's world: its object (0, 0), the row of nodes (1, 0), the wire (2, 0), and of each node k: its object (3, k), its deviations (4, k), their row (5, k).
A memory: the nodes' numbers, the deviations' numbers, their rows, the wire's numbers, the slots gone. -/
abbrev kc_B : Type := (Nat → Nat → Int32) × (Nat → Nat → Int32) × (Nat → Nat → Int32) × (Nat → Int32) × Int32
def kc_tys (cI cZ cN : ClassId) : List (ClassId × FieldType) := [(cI, .int), (cZ, .boolean), (cN, .object "SlotCluster$Node")]
def kc_cs (n : Nat) : List xq_I := (0, 0) :: (1, 0) :: ((List.range n).flatMap (fun k => [(3, k), (4, k), (5, k)]) ++ [(2, 0)])
def kc_en (n : Nat) (ad : xq_I → Nat) (cI cN : ClassId) (B : kc_B) (i : xq_I) : va_E := match i with
  | (0, _) => .inr (0, [.ref (ad (1, 0)), .ref (ad (2, 0)), .int B.2.2.2.2])
  | (1, _) => .inl (cN, n, .inr (.inr (.inr (.inr (fun j => if j < n then some (ad (3, j)) else none)))))
  | (2, _) => .inr (1, [.int (B.2.2.2.1 0), .int (B.2.2.2.1 1), .int (B.2.2.2.1 2), .int (B.2.2.2.1 3), .int (B.2.2.2.1 4)])
  | (3, k) => .inr (3, [.int (B.1 k 0), .int (B.1 k 1), .ref (ad (4, k)), .int (B.1 k 3), .int (B.1 k 4), .int (B.1 k 5), .int (B.1 k 6), .int (B.1 k 7), .int (B.1 k 8), .int (B.1 k 9), .int (B.1 k 10), .int (B.1 k 11), .int (B.1 k 12), .int (B.1 k 13), .int (B.1 k 14), .int (B.1 k 15), .int (B.1 k 16), .int (B.1 k 17), .int (B.1 k 18)])
  | (4, k) => .inr (2, [.ref (ad (5, k)), .int (B.2.1 k 1), .int (B.2.1 k 2)])
  | (_, k) => .inl (cI, 4, .inl (B.2.2.1 k))
/-- the memory B, but node k's records are F, G, E, and the wire's is w -/
def kc_ov (B : kc_B) (k : Nat) (F G E w : Nat → Int32) : kc_B := (va_up B.1 k F, va_up B.2.1 k G, va_up B.2.2.1 k E, w, B.2.2.2.2)
theorem kc_us {α : Type} (f : Nat → α) (k : Nat) (x : α) : va_up f k x k = x := if_pos rfl
theorem kc_un {α : Type} (f : Nat → α) (k j : Nat) (x : α) (h : j ≠ k) : va_up f k x j = f j := if_neg h
theorem kc_ug {α : Type} (f : Nat → α) (k : Nat) : va_up f k (f k) = f := by
  funext j
  unfold va_up
  split
  · next h => rw [h]
  · rfl
theorem kc_self (B : kc_B) (k : Nat) : B = kc_ov B k (B.1 k) (B.2.1 k) (B.2.2.1 k) B.2.2.2.1 := by
  unfold kc_ov
  rw [kc_ug, kc_ug, kc_ug]
theorem kc_i0 (n : Nat) : ((0, 0) : xq_I) ∈ kc_cs n := by simp [kc_cs]
theorem kc_i1 (n : Nat) : ((1, 0) : xq_I) ∈ kc_cs n := by simp [kc_cs]
theorem kc_i2 (n : Nat) : ((2, 0) : xq_I) ∈ kc_cs n := by simp [kc_cs]
theorem kc_i3 {n k : Nat} (h : k < n) : ((3, k) : xq_I) ∈ kc_cs n := List.mem_cons_of_mem _ (List.mem_cons_of_mem _ (List.mem_append_left _ (List.mem_flatMap.mpr ⟨k, List.mem_range.mpr h, by simp⟩)))
theorem kc_i4 {n k : Nat} (h : k < n) : ((4, k) : xq_I) ∈ kc_cs n := List.mem_cons_of_mem _ (List.mem_cons_of_mem _ (List.mem_append_left _ (List.mem_flatMap.mpr ⟨k, List.mem_range.mpr h, by simp⟩)))
theorem kc_i5 {n k : Nat} (h : k < n) : ((5, k) : xq_I) ∈ kc_cs n := List.mem_cons_of_mem _ (List.mem_cons_of_mem _ (List.mem_append_left _ (List.mem_flatMap.mpr ⟨k, List.mem_range.mpr h, by simp⟩)))
section KC
variable {n k : Nat} {ad : xq_I → Nat} {cI cZ cN : ClassId} {B : kc_B} {F G E w : Nat → Int32}
theorem kc_e3 : kc_en n ad cI cN (kc_ov B k F G E w) (3, k) = .inr (3, [.int (F 0), .int (F 1), .ref (ad (4, k)), .int (F 3), .int (F 4), .int (F 5), .int (F 6), .int (F 7), .int (F 8), .int (F 9), .int (F 10), .int (F 11), .int (F 12), .int (F 13), .int (F 14), .int (F 15), .int (F 16), .int (F 17), .int (F 18)]) := by
  simp only [kc_en, kc_ov, kc_us]
theorem kc_e4 : kc_en n ad cI cN (kc_ov B k F G E w) (4, k) = .inr (2, [.ref (ad (5, k)), .int (G 1), .int (G 2)]) := by
  simp only [kc_en, kc_ov, kc_us]
theorem kc_e5 : kc_en n ad cI cN (kc_ov B k F G E w) (5, k) = .inl (cI, 4, .inl E) := by
  simp only [kc_en, kc_ov, kc_us]
theorem kc_e2 : kc_en n ad cI cN (kc_ov B k F G E w) (2, 0) = .inr (1, [.int (w 0), .int (w 1), .int (w 2), .int (w 3), .int (w 4)]) := rfl
/-- what an update leaves as it was -/
theorem kc_o3 {F' : Nat → Int32} : ∀ i, i ∈ kc_cs n → i ≠ (3, k) → kc_en n ad cI cN (kc_ov B k F' G E w) i = kc_en n ad cI cN (kc_ov B k F G E w) i := by
  rintro ⟨a, b⟩ - h
  match a, h with
  | 0, _ => rfl
  | 1, _ => rfl
  | 2, _ => rfl
  | 3, h =>
    have hb : b ≠ k := fun q => h (by rw [q])
    simp only [kc_en, kc_ov, kc_un _ _ _ _ hb]
  | 4, _ => rfl
  | a + 5, _ => rfl
theorem kc_o4 {G' : Nat → Int32} : ∀ i, i ∈ kc_cs n → i ≠ (4, k) → kc_en n ad cI cN (kc_ov B k F G' E w) i = kc_en n ad cI cN (kc_ov B k F G E w) i := by
  rintro ⟨a, b⟩ - h
  match a, h with
  | 0, _ => rfl
  | 1, _ => rfl
  | 2, _ => rfl
  | 3, _ => rfl
  | 4, h =>
    have hb : b ≠ k := fun q => h (by rw [q])
    simp only [kc_en, kc_ov, kc_un _ _ _ _ hb]
  | a + 5, _ => rfl
theorem kc_o5 {E' : Nat → Int32} : ∀ i, i ∈ kc_cs n → i ≠ (5, k) → kc_en n ad cI cN (kc_ov B k F G E' w) i = kc_en n ad cI cN (kc_ov B k F G E w) i := by
  rintro ⟨a, b⟩ hm h
  match a, h with
  | 0, _ => rfl
  | 1, _ => rfl
  | 2, _ => rfl
  | 3, _ => rfl
  | 4, _ => rfl
  | 5, h =>
    have hb : b ≠ k := fun q => h (by rw [q])
    simp only [kc_en, kc_ov, kc_un _ _ _ _ hb]
  | a + 6, _ =>
    exfalso
    unfold kc_cs at hm
    simp at hm
theorem kc_o2 {w' : Nat → Int32} : ∀ i, i ∈ kc_cs n → i ≠ (2, 0) → kc_en n ad cI cN (kc_ov B k F G E w') i = kc_en n ad cI cN (kc_ov B k F G E w) i := by
  rintro ⟨a, b⟩ hm h
  match a, hm, h with
  | 0, _, _ => rfl
  | 1, _, _ => rfl
  | 2, hm, h =>
    exfalso
    unfold kc_cs at hm
    simp at hm
    exact h (by rw [hm])
  | 3, _, _ => rfl
  | 4, _, _ => rfl
  | a + 5, _, _ => rfl
end KC
section KR
variable {p : Program} {l : Launch} {e : Env} {R : Room} {s : State} {m : MethodId} {args : Array Value} {below : List Frame} {meth : Method} {c : Code} {Q : State → Prop}
variable {D : va_G} {ad : xq_I → Nat} {Ts : List Cond} {own : String} {cc : ByteArray} {nL : Nat} {ret : Option FieldType} {n k : Nat} {cI cZ cN : ClassId} {B : kc_B} {F G E w : Nat → Int32}
variable {qc qs pc index : Nat} {L : List (Nat × Value)} {st : List Value} {v : Int32}
theorem kn_get (X : xq_C p s m args meth c D vcl (kc_tys cI cZ cN) (kc_cs n) ad Ts own cc nL ret) (hk : k < n) (j : Nat) (hj : j < 19 ∧ j ≠ 2) (hF : xq_F Ts own index vcl 3 j) (hd : decode cc pc = .ok (.getfield index, 3)) (hv : F j = v)
    (K : xq_W p l e R s m args below meth c D vcl (kc_cs n) ad (kc_en n ad cI cN) qc qs Q nL (pc + 3) L (.int v :: st) (kc_ov B k F G E w)) : xq_W p l e R s m args below meth c D vcl (kc_cs n) ad (kc_en n ad cI cN) qc qs Q nL pc L (.ref (ad (3, k)) :: st) (kc_ov B k F G E w) := by
  subst hv
  refine xq_get X hF (kc_i3 hk) kc_e3 ?_ hd K
  obtain ⟨h1, h2⟩ := hj
  have h3 : j = 0 ∨ j = 1 ∨ j = 3 ∨ j = 4 ∨ j = 5 ∨ j = 6 ∨ j = 7 ∨ j = 8 ∨ j = 9 ∨ j = 10 ∨ j = 11 ∨ j = 12 ∨ j = 13 ∨ j = 14 ∨ j = 15 ∨ j = 16 ∨ j = 17 ∨ j = 18 := by omega
  rcases h3 with rfl | rfl | rfl | rfl | rfl | rfl | rfl | rfl | rfl | rfl | rfl | rfl | rfl | rfl | rfl | rfl | rfl | rfl <;> rfl
theorem kn_put (X : xq_C p s m args meth c D vcl (kc_tys cI cZ cN) (kc_cs n) ad Ts own cc nL ret) (hk : k < n) (j : Nat) (hj : j < 19 ∧ j ≠ 2) {ty : FieldType} (hF : xq_F Ts own index vcl 3 j) (hT : xq_T vcl 3) (hN : xq_N vcl 3 j ty) (hn : narrow ty (.int v) = .int v) (hf : fits ty (.int v) = true) (hd : decode cc pc = .ok (.putfield index, 3))
    (K : xq_W p l e R s m args below meth c D vcl (kc_cs n) ad (kc_en n ad cI cN) qc qs Q nL (pc + 3) L st (kc_ov B k (upd F j v) G E w)) : xq_W p l e R s m args below meth c D vcl (kc_cs n) ad (kc_en n ad cI cN) qc qs Q nL pc L (.int v :: .ref (ad (3, k)) :: st) (kc_ov B k F G E w) := by
  obtain ⟨h1, h2⟩ := hj
  refine xq_put X hF hT hN (kc_i3 hk) kc_e3 (by show j < 19; omega) hn hf ?_ kc_o3 hd K
  rw [kc_e3]
  have h3 : j = 0 ∨ j = 1 ∨ j = 3 ∨ j = 4 ∨ j = 5 ∨ j = 6 ∨ j = 7 ∨ j = 8 ∨ j = 9 ∨ j = 10 ∨ j = 11 ∨ j = 12 ∨ j = 13 ∨ j = 14 ∨ j = 15 ∨ j = 16 ∨ j = 17 ∨ j = 18 := by omega
  rcases h3 with rfl | rfl | rfl | rfl | rfl | rfl | rfl | rfl | rfl | rfl | rfl | rfl | rfl | rfl | rfl | rfl | rfl | rfl <;> rfl
theorem kn_dev (X : xq_C p s m args meth c D vcl (kc_tys cI cZ cN) (kc_cs n) ad Ts own cc nL ret) (hk : k < n) (hF : xq_F Ts own index vcl 3 2) (hd : decode cc pc = .ok (.getfield index, 3))
    (K : xq_W p l e R s m args below meth c D vcl (kc_cs n) ad (kc_en n ad cI cN) qc qs Q nL (pc + 3) L (.ref (ad (4, k)) :: st) (kc_ov B k F G E w)) : xq_W p l e R s m args below meth c D vcl (kc_cs n) ad (kc_en n ad cI cN) qc qs Q nL pc L (.ref (ad (3, k)) :: st) (kc_ov B k F G E w) :=
  xq_get X hF (kc_i3 hk) kc_e3 rfl hd K
theorem kd_lat (X : xq_C p s m args meth c D vcl (kc_tys cI cZ cN) (kc_cs n) ad Ts own cc nL ret) (hk : k < n) (hF : xq_F Ts own index vcl 2 0) (hd : decode cc pc = .ok (.getfield index, 3))
    (K : xq_W p l e R s m args below meth c D vcl (kc_cs n) ad (kc_en n ad cI cN) qc qs Q nL (pc + 3) L (.ref (ad (5, k)) :: st) (kc_ov B k F G E w)) : xq_W p l e R s m args below meth c D vcl (kc_cs n) ad (kc_en n ad cI cN) qc qs Q nL pc L (.ref (ad (4, k)) :: st) (kc_ov B k F G E w) :=
  xq_get X hF (kc_i4 hk) kc_e4 rfl hd K
theorem kd_get (X : xq_C p s m args meth c D vcl (kc_tys cI cZ cN) (kc_cs n) ad Ts own cc nL ret) (hk : k < n) (j : Nat) (hj : j = 1 ∨ j = 2) (hF : xq_F Ts own index vcl 2 j) (hd : decode cc pc = .ok (.getfield index, 3)) (hv : G j = v)
    (K : xq_W p l e R s m args below meth c D vcl (kc_cs n) ad (kc_en n ad cI cN) qc qs Q nL (pc + 3) L (.int v :: st) (kc_ov B k F G E w)) : xq_W p l e R s m args below meth c D vcl (kc_cs n) ad (kc_en n ad cI cN) qc qs Q nL pc L (.ref (ad (4, k)) :: st) (kc_ov B k F G E w) := by
  subst hv
  refine xq_get X hF (kc_i4 hk) kc_e4 ?_ hd K
  rcases hj with rfl | rfl <;> rfl
theorem kd_put (X : xq_C p s m args meth c D vcl (kc_tys cI cZ cN) (kc_cs n) ad Ts own cc nL ret) (hk : k < n) (j : Nat) (hj : j = 1 ∨ j = 2) (hF : xq_F Ts own index vcl 2 j) (hT : xq_T vcl 2) (hN : xq_N vcl 2 j .int) (hd : decode cc pc = .ok (.putfield index, 3))
    (K : xq_W p l e R s m args below meth c D vcl (kc_cs n) ad (kc_en n ad cI cN) qc qs Q nL (pc + 3) L st (kc_ov B k F (upd G j v) E w)) : xq_W p l e R s m args below meth c D vcl (kc_cs n) ad (kc_en n ad cI cN) qc qs Q nL pc L (.int v :: .ref (ad (4, k)) :: st) (kc_ov B k F G E w) := by
  refine xq_put X hF hT hN (kc_i4 hk) kc_e4 (by show j < 3; omega) rfl rfl ?_ kc_o4 hd K
  rw [kc_e4]
  rcases hj with rfl | rfl <;> rfl
theorem ke_ald (X : xq_C p s m args meth c D vcl (kc_tys cI cZ cN) (kc_cs n) ad Ts own cc nL ret) (hk : k < n) {x : Int32} (hx : vp_in x 4) (hd : decode cc pc = .ok (.iaload, 1)) (hv : E x.toNatClampNeg = v)
    (K : xq_W p l e R s m args below meth c D vcl (kc_cs n) ad (kc_en n ad cI cN) qc qs Q nL (pc + 1) L (.int v :: st) (kc_ov B k F G E w)) : xq_W p l e R s m args below meth c D vcl (kc_cs n) ad (kc_en n ad cI cN) qc qs Q nL pc L (.int x :: .ref (ad (5, k)) :: st) (kc_ov B k F G E w) :=
  xq_iald (t0 := 0) X (kc_i5 hk) rfl kc_e5 hx hv hd K
theorem ke_ast (X : xq_C p s m args meth c D vcl (kc_tys cI cZ cN) (kc_cs n) ad Ts own cc nL ret) (hk : k < n) {x : Int32} (hx : vp_in x 4) (hd : decode cc pc = .ok (.iastore, 1))
    (K : xq_W p l e R s m args below meth c D vcl (kc_cs n) ad (kc_en n ad cI cN) qc qs Q nL (pc + 1) L st (kc_ov B k F G (upd E x.toNatClampNeg v) w)) : xq_W p l e R s m args below meth c D vcl (kc_cs n) ad (kc_en n ad cI cN) qc qs Q nL pc L (.int v :: .int x :: .ref (ad (5, k)) :: st) (kc_ov B k F G E w) :=
  xq_iast (t0 := 0) X (kc_i5 hk) rfl kc_e5 hx kc_e5 kc_o5 hd K
theorem ke_len (X : xq_C p s m args meth c D vcl (kc_tys cI cZ cN) (kc_cs n) ad Ts own cc nL ret) (hk : k < n) (hd : decode cc pc = .ok (.arraylength, 1))
    (K : xq_W p l e R s m args below meth c D vcl (kc_cs n) ad (kc_en n ad cI cN) qc qs Q nL (pc + 1) L (.int 4 :: st) (kc_ov B k F G E w)) : xq_W p l e R s m args below meth c D vcl (kc_cs n) ad (kc_en n ad cI cN) qc qs Q nL pc L (.ref (ad (5, k)) :: st) (kc_ov B k F G E w) :=
  xq_alen (t0 := 0) X (kc_i5 hk) rfl kc_e5 rfl hd K
theorem kw_get (X : xq_C p s m args meth c D vcl (kc_tys cI cZ cN) (kc_cs n) ad Ts own cc nL ret) (j : Nat) (hj : j < 5) (hF : xq_F Ts own index vcl 1 j) (hd : decode cc pc = .ok (.getfield index, 3)) (hv : w j = v)
    (K : xq_W p l e R s m args below meth c D vcl (kc_cs n) ad (kc_en n ad cI cN) qc qs Q nL (pc + 3) L (.int v :: st) (kc_ov B k F G E w)) : xq_W p l e R s m args below meth c D vcl (kc_cs n) ad (kc_en n ad cI cN) qc qs Q nL pc L (.ref (ad (2, 0)) :: st) (kc_ov B k F G E w) := by
  subst hv
  refine xq_get X hF (kc_i2 n) kc_e2 ?_ hd K
  have h3 : j = 0 ∨ j = 1 ∨ j = 2 ∨ j = 3 ∨ j = 4 := by omega
  rcases h3 with rfl | rfl | rfl | rfl | rfl <;> rfl
theorem kw_put (X : xq_C p s m args meth c D vcl (kc_tys cI cZ cN) (kc_cs n) ad Ts own cc nL ret) (j : Nat) (hj : j < 5) (hF : xq_F Ts own index vcl 1 j) (hT : xq_T vcl 1) (hN : xq_N vcl 1 j .int) (hd : decode cc pc = .ok (.putfield index, 3))
    (K : xq_W p l e R s m args below meth c D vcl (kc_cs n) ad (kc_en n ad cI cN) qc qs Q nL (pc + 3) L st (kc_ov B k F G E (upd w j v))) : xq_W p l e R s m args below meth c D vcl (kc_cs n) ad (kc_en n ad cI cN) qc qs Q nL pc L (.int v :: .ref (ad (2, 0)) :: st) (kc_ov B k F G E w) := by
  refine xq_put X hF hT hN (kc_i2 n) kc_e2 hj rfl rfl ?_ kc_o2 hd K
  rw [kc_e2]
  have h3 : j = 0 ∨ j = 1 ∨ j = 2 ∨ j = 3 ∨ j = 4 := by omega
  rcases h3 with rfl | rfl | rfl | rfl | rfl <;> rfl
theorem kb_row (X : xq_C p s m args meth c D vcl (kc_tys cI cZ cN) (kc_cs n) ad Ts own cc nL ret) (hF : xq_F Ts own index vcl 0 0) (hd : decode cc pc = .ok (.getfield index, 3))
    (K : xq_W p l e R s m args below meth c D vcl (kc_cs n) ad (kc_en n ad cI cN) qc qs Q nL (pc + 3) L (.ref (ad (1, 0)) :: st) B) : xq_W p l e R s m args below meth c D vcl (kc_cs n) ad (kc_en n ad cI cN) qc qs Q nL pc L (.ref (ad (0, 0)) :: st) B :=
  xq_get X hF (kc_i0 n) rfl rfl hd K
theorem kb_wire (X : xq_C p s m args meth c D vcl (kc_tys cI cZ cN) (kc_cs n) ad Ts own cc nL ret) (hF : xq_F Ts own index vcl 0 1) (hd : decode cc pc = .ok (.getfield index, 3))
    (K : xq_W p l e R s m args below meth c D vcl (kc_cs n) ad (kc_en n ad cI cN) qc qs Q nL (pc + 3) L (.ref (ad (2, 0)) :: st) B) : xq_W p l e R s m args below meth c D vcl (kc_cs n) ad (kc_en n ad cI cN) qc qs Q nL pc L (.ref (ad (0, 0)) :: st) B :=
  xq_get X hF (kc_i0 n) rfl rfl hd K
theorem kb_gone (X : xq_C p s m args meth c D vcl (kc_tys cI cZ cN) (kc_cs n) ad Ts own cc nL ret) (hF : xq_F Ts own index vcl 0 2) (hd : decode cc pc = .ok (.getfield index, 3)) (hv : B.2.2.2.2 = v)
    (K : xq_W p l e R s m args below meth c D vcl (kc_cs n) ad (kc_en n ad cI cN) qc qs Q nL (pc + 3) L (.int v :: st) B) : xq_W p l e R s m args below meth c D vcl (kc_cs n) ad (kc_en n ad cI cN) qc qs Q nL pc L (.ref (ad (0, 0)) :: st) B := by
  subst hv
  exact xq_get X hF (kc_i0 n) rfl rfl hd K
theorem kb_put (X : xq_C p s m args meth c D vcl (kc_tys cI cZ cN) (kc_cs n) ad Ts own cc nL ret) (hF : xq_F Ts own index vcl 0 2) (hT : xq_T vcl 0) (hN : xq_N vcl 0 2 .int) (hd : decode cc pc = .ok (.putfield index, 3))
    (K : xq_W p l e R s m args below meth c D vcl (kc_cs n) ad (kc_en n ad cI cN) qc qs Q nL (pc + 3) L st (B.1, B.2.1, B.2.2.1, B.2.2.2.1, v)) : xq_W p l e R s m args below meth c D vcl (kc_cs n) ad (kc_en n ad cI cN) qc qs Q nL pc L (.int v :: .ref (ad (0, 0)) :: st) B := by
  refine xq_put X hF hT hN (kc_i0 n) rfl (by show 2 < 3; decide) rfl rfl rfl ?_ hd K
  rintro ⟨a, b⟩ hm h
  match a, hm, h with
  | 0, hm, h =>
    exfalso
    unfold kc_cs at hm
    simp at hm
    exact h (by rw [hm])
  | 1, _, _ => rfl
  | 2, _, _ => rfl
  | 3, _, _ => rfl
  | 4, _, _ => rfl
  | a + 5, _, _ => rfl
theorem kb_len (X : xq_C p s m args meth c D vcl (kc_tys cI cZ cN) (kc_cs n) ad Ts own cc nL ret) (hd : decode cc pc = .ok (.arraylength, 1))
    (K : xq_W p l e R s m args below meth c D vcl (kc_cs n) ad (kc_en n ad cI cN) qc qs Q nL (pc + 1) L (.int (nI n) :: st) B) : xq_W p l e R s m args below meth c D vcl (kc_cs n) ad (kc_en n ad cI cN) qc qs Q nL pc L (.ref (ad (1, 0)) :: st) B :=
  xq_alen (t0 := 2) X (kc_i1 n) rfl rfl rfl hd K
theorem kb_ald (X : xq_C p s m args meth c D vcl (kc_tys cI cZ cN) (kc_cs n) ad Ts own cc nL ret) (hk : k < n) (hn : n < 2 ^ 31) (hd : decode cc pc = .ok (.aaload, 1))
    (K : xq_W p l e R s m args below meth c D vcl (kc_cs n) ad (kc_en n ad cI cN) qc qs Q nL (pc + 1) L (.ref (ad (3, k)) :: st) B) : xq_W p l e R s m args below meth c D vcl (kc_cs n) ad (kc_en n ad cI cN) qc qs Q nL pc L (.int (nI k) :: .ref (ad (1, 0)) :: st) B :=
  xq_aald (t0 := 2) X (kc_i1 n) rfl rfl (vp_in_nI hk hn) (by
    rw [nI_clamp (Nat.lt_trans hk hn)]
    show va_rf (if k < n then some (ad (3, k)) else none) = _
    rw [if_pos hk]
    rfl) hd K
end KR
theorem ke_in {x : Int32} (h0 : ¬ x < 0) (h1 : x < 4) : vp_in x 4 := by
  rw [vp_in_iff]
  rw [Int32.lt_iff_toInt_lt] at h0 h1
  have e0 : (0 : Int32).toInt = 0 := by decide
  have e4 : (4 : Int32).toInt = 4 := by decide
  omega
def km_max (x y : Int32) : Int32 := if x < y then y else x
def km_min (x y : Int32) : Int32 := if y < x then y else x
section KL
variable {p : Program} {l : Launch} {e : Env} {R : Room} {s : State} {m : MethodId} {args : Array Value} {below : List Frame} {meth : Method} {c : Code} {Q : State → Prop}
variable {D : va_G} {ad : xq_I → Nat} {Ts : List Cond} {own : String} {cc : ByteArray} {nL : Nat} {ret : Option FieldType} {n k : Nat} {cI cZ cN : ClassId} {B M' : kc_B} {F G E w : Nat → Int32}
variable {pc index d maxL na : Nat} {L : List (Nat × Value)} {st As rest : List Value} {v : Option Value} {a : Value} {y : MethodName} {code : ByteArray} {rt : Option FieldType}
theorem kn_callI (X : xq_C p s m args meth c D vcl (kc_tys cI cZ cN) (kc_cs n) ad Ts own cc nL ret) (hg : ∀ w ∈ Ts, xq_g w) (hk : k < n) (hG : xq_G Ts own index y code maxL rt na)
    (hM : xq_M l D vcl (kc_tys cI cZ cN) (kc_cs n) ad (kc_en n ad cI cN) y (Cond.code y code maxL rt :: Ts) d (.ref (ad (3, k)) :: As) (kc_ov B k F G E w) (some a) M')
    (hy : y.cls = R_N) (hn : As.length = na) (hR : d + 1 ≤ R.frames ∧ 8 + (maxL + 11) + 32 * d ≤ R.locals) (hst : (rest.map fun v => v.category).sum ≤ 8) (hs : st = As.reverse ++ .ref (ad (3, k)) :: rest) (hd : decode cc pc = .ok (.invokevirtual index, 3))
    (K : xq_W p l e R s m args below meth c D vcl (kc_cs n) ad (kc_en n ad cI cN) 0 0 Q nL (pc + 3) L (a :: rest) M') : xq_W p l e R s m args below meth c D vcl (kc_cs n) ad (kc_en n ad cI cN) 0 0 Q nL pc L st (kc_ov B k F G E w) :=
  xq_cv X hg hG hM (kc_i3 hk) kc_e3 (ci := 3) rfl hy hn hR ⟨Nat.zero_le _, Nat.zero_le _⟩ hst hs hd K
theorem kn_callV (X : xq_C p s m args meth c D vcl (kc_tys cI cZ cN) (kc_cs n) ad Ts own cc nL ret) (hg : ∀ w ∈ Ts, xq_g w) (hk : k < n) (hG : xq_G Ts own index y code maxL rt na)
    (hM : xq_M l D vcl (kc_tys cI cZ cN) (kc_cs n) ad (kc_en n ad cI cN) y (Cond.code y code maxL rt :: Ts) d (.ref (ad (3, k)) :: As) (kc_ov B k F G E w) none M')
    (hy : y.cls = R_N) (hn : As.length = na) (hR : d + 1 ≤ R.frames ∧ 8 + (maxL + 11) + 32 * d ≤ R.locals) (hst : (rest.map fun v => v.category).sum ≤ 8) (hs : st = As.reverse ++ .ref (ad (3, k)) :: rest) (hd : decode cc pc = .ok (.invokevirtual index, 3))
    (K : xq_W p l e R s m args below meth c D vcl (kc_cs n) ad (kc_en n ad cI cN) 0 0 Q nL (pc + 3) L rest M') : xq_W p l e R s m args below meth c D vcl (kc_cs n) ad (kc_en n ad cI cN) 0 0 Q nL pc L st (kc_ov B k F G E w) :=
  xq_cv X hg hG hM (kc_i3 hk) kc_e3 (ci := 3) rfl hy hn hR ⟨Nat.zero_le _, Nat.zero_le _⟩ hst hs hd K
theorem kd_callI (X : xq_C p s m args meth c D vcl (kc_tys cI cZ cN) (kc_cs n) ad Ts own cc nL ret) (hg : ∀ w ∈ Ts, xq_g w) (hk : k < n) (hG : xq_G Ts own index y code maxL rt na)
    (hM : xq_M l D vcl (kc_tys cI cZ cN) (kc_cs n) ad (kc_en n ad cI cN) y (Cond.code y code maxL rt :: Ts) d (.ref (ad (4, k)) :: As) (kc_ov B k F G E w) (some a) M')
    (hy : y.cls = R_D) (hn : As.length = na) (hR : d + 1 ≤ R.frames ∧ 8 + (maxL + 11) + 32 * d ≤ R.locals) (hst : (rest.map fun v => v.category).sum ≤ 8) (hs : st = As.reverse ++ .ref (ad (4, k)) :: rest) (hd : decode cc pc = .ok (.invokevirtual index, 3))
    (K : xq_W p l e R s m args below meth c D vcl (kc_cs n) ad (kc_en n ad cI cN) 0 0 Q nL (pc + 3) L (a :: rest) M') : xq_W p l e R s m args below meth c D vcl (kc_cs n) ad (kc_en n ad cI cN) 0 0 Q nL pc L st (kc_ov B k F G E w) :=
  xq_cv X hg hG hM (kc_i4 hk) kc_e4 (ci := 2) rfl hy hn hR ⟨Nat.zero_le _, Nat.zero_le _⟩ hst hs hd K
theorem kd_callV (X : xq_C p s m args meth c D vcl (kc_tys cI cZ cN) (kc_cs n) ad Ts own cc nL ret) (hg : ∀ w ∈ Ts, xq_g w) (hk : k < n) (hG : xq_G Ts own index y code maxL rt na)
    (hM : xq_M l D vcl (kc_tys cI cZ cN) (kc_cs n) ad (kc_en n ad cI cN) y (Cond.code y code maxL rt :: Ts) d (.ref (ad (4, k)) :: As) (kc_ov B k F G E w) none M')
    (hy : y.cls = R_D) (hn : As.length = na) (hR : d + 1 ≤ R.frames ∧ 8 + (maxL + 11) + 32 * d ≤ R.locals) (hst : (rest.map fun v => v.category).sum ≤ 8) (hs : st = As.reverse ++ .ref (ad (4, k)) :: rest) (hd : decode cc pc = .ok (.invokevirtual index, 3))
    (K : xq_W p l e R s m args below meth c D vcl (kc_cs n) ad (kc_en n ad cI cN) 0 0 Q nL (pc + 3) L rest M') : xq_W p l e R s m args below meth c D vcl (kc_cs n) ad (kc_en n ad cI cN) 0 0 Q nL pc L st (kc_ov B k F G E w) :=
  xq_cv X hg hG hM (kc_i4 hk) kc_e4 (ci := 2) rfl hy hn hR ⟨Nat.zero_le _, Nat.zero_le _⟩ hst hs hd K
theorem kw_callI (X : xq_C p s m args meth c D vcl (kc_tys cI cZ cN) (kc_cs n) ad Ts own cc nL ret) (hg : ∀ w ∈ Ts, xq_g w) (hG : xq_G Ts own index y code maxL rt na)
    (hM : xq_M l D vcl (kc_tys cI cZ cN) (kc_cs n) ad (kc_en n ad cI cN) y (Cond.code y code maxL rt :: Ts) d (.ref (ad (2, 0)) :: As) B (some a) M')
    (hy : y.cls = R_W) (hn : As.length = na) (hR : d + 1 ≤ R.frames ∧ 8 + (maxL + 11) + 32 * d ≤ R.locals) (hst : (rest.map fun v => v.category).sum ≤ 8) (hs : st = As.reverse ++ .ref (ad (2, 0)) :: rest) (hd : decode cc pc = .ok (.invokevirtual index, 3))
    (K : xq_W p l e R s m args below meth c D vcl (kc_cs n) ad (kc_en n ad cI cN) 0 0 Q nL (pc + 3) L (a :: rest) M') : xq_W p l e R s m args below meth c D vcl (kc_cs n) ad (kc_en n ad cI cN) 0 0 Q nL pc L st B :=
  xq_cv X hg hG hM (kc_i2 n) rfl (ci := 1) rfl hy hn hR ⟨Nat.zero_le _, Nat.zero_le _⟩ hst hs hd K
theorem kw_callV (X : xq_C p s m args meth c D vcl (kc_tys cI cZ cN) (kc_cs n) ad Ts own cc nL ret) (hg : ∀ w ∈ Ts, xq_g w) (hG : xq_G Ts own index y code maxL rt na)
    (hM : xq_M l D vcl (kc_tys cI cZ cN) (kc_cs n) ad (kc_en n ad cI cN) y (Cond.code y code maxL rt :: Ts) d (.ref (ad (2, 0)) :: As) B none M')
    (hy : y.cls = R_W) (hn : As.length = na) (hR : d + 1 ≤ R.frames ∧ 8 + (maxL + 11) + 32 * d ≤ R.locals) (hst : (rest.map fun v => v.category).sum ≤ 8) (hs : st = As.reverse ++ .ref (ad (2, 0)) :: rest) (hd : decode cc pc = .ok (.invokevirtual index, 3))
    (K : xq_W p l e R s m args below meth c D vcl (kc_cs n) ad (kc_en n ad cI cN) 0 0 Q nL (pc + 3) L rest M') : xq_W p l e R s m args below meth c D vcl (kc_cs n) ad (kc_en n ad cI cN) 0 0 Q nL pc L st B :=
  xq_cv X hg hG hM (kc_i2 n) rfl (ci := 1) rfl hy hn hR ⟨Nat.zero_le _, Nat.zero_le _⟩ hst hs hd K
theorem kb_callI (X : xq_C p s m args meth c D vcl (kc_tys cI cZ cN) (kc_cs n) ad Ts own cc nL ret) (hg : ∀ w ∈ Ts, xq_g w) (hG : xq_G Ts own index y code maxL rt na)
    (hM : xq_M l D vcl (kc_tys cI cZ cN) (kc_cs n) ad (kc_en n ad cI cN) y (Cond.code y code maxL rt :: Ts) d (.ref (ad (0, 0)) :: As) B (some a) M')
    (hy : y.cls = R_C) (hn : As.length = na) (hR : d + 1 ≤ R.frames ∧ 8 + (maxL + 11) + 32 * d ≤ R.locals) (hst : (rest.map fun v => v.category).sum ≤ 8) (hs : st = As.reverse ++ .ref (ad (0, 0)) :: rest) (hd : decode cc pc = .ok (.invokevirtual index, 3))
    (K : xq_W p l e R s m args below meth c D vcl (kc_cs n) ad (kc_en n ad cI cN) 0 0 Q nL (pc + 3) L (a :: rest) M') : xq_W p l e R s m args below meth c D vcl (kc_cs n) ad (kc_en n ad cI cN) 0 0 Q nL pc L st B :=
  xq_cv X hg hG hM (kc_i0 n) rfl (ci := 0) rfl hy hn hR ⟨Nat.zero_le _, Nat.zero_le _⟩ hst hs hd K
theorem kb_callV (X : xq_C p s m args meth c D vcl (kc_tys cI cZ cN) (kc_cs n) ad Ts own cc nL ret) (hg : ∀ w ∈ Ts, xq_g w) (hG : xq_G Ts own index y code maxL rt na)
    (hM : xq_M l D vcl (kc_tys cI cZ cN) (kc_cs n) ad (kc_en n ad cI cN) y (Cond.code y code maxL rt :: Ts) d (.ref (ad (0, 0)) :: As) B none M')
    (hy : y.cls = R_C) (hn : As.length = na) (hR : d + 1 ≤ R.frames ∧ 8 + (maxL + 11) + 32 * d ≤ R.locals) (hst : (rest.map fun v => v.category).sum ≤ 8) (hs : st = As.reverse ++ .ref (ad (0, 0)) :: rest) (hd : decode cc pc = .ok (.invokevirtual index, 3))
    (K : xq_W p l e R s m args below meth c D vcl (kc_cs n) ad (kc_en n ad cI cN) 0 0 Q nL (pc + 3) L rest M') : xq_W p l e R s m args below meth c D vcl (kc_cs n) ad (kc_en n ad cI cN) 0 0 Q nL pc L st B :=
  xq_cv X hg hG hM (kc_i0 n) rfl (ci := 0) rfl hy hn hR ⟨Nat.zero_le _, Nat.zero_le _⟩ hst hs hd K
theorem ks_callI (X : xq_C p s m args meth c D vcl (kc_tys cI cZ cN) (kc_cs n) ad Ts own cc nL ret) (hg : ∀ w ∈ Ts, xq_g w) (hG : xq_GS Ts own index y code maxL rt na)
    (hM : xq_M l D vcl (kc_tys cI cZ cN) (kc_cs n) ad (kc_en n ad cI cN) y (Cond.code y code maxL rt :: Ts) d As B (some a) M')
    (hn : As.length = na) (hR : d + 1 ≤ R.frames ∧ 8 + (maxL + 11) + 32 * d ≤ R.locals) (hst : (rest.map fun v => v.category).sum ≤ 8) (hs : st = As.reverse ++ rest) (hd : decode cc pc = .ok (.invokestatic index, 3))
    (K : xq_W p l e R s m args below meth c D vcl (kc_cs n) ad (kc_en n ad cI cN) 0 0 Q nL (pc + 3) L (a :: rest) M') : xq_W p l e R s m args below meth c D vcl (kc_cs n) ad (kc_en n ad cI cN) 0 0 Q nL pc L st B :=
  xq_callS X hM hg hG.1 hG.2.1 hG.2.2.1 hG.2.2.2.1 hG.2.2.2.2 hn hR ⟨Nat.zero_le _, Nat.zero_le _⟩ hst hs hd K
end KL
