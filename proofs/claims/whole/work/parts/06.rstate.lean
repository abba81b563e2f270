/-! the reference's world: its object (6, 0), and its rows (7, a), a by the order of the fields. A memory: row a, place i; row 0 is the object's own numbers, by the fields' order.
rc_ov A k F E T g f: the memory A, but at node k the rows hold F, its members E, its measures T; the object's numbers are g, the frame's members f. -/
abbrev rc_A : Type := Nat → Nat → Int32
def rc_cs : List xq_I := [(6, 0), (7, 1), (7, 2), (7, 3), (7, 4), (7, 5), (7, 6), (7, 7), (7, 8), (7, 9), (7, 10), (7, 11), (7, 12), (7, 13), (7, 14), (7, 15), (7, 16), (7, 17), (7, 24), (7, 25)]
def rc_z (a : Nat) : Bool := decide (a = 7 ∨ a = 13 ∨ a = 14 ∨ a = 15 ∨ a = 24 ∨ a = 25)
def rc_len (a : Nat) : Nat := if a = 15 then 36 else if a = 16 then 24 else 6
def rc_en (ad : xq_I → Nat) (cI cZ : ClassId) (A : rc_A) (i : xq_I) : va_E := match i with
  | (6, _) => .inr (4, [.int (A 0 0), .ref (ad (7, 1)), .ref (ad (7, 2)), .ref (ad (7, 3)), .ref (ad (7, 4)), .ref (ad (7, 5)), .ref (ad (7, 6)), .ref (ad (7, 7)), .ref (ad (7, 8)), .ref (ad (7, 9)), .ref (ad (7, 10)), .ref (ad (7, 11)), .ref (ad (7, 12)), .ref (ad (7, 13)), .ref (ad (7, 14)), .ref (ad (7, 15)), .ref (ad (7, 16)), .ref (ad (7, 17)), .int (A 0 18), .int (A 0 19), .int (A 0 20), .int (A 0 21), .int (A 0 22), .int (A 0 23), .ref (ad (7, 24)), .ref (ad (7, 25))])
  | (_, a) => .inl (if rc_z a = true then cZ else cI, rc_len a, .inl (A a))
def rc_ov (A : rc_A) (k : Nat) (F E T g f : Nat → Int32) : rc_A := fun a => if a = 0 then g else if a = 24 then f else if a = 15 then (fun i => if 6 * k ≤ i ∧ i < 6 * k + 6 then E (i - 6 * k) else A 15 i) else if a = 16 then (fun i => if 4 * k ≤ i ∧ i < 4 * k + 4 then T (i - 4 * k) else A 16 i) else va_up (A a) k (F a)
theorem rc_self (A : rc_A) (k : Nat) : A = rc_ov A k (fun a => A a k) (fun m => A 15 (6 * k + m)) (fun d => A 16 (4 * k + d)) (A 0) (A 24) := by
  funext a
  unfold rc_ov
  split
  · next h => rw [h]
  · split
    · next h => rw [h]
    · split
      · next h =>
        subst h
        funext i
        split
        · next h =>
          show A 15 i = A 15 (6 * k + (i - 6 * k))
          rw [show 6 * k + (i - 6 * k) = i by omega]
        · rfl
      · split
        · next h =>
          subst h
          funext i
          split
          · next h =>
            show A 16 i = A 16 (4 * k + (i - 4 * k))
            rw [show 4 * k + (i - 4 * k) = i by omega]
          · rfl
        · exact (kc_ug (A a) k).symm
abbrev rc_I (a : Nat) : Prop := ((7, a) : xq_I) ∈ rc_cs ∧ rc_z a = false ∧ a ≠ 0 ∧ a ≠ 24 ∧ a ≠ 15 ∧ a ≠ 16
abbrev rc_Z (a : Nat) : Prop := ((7, a) : xq_I) ∈ rc_cs ∧ rc_z a = true ∧ a ≠ 0 ∧ a ≠ 24 ∧ a ≠ 15 ∧ a ≠ 16
section RC
variable {k a : Nat} {ad : xq_I → Nat} {cI cZ cN : ClassId} {A : rc_A} {F E T g f : Nat → Int32}
theorem rc_n (h0 : a ≠ 0) (h1 : a ≠ 24) (h2 : a ≠ 15) (h3 : a ≠ 16) : rc_ov A k F E T g f a = va_up (A a) k (F a) := by
  unfold rc_ov
  rw [if_neg h0, if_neg h1, if_neg h2, if_neg h3]
theorem rc_eI (h : rc_I a) : rc_en ad cI cZ (rc_ov A k F E T g f) (7, a) = .inl (cI, 6, .inl (va_up (A a) k (F a))) := by
  obtain ⟨-, h1, h2, h3, h4, h5⟩ := h
  show Sum.inl (if rc_z a = true then cZ else cI, rc_len a, Sum.inl (rc_ov A k F E T g f a)) = _
  rw [rc_n h2 h3 h4 h5, h1]
  simp [rc_len, h4, h5]
theorem rc_eZ (h : rc_Z a) : rc_en ad cI cZ (rc_ov A k F E T g f) (7, a) = .inl (cZ, 6, .inl (va_up (A a) k (F a))) := by
  obtain ⟨-, h1, h2, h3, h4, h5⟩ := h
  show Sum.inl (if rc_z a = true then cZ else cI, rc_len a, Sum.inl (rc_ov A k F E T g f a)) = _
  rw [rc_n h2 h3 h4 h5, h1]
  simp [rc_len, h4, h5]
theorem rc_e15 : rc_en ad cI cZ (rc_ov A k F E T g f) (7, 15) = .inl (cZ, 36, .inl (fun i => if 6 * k ≤ i ∧ i < 6 * k + 6 then E (i - 6 * k) else A 15 i)) := rfl
theorem rc_e16 : rc_en ad cI cZ (rc_ov A k F E T g f) (7, 16) = .inl (cI, 24, .inl (fun i => if 4 * k ≤ i ∧ i < 4 * k + 4 then T (i - 4 * k) else A 16 i)) := rfl
theorem rc_e24 : rc_en ad cI cZ (rc_ov A k F E T g f) (7, 24) = .inl (cZ, 6, .inl f) := rfl
theorem rc_e6 : rc_en ad cI cZ (rc_ov A k F E T g f) (6, 0) = .inr (4, [.int (g 0), .ref (ad (7, 1)), .ref (ad (7, 2)), .ref (ad (7, 3)), .ref (ad (7, 4)), .ref (ad (7, 5)), .ref (ad (7, 6)), .ref (ad (7, 7)), .ref (ad (7, 8)), .ref (ad (7, 9)), .ref (ad (7, 10)), .ref (ad (7, 11)), .ref (ad (7, 12)), .ref (ad (7, 13)), .ref (ad (7, 14)), .ref (ad (7, 15)), .ref (ad (7, 16)), .ref (ad (7, 17)), .int (g 18), .int (g 19), .int (g 20), .int (g 21), .int (g 22), .int (g 23), .ref (ad (7, 24)), .ref (ad (7, 25))]) := rfl
/-- what an update leaves -/
theorem rc_same {A A' : rc_A} {i : xq_I} (hi : i ∈ rc_cs) (h : ∀ a, (i = (6, 0) → a = 0) → (i ≠ (6, 0) → i = (7, a)) → A' a = A a) : rc_en ad cI cZ A' i = rc_en ad cI cZ A i := by
  by_cases h6 : i = (6, 0)
  · subst h6
    have h0 := h 0 (fun _ => rfl) (fun q => absurd rfl q)
    show Sum.inr (4, _) = Sum.inr (4, _)
    rw [h0]
  · have h7 : ∃ a, i = (7, a) := by
      simp only [rc_cs, List.mem_cons, List.not_mem_nil, or_false] at hi
      rcases hi with q | q | q | q | q | q | q | q | q | q | q | q | q | q | q | q | q | q | q | q
      · exact absurd q h6
      · exact ⟨_, q⟩
      · exact ⟨_, q⟩
      · exact ⟨_, q⟩
      · exact ⟨_, q⟩
      · exact ⟨_, q⟩
      · exact ⟨_, q⟩
      · exact ⟨_, q⟩
      · exact ⟨_, q⟩
      · exact ⟨_, q⟩
      · exact ⟨_, q⟩
      · exact ⟨_, q⟩
      · exact ⟨_, q⟩
      · exact ⟨_, q⟩
      · exact ⟨_, q⟩
      · exact ⟨_, q⟩
      · exact ⟨_, q⟩
      · exact ⟨_, q⟩
      · exact ⟨_, q⟩
      · exact ⟨_, q⟩
    obtain ⟨a, rfl⟩ := h7
    have ha := h a (fun q => absurd q h6) (fun _ => rfl)
    show Sum.inl (_, _, Sum.inl (A' a)) = Sum.inl (_, _, Sum.inl (A a))
    rw [ha]
theorem rc_oN (h : a ≠ 0 ∧ a ≠ 24 ∧ a ≠ 15 ∧ a ≠ 16) (v : Int32) : ∀ i, i ∈ rc_cs → i ≠ (7, a) → rc_en ad cI cZ (rc_ov A k (upd F a v) E T g f) i = rc_en ad cI cZ (rc_ov A k F E T g f) i := by
  intro i hi hn
  refine rc_same hi (fun b h1 h2 => ?_)
  have hb : b ≠ a := by
    intro q
    subst q
    by_cases h6 : i = (6, 0)
    · exact h.1 (h1 h6)
    · exact hn (h2 h6)
  have hu : upd F a v b = F b := if_neg hb
  show (if b = 0 then g else if b = 24 then f else if b = 15 then _ else if b = 16 then _ else va_up (A b) k (upd F a v b)) = _
  rw [hu]
  rfl
theorem rc_oE {E' : Nat → Int32} : ∀ i, i ∈ rc_cs → i ≠ (7, 15) → rc_en ad cI cZ (rc_ov A k F E' T g f) i = rc_en ad cI cZ (rc_ov A k F E T g f) i := by
  intro i hi hn
  refine rc_same hi (fun b h1 h2 => ?_)
  have hb : b ≠ 15 := by
    intro q
    subst q
    by_cases h6 : i = (6, 0)
    · exact absurd (h1 h6) (by decide)
    · exact hn (h2 h6)
  unfold rc_ov
  rw [if_neg hb, if_neg hb]
theorem rc_oT {T' : Nat → Int32} : ∀ i, i ∈ rc_cs → i ≠ (7, 16) → rc_en ad cI cZ (rc_ov A k F E T' g f) i = rc_en ad cI cZ (rc_ov A k F E T g f) i := by
  intro i hi hn
  refine rc_same hi (fun b h1 h2 => ?_)
  have hb : b ≠ 16 := by
    intro q
    subst q
    by_cases h6 : i = (6, 0)
    · exact absurd (h1 h6) (by decide)
    · exact hn (h2 h6)
  unfold rc_ov
  rw [if_neg hb, if_neg hb]
theorem rc_oF {f' : Nat → Int32} : ∀ i, i ∈ rc_cs → i ≠ (7, 24) → rc_en ad cI cZ (rc_ov A k F E T g f') i = rc_en ad cI cZ (rc_ov A k F E T g f) i := by
  intro i hi hn
  refine rc_same hi (fun b h1 h2 => ?_)
  have hb : b ≠ 24 := by
    intro q
    subst q
    by_cases h6 : i = (6, 0)
    · exact absurd (h1 h6) (by decide)
    · exact hn (h2 h6)
  unfold rc_ov
  rw [if_neg hb, if_neg hb]
theorem rc_oG {g' : Nat → Int32} : ∀ i, i ∈ rc_cs → i ≠ (6, 0) → rc_en ad cI cZ (rc_ov A k F E T g' f) i = rc_en ad cI cZ (rc_ov A k F E T g f) i := by
  intro i hi hn
  refine rc_same hi (fun b h1 h2 => ?_)
  have hb : b ≠ 0 := by
    intro q
    subst q
    have hz := h2 hn
    subst hz
    exact absurd hi (by decide)
  unfold rc_ov
  rw [if_neg hb, if_neg hb]
/-- a row's update at node k -/
theorem rc_u6 {h : Nat → Int32} {m : Nat} {v : Int32} (hm : m < 6) : upd (fun i => if 6 * k ≤ i ∧ i < 6 * k + 6 then E (i - 6 * k) else h i) (6 * k + m) v = (fun i => if 6 * k ≤ i ∧ i < 6 * k + 6 then upd E m v (i - 6 * k) else h i) := by
  funext i
  unfold upd
  dsimp only
  by_cases h1 : i = 6 * k + m
  · subst h1
    rw [if_pos rfl, if_pos (by omega), if_pos (by omega)]
  · rw [if_neg h1]
    by_cases h2 : 6 * k ≤ i ∧ i < 6 * k + 6
    · rw [if_pos h2, if_pos h2, if_neg (by omega)]
    · rw [if_neg h2, if_neg h2]
theorem rc_u4 {h : Nat → Int32} {m : Nat} {v : Int32} (hm : m < 4) : upd (fun i => if 4 * k ≤ i ∧ i < 4 * k + 4 then T (i - 4 * k) else h i) (4 * k + m) v = (fun i => if 4 * k ≤ i ∧ i < 4 * k + 4 then upd T m v (i - 4 * k) else h i) := by
  funext i
  unfold upd
  dsimp only
  by_cases h1 : i = 4 * k + m
  · subst h1
    rw [if_pos rfl, if_pos (by omega), if_pos (by omega)]
  · rw [if_neg h1]
    by_cases h2 : 4 * k ≤ i ∧ i < 4 * k + 4
    · rw [if_pos h2, if_pos h2, if_neg (by omega)]
    · rw [if_neg h2, if_neg h2]
theorem rc_uk {h : Nat → Int32} {x v : Int32} : upd (va_up h k x) k v = va_up h k v := by
  funext i
  unfold upd va_up
  by_cases h1 : i = k
  · rw [if_pos h1, if_pos h1]
  · rw [if_neg h1, if_neg h1, if_neg h1]
end RC
section RR
variable {p : Program} {l : Launch} {e : Env} {R : Room} {s : State} {m : MethodId} {args : Array Value} {below : List Frame} {meth : Method} {c : Code} {Q : State → Prop}
variable {D : va_G} {ad : xq_I → Nat} {Ts : List Cond} {own : String} {cc : ByteArray} {nL : Nat} {ret : Option FieldType} {k : Nat} {cI cZ cN : ClassId} {A : rc_A} {F E T g f : Nat → Int32}
variable {qc qs pc index : Nat} {L : List (Nat × Value)} {st : List Value} {v x : Int32}
theorem rg_get (X : xq_C p s m args meth c D vcl (kc_tys cI cZ cN) rc_cs ad Ts own cc nL ret) (j : Nat) (hj : j = 0 ∨ j = 18 ∨ j = 19 ∨ j = 20 ∨ j = 21 ∨ j = 22 ∨ j = 23) (hF : xq_F Ts own index vcl 4 j) (hd : decode cc pc = .ok (.getfield index, 3)) (hv : g j = v)
    (K : xq_W p l e R s m args below meth c D vcl rc_cs ad (rc_en ad cI cZ) qc qs Q nL (pc + 3) L (.int v :: st) (rc_ov A k F E T g f)) : xq_W p l e R s m args below meth c D vcl rc_cs ad (rc_en ad cI cZ) qc qs Q nL pc L (.ref (ad (6, 0)) :: st) (rc_ov A k F E T g f) := by
  subst hv
  refine xq_get X hF (by decide) rc_e6 ?_ hd K
  rcases hj with rfl | rfl | rfl | rfl | rfl | rfl | rfl <;> rfl
theorem rg_put (X : xq_C p s m args meth c D vcl (kc_tys cI cZ cN) rc_cs ad Ts own cc nL ret) (j : Nat) (hj : j = 0 ∨ j = 18 ∨ j = 19 ∨ j = 20 ∨ j = 21 ∨ j = 22 ∨ j = 23) (hF : xq_F Ts own index vcl 4 j) (hT : xq_T vcl 4) (hN : xq_N vcl 4 j .int) (hd : decode cc pc = .ok (.putfield index, 3))
    (K : xq_W p l e R s m args below meth c D vcl rc_cs ad (rc_en ad cI cZ) qc qs Q nL (pc + 3) L st (rc_ov A k F E T (upd g j v) f)) : xq_W p l e R s m args below meth c D vcl rc_cs ad (rc_en ad cI cZ) qc qs Q nL pc L (.int v :: .ref (ad (6, 0)) :: st) (rc_ov A k F E T g f) := by
  refine xq_put X hF hT hN (by decide) rc_e6 (by show j < 26; omega) rfl rfl ?_ rc_oG hd K
  rw [rc_e6]
  rcases hj with rfl | rfl | rfl | rfl | rfl | rfl | rfl <;> rfl
theorem rg_row (X : xq_C p s m args meth c D vcl (kc_tys cI cZ cN) rc_cs ad Ts own cc nL ret) (j : Nat) (hj : j = 1 ∨ j = 2 ∨ j = 3 ∨ j = 4 ∨ j = 5 ∨ j = 6 ∨ j = 7 ∨ j = 8 ∨ j = 9 ∨ j = 10 ∨ j = 11 ∨ j = 12 ∨ j = 13 ∨ j = 14 ∨ j = 15 ∨ j = 16 ∨ j = 17 ∨ j = 24 ∨ j = 25) (hF : xq_F Ts own index vcl 4 j) (hd : decode cc pc = .ok (.getfield index, 3))
    (K : xq_W p l e R s m args below meth c D vcl rc_cs ad (rc_en ad cI cZ) qc qs Q nL (pc + 3) L (.ref (ad (7, j)) :: st) (rc_ov A k F E T g f)) : xq_W p l e R s m args below meth c D vcl rc_cs ad (rc_en ad cI cZ) qc qs Q nL pc L (.ref (ad (6, 0)) :: st) (rc_ov A k F E T g f) := by
  refine xq_get X hF (by decide) rc_e6 ?_ hd K
  rcases hj with rfl | rfl | rfl | rfl | rfl | rfl | rfl | rfl | rfl | rfl | rfl | rfl | rfl | rfl | rfl | rfl | rfl | rfl | rfl <;> rfl
theorem rn_ald (X : xq_C p s m args meth c D vcl (kc_tys cI cZ cN) rc_cs ad Ts own cc nL ret) (a : Nat) (ha : rc_I a) (hk : k < 6) (hx : x = nI k) (hd : decode cc pc = .ok (.iaload, 1)) (hv : F a = v)
    (K : xq_W p l e R s m args below meth c D vcl rc_cs ad (rc_en ad cI cZ) qc qs Q nL (pc + 1) L (.int v :: st) (rc_ov A k F E T g f)) : xq_W p l e R s m args below meth c D vcl rc_cs ad (rc_en ad cI cZ) qc qs Q nL pc L (.int x :: .ref (ad (7, a)) :: st) (rc_ov A k F E T g f) := by
  subst hx; subst hv
  exact xq_iald (t0 := 0) X ha.1 rfl (rc_eI ha) (vp_in_nI hk (by decide)) (by rw [nI_clamp (by omega), kc_us]) hd K
theorem rz_ald (X : xq_C p s m args meth c D vcl (kc_tys cI cZ cN) rc_cs ad Ts own cc nL ret) (a : Nat) (ha : rc_Z a) (hk : k < 6) (hx : x = nI k) (hd : decode cc pc = .ok (.baload, 1)) (hv : F a = v)
    (K : xq_W p l e R s m args below meth c D vcl rc_cs ad (rc_en ad cI cZ) qc qs Q nL (pc + 1) L (.int v :: st) (rc_ov A k F E T g f)) : xq_W p l e R s m args below meth c D vcl rc_cs ad (rc_en ad cI cZ) qc qs Q nL pc L (.int x :: .ref (ad (7, a)) :: st) (rc_ov A k F E T g f) := by
  subst hx; subst hv
  exact xq_zald (t0 := 1) X ha.1 rfl (rc_eZ ha) (vp_in_nI hk (by decide)) (by rw [nI_clamp (by omega), kc_us]) hd K
theorem rn_ast (X : xq_C p s m args meth c D vcl (kc_tys cI cZ cN) rc_cs ad Ts own cc nL ret) (a : Nat) (ha : rc_I a) (hk : k < 6) (hx : x = nI k) (hd : decode cc pc = .ok (.iastore, 1))
    (K : xq_W p l e R s m args below meth c D vcl rc_cs ad (rc_en ad cI cZ) qc qs Q nL (pc + 1) L st (rc_ov A k (upd F a v) E T g f)) : xq_W p l e R s m args below meth c D vcl rc_cs ad (rc_en ad cI cZ) qc qs Q nL pc L (.int v :: .int x :: .ref (ad (7, a)) :: st) (rc_ov A k F E T g f) := by
  subst hx
  refine xq_iast (t0 := 0) X ha.1 rfl (rc_eI ha) (vp_in_nI hk (by decide)) ?_ (rc_oN ha.2.2 v) hd K
  rw [rc_eI ha, nI_clamp (by omega), rc_uk, show upd F a v a = v from if_pos rfl]
theorem rz_ast (X : xq_C p s m args meth c D vcl (kc_tys cI cZ cN) rc_cs ad Ts own cc nL ret) (a : Nat) (ha : rc_Z a) (hk : k < 6) (hx : x = nI k) {v' : Int32} (hv : v &&& 1 = v') (hd : decode cc pc = .ok (.bastore, 1))
    (K : xq_W p l e R s m args below meth c D vcl rc_cs ad (rc_en ad cI cZ) qc qs Q nL (pc + 1) L st (rc_ov A k (upd F a v') E T g f)) : xq_W p l e R s m args below meth c D vcl rc_cs ad (rc_en ad cI cZ) qc qs Q nL pc L (.int v :: .int x :: .ref (ad (7, a)) :: st) (rc_ov A k F E T g f) := by
  subst hx; subst hv
  refine xq_zast (t0 := 1) X ha.1 rfl (rc_eZ ha) (vp_in_nI hk (by decide)) ?_ (rc_oN ha.2.2 _) hd K
  rw [rc_eZ ha, nI_clamp (by omega), rc_uk, show upd F a (v &&& 1) a = v &&& 1 from if_pos rfl]
theorem re_ald (X : xq_C p s m args meth c D vcl (kc_tys cI cZ cN) rc_cs ad Ts own cc nL ret) (mm : Nat) (hm : mm < 6) (hk : k < 6) (hx : x = nI (6 * k + mm)) (hd : decode cc pc = .ok (.baload, 1)) (hv : E mm = v)
    (K : xq_W p l e R s m args below meth c D vcl rc_cs ad (rc_en ad cI cZ) qc qs Q nL (pc + 1) L (.int v :: st) (rc_ov A k F E T g f)) : xq_W p l e R s m args below meth c D vcl rc_cs ad (rc_en ad cI cZ) qc qs Q nL pc L (.int x :: .ref (ad (7, 15)) :: st) (rc_ov A k F E T g f) := by
  subst hx; subst hv
  refine xq_zald (t0 := 1) X (by decide) rfl rc_e15 (vp_in_nI (by omega) (by decide)) ?_ hd K
  rw [nI_clamp (by omega)]
  show (if 6 * k ≤ 6 * k + mm ∧ 6 * k + mm < 6 * k + 6 then E (6 * k + mm - 6 * k) else A 15 (6 * k + mm)) = _
  rw [if_pos (by omega), show 6 * k + mm - 6 * k = mm by omega]
theorem re_ast (X : xq_C p s m args meth c D vcl (kc_tys cI cZ cN) rc_cs ad Ts own cc nL ret) (mm : Nat) (hm : mm < 6) (hk : k < 6) (hx : x = nI (6 * k + mm)) {v' : Int32} (hv : v &&& 1 = v') (hd : decode cc pc = .ok (.bastore, 1))
    (K : xq_W p l e R s m args below meth c D vcl rc_cs ad (rc_en ad cI cZ) qc qs Q nL (pc + 1) L st (rc_ov A k F (upd E mm v') T g f)) : xq_W p l e R s m args below meth c D vcl rc_cs ad (rc_en ad cI cZ) qc qs Q nL pc L (.int v :: .int x :: .ref (ad (7, 15)) :: st) (rc_ov A k F E T g f) := by
  subst hx; subst hv
  refine xq_zast (t0 := 1) X (by decide) rfl rc_e15 (vp_in_nI (by omega) (by decide)) ?_ rc_oE hd K
  rw [rc_e15, nI_clamp (by omega), rc_u6 hm]
theorem rt_ald (X : xq_C p s m args meth c D vcl (kc_tys cI cZ cN) rc_cs ad Ts own cc nL ret) (mm : Nat) (hm : mm < 4) (hk : k < 6) (hx : x = nI (4 * k + mm)) (hd : decode cc pc = .ok (.iaload, 1)) (hv : T mm = v)
    (K : xq_W p l e R s m args below meth c D vcl rc_cs ad (rc_en ad cI cZ) qc qs Q nL (pc + 1) L (.int v :: st) (rc_ov A k F E T g f)) : xq_W p l e R s m args below meth c D vcl rc_cs ad (rc_en ad cI cZ) qc qs Q nL pc L (.int x :: .ref (ad (7, 16)) :: st) (rc_ov A k F E T g f) := by
  subst hx; subst hv
  refine xq_iald (t0 := 0) X (by decide) rfl rc_e16 (vp_in_nI (by omega) (by decide)) ?_ hd K
  rw [nI_clamp (by omega)]
  show (if 4 * k ≤ 4 * k + mm ∧ 4 * k + mm < 4 * k + 4 then T (4 * k + mm - 4 * k) else A 16 (4 * k + mm)) = _
  rw [if_pos (by omega), show 4 * k + mm - 4 * k = mm by omega]
theorem rt_ast (X : xq_C p s m args meth c D vcl (kc_tys cI cZ cN) rc_cs ad Ts own cc nL ret) (mm : Nat) (hm : mm < 4) (hk : k < 6) (hx : x = nI (4 * k + mm)) (hd : decode cc pc = .ok (.iastore, 1))
    (K : xq_W p l e R s m args below meth c D vcl rc_cs ad (rc_en ad cI cZ) qc qs Q nL (pc + 1) L st (rc_ov A k F E (upd T mm v) g f)) : xq_W p l e R s m args below meth c D vcl rc_cs ad (rc_en ad cI cZ) qc qs Q nL pc L (.int v :: .int x :: .ref (ad (7, 16)) :: st) (rc_ov A k F E T g f) := by
  subst hx
  refine xq_iast (t0 := 0) X (by decide) rfl rc_e16 (vp_in_nI (by omega) (by decide)) ?_ rc_oT hd K
  rw [rc_e16, nI_clamp (by omega), rc_u4 hm]
theorem rf_ald (X : xq_C p s m args meth c D vcl (kc_tys cI cZ cN) rc_cs ad Ts own cc nL ret) (mm : Nat) (hm : mm < 6) (hx : x = nI mm) (hd : decode cc pc = .ok (.baload, 1)) (hv : f mm = v)
    (K : xq_W p l e R s m args below meth c D vcl rc_cs ad (rc_en ad cI cZ) qc qs Q nL (pc + 1) L (.int v :: st) (rc_ov A k F E T g f)) : xq_W p l e R s m args below meth c D vcl rc_cs ad (rc_en ad cI cZ) qc qs Q nL pc L (.int x :: .ref (ad (7, 24)) :: st) (rc_ov A k F E T g f) := by
  subst hx; subst hv
  exact xq_zald (t0 := 1) X (by decide) rfl rc_e24 (vp_in_nI hm (by decide)) (by rw [nI_clamp (by omega)]) hd K
theorem rf_ast (X : xq_C p s m args meth c D vcl (kc_tys cI cZ cN) rc_cs ad Ts own cc nL ret) (mm : Nat) (hm : mm < 6) (hx : x = nI mm) {v' : Int32} (hv : v &&& 1 = v') (hd : decode cc pc = .ok (.bastore, 1))
    (K : xq_W p l e R s m args below meth c D vcl rc_cs ad (rc_en ad cI cZ) qc qs Q nL (pc + 1) L st (rc_ov A k F E T g (upd f mm v'))) : xq_W p l e R s m args below meth c D vcl rc_cs ad (rc_en ad cI cZ) qc qs Q nL pc L (.int v :: .int x :: .ref (ad (7, 24)) :: st) (rc_ov A k F E T g f) := by
  subst hx; subst hv
  refine xq_zast (t0 := 1) X (by decide) rfl rc_e24 (vp_in_nI hm (by decide)) ?_ rc_oF hd K
  rw [rc_e24, nI_clamp (by omega)]
end RR
theorem ri_6 {k m : Nat} {y : Int32} (h : y = nI m) : 6 * nI k + y = nI (6 * k + m) := by
  subst h
  rw [show (6 : Int32) = nI 6 from rfl, pk_mul, nI_add]
theorem ri_4 {k m : Nat} {y : Int32} (h : y = nI m) : 4 * nI k + y = nI (4 * k + m) := by
  subst h
  rw [show (4 : Int32) = nI 4 from rfl, pk_mul, nI_add]
theorem ri_40 (k : Nat) : 4 * nI k = nI (4 * k + 0) := by
  rw [show (4 : Int32) = nI 4 from rfl, pk_mul, Nat.add_zero]
theorem ri_4b (k a b : Nat) : 4 * nI k + nI a + nI b = nI (4 * k + (a + b)) := by
  rw [show (4 : Int32) = nI 4 from rfl, pk_mul, nI_add, nI_add, Nat.add_assoc]
section RL
variable {p : Program} {l : Launch} {e : Env} {R : Room} {s : State} {m : MethodId} {args : Array Value} {below : List Frame} {meth : Method} {c : Code} {Q : State → Prop}
variable {D : va_G} {ad : xq_I → Nat} {Ts : List Cond} {own : String} {cc : ByteArray} {nL : Nat} {ret : Option FieldType} {cI cZ cN : ClassId} {A M' : rc_A}
variable {pc index d maxL na : Nat} {L : List (Nat × Value)} {st As rest : List Value} {a : Value} {y : MethodName} {code : ByteArray} {rt : Option FieldType}
theorem rk_callI (X : xq_C p s m args meth c D vcl (kc_tys cI cZ cN) rc_cs ad Ts own cc nL ret) (hg : ∀ w ∈ Ts, xq_g w) (hG : xq_G Ts own index y code maxL rt na)
    (hM : xq_M l D vcl (kc_tys cI cZ cN) rc_cs ad (rc_en ad cI cZ) y (Cond.code y code maxL rt :: Ts) d (.ref (ad (6, 0)) :: As) A (some a) M')
    (hy : y.cls = R_M) (hn : As.length = na) (hR : d + 1 ≤ R.frames ∧ 8 + (maxL + 11) + 32 * d ≤ R.locals) (hst : (rest.map fun v => v.category).sum ≤ 8) (hs : st = As.reverse ++ .ref (ad (6, 0)) :: rest) (hd : decode cc pc = .ok (.invokevirtual index, 3))
    (K : xq_W p l e R s m args below meth c D vcl rc_cs ad (rc_en ad cI cZ) 0 0 Q nL (pc + 3) L (a :: rest) M') : xq_W p l e R s m args below meth c D vcl rc_cs ad (rc_en ad cI cZ) 0 0 Q nL pc L st A :=
  xq_cv X hg hG hM (by decide) rfl (ci := 4) rfl hy hn hR ⟨Nat.zero_le _, Nat.zero_le _⟩ hst hs hd K
theorem rk_callV (X : xq_C p s m args meth c D vcl (kc_tys cI cZ cN) rc_cs ad Ts own cc nL ret) (hg : ∀ w ∈ Ts, xq_g w) (hG : xq_G Ts own index y code maxL rt na)
    (hM : xq_M l D vcl (kc_tys cI cZ cN) rc_cs ad (rc_en ad cI cZ) y (Cond.code y code maxL rt :: Ts) d (.ref (ad (6, 0)) :: As) A none M')
    (hy : y.cls = R_M) (hn : As.length = na) (hR : d + 1 ≤ R.frames ∧ 8 + (maxL + 11) + 32 * d ≤ R.locals) (hst : (rest.map fun v => v.category).sum ≤ 8) (hs : st = As.reverse ++ .ref (ad (6, 0)) :: rest) (hd : decode cc pc = .ok (.invokevirtual index, 3))
    (K : xq_W p l e R s m args below meth c D vcl rc_cs ad (rc_en ad cI cZ) 0 0 Q nL (pc + 3) L rest M') : xq_W p l e R s m args below meth c D vcl rc_cs ad (rc_en ad cI cZ) 0 0 Q nL pc L st A :=
  xq_cv X hg hG hM (by decide) rfl (ci := 4) rfl hy hn hR ⟨Nat.zero_le _, Nat.zero_le _⟩ hst hs hd K
end RL
