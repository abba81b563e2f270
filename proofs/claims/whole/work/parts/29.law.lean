/-! the law's world: the class's cells and the reference's, side by side -/
abbrev lq_M : Type := kc_B × rc_A
def lq_cs (n : Nat) : List xq_I := kc_cs n ++ rc_cs
def lq_en (n : Nat) (ad : xq_I → Nat) (cI cZ cN : ClassId) (M : lq_M) (i : xq_I) : va_E := if i.1 < 6 then kc_en n ad cI cN M.1 i else rc_en ad cI cZ M.2 i
theorem lq_k {n : Nat} {i : xq_I} (h : i ∈ kc_cs n) : i.1 < 6 := by
  unfold kc_cs at h
  simp only [List.mem_cons, List.mem_append, List.mem_flatMap, List.not_mem_nil, or_false] at h
  rcases h with rfl | rfl | ⟨k, -, rfl | rfl | rfl⟩ | rfl <;> simp
theorem lq_r {i : xq_I} (h : i ∈ rc_cs) : ¬ i.1 < 6 := by
  have : ∀ j ∈ rc_cs, ¬ j.1 < 6 := by decide
  exact this i h
section LQ
variable {μ μ1 : Type} {p : Program} {l : Launch} {e : Env} {R : Room} {s : State} {m : MethodId} {args : Array Value} {below : List Frame} {meth : Method} {c : Code} {Q : State → Prop}
variable {D : va_G} {cl : List vw_C} {tys : List (ClassId × FieldType)} {cs c1 : List xq_I} {ad : xq_I → Nat} {en : μ → xq_I → va_E} {en1 : μ1 → xq_I → va_E} {Ts : List Cond} {own : String} {cc : ByteArray} {nL : Nat} {ret : Option FieldType}
variable {qc qs pc : Nat} {L : List (Nat × Value)} {st : List Value} {M M' : μ} {M1 M1' : μ1}
/-- a call whose contract speaks of a part of the world -/
theorem lq_call (X : xq_C p s m args meth c D cl tys cs ad Ts own cc nL ret) (hg : ∀ w ∈ Ts, xq_g w) {index ci d maxL n : Nat} {i : xq_I} {fs : List Value} {y : MethodName} {code : ByteArray} {rt : Option FieldType} {As rest : List Value} {a : Value} {q : vw_C} (hG : xq_G Ts own index y code maxL rt n)
    (hM : xq_M l D cl tys c1 ad en1 y (Cond.code y code maxL rt :: Ts) d (.ref (ad i) :: As) M1 (some a) M1') (hsub : ∀ j, j ∈ c1 → j ∈ cs) (h1e : ∀ j, j ∈ c1 → en M j = en1 M1 j) (h2e : ∀ j, j ∈ c1 → en M' j = en1 M1' j) (h3e : ∀ j, j ∈ cs → j ∉ c1 → en M' j = en M j) (hi : i ∈ c1) (he : en1 M1 i = .inr (ci, fs)) (hc : cl[ci]? = some q) (hy : y.cls = q.1)
    (hn : As.length = n) (hR : d + 1 ≤ R.frames ∧ 8 + (maxL + 11) + 32 * d ≤ R.locals) (hcs : qc ≤ R.cells ∧ qs ≤ R.slots)
    (hst : (rest.map fun v => v.category).sum ≤ 8) (hs : st = As.reverse ++ .ref (ad i) :: rest) (hd : decode cc pc = .ok (.invokevirtual index, 3))
    (k : xq_W p l e R s m args below meth c D cl cs ad en qc qs Q nL (pc + 3) L (a :: rest) M') : xq_W p l e R s m args below meth c D cl cs ad en qc qs Q nL pc L st M := by
  intro H locs ls h1 h2 h3
  have hts := X.2.2.2.2.1
  have hap := X.2.2.2.2.2.2.2.2
  have hp1 : va_P D cl (xq_w c1 ad en1 M1) H := by
    intro j x hx
    obtain ⟨c0, g1, g2⟩ := xq_wof hx
    subst g2
    obtain ⟨j2, hj2⟩ := List.getElem?_of_mem (hsub c0 (List.mem_of_getElem? g1))
    have := h2 j2 _ (xq_wat hj2)
    rw [h1e c0 (List.mem_of_getElem? g1)] at this
    exact this
  obtain ⟨q0, hq⟩ := List.getElem?_of_mem hi
  have hcell := va_recv X.2.2.2.2.2.2.2.1 hp1 hc ((xq_wat hq).trans (by rw [he]))
  have hB : CallB R s args own index y code maxL rt (Cond.code y code maxL rt :: Ts) (xq_r d) 0 0 n := callB_of n hts (xq_w1 hg hG.1) rfl rfl rfl (hts _ hG.2.2.2.2.1) (hts _ hG.2.1) hG.2.2.2.2.2 hR
  subst hs
  have hr := va_runV (p := p) (l := l) (e := e) (below := below) (meth := meth) (locs := locs) (cells := qc) (slots := qs) (g := F0 m pc ls (As.reverse ++ .ref (ad i) :: rest)) (C := q.1) (As := As) (rest := rest) (b := ad i) ⟨X.1, X.2.1, X.2.2.1, X.2.2.2.1, hts⟩ hM ⟨hB, hts _ hG.2.2.1, hts _ (hy ▸ hG.2.2.2.1)⟩ ⟨xq_blind, hcell, fun U hU hW => ⟨rfl, by rw [hU]; exact hp1, va_K.moved hW.alike X.2.2.2.2.2.2.2.1⟩⟩ rfl hn h1.1 rfl (lv_room hst) hd hcs
  intro T hT X0
  obtain ⟨v', st₀, t, T', Lo, h0, X', hLo, e1, e2, ⟨hv, hP, hz, hk⟩, go⟩ := hr T hT X0
  cases hv
  rw [h0] at hz hk
  rw [← e1] at hP hz hk
  have hin : ∀ x, xq_in c1 ad x → xq_in cs ad x := fun x ⟨c0, g1, g2⟩ => ⟨c0, hsub c0 g1, g2⟩
  have hP2 : va_P D cl (xq_w cs ad en M') T'.heap := by
    intro j x hx
    obtain ⟨c0, g1, g2⟩ := xq_wof hx
    subst g2
    by_cases hc0 : c0 ∈ c1
    · obtain ⟨j2, hj2⟩ := List.getElem?_of_mem hc0
      rw [h2e c0 hc0]
      exact hP j2 _ (xq_wat hj2)
    · rw [h3e c0 (List.mem_of_getElem? g1) hc0]
      have hold := h2 j _ (xq_wat g1)
      refine hold.kept (hk _ hold.lt (fun ⟨c2, g3, g4⟩ => ?_))
      obtain ⟨j2, hj2⟩ := List.getElem?_of_mem (hsub c2 g3)
      have hjj := hap j j2 c0 c2 g1 hj2 g4
      subst hjj
      rw [g1] at hj2
      cases hj2
      exact hc0 g3
  have hS : va_S (xq_in cs ad) s.heap T'.heap (locs ++ Lo) := ⟨Nat.le_trans h3.1 hz, fun x g1 g2 => by rw [hk x (Nat.lt_of_lt_of_le g1 h3.1) (fun z => g2 (hin x z))]; exact h3.2.1 x g1 g2, fun x hx => by
    rcases List.mem_append.mp hx with h | h
    · exact h3.2.2 x h
    · exact hin _ (hLo x h)⟩
  obtain ⟨t2, a1, b1⟩ := k T'.heap (locs ++ Lo) ls h1 hP2 hS T' rfl X'
  exact ⟨t2, go t2 a1, b1⟩
/-- the script -/
theorem lq_sld (X : xq_C p s m args meth c D cl tys cs ad Ts own cc nL ret) {b Ls : Nat} {xs : Nat → Int32} (hX : va_X b Ls xs s s.heap) (hbl : b < s.heap.size) (hbA : ¬ xq_in cs ad b) {i v : Int32} (hin : vp_in i Ls) (hd : decode cc pc = .ok (.iaload, 1)) (hv : xs i.toNatClampNeg = v)
    (k : xq_W p l e R s m args below meth c D cl cs ad en qc qs Q nL (pc + 1) L (.int v :: st) M) : xq_W p l e R s m args below meth c D cl cs ad en qc qs Q nL pc L (.int i :: .ref b :: st) M := by
  subst hv
  exact fun H locs ls h1 h2 h3 => va_sld X.1 X.2.1 hX hbl hbA h3 hin hd (k H locs ls h1 h2 h3)
theorem lq_slen (X : xq_C p s m args meth c D cl tys cs ad Ts own cc nL ret) {b Ls : Nat} {xs : Nat → Int32} (hX : va_X b Ls xs s s.heap) (hbl : b < s.heap.size) (hbA : ¬ xq_in cs ad b) (hd : decode cc pc = .ok (.arraylength, 1))
    (k : xq_W p l e R s m args below meth c D cl cs ad en qc qs Q nL (pc + 1) L (.int (nI Ls) :: st) M) : xq_W p l e R s m args below meth c D cl cs ad en qc qs Q nL pc L (.ref b :: st) M :=
  fun H locs ls h1 h2 h3 => va_slen X.1 X.2.1 hX hbl hbA h3 hd (k H locs ls h1 h2 h3)
end LQ
section LC
variable {p : Program} {l : Launch} {e : Env} {R : Room} {s : State} {m : MethodId} {args : Array Value} {below : List Frame} {meth : Method} {c : Code} {Q : State → Prop}
variable {D : va_G} {n : Nat} {ad : xq_I → Nat} {cI cZ cN : ClassId} {own : String} {cc : ByteArray} {nL : Nat} {ret : Option FieldType}
variable {qc qs pc index d maxL na : Nat} {L : List (Nat × Value)} {st As rest : List Value} {B B' : kc_B} {A A' : rc_A} {a : Value} {y : MethodName} {code : ByteArray} {rt : Option FieldType}
theorem lq_callC (X : xq_C p s m args meth c D vcl (kc_tys cI cZ cN) (lq_cs n) ad xw own cc nL ret) (hG : xq_G xw own index y code maxL rt na)
    (hM : xq_M l D vcl (kc_tys cI cZ cN) (kc_cs n) ad (kc_en n ad cI cN) y (Cond.code y code maxL rt :: xw) d (.ref (ad (0, 0)) :: As) B (some a) B') (hy : y.cls = R_C) (hn : As.length = na) (hR : d + 1 ≤ R.frames ∧ 8 + (maxL + 11) + 32 * d ≤ R.locals) (hcs : qc ≤ R.cells ∧ qs ≤ R.slots)
    (hst : (rest.map fun v => v.category).sum ≤ 8) (hs : st = As.reverse ++ .ref (ad (0, 0)) :: rest) (hd : decode cc pc = .ok (.invokevirtual index, 3))
    (k : xq_W p l e R s m args below meth c D vcl (lq_cs n) ad (lq_en n ad cI cZ cN) qc qs Q nL (pc + 3) L (a :: rest) (B', A)) : xq_W p l e R s m args below meth c D vcl (lq_cs n) ad (lq_en n ad cI cZ cN) qc qs Q nL pc L st (B, A) :=
  lq_call (M' := (B', A)) X xw_g hG hM (fun j h => List.mem_append_left _ h) (fun j h => if_pos (lq_k h)) (fun j h => if_pos (lq_k h)) (fun j h h2 => by
    have h6 : ¬ j.1 < 6 := by
      rcases List.mem_append.mp h with q | q
      · exact absurd q h2
      · exact lq_r q
    unfold lq_en
    rw [if_neg h6, if_neg h6]) (kc_i0 n) rfl (ci := 0) rfl hy hn hR hcs hst hs hd k
theorem lq_callM (X : xq_C p s m args meth c D vcl (kc_tys cI cZ cN) (lq_cs n) ad xw own cc nL ret) (hG : xq_G xw own index y code maxL rt na)
    (hM : xq_M l D vcl (kc_tys cI cZ cN) rc_cs ad (rc_en ad cI cZ) y (Cond.code y code maxL rt :: xw) d (.ref (ad (6, 0)) :: As) A (some a) A') (hy : y.cls = R_M) (hn : As.length = na) (hR : d + 1 ≤ R.frames ∧ 8 + (maxL + 11) + 32 * d ≤ R.locals) (hcs : qc ≤ R.cells ∧ qs ≤ R.slots)
    (hst : (rest.map fun v => v.category).sum ≤ 8) (hs : st = As.reverse ++ .ref (ad (6, 0)) :: rest) (hd : decode cc pc = .ok (.invokevirtual index, 3))
    (k : xq_W p l e R s m args below meth c D vcl (lq_cs n) ad (lq_en n ad cI cZ cN) qc qs Q nL (pc + 3) L (a :: rest) (B, A')) : xq_W p l e R s m args below meth c D vcl (lq_cs n) ad (lq_en n ad cI cZ cN) qc qs Q nL pc L st (B, A) :=
  lq_call (M' := (B, A')) X xw_g hG hM (fun j h => List.mem_append_right _ h) (fun j h => if_neg (lq_r h)) (fun j h => if_neg (lq_r h)) (fun j h h2 => by
    have h6 : j.1 < 6 := by
      rcases List.mem_append.mp h with q | q
      · exact lq_k q
      · exact absurd q h2
    unfold lq_en
    rw [if_pos h6, if_pos h6]) (by decide) rfl (ci := 4) rfl hy hn hR hcs hst hs hd k
end LC
/-- nodes: whatever is asked, class and reference give one answer, and stay related -/
def lo_nodes (l : Launch) (D : va_G) (n : Nat) (ad : xq_I → Nat) (cI cZ cN : ClassId) (Rel : kc_B → rc_A → Prop) : Prop := ∀ (B : kc_B) (A : rc_A), Rel B A → ∃ (v : Int32) (B' : kc_B) (A' : rc_A), xq_M l D vcl (kc_tys cI cZ cN) (kc_cs n) ad (kc_en n ad cI cN) y_C_nodes (Cond.code y_C_nodes b_C_nodes 1 (some .int) :: xw) 0 [.ref (ad (0, 0))] B (some (.int v)) B' ∧ xq_M l D vcl (kc_tys cI cZ cN) rc_cs ad (rc_en ad cI cZ) y_M_nodes (Cond.code y_M_nodes b_M_nodes 1 (some .int) :: xw) 0 [.ref (ad (6, 0))] A (some (.int v)) A' ∧ Rel B' A'
/-- on: whatever is asked, class and reference give one answer, and stay related -/
def lo_on (l : Launch) (D : va_G) (n : Nat) (ad : xq_I → Nat) (cI cZ cN : ClassId) (Rel : kc_B → rc_A → Prop) : Prop := ∀ (x y : Int32) (B : kc_B) (A : rc_A), Rel B A → ∃ (v : Int32) (B' : kc_B) (A' : rc_A), xq_M l D vcl (kc_tys cI cZ cN) (kc_cs n) ad (kc_en n ad cI cN) y_C_on (Cond.code y_C_on b_C_on 4 (some .boolean) :: xw) 3 [.ref (ad (0, 0)), .int x, .int y] B (some (.int v)) B' ∧ xq_M l D vcl (kc_tys cI cZ cN) rc_cs ad (rc_en ad cI cZ) y_M_on (Cond.code y_M_on b_M_on 4 (some .boolean) :: xw) 1 [.ref (ad (6, 0)), .int x, .int y] A (some (.int v)) A' ∧ Rel B' A'
/-- off: whatever is asked, class and reference give one answer, and stay related -/
def lo_off (l : Launch) (D : va_G) (n : Nat) (ad : xq_I → Nat) (cI cZ cN : ClassId) (Rel : kc_B → rc_A → Prop) : Prop := ∀ (x : Int32) (B : kc_B) (A : rc_A), Rel B A → ∃ (v : Int32) (B' : kc_B) (A' : rc_A), xq_M l D vcl (kc_tys cI cZ cN) (kc_cs n) ad (kc_en n ad cI cN) y_C_off (Cond.code y_C_off b_C_off 3 (some .boolean) :: xw) 2 [.ref (ad (0, 0)), .int x] B (some (.int v)) B' ∧ xq_M l D vcl (kc_tys cI cZ cN) rc_cs ad (rc_en ad cI cZ) y_M_off (Cond.code y_M_off b_M_off 2 (some .boolean) :: xw) 2 [.ref (ad (6, 0)), .int x] A (some (.int v)) A' ∧ Rel B' A'
/-- thaw: whatever is asked, class and reference give one answer, and stay related -/
def lo_thaw (l : Launch) (D : va_G) (n : Nat) (ad : xq_I → Nat) (cI cZ cN : ClassId) (Rel : kc_B → rc_A → Prop) : Prop := ∀ (x : Int32) (B : kc_B) (A : rc_A), Rel B A → ∃ (v : Int32) (B' : kc_B) (A' : rc_A), xq_M l D vcl (kc_tys cI cZ cN) (kc_cs n) ad (kc_en n ad cI cN) y_C_thaw (Cond.code y_C_thaw b_C_thaw 3 (some .boolean) :: xw) 3 [.ref (ad (0, 0)), .int x] B (some (.int v)) B' ∧ xq_M l D vcl (kc_tys cI cZ cN) rc_cs ad (rc_en ad cI cZ) y_M_thaw (Cond.code y_M_thaw b_M_thaw 2 (some .boolean) :: xw) 1 [.ref (ad (6, 0)), .int x] A (some (.int v)) A' ∧ Rel B' A'
/-- mute: whatever is asked, class and reference give one answer, and stay related -/
def lo_mute (l : Launch) (D : va_G) (n : Nat) (ad : xq_I → Nat) (cI cZ cN : ClassId) (Rel : kc_B → rc_A → Prop) : Prop := ∀ (x : Int32) (B : kc_B) (A : rc_A), Rel B A → ∃ (v : Int32) (B' : kc_B) (A' : rc_A), xq_M l D vcl (kc_tys cI cZ cN) (kc_cs n) ad (kc_en n ad cI cN) y_C_mute (Cond.code y_C_mute b_C_mute 3 (some .boolean) :: xw) 2 [.ref (ad (0, 0)), .int x] B (some (.int v)) B' ∧ xq_M l D vcl (kc_tys cI cZ cN) rc_cs ad (rc_en ad cI cZ) y_M_mute (Cond.code y_M_mute b_M_mute 2 (some .boolean) :: xw) 2 [.ref (ad (6, 0)), .int x] A (some (.int v)) A' ∧ Rel B' A'
/-- deafen: whatever is asked, class and reference give one answer, and stay related -/
def lo_deafen (l : Launch) (D : va_G) (n : Nat) (ad : xq_I → Nat) (cI cZ cN : ClassId) (Rel : kc_B → rc_A → Prop) : Prop := ∀ (x : Int32) (B : kc_B) (A : rc_A), Rel B A → ∃ (v : Int32) (B' : kc_B) (A' : rc_A), xq_M l D vcl (kc_tys cI cZ cN) (kc_cs n) ad (kc_en n ad cI cN) y_C_deafen (Cond.code y_C_deafen b_C_deafen 3 (some .boolean) :: xw) 2 [.ref (ad (0, 0)), .int x] B (some (.int v)) B' ∧ xq_M l D vcl (kc_tys cI cZ cN) rc_cs ad (rc_en ad cI cZ) y_M_deafen (Cond.code y_M_deafen b_M_deafen 2 (some .boolean) :: xw) 2 [.ref (ad (6, 0)), .int x] A (some (.int v)) A' ∧ Rel B' A'
/-- shift: whatever is asked, class and reference give one answer, and stay related -/
def lo_shift (l : Launch) (D : va_G) (n : Nat) (ad : xq_I → Nat) (cI cZ cN : ClassId) (Rel : kc_B → rc_A → Prop) : Prop := ∀ (x y : Int32) (B : kc_B) (A : rc_A), Rel B A → ∃ (v : Int32) (B' : kc_B) (A' : rc_A), xq_M l D vcl (kc_tys cI cZ cN) (kc_cs n) ad (kc_en n ad cI cN) y_C_shift (Cond.code y_C_shift b_C_shift 4 (some .boolean) :: xw) 2 [.ref (ad (0, 0)), .int x, .int y] B (some (.int v)) B' ∧ xq_M l D vcl (kc_tys cI cZ cN) rc_cs ad (rc_en ad cI cZ) y_M_shift (Cond.code y_M_shift b_M_shift 3 (some .boolean) :: xw) 2 [.ref (ad (6, 0)), .int x, .int y] A (some (.int v)) A' ∧ Rel B' A'
/-- run: whatever is asked, class and reference give one answer, and stay related -/
def lo_run (l : Launch) (D : va_G) (n : Nat) (ad : xq_I → Nat) (cI cZ cN : ClassId) (Rel : kc_B → rc_A → Prop) : Prop := ∀ (x : Int32) (B : kc_B) (A : rc_A), Rel B A → ∃ (v : Int32) (B' : kc_B) (A' : rc_A), xq_M l D vcl (kc_tys cI cZ cN) (kc_cs n) ad (kc_en n ad cI cN) y_C_run (Cond.code y_C_run b_C_run 4 (some .int) :: xw) 6 [.ref (ad (0, 0)), .int x] B (some (.int v)) B' ∧ xq_M l D vcl (kc_tys cI cZ cN) rc_cs ad (rc_en ad cI cZ) y_M_run (Cond.code y_M_run b_M_run 4 (some .int) :: xw) 5 [.ref (ad (6, 0)), .int x] A (some (.int v)) A' ∧ Rel B' A'
/-- slots: whatever is asked, class and reference give one answer, and stay related -/
def lo_slots (l : Launch) (D : va_G) (n : Nat) (ad : xq_I → Nat) (cI cZ cN : ClassId) (Rel : kc_B → rc_A → Prop) : Prop := ∀ (B : kc_B) (A : rc_A), Rel B A → ∃ (v : Int32) (B' : kc_B) (A' : rc_A), xq_M l D vcl (kc_tys cI cZ cN) (kc_cs n) ad (kc_en n ad cI cN) y_C_slots (Cond.code y_C_slots b_C_slots 1 (some .int) :: xw) 0 [.ref (ad (0, 0))] B (some (.int v)) B' ∧ xq_M l D vcl (kc_tys cI cZ cN) rc_cs ad (rc_en ad cI cZ) y_M_slots (Cond.code y_M_slots b_M_slots 1 (some .int) :: xw) 0 [.ref (ad (6, 0))] A (some (.int v)) A' ∧ Rel B' A'
/-- bus: whatever is asked, class and reference give one answer, and stay related -/
def lo_bus (l : Launch) (D : va_G) (n : Nat) (ad : xq_I → Nat) (cI cZ cN : ClassId) (Rel : kc_B → rc_A → Prop) : Prop := ∀ (B : kc_B) (A : rc_A), Rel B A → ∃ (v : Int32) (B' : kc_B) (A' : rc_A), xq_M l D vcl (kc_tys cI cZ cN) (kc_cs n) ad (kc_en n ad cI cN) y_C_bus (Cond.code y_C_bus b_C_bus 1 (some .int) :: xw) 0 [.ref (ad (0, 0))] B (some (.int v)) B' ∧ xq_M l D vcl (kc_tys cI cZ cN) rc_cs ad (rc_en ad cI cZ) y_M_bus (Cond.code y_M_bus b_M_bus 1 (some .int) :: xw) 0 [.ref (ad (6, 0))] A (some (.int v)) A' ∧ Rel B' A'
/-- mode: whatever is asked, class and reference give one answer, and stay related -/
def lo_mode (l : Launch) (D : va_G) (n : Nat) (ad : xq_I → Nat) (cI cZ cN : ClassId) (Rel : kc_B → rc_A → Prop) : Prop := ∀ (x : Int32) (B : kc_B) (A : rc_A), Rel B A → ∃ (v : Int32) (B' : kc_B) (A' : rc_A), xq_M l D vcl (kc_tys cI cZ cN) (kc_cs n) ad (kc_en n ad cI cN) y_C_mode (Cond.code y_C_mode b_C_mode 3 (some .int) :: xw) 3 [.ref (ad (0, 0)), .int x] B (some (.int v)) B' ∧ xq_M l D vcl (kc_tys cI cZ cN) rc_cs ad (rc_en ad cI cZ) y_M_mode (Cond.code y_M_mode b_M_mode 2 (some .int) :: xw) 1 [.ref (ad (6, 0)), .int x] A (some (.int v)) A' ∧ Rel B' A'
/-- members: whatever is asked, class and reference give one answer, and stay related -/
def lo_members (l : Launch) (D : va_G) (n : Nat) (ad : xq_I → Nat) (cI cZ cN : ClassId) (Rel : kc_B → rc_A → Prop) : Prop := ∀ (x : Int32) (B : kc_B) (A : rc_A), Rel B A → ∃ (v : Int32) (B' : kc_B) (A' : rc_A), xq_M l D vcl (kc_tys cI cZ cN) (kc_cs n) ad (kc_en n ad cI cN) y_C_members (Cond.code y_C_members b_C_members 3 (some .int) :: xw) 2 [.ref (ad (0, 0)), .int x] B (some (.int v)) B' ∧ xq_M l D vcl (kc_tys cI cZ cN) rc_cs ad (rc_en ad cI cZ) y_M_members (Cond.code y_M_members b_M_members 4 (some .int) :: xw) 1 [.ref (ad (6, 0)), .int x] A (some (.int v)) A' ∧ Rel B' A'
/-- time: whatever is asked, class and reference give one answer, and stay related -/
def lo_time (l : Launch) (D : va_G) (n : Nat) (ad : xq_I → Nat) (cI cZ cN : ClassId) (Rel : kc_B → rc_A → Prop) : Prop := ∀ (x : Int32) (B : kc_B) (A : rc_A), Rel B A → ∃ (v : Int32) (B' : kc_B) (A' : rc_A), xq_M l D vcl (kc_tys cI cZ cN) (kc_cs n) ad (kc_en n ad cI cN) y_C_time (Cond.code y_C_time b_C_time 3 (some .int) :: xw) 2 [.ref (ad (0, 0)), .int x] B (some (.int v)) B' ∧ xq_M l D vcl (kc_tys cI cZ cN) rc_cs ad (rc_en ad cI cZ) y_M_time (Cond.code y_M_time b_M_time 2 (some .int) :: xw) 1 [.ref (ad (6, 0)), .int x] A (some (.int v)) A' ∧ Rel B' A'
/-- counts: whatever is asked, class and reference give one answer, and stay related -/
def lo_counts (l : Launch) (D : va_G) (n : Nat) (ad : xq_I → Nat) (cI cZ cN : ClassId) (Rel : kc_B → rc_A → Prop) : Prop := ∀ (x : Int32) (B : kc_B) (A : rc_A), Rel B A → ∃ (v : Int32) (B' : kc_B) (A' : rc_A), xq_M l D vcl (kc_tys cI cZ cN) (kc_cs n) ad (kc_en n ad cI cN) y_C_counts (Cond.code y_C_counts b_C_counts 3 (some .int) :: xw) 2 [.ref (ad (0, 0)), .int x] B (some (.int v)) B' ∧ xq_M l D vcl (kc_tys cI cZ cN) rc_cs ad (rc_en ad cI cZ) y_M_counts (Cond.code y_M_counts b_M_counts 2 (some .int) :: xw) 1 [.ref (ad (6, 0)), .int x] A (some (.int v)) A' ∧ Rel B' A'
/-- patience: whatever is asked, class and reference give one answer, and stay related -/
def lo_patience (l : Launch) (D : va_G) (n : Nat) (ad : xq_I → Nat) (cI cZ cN : ClassId) (Rel : kc_B → rc_A → Prop) : Prop := ∀ (x : Int32) (B : kc_B) (A : rc_A), Rel B A → ∃ (v : Int32) (B' : kc_B) (A' : rc_A), xq_M l D vcl (kc_tys cI cZ cN) (kc_cs n) ad (kc_en n ad cI cN) y_C_patience (Cond.code y_C_patience b_C_patience 3 (some .int) :: xw) 3 [.ref (ad (0, 0)), .int x] B (some (.int v)) B' ∧ xq_M l D vcl (kc_tys cI cZ cN) rc_cs ad (rc_en ad cI cZ) y_M_patience (Cond.code y_M_patience b_M_patience 2 (some .int) :: xw) 1 [.ref (ad (6, 0)), .int x] A (some (.int v)) A' ∧ Rel B' A'
/-- gap: whatever is asked, class and reference give one answer, and stay related -/
def lo_gap (l : Launch) (D : va_G) (n : Nat) (ad : xq_I → Nat) (cI cZ cN : ClassId) (Rel : kc_B → rc_A → Prop) : Prop := ∀ (x y : Int32) (B : kc_B) (A : rc_A), Rel B A → ∃ (v : Int32) (B' : kc_B) (A' : rc_A), xq_M l D vcl (kc_tys cI cZ cN) (kc_cs n) ad (kc_en n ad cI cN) y_C_gap (Cond.code y_C_gap b_C_gap 5 (some .int) :: xw) 2 [.ref (ad (0, 0)), .int x, .int y] B (some (.int v)) B' ∧ xq_M l D vcl (kc_tys cI cZ cN) rc_cs ad (rc_en ad cI cZ) y_M_gap (Cond.code y_M_gap b_M_gap 3 (some .int) :: xw) 2 [.ref (ad (6, 0)), .int x, .int y] A (some (.int v)) A' ∧ Rel B' A'
/-- united: whatever is asked, class and reference give one answer, and stay related -/
def lo_united (l : Launch) (D : va_G) (n : Nat) (ad : xq_I → Nat) (cI cZ cN : ClassId) (Rel : kc_B → rc_A → Prop) : Prop := ∀ (B : kc_B) (A : rc_A), Rel B A → ∃ (v : Int32) (B' : kc_B) (A' : rc_A), xq_M l D vcl (kc_tys cI cZ cN) (kc_cs n) ad (kc_en n ad cI cN) y_C_united (Cond.code y_C_united b_C_united 7 (some .boolean) :: xw) 1 [.ref (ad (0, 0))] B (some (.int v)) B' ∧ xq_M l D vcl (kc_tys cI cZ cN) rc_cs ad (rc_en ad cI cZ) y_M_united (Cond.code y_M_united b_M_united 5 (some .boolean) :: xw) 2 [.ref (ad (6, 0))] A (some (.int v)) A' ∧ Rel B' A'
theorem lq_i1 {i : Nat} : nI i + 1 = nI (i + 1) := nI_1 i
theorem lq_i2 {i : Nat} : nI i + 2 = nI (i + 2) := nI_add i 2
set_option maxHeartbeats 4000000 in
set_option maxRecDepth 100000 in
theorem ll_nodes {p : Program} {l : Launch} {e : Env} {s : State} {m : MethodId} {below : List Frame} {meth : Method} {c : Code} {Q : State → Prop} {D : va_G} {n : Nat} {ad : xq_I → Nat} {cI cZ cN : ClassId} {qc qs b Ls i : Nat} {xs : Nat → Int32} (X : xq_C p s m #[Value.ref b] meth c D vcl (kc_tys cI cZ cN) (lq_cs n) ad xw R_L b_L_law 4 (some .boolean)) (hX : va_X b Ls xs s s.heap) (hbl : b < s.heap.size) (hbA : ¬ xq_in (lq_cs n) ad b) (hcs : qc ≤ room_1.cells ∧ qs ≤ room_1.slots) (hi : i + 3 ≤ Ls) (hLs : Ls ≤ 1537) {Rel : kc_B → rc_A → Prop} (ho : lo_nodes l D n ad cI cZ cN Rel) {B : kc_B} {A : rc_A} (hRel : Rel B A)
    (K : ∀ (B' : kc_B) (A' : rc_A), Rel B' A' → xq_W p l e room_1 s m #[Value.ref b] below meth c D vcl (lq_cs n) ad (lq_en n ad cI cZ cN) qc qs Q 4 505 [(3, .int (nI i)), (2, .ref (ad (6, 0))), (1, .ref (ad (0, 0))), (0, .ref b)] [] (B', A')) : xq_W p l e room_1 s m #[Value.ref b] below meth c D vcl (lq_cs n) ad (lq_en n ad cI cZ cN) qc qs Q 4 124 [(3, .int (nI i)), (2, .ref (ad (6, 0))), (1, .ref (ad (0, 0))), (0, .ref b)] [] (B, A) := by
  obtain ⟨v, B', A', hC, hM, hR'⟩ := ho B A hRel
  refine xq_aload_n X d_L_law_124 2 rfl rfl ?_
  refine lq_callC (As := []) (rest := []) X g_L_21 hC rfl rfl (by decide) hcs (Nat.le_of_ble_eq_true rfl) rfl d_L_law_125 ?_
  refine xq_aload_n X d_L_law_128 1 rfl rfl ?_
  refine lq_callM (As := []) (rest := [.int v]) X g_L_25 hM rfl rfl (by decide) hcs (Nat.le_of_ble_eq_true rfl) rfl d_L_law_129 ?_
  refine xq_icmp_eq X d_L_law_132 505 (by decide) (fun _ => ?_) (fun h => absurd rfl h)
  exact K B' A' hR'
set_option maxHeartbeats 4000000 in
set_option maxRecDepth 100000 in
theorem ll_on {p : Program} {l : Launch} {e : Env} {s : State} {m : MethodId} {below : List Frame} {meth : Method} {c : Code} {Q : State → Prop} {D : va_G} {n : Nat} {ad : xq_I → Nat} {cI cZ cN : ClassId} {qc qs b Ls i : Nat} {xs : Nat → Int32} (X : xq_C p s m #[Value.ref b] meth c D vcl (kc_tys cI cZ cN) (lq_cs n) ad xw R_L b_L_law 4 (some .boolean)) (hX : va_X b Ls xs s s.heap) (hbl : b < s.heap.size) (hbA : ¬ xq_in (lq_cs n) ad b) (hcs : qc ≤ room_1.cells ∧ qs ≤ room_1.slots) (hi : i + 3 ≤ Ls) (hLs : Ls ≤ 1537) {Rel : kc_B → rc_A → Prop} (ho : lo_on l D n ad cI cZ cN Rel) {B : kc_B} {A : rc_A} (hRel : Rel B A)
    (K : ∀ (B' : kc_B) (A' : rc_A), Rel B' A' → xq_W p l e room_1 s m #[Value.ref b] below meth c D vcl (lq_cs n) ad (lq_en n ad cI cZ cN) qc qs Q 4 505 [(3, .int (nI i)), (2, .ref (ad (6, 0))), (1, .ref (ad (0, 0))), (0, .ref b)] [] (B', A')) : xq_W p l e room_1 s m #[Value.ref b] below meth c D vcl (lq_cs n) ad (lq_en n ad cI cZ cN) qc qs Q 4 137 [(3, .int (nI i)), (2, .ref (ad (6, 0))), (1, .ref (ad (0, 0))), (0, .ref b)] [] (B, A) := by
  obtain ⟨x, hx⟩ : ∃ x, xs (nI (i + 1)).toNatClampNeg = x := ⟨_, rfl⟩
  obtain ⟨y, hy⟩ : ∃ y, xs (nI (i + 2)).toNatClampNeg = y := ⟨_, rfl⟩
  obtain ⟨v, B', A', hC, hM, hR'⟩ := ho x y B A hRel
  refine xq_aload_n X d_L_law_137 2 rfl rfl ?_
  refine xq_aload_n X d_L_law_138 3 rfl rfl ?_
  refine xq_iload_n X d_L_law_139 0 rfl rfl ?_
  refine xq_iconst (v := 1) X d_L_law_140 (by decide) ?_
  refine xq_iadd X d_L_law_141 ?_
  refine xq_top (nI (i + 1)) lq_i1 ?_
  refine lq_sld (v := x) X hX hbl hbA (vp_in_nI (show i + 1 < Ls by omega) (by omega)) d_L_law_142 (hx) ?_
  refine xq_aload_n X d_L_law_143 3 rfl rfl ?_
  refine xq_iload_n X d_L_law_144 0 rfl rfl ?_
  refine xq_iconst (v := 2) X d_L_law_145 (by decide) ?_
  refine xq_iadd X d_L_law_146 ?_
  refine xq_top (nI (i + 2)) lq_i2 ?_
  refine lq_sld (v := y) X hX hbl hbA (vp_in_nI (show i + 2 < Ls by omega) (by omega)) d_L_law_147 (hy) ?_
  refine lq_callC (As := [.int x, .int y]) (rest := []) X g_L_26 hC rfl rfl (by decide) hcs (Nat.le_of_ble_eq_true rfl) rfl d_L_law_148 ?_
  refine xq_aload_n X d_L_law_151 1 rfl rfl ?_
  refine xq_aload_n X d_L_law_152 3 rfl rfl ?_
  refine xq_iload_n X d_L_law_153 0 rfl rfl ?_
  refine xq_iconst (v := 1) X d_L_law_154 (by decide) ?_
  refine xq_iadd X d_L_law_155 ?_
  refine xq_top (nI (i + 1)) lq_i1 ?_
  refine lq_sld (v := x) X hX hbl hbA (vp_in_nI (show i + 1 < Ls by omega) (by omega)) d_L_law_156 (hx) ?_
  refine xq_aload_n X d_L_law_157 3 rfl rfl ?_
  refine xq_iload_n X d_L_law_158 0 rfl rfl ?_
  refine xq_iconst (v := 2) X d_L_law_159 (by decide) ?_
  refine xq_iadd X d_L_law_160 ?_
  refine xq_top (nI (i + 2)) lq_i2 ?_
  refine lq_sld (v := y) X hX hbl hbA (vp_in_nI (show i + 2 < Ls by omega) (by omega)) d_L_law_161 (hy) ?_
  refine lq_callM (As := [.int x, .int y]) (rest := [.int v]) X g_L_30 hM rfl rfl (by decide) hcs (Nat.le_of_ble_eq_true rfl) rfl d_L_law_162 ?_
  refine xq_icmp_eq X d_L_law_165 505 (by decide) (fun _ => ?_) (fun h => absurd rfl h)
  exact K B' A' hR'
set_option maxHeartbeats 4000000 in
set_option maxRecDepth 100000 in
theorem ll_off {p : Program} {l : Launch} {e : Env} {s : State} {m : MethodId} {below : List Frame} {meth : Method} {c : Code} {Q : State → Prop} {D : va_G} {n : Nat} {ad : xq_I → Nat} {cI cZ cN : ClassId} {qc qs b Ls i : Nat} {xs : Nat → Int32} (X : xq_C p s m #[Value.ref b] meth c D vcl (kc_tys cI cZ cN) (lq_cs n) ad xw R_L b_L_law 4 (some .boolean)) (hX : va_X b Ls xs s s.heap) (hbl : b < s.heap.size) (hbA : ¬ xq_in (lq_cs n) ad b) (hcs : qc ≤ room_1.cells ∧ qs ≤ room_1.slots) (hi : i + 3 ≤ Ls) (hLs : Ls ≤ 1537) {Rel : kc_B → rc_A → Prop} (ho : lo_off l D n ad cI cZ cN Rel) {B : kc_B} {A : rc_A} (hRel : Rel B A)
    (K : ∀ (B' : kc_B) (A' : rc_A), Rel B' A' → xq_W p l e room_1 s m #[Value.ref b] below meth c D vcl (lq_cs n) ad (lq_en n ad cI cZ cN) qc qs Q 4 505 [(3, .int (nI i)), (2, .ref (ad (6, 0))), (1, .ref (ad (0, 0))), (0, .ref b)] [] (B', A')) : xq_W p l e room_1 s m #[Value.ref b] below meth c D vcl (lq_cs n) ad (lq_en n ad cI cZ cN) qc qs Q 4 170 [(3, .int (nI i)), (2, .ref (ad (6, 0))), (1, .ref (ad (0, 0))), (0, .ref b)] [] (B, A) := by
  obtain ⟨x, hx⟩ : ∃ x, xs (nI (i + 1)).toNatClampNeg = x := ⟨_, rfl⟩
  obtain ⟨v, B', A', hC, hM, hR'⟩ := ho x B A hRel
  refine xq_aload_n X d_L_law_170 2 rfl rfl ?_
  refine xq_aload_n X d_L_law_171 3 rfl rfl ?_
  refine xq_iload_n X d_L_law_172 0 rfl rfl ?_
  refine xq_iconst (v := 1) X d_L_law_173 (by decide) ?_
  refine xq_iadd X d_L_law_174 ?_
  refine xq_top (nI (i + 1)) lq_i1 ?_
  refine lq_sld (v := x) X hX hbl hbA (vp_in_nI (show i + 1 < Ls by omega) (by omega)) d_L_law_175 (hx) ?_
  refine lq_callC (As := [.int x]) (rest := []) X g_L_31 hC rfl rfl (by decide) hcs (Nat.le_of_ble_eq_true rfl) rfl d_L_law_176 ?_
  refine xq_aload_n X d_L_law_179 1 rfl rfl ?_
  refine xq_aload_n X d_L_law_180 3 rfl rfl ?_
  refine xq_iload_n X d_L_law_181 0 rfl rfl ?_
  refine xq_iconst (v := 1) X d_L_law_182 (by decide) ?_
  refine xq_iadd X d_L_law_183 ?_
  refine xq_top (nI (i + 1)) lq_i1 ?_
  refine lq_sld (v := x) X hX hbl hbA (vp_in_nI (show i + 1 < Ls by omega) (by omega)) d_L_law_184 (hx) ?_
  refine lq_callM (As := [.int x]) (rest := [.int v]) X g_L_35 hM rfl rfl (by decide) hcs (Nat.le_of_ble_eq_true rfl) rfl d_L_law_185 ?_
  refine xq_icmp_eq X d_L_law_188 505 (by decide) (fun _ => ?_) (fun h => absurd rfl h)
  exact K B' A' hR'
set_option maxHeartbeats 4000000 in
set_option maxRecDepth 100000 in
theorem ll_thaw {p : Program} {l : Launch} {e : Env} {s : State} {m : MethodId} {below : List Frame} {meth : Method} {c : Code} {Q : State → Prop} {D : va_G} {n : Nat} {ad : xq_I → Nat} {cI cZ cN : ClassId} {qc qs b Ls i : Nat} {xs : Nat → Int32} (X : xq_C p s m #[Value.ref b] meth c D vcl (kc_tys cI cZ cN) (lq_cs n) ad xw R_L b_L_law 4 (some .boolean)) (hX : va_X b Ls xs s s.heap) (hbl : b < s.heap.size) (hbA : ¬ xq_in (lq_cs n) ad b) (hcs : qc ≤ room_1.cells ∧ qs ≤ room_1.slots) (hi : i + 3 ≤ Ls) (hLs : Ls ≤ 1537) {Rel : kc_B → rc_A → Prop} (ho : lo_thaw l D n ad cI cZ cN Rel) {B : kc_B} {A : rc_A} (hRel : Rel B A)
    (K : ∀ (B' : kc_B) (A' : rc_A), Rel B' A' → xq_W p l e room_1 s m #[Value.ref b] below meth c D vcl (lq_cs n) ad (lq_en n ad cI cZ cN) qc qs Q 4 505 [(3, .int (nI i)), (2, .ref (ad (6, 0))), (1, .ref (ad (0, 0))), (0, .ref b)] [] (B', A')) : xq_W p l e room_1 s m #[Value.ref b] below meth c D vcl (lq_cs n) ad (lq_en n ad cI cZ cN) qc qs Q 4 193 [(3, .int (nI i)), (2, .ref (ad (6, 0))), (1, .ref (ad (0, 0))), (0, .ref b)] [] (B, A) := by
  obtain ⟨x, hx⟩ : ∃ x, xs (nI (i + 1)).toNatClampNeg = x := ⟨_, rfl⟩
  obtain ⟨v, B', A', hC, hM, hR'⟩ := ho x B A hRel
  refine xq_aload_n X d_L_law_193 2 rfl rfl ?_
  refine xq_aload_n X d_L_law_194 3 rfl rfl ?_
  refine xq_iload_n X d_L_law_195 0 rfl rfl ?_
  refine xq_iconst (v := 1) X d_L_law_196 (by decide) ?_
  refine xq_iadd X d_L_law_197 ?_
  refine xq_top (nI (i + 1)) lq_i1 ?_
  refine lq_sld (v := x) X hX hbl hbA (vp_in_nI (show i + 1 < Ls by omega) (by omega)) d_L_law_198 (hx) ?_
  refine lq_callC (As := [.int x]) (rest := []) X g_L_36 hC rfl rfl (by decide) hcs (Nat.le_of_ble_eq_true rfl) rfl d_L_law_199 ?_
  refine xq_aload_n X d_L_law_202 1 rfl rfl ?_
  refine xq_aload_n X d_L_law_203 3 rfl rfl ?_
  refine xq_iload_n X d_L_law_204 0 rfl rfl ?_
  refine xq_iconst (v := 1) X d_L_law_205 (by decide) ?_
  refine xq_iadd X d_L_law_206 ?_
  refine xq_top (nI (i + 1)) lq_i1 ?_
  refine lq_sld (v := x) X hX hbl hbA (vp_in_nI (show i + 1 < Ls by omega) (by omega)) d_L_law_207 (hx) ?_
  refine lq_callM (As := [.int x]) (rest := [.int v]) X g_L_39 hM rfl rfl (by decide) hcs (Nat.le_of_ble_eq_true rfl) rfl d_L_law_208 ?_
  refine xq_icmp_eq X d_L_law_211 505 (by decide) (fun _ => ?_) (fun h => absurd rfl h)
  exact K B' A' hR'
set_option maxHeartbeats 4000000 in
set_option maxRecDepth 100000 in
theorem ll_mute {p : Program} {l : Launch} {e : Env} {s : State} {m : MethodId} {below : List Frame} {meth : Method} {c : Code} {Q : State → Prop} {D : va_G} {n : Nat} {ad : xq_I → Nat} {cI cZ cN : ClassId} {qc qs b Ls i : Nat} {xs : Nat → Int32} (X : xq_C p s m #[Value.ref b] meth c D vcl (kc_tys cI cZ cN) (lq_cs n) ad xw R_L b_L_law 4 (some .boolean)) (hX : va_X b Ls xs s s.heap) (hbl : b < s.heap.size) (hbA : ¬ xq_in (lq_cs n) ad b) (hcs : qc ≤ room_1.cells ∧ qs ≤ room_1.slots) (hi : i + 3 ≤ Ls) (hLs : Ls ≤ 1537) {Rel : kc_B → rc_A → Prop} (ho : lo_mute l D n ad cI cZ cN Rel) {B : kc_B} {A : rc_A} (hRel : Rel B A)
    (K : ∀ (B' : kc_B) (A' : rc_A), Rel B' A' → xq_W p l e room_1 s m #[Value.ref b] below meth c D vcl (lq_cs n) ad (lq_en n ad cI cZ cN) qc qs Q 4 505 [(3, .int (nI i)), (2, .ref (ad (6, 0))), (1, .ref (ad (0, 0))), (0, .ref b)] [] (B', A')) : xq_W p l e room_1 s m #[Value.ref b] below meth c D vcl (lq_cs n) ad (lq_en n ad cI cZ cN) qc qs Q 4 216 [(3, .int (nI i)), (2, .ref (ad (6, 0))), (1, .ref (ad (0, 0))), (0, .ref b)] [] (B, A) := by
  obtain ⟨x, hx⟩ : ∃ x, xs (nI (i + 1)).toNatClampNeg = x := ⟨_, rfl⟩
  obtain ⟨v, B', A', hC, hM, hR'⟩ := ho x B A hRel
  refine xq_aload_n X d_L_law_216 2 rfl rfl ?_
  refine xq_aload_n X d_L_law_217 3 rfl rfl ?_
  refine xq_iload_n X d_L_law_218 0 rfl rfl ?_
  refine xq_iconst (v := 1) X d_L_law_219 (by decide) ?_
  refine xq_iadd X d_L_law_220 ?_
  refine xq_top (nI (i + 1)) lq_i1 ?_
  refine lq_sld (v := x) X hX hbl hbA (vp_in_nI (show i + 1 < Ls by omega) (by omega)) d_L_law_221 (hx) ?_
  refine lq_callC (As := [.int x]) (rest := []) X g_L_40 hC rfl rfl (by decide) hcs (Nat.le_of_ble_eq_true rfl) rfl d_L_law_222 ?_
  refine xq_aload_n X d_L_law_225 1 rfl rfl ?_
  refine xq_aload_n X d_L_law_226 3 rfl rfl ?_
  refine xq_iload_n X d_L_law_227 0 rfl rfl ?_
  refine xq_iconst (v := 1) X d_L_law_228 (by decide) ?_
  refine xq_iadd X d_L_law_229 ?_
  refine xq_top (nI (i + 1)) lq_i1 ?_
  refine lq_sld (v := x) X hX hbl hbA (vp_in_nI (show i + 1 < Ls by omega) (by omega)) d_L_law_230 (hx) ?_
  refine lq_callM (As := [.int x]) (rest := [.int v]) X g_L_43 hM rfl rfl (by decide) hcs (Nat.le_of_ble_eq_true rfl) rfl d_L_law_231 ?_
  refine xq_icmp_eq X d_L_law_234 505 (by decide) (fun _ => ?_) (fun h => absurd rfl h)
  exact K B' A' hR'
set_option maxHeartbeats 4000000 in
set_option maxRecDepth 100000 in
theorem ll_deafen {p : Program} {l : Launch} {e : Env} {s : State} {m : MethodId} {below : List Frame} {meth : Method} {c : Code} {Q : State → Prop} {D : va_G} {n : Nat} {ad : xq_I → Nat} {cI cZ cN : ClassId} {qc qs b Ls i : Nat} {xs : Nat → Int32} (X : xq_C p s m #[Value.ref b] meth c D vcl (kc_tys cI cZ cN) (lq_cs n) ad xw R_L b_L_law 4 (some .boolean)) (hX : va_X b Ls xs s s.heap) (hbl : b < s.heap.size) (hbA : ¬ xq_in (lq_cs n) ad b) (hcs : qc ≤ room_1.cells ∧ qs ≤ room_1.slots) (hi : i + 3 ≤ Ls) (hLs : Ls ≤ 1537) {Rel : kc_B → rc_A → Prop} (ho : lo_deafen l D n ad cI cZ cN Rel) {B : kc_B} {A : rc_A} (hRel : Rel B A)
    (K : ∀ (B' : kc_B) (A' : rc_A), Rel B' A' → xq_W p l e room_1 s m #[Value.ref b] below meth c D vcl (lq_cs n) ad (lq_en n ad cI cZ cN) qc qs Q 4 505 [(3, .int (nI i)), (2, .ref (ad (6, 0))), (1, .ref (ad (0, 0))), (0, .ref b)] [] (B', A')) : xq_W p l e room_1 s m #[Value.ref b] below meth c D vcl (lq_cs n) ad (lq_en n ad cI cZ cN) qc qs Q 4 239 [(3, .int (nI i)), (2, .ref (ad (6, 0))), (1, .ref (ad (0, 0))), (0, .ref b)] [] (B, A) := by
  obtain ⟨x, hx⟩ : ∃ x, xs (nI (i + 1)).toNatClampNeg = x := ⟨_, rfl⟩
  obtain ⟨v, B', A', hC, hM, hR'⟩ := ho x B A hRel
  refine xq_aload_n X d_L_law_239 2 rfl rfl ?_
  refine xq_aload_n X d_L_law_240 3 rfl rfl ?_
  refine xq_iload_n X d_L_law_241 0 rfl rfl ?_
  refine xq_iconst (v := 1) X d_L_law_242 (by decide) ?_
  refine xq_iadd X d_L_law_243 ?_
  refine xq_top (nI (i + 1)) lq_i1 ?_
  refine lq_sld (v := x) X hX hbl hbA (vp_in_nI (show i + 1 < Ls by omega) (by omega)) d_L_law_244 (hx) ?_
  refine lq_callC (As := [.int x]) (rest := []) X g_L_44 hC rfl rfl (by decide) hcs (Nat.le_of_ble_eq_true rfl) rfl d_L_law_245 ?_
  refine xq_aload_n X d_L_law_248 1 rfl rfl ?_
  refine xq_aload_n X d_L_law_249 3 rfl rfl ?_
  refine xq_iload_n X d_L_law_250 0 rfl rfl ?_
  refine xq_iconst (v := 1) X d_L_law_251 (by decide) ?_
  refine xq_iadd X d_L_law_252 ?_
  refine xq_top (nI (i + 1)) lq_i1 ?_
  refine lq_sld (v := x) X hX hbl hbA (vp_in_nI (show i + 1 < Ls by omega) (by omega)) d_L_law_253 (hx) ?_
  refine lq_callM (As := [.int x]) (rest := [.int v]) X g_L_47 hM rfl rfl (by decide) hcs (Nat.le_of_ble_eq_true rfl) rfl d_L_law_254 ?_
  refine xq_icmp_eq X d_L_law_257 505 (by decide) (fun _ => ?_) (fun h => absurd rfl h)
  exact K B' A' hR'
set_option maxHeartbeats 4000000 in
set_option maxRecDepth 100000 in
theorem ll_shift {p : Program} {l : Launch} {e : Env} {s : State} {m : MethodId} {below : List Frame} {meth : Method} {c : Code} {Q : State → Prop} {D : va_G} {n : Nat} {ad : xq_I → Nat} {cI cZ cN : ClassId} {qc qs b Ls i : Nat} {xs : Nat → Int32} (X : xq_C p s m #[Value.ref b] meth c D vcl (kc_tys cI cZ cN) (lq_cs n) ad xw R_L b_L_law 4 (some .boolean)) (hX : va_X b Ls xs s s.heap) (hbl : b < s.heap.size) (hbA : ¬ xq_in (lq_cs n) ad b) (hcs : qc ≤ room_1.cells ∧ qs ≤ room_1.slots) (hi : i + 3 ≤ Ls) (hLs : Ls ≤ 1537) {Rel : kc_B → rc_A → Prop} (ho : lo_shift l D n ad cI cZ cN Rel) {B : kc_B} {A : rc_A} (hRel : Rel B A)
    (K : ∀ (B' : kc_B) (A' : rc_A), Rel B' A' → xq_W p l e room_1 s m #[Value.ref b] below meth c D vcl (lq_cs n) ad (lq_en n ad cI cZ cN) qc qs Q 4 505 [(3, .int (nI i)), (2, .ref (ad (6, 0))), (1, .ref (ad (0, 0))), (0, .ref b)] [] (B', A')) : xq_W p l e room_1 s m #[Value.ref b] below meth c D vcl (lq_cs n) ad (lq_en n ad cI cZ cN) qc qs Q 4 262 [(3, .int (nI i)), (2, .ref (ad (6, 0))), (1, .ref (ad (0, 0))), (0, .ref b)] [] (B, A) := by
  obtain ⟨x, hx⟩ : ∃ x, xs (nI (i + 1)).toNatClampNeg = x := ⟨_, rfl⟩
  obtain ⟨y, hy⟩ : ∃ y, xs (nI (i + 2)).toNatClampNeg = y := ⟨_, rfl⟩
  obtain ⟨v, B', A', hC, hM, hR'⟩ := ho x y B A hRel
  refine xq_aload_n X d_L_law_262 2 rfl rfl ?_
  refine xq_aload_n X d_L_law_263 3 rfl rfl ?_
  refine xq_iload_n X d_L_law_264 0 rfl rfl ?_
  refine xq_iconst (v := 1) X d_L_law_265 (by decide) ?_
  refine xq_iadd X d_L_law_266 ?_
  refine xq_top (nI (i + 1)) lq_i1 ?_
  refine lq_sld (v := x) X hX hbl hbA (vp_in_nI (show i + 1 < Ls by omega) (by omega)) d_L_law_267 (hx) ?_
  refine xq_aload_n X d_L_law_268 3 rfl rfl ?_
  refine xq_iload_n X d_L_law_269 0 rfl rfl ?_
  refine xq_iconst (v := 2) X d_L_law_270 (by decide) ?_
  refine xq_iadd X d_L_law_271 ?_
  refine xq_top (nI (i + 2)) lq_i2 ?_
  refine lq_sld (v := y) X hX hbl hbA (vp_in_nI (show i + 2 < Ls by omega) (by omega)) d_L_law_272 (hy) ?_
  refine lq_callC (As := [.int x, .int y]) (rest := []) X g_L_48 hC rfl rfl (by decide) hcs (Nat.le_of_ble_eq_true rfl) rfl d_L_law_273 ?_
  refine xq_aload_n X d_L_law_276 1 rfl rfl ?_
  refine xq_aload_n X d_L_law_277 3 rfl rfl ?_
  refine xq_iload_n X d_L_law_278 0 rfl rfl ?_
  refine xq_iconst (v := 1) X d_L_law_279 (by decide) ?_
  refine xq_iadd X d_L_law_280 ?_
  refine xq_top (nI (i + 1)) lq_i1 ?_
  refine lq_sld (v := x) X hX hbl hbA (vp_in_nI (show i + 1 < Ls by omega) (by omega)) d_L_law_281 (hx) ?_
  refine xq_aload_n X d_L_law_282 3 rfl rfl ?_
  refine xq_iload_n X d_L_law_283 0 rfl rfl ?_
  refine xq_iconst (v := 2) X d_L_law_284 (by decide) ?_
  refine xq_iadd X d_L_law_285 ?_
  refine xq_top (nI (i + 2)) lq_i2 ?_
  refine lq_sld (v := y) X hX hbl hbA (vp_in_nI (show i + 2 < Ls by omega) (by omega)) d_L_law_286 (hy) ?_
  refine lq_callM (As := [.int x, .int y]) (rest := [.int v]) X g_L_51 hM rfl rfl (by decide) hcs (Nat.le_of_ble_eq_true rfl) rfl d_L_law_287 ?_
  refine xq_icmp_eq X d_L_law_290 505 (by decide) (fun _ => ?_) (fun h => absurd rfl h)
  exact K B' A' hR'
set_option maxHeartbeats 4000000 in
set_option maxRecDepth 100000 in
theorem ll_run {p : Program} {l : Launch} {e : Env} {s : State} {m : MethodId} {below : List Frame} {meth : Method} {c : Code} {Q : State → Prop} {D : va_G} {n : Nat} {ad : xq_I → Nat} {cI cZ cN : ClassId} {qc qs b Ls i : Nat} {xs : Nat → Int32} (X : xq_C p s m #[Value.ref b] meth c D vcl (kc_tys cI cZ cN) (lq_cs n) ad xw R_L b_L_law 4 (some .boolean)) (hX : va_X b Ls xs s s.heap) (hbl : b < s.heap.size) (hbA : ¬ xq_in (lq_cs n) ad b) (hcs : qc ≤ room_1.cells ∧ qs ≤ room_1.slots) (hi : i + 3 ≤ Ls) (hLs : Ls ≤ 1537) {Rel : kc_B → rc_A → Prop} (ho : lo_run l D n ad cI cZ cN Rel) {B : kc_B} {A : rc_A} (hRel : Rel B A)
    (K : ∀ (B' : kc_B) (A' : rc_A), Rel B' A' → xq_W p l e room_1 s m #[Value.ref b] below meth c D vcl (lq_cs n) ad (lq_en n ad cI cZ cN) qc qs Q 4 505 [(3, .int (nI i)), (2, .ref (ad (6, 0))), (1, .ref (ad (0, 0))), (0, .ref b)] [] (B', A')) : xq_W p l e room_1 s m #[Value.ref b] below meth c D vcl (lq_cs n) ad (lq_en n ad cI cZ cN) qc qs Q 4 295 [(3, .int (nI i)), (2, .ref (ad (6, 0))), (1, .ref (ad (0, 0))), (0, .ref b)] [] (B, A) := by
  obtain ⟨x, hx⟩ : ∃ x, xs (nI (i + 1)).toNatClampNeg = x := ⟨_, rfl⟩
  obtain ⟨v, B', A', hC, hM, hR'⟩ := ho x B A hRel
  refine xq_aload_n X d_L_law_295 2 rfl rfl ?_
  refine xq_aload_n X d_L_law_296 3 rfl rfl ?_
  refine xq_iload_n X d_L_law_297 0 rfl rfl ?_
  refine xq_iconst (v := 1) X d_L_law_298 (by decide) ?_
  refine xq_iadd X d_L_law_299 ?_
  refine xq_top (nI (i + 1)) lq_i1 ?_
  refine lq_sld (v := x) X hX hbl hbA (vp_in_nI (show i + 1 < Ls by omega) (by omega)) d_L_law_300 (hx) ?_
  refine lq_callC (As := [.int x]) (rest := []) X g_L_52 hC rfl rfl (by decide) hcs (Nat.le_of_ble_eq_true rfl) rfl d_L_law_301 ?_
  refine xq_aload_n X d_L_law_304 1 rfl rfl ?_
  refine xq_aload_n X d_L_law_305 3 rfl rfl ?_
  refine xq_iload_n X d_L_law_306 0 rfl rfl ?_
  refine xq_iconst (v := 1) X d_L_law_307 (by decide) ?_
  refine xq_iadd X d_L_law_308 ?_
  refine xq_top (nI (i + 1)) lq_i1 ?_
  refine lq_sld (v := x) X hX hbl hbA (vp_in_nI (show i + 1 < Ls by omega) (by omega)) d_L_law_309 (hx) ?_
  refine lq_callM (As := [.int x]) (rest := [.int v]) X g_L_56 hM rfl rfl (by decide) hcs (Nat.le_of_ble_eq_true rfl) rfl d_L_law_310 ?_
  refine xq_icmp_eq X d_L_law_313 505 (by decide) (fun _ => ?_) (fun h => absurd rfl h)
  exact K B' A' hR'
set_option maxHeartbeats 4000000 in
set_option maxRecDepth 100000 in
theorem ll_slots {p : Program} {l : Launch} {e : Env} {s : State} {m : MethodId} {below : List Frame} {meth : Method} {c : Code} {Q : State → Prop} {D : va_G} {n : Nat} {ad : xq_I → Nat} {cI cZ cN : ClassId} {qc qs b Ls i : Nat} {xs : Nat → Int32} (X : xq_C p s m #[Value.ref b] meth c D vcl (kc_tys cI cZ cN) (lq_cs n) ad xw R_L b_L_law 4 (some .boolean)) (hX : va_X b Ls xs s s.heap) (hbl : b < s.heap.size) (hbA : ¬ xq_in (lq_cs n) ad b) (hcs : qc ≤ room_1.cells ∧ qs ≤ room_1.slots) (hi : i + 3 ≤ Ls) (hLs : Ls ≤ 1537) {Rel : kc_B → rc_A → Prop} (ho : lo_slots l D n ad cI cZ cN Rel) {B : kc_B} {A : rc_A} (hRel : Rel B A)
    (K : ∀ (B' : kc_B) (A' : rc_A), Rel B' A' → xq_W p l e room_1 s m #[Value.ref b] below meth c D vcl (lq_cs n) ad (lq_en n ad cI cZ cN) qc qs Q 4 505 [(3, .int (nI i)), (2, .ref (ad (6, 0))), (1, .ref (ad (0, 0))), (0, .ref b)] [] (B', A')) : xq_W p l e room_1 s m #[Value.ref b] below meth c D vcl (lq_cs n) ad (lq_en n ad cI cZ cN) qc qs Q 4 318 [(3, .int (nI i)), (2, .ref (ad (6, 0))), (1, .ref (ad (0, 0))), (0, .ref b)] [] (B, A) := by
  obtain ⟨v, B', A', hC, hM, hR'⟩ := ho B A hRel
  refine xq_aload_n X d_L_law_318 2 rfl rfl ?_
  refine lq_callC (As := []) (rest := []) X g_L_57 hC rfl rfl (by decide) hcs (Nat.le_of_ble_eq_true rfl) rfl d_L_law_319 ?_
  refine xq_aload_n X d_L_law_322 1 rfl rfl ?_
  refine lq_callM (As := []) (rest := [.int v]) X g_L_60 hM rfl rfl (by decide) hcs (Nat.le_of_ble_eq_true rfl) rfl d_L_law_323 ?_
  refine xq_icmp_eq X d_L_law_326 505 (by decide) (fun _ => ?_) (fun h => absurd rfl h)
  exact K B' A' hR'
set_option maxHeartbeats 4000000 in
set_option maxRecDepth 100000 in
theorem ll_bus {p : Program} {l : Launch} {e : Env} {s : State} {m : MethodId} {below : List Frame} {meth : Method} {c : Code} {Q : State → Prop} {D : va_G} {n : Nat} {ad : xq_I → Nat} {cI cZ cN : ClassId} {qc qs b Ls i : Nat} {xs : Nat → Int32} (X : xq_C p s m #[Value.ref b] meth c D vcl (kc_tys cI cZ cN) (lq_cs n) ad xw R_L b_L_law 4 (some .boolean)) (hX : va_X b Ls xs s s.heap) (hbl : b < s.heap.size) (hbA : ¬ xq_in (lq_cs n) ad b) (hcs : qc ≤ room_1.cells ∧ qs ≤ room_1.slots) (hi : i + 3 ≤ Ls) (hLs : Ls ≤ 1537) {Rel : kc_B → rc_A → Prop} (ho : lo_bus l D n ad cI cZ cN Rel) {B : kc_B} {A : rc_A} (hRel : Rel B A)
    (K : ∀ (B' : kc_B) (A' : rc_A), Rel B' A' → xq_W p l e room_1 s m #[Value.ref b] below meth c D vcl (lq_cs n) ad (lq_en n ad cI cZ cN) qc qs Q 4 505 [(3, .int (nI i)), (2, .ref (ad (6, 0))), (1, .ref (ad (0, 0))), (0, .ref b)] [] (B', A')) : xq_W p l e room_1 s m #[Value.ref b] below meth c D vcl (lq_cs n) ad (lq_en n ad cI cZ cN) qc qs Q 4 331 [(3, .int (nI i)), (2, .ref (ad (6, 0))), (1, .ref (ad (0, 0))), (0, .ref b)] [] (B, A) := by
  obtain ⟨v, B', A', hC, hM, hR'⟩ := ho B A hRel
  refine xq_aload_n X d_L_law_331 2 rfl rfl ?_
  refine lq_callC (As := []) (rest := []) X g_L_61 hC rfl rfl (by decide) hcs (Nat.le_of_ble_eq_true rfl) rfl d_L_law_332 ?_
  refine xq_aload_n X d_L_law_335 1 rfl rfl ?_
  refine lq_callM (As := []) (rest := [.int v]) X g_L_64 hM rfl rfl (by decide) hcs (Nat.le_of_ble_eq_true rfl) rfl d_L_law_336 ?_
  refine xq_icmp_eq X d_L_law_339 505 (by decide) (fun _ => ?_) (fun h => absurd rfl h)
  exact K B' A' hR'
set_option maxHeartbeats 4000000 in
set_option maxRecDepth 100000 in
theorem ll_mode {p : Program} {l : Launch} {e : Env} {s : State} {m : MethodId} {below : List Frame} {meth : Method} {c : Code} {Q : State → Prop} {D : va_G} {n : Nat} {ad : xq_I → Nat} {cI cZ cN : ClassId} {qc qs b Ls i : Nat} {xs : Nat → Int32} (X : xq_C p s m #[Value.ref b] meth c D vcl (kc_tys cI cZ cN) (lq_cs n) ad xw R_L b_L_law 4 (some .boolean)) (hX : va_X b Ls xs s s.heap) (hbl : b < s.heap.size) (hbA : ¬ xq_in (lq_cs n) ad b) (hcs : qc ≤ room_1.cells ∧ qs ≤ room_1.slots) (hi : i + 3 ≤ Ls) (hLs : Ls ≤ 1537) {Rel : kc_B → rc_A → Prop} (ho : lo_mode l D n ad cI cZ cN Rel) {B : kc_B} {A : rc_A} (hRel : Rel B A)
    (K : ∀ (B' : kc_B) (A' : rc_A), Rel B' A' → xq_W p l e room_1 s m #[Value.ref b] below meth c D vcl (lq_cs n) ad (lq_en n ad cI cZ cN) qc qs Q 4 505 [(3, .int (nI i)), (2, .ref (ad (6, 0))), (1, .ref (ad (0, 0))), (0, .ref b)] [] (B', A')) : xq_W p l e room_1 s m #[Value.ref b] below meth c D vcl (lq_cs n) ad (lq_en n ad cI cZ cN) qc qs Q 4 344 [(3, .int (nI i)), (2, .ref (ad (6, 0))), (1, .ref (ad (0, 0))), (0, .ref b)] [] (B, A) := by
  obtain ⟨x, hx⟩ : ∃ x, xs (nI (i + 1)).toNatClampNeg = x := ⟨_, rfl⟩
  obtain ⟨v, B', A', hC, hM, hR'⟩ := ho x B A hRel
  refine xq_aload_n X d_L_law_344 2 rfl rfl ?_
  refine xq_aload_n X d_L_law_345 3 rfl rfl ?_
  refine xq_iload_n X d_L_law_346 0 rfl rfl ?_
  refine xq_iconst (v := 1) X d_L_law_347 (by decide) ?_
  refine xq_iadd X d_L_law_348 ?_
  refine xq_top (nI (i + 1)) lq_i1 ?_
  refine lq_sld (v := x) X hX hbl hbA (vp_in_nI (show i + 1 < Ls by omega) (by omega)) d_L_law_349 (hx) ?_
  refine lq_callC (As := [.int x]) (rest := []) X g_L_65 hC rfl rfl (by decide) hcs (Nat.le_of_ble_eq_true rfl) rfl d_L_law_350 ?_
  refine xq_aload_n X d_L_law_353 1 rfl rfl ?_
  refine xq_aload_n X d_L_law_354 3 rfl rfl ?_
  refine xq_iload_n X d_L_law_355 0 rfl rfl ?_
  refine xq_iconst (v := 1) X d_L_law_356 (by decide) ?_
  refine xq_iadd X d_L_law_357 ?_
  refine xq_top (nI (i + 1)) lq_i1 ?_
  refine lq_sld (v := x) X hX hbl hbA (vp_in_nI (show i + 1 < Ls by omega) (by omega)) d_L_law_358 (hx) ?_
  refine lq_callM (As := [.int x]) (rest := [.int v]) X g_L_68 hM rfl rfl (by decide) hcs (Nat.le_of_ble_eq_true rfl) rfl d_L_law_359 ?_
  refine xq_icmp_eq X d_L_law_362 505 (by decide) (fun _ => ?_) (fun h => absurd rfl h)
  exact K B' A' hR'
set_option maxHeartbeats 4000000 in
set_option maxRecDepth 100000 in
theorem ll_members {p : Program} {l : Launch} {e : Env} {s : State} {m : MethodId} {below : List Frame} {meth : Method} {c : Code} {Q : State → Prop} {D : va_G} {n : Nat} {ad : xq_I → Nat} {cI cZ cN : ClassId} {qc qs b Ls i : Nat} {xs : Nat → Int32} (X : xq_C p s m #[Value.ref b] meth c D vcl (kc_tys cI cZ cN) (lq_cs n) ad xw R_L b_L_law 4 (some .boolean)) (hX : va_X b Ls xs s s.heap) (hbl : b < s.heap.size) (hbA : ¬ xq_in (lq_cs n) ad b) (hcs : qc ≤ room_1.cells ∧ qs ≤ room_1.slots) (hi : i + 3 ≤ Ls) (hLs : Ls ≤ 1537) {Rel : kc_B → rc_A → Prop} (ho : lo_members l D n ad cI cZ cN Rel) {B : kc_B} {A : rc_A} (hRel : Rel B A)
    (K : ∀ (B' : kc_B) (A' : rc_A), Rel B' A' → xq_W p l e room_1 s m #[Value.ref b] below meth c D vcl (lq_cs n) ad (lq_en n ad cI cZ cN) qc qs Q 4 505 [(3, .int (nI i)), (2, .ref (ad (6, 0))), (1, .ref (ad (0, 0))), (0, .ref b)] [] (B', A')) : xq_W p l e room_1 s m #[Value.ref b] below meth c D vcl (lq_cs n) ad (lq_en n ad cI cZ cN) qc qs Q 4 367 [(3, .int (nI i)), (2, .ref (ad (6, 0))), (1, .ref (ad (0, 0))), (0, .ref b)] [] (B, A) := by
  obtain ⟨x, hx⟩ : ∃ x, xs (nI (i + 1)).toNatClampNeg = x := ⟨_, rfl⟩
  obtain ⟨v, B', A', hC, hM, hR'⟩ := ho x B A hRel
  refine xq_aload_n X d_L_law_367 2 rfl rfl ?_
  refine xq_aload_n X d_L_law_368 3 rfl rfl ?_
  refine xq_iload_n X d_L_law_369 0 rfl rfl ?_
  refine xq_iconst (v := 1) X d_L_law_370 (by decide) ?_
  refine xq_iadd X d_L_law_371 ?_
  refine xq_top (nI (i + 1)) lq_i1 ?_
  refine lq_sld (v := x) X hX hbl hbA (vp_in_nI (show i + 1 < Ls by omega) (by omega)) d_L_law_372 (hx) ?_
  refine lq_callC (As := [.int x]) (rest := []) X g_L_69 hC rfl rfl (by decide) hcs (Nat.le_of_ble_eq_true rfl) rfl d_L_law_373 ?_
  refine xq_aload_n X d_L_law_376 1 rfl rfl ?_
  refine xq_aload_n X d_L_law_377 3 rfl rfl ?_
  refine xq_iload_n X d_L_law_378 0 rfl rfl ?_
  refine xq_iconst (v := 1) X d_L_law_379 (by decide) ?_
  refine xq_iadd X d_L_law_380 ?_
  refine xq_top (nI (i + 1)) lq_i1 ?_
  refine lq_sld (v := x) X hX hbl hbA (vp_in_nI (show i + 1 < Ls by omega) (by omega)) d_L_law_381 (hx) ?_
  refine lq_callM (As := [.int x]) (rest := [.int v]) X g_L_72 hM rfl rfl (by decide) hcs (Nat.le_of_ble_eq_true rfl) rfl d_L_law_382 ?_
  refine xq_icmp_eq X d_L_law_385 505 (by decide) (fun _ => ?_) (fun h => absurd rfl h)
  exact K B' A' hR'
set_option maxHeartbeats 4000000 in
set_option maxRecDepth 100000 in
theorem ll_time {p : Program} {l : Launch} {e : Env} {s : State} {m : MethodId} {below : List Frame} {meth : Method} {c : Code} {Q : State → Prop} {D : va_G} {n : Nat} {ad : xq_I → Nat} {cI cZ cN : ClassId} {qc qs b Ls i : Nat} {xs : Nat → Int32} (X : xq_C p s m #[Value.ref b] meth c D vcl (kc_tys cI cZ cN) (lq_cs n) ad xw R_L b_L_law 4 (some .boolean)) (hX : va_X b Ls xs s s.heap) (hbl : b < s.heap.size) (hbA : ¬ xq_in (lq_cs n) ad b) (hcs : qc ≤ room_1.cells ∧ qs ≤ room_1.slots) (hi : i + 3 ≤ Ls) (hLs : Ls ≤ 1537) {Rel : kc_B → rc_A → Prop} (ho : lo_time l D n ad cI cZ cN Rel) {B : kc_B} {A : rc_A} (hRel : Rel B A)
    (K : ∀ (B' : kc_B) (A' : rc_A), Rel B' A' → xq_W p l e room_1 s m #[Value.ref b] below meth c D vcl (lq_cs n) ad (lq_en n ad cI cZ cN) qc qs Q 4 505 [(3, .int (nI i)), (2, .ref (ad (6, 0))), (1, .ref (ad (0, 0))), (0, .ref b)] [] (B', A')) : xq_W p l e room_1 s m #[Value.ref b] below meth c D vcl (lq_cs n) ad (lq_en n ad cI cZ cN) qc qs Q 4 390 [(3, .int (nI i)), (2, .ref (ad (6, 0))), (1, .ref (ad (0, 0))), (0, .ref b)] [] (B, A) := by
  obtain ⟨x, hx⟩ : ∃ x, xs (nI (i + 1)).toNatClampNeg = x := ⟨_, rfl⟩
  obtain ⟨v, B', A', hC, hM, hR'⟩ := ho x B A hRel
  refine xq_aload_n X d_L_law_390 2 rfl rfl ?_
  refine xq_aload_n X d_L_law_391 3 rfl rfl ?_
  refine xq_iload_n X d_L_law_392 0 rfl rfl ?_
  refine xq_iconst (v := 1) X d_L_law_393 (by decide) ?_
  refine xq_iadd X d_L_law_394 ?_
  refine xq_top (nI (i + 1)) lq_i1 ?_
  refine lq_sld (v := x) X hX hbl hbA (vp_in_nI (show i + 1 < Ls by omega) (by omega)) d_L_law_395 (hx) ?_
  refine lq_callC (As := [.int x]) (rest := []) X g_L_73 hC rfl rfl (by decide) hcs (Nat.le_of_ble_eq_true rfl) rfl d_L_law_396 ?_
  refine xq_aload_n X d_L_law_399 1 rfl rfl ?_
  refine xq_aload_n X d_L_law_400 3 rfl rfl ?_
  refine xq_iload_n X d_L_law_401 0 rfl rfl ?_
  refine xq_iconst (v := 1) X d_L_law_402 (by decide) ?_
  refine xq_iadd X d_L_law_403 ?_
  refine xq_top (nI (i + 1)) lq_i1 ?_
  refine lq_sld (v := x) X hX hbl hbA (vp_in_nI (show i + 1 < Ls by omega) (by omega)) d_L_law_404 (hx) ?_
  refine lq_callM (As := [.int x]) (rest := [.int v]) X g_L_76 hM rfl rfl (by decide) hcs (Nat.le_of_ble_eq_true rfl) rfl d_L_law_405 ?_
  refine xq_icmp_eq X d_L_law_408 505 (by decide) (fun _ => ?_) (fun h => absurd rfl h)
  exact K B' A' hR'
set_option maxHeartbeats 4000000 in
set_option maxRecDepth 100000 in
theorem ll_counts {p : Program} {l : Launch} {e : Env} {s : State} {m : MethodId} {below : List Frame} {meth : Method} {c : Code} {Q : State → Prop} {D : va_G} {n : Nat} {ad : xq_I → Nat} {cI cZ cN : ClassId} {qc qs b Ls i : Nat} {xs : Nat → Int32} (X : xq_C p s m #[Value.ref b] meth c D vcl (kc_tys cI cZ cN) (lq_cs n) ad xw R_L b_L_law 4 (some .boolean)) (hX : va_X b Ls xs s s.heap) (hbl : b < s.heap.size) (hbA : ¬ xq_in (lq_cs n) ad b) (hcs : qc ≤ room_1.cells ∧ qs ≤ room_1.slots) (hi : i + 3 ≤ Ls) (hLs : Ls ≤ 1537) {Rel : kc_B → rc_A → Prop} (ho : lo_counts l D n ad cI cZ cN Rel) {B : kc_B} {A : rc_A} (hRel : Rel B A)
    (K : ∀ (B' : kc_B) (A' : rc_A), Rel B' A' → xq_W p l e room_1 s m #[Value.ref b] below meth c D vcl (lq_cs n) ad (lq_en n ad cI cZ cN) qc qs Q 4 505 [(3, .int (nI i)), (2, .ref (ad (6, 0))), (1, .ref (ad (0, 0))), (0, .ref b)] [] (B', A')) : xq_W p l e room_1 s m #[Value.ref b] below meth c D vcl (lq_cs n) ad (lq_en n ad cI cZ cN) qc qs Q 4 413 [(3, .int (nI i)), (2, .ref (ad (6, 0))), (1, .ref (ad (0, 0))), (0, .ref b)] [] (B, A) := by
  obtain ⟨x, hx⟩ : ∃ x, xs (nI (i + 1)).toNatClampNeg = x := ⟨_, rfl⟩
  obtain ⟨v, B', A', hC, hM, hR'⟩ := ho x B A hRel
  refine xq_aload_n X d_L_law_413 2 rfl rfl ?_
  refine xq_aload_n X d_L_law_414 3 rfl rfl ?_
  refine xq_iload_n X d_L_law_415 0 rfl rfl ?_
  refine xq_iconst (v := 1) X d_L_law_416 (by decide) ?_
  refine xq_iadd X d_L_law_417 ?_
  refine xq_top (nI (i + 1)) lq_i1 ?_
  refine lq_sld (v := x) X hX hbl hbA (vp_in_nI (show i + 1 < Ls by omega) (by omega)) d_L_law_418 (hx) ?_
  refine lq_callC (As := [.int x]) (rest := []) X g_L_77 hC rfl rfl (by decide) hcs (Nat.le_of_ble_eq_true rfl) rfl d_L_law_419 ?_
  refine xq_aload_n X d_L_law_422 1 rfl rfl ?_
  refine xq_aload_n X d_L_law_423 3 rfl rfl ?_
  refine xq_iload_n X d_L_law_424 0 rfl rfl ?_
  refine xq_iconst (v := 1) X d_L_law_425 (by decide) ?_
  refine xq_iadd X d_L_law_426 ?_
  refine xq_top (nI (i + 1)) lq_i1 ?_
  refine lq_sld (v := x) X hX hbl hbA (vp_in_nI (show i + 1 < Ls by omega) (by omega)) d_L_law_427 (hx) ?_
  refine lq_callM (As := [.int x]) (rest := [.int v]) X g_L_80 hM rfl rfl (by decide) hcs (Nat.le_of_ble_eq_true rfl) rfl d_L_law_428 ?_
  refine xq_icmp_eq X d_L_law_431 505 (by decide) (fun _ => ?_) (fun h => absurd rfl h)
  exact K B' A' hR'
set_option maxHeartbeats 4000000 in
set_option maxRecDepth 100000 in
theorem ll_patience {p : Program} {l : Launch} {e : Env} {s : State} {m : MethodId} {below : List Frame} {meth : Method} {c : Code} {Q : State → Prop} {D : va_G} {n : Nat} {ad : xq_I → Nat} {cI cZ cN : ClassId} {qc qs b Ls i : Nat} {xs : Nat → Int32} (X : xq_C p s m #[Value.ref b] meth c D vcl (kc_tys cI cZ cN) (lq_cs n) ad xw R_L b_L_law 4 (some .boolean)) (hX : va_X b Ls xs s s.heap) (hbl : b < s.heap.size) (hbA : ¬ xq_in (lq_cs n) ad b) (hcs : qc ≤ room_1.cells ∧ qs ≤ room_1.slots) (hi : i + 3 ≤ Ls) (hLs : Ls ≤ 1537) {Rel : kc_B → rc_A → Prop} (ho : lo_patience l D n ad cI cZ cN Rel) {B : kc_B} {A : rc_A} (hRel : Rel B A)
    (K : ∀ (B' : kc_B) (A' : rc_A), Rel B' A' → xq_W p l e room_1 s m #[Value.ref b] below meth c D vcl (lq_cs n) ad (lq_en n ad cI cZ cN) qc qs Q 4 505 [(3, .int (nI i)), (2, .ref (ad (6, 0))), (1, .ref (ad (0, 0))), (0, .ref b)] [] (B', A')) : xq_W p l e room_1 s m #[Value.ref b] below meth c D vcl (lq_cs n) ad (lq_en n ad cI cZ cN) qc qs Q 4 436 [(3, .int (nI i)), (2, .ref (ad (6, 0))), (1, .ref (ad (0, 0))), (0, .ref b)] [] (B, A) := by
  obtain ⟨x, hx⟩ : ∃ x, xs (nI (i + 1)).toNatClampNeg = x := ⟨_, rfl⟩
  obtain ⟨v, B', A', hC, hM, hR'⟩ := ho x B A hRel
  refine xq_aload_n X d_L_law_436 2 rfl rfl ?_
  refine xq_aload_n X d_L_law_437 3 rfl rfl ?_
  refine xq_iload_n X d_L_law_438 0 rfl rfl ?_
  refine xq_iconst (v := 1) X d_L_law_439 (by decide) ?_
  refine xq_iadd X d_L_law_440 ?_
  refine xq_top (nI (i + 1)) lq_i1 ?_
  refine lq_sld (v := x) X hX hbl hbA (vp_in_nI (show i + 1 < Ls by omega) (by omega)) d_L_law_441 (hx) ?_
  refine lq_callC (As := [.int x]) (rest := []) X g_L_81 hC rfl rfl (by decide) hcs (Nat.le_of_ble_eq_true rfl) rfl d_L_law_442 ?_
  refine xq_aload_n X d_L_law_445 1 rfl rfl ?_
  refine xq_aload_n X d_L_law_446 3 rfl rfl ?_
  refine xq_iload_n X d_L_law_447 0 rfl rfl ?_
  refine xq_iconst (v := 1) X d_L_law_448 (by decide) ?_
  refine xq_iadd X d_L_law_449 ?_
  refine xq_top (nI (i + 1)) lq_i1 ?_
  refine lq_sld (v := x) X hX hbl hbA (vp_in_nI (show i + 1 < Ls by omega) (by omega)) d_L_law_450 (hx) ?_
  refine lq_callM (As := [.int x]) (rest := [.int v]) X g_L_84 hM rfl rfl (by decide) hcs (Nat.le_of_ble_eq_true rfl) rfl d_L_law_451 ?_
  refine xq_icmp_eq X d_L_law_454 505 (by decide) (fun _ => ?_) (fun h => absurd rfl h)
  exact K B' A' hR'
set_option maxHeartbeats 4000000 in
set_option maxRecDepth 100000 in
theorem ll_gap {p : Program} {l : Launch} {e : Env} {s : State} {m : MethodId} {below : List Frame} {meth : Method} {c : Code} {Q : State → Prop} {D : va_G} {n : Nat} {ad : xq_I → Nat} {cI cZ cN : ClassId} {qc qs b Ls i : Nat} {xs : Nat → Int32} (X : xq_C p s m #[Value.ref b] meth c D vcl (kc_tys cI cZ cN) (lq_cs n) ad xw R_L b_L_law 4 (some .boolean)) (hX : va_X b Ls xs s s.heap) (hbl : b < s.heap.size) (hbA : ¬ xq_in (lq_cs n) ad b) (hcs : qc ≤ room_1.cells ∧ qs ≤ room_1.slots) (hi : i + 3 ≤ Ls) (hLs : Ls ≤ 1537) {Rel : kc_B → rc_A → Prop} (ho : lo_gap l D n ad cI cZ cN Rel) {B : kc_B} {A : rc_A} (hRel : Rel B A)
    (K : ∀ (B' : kc_B) (A' : rc_A), Rel B' A' → xq_W p l e room_1 s m #[Value.ref b] below meth c D vcl (lq_cs n) ad (lq_en n ad cI cZ cN) qc qs Q 4 505 [(3, .int (nI i)), (2, .ref (ad (6, 0))), (1, .ref (ad (0, 0))), (0, .ref b)] [] (B', A')) : xq_W p l e room_1 s m #[Value.ref b] below meth c D vcl (lq_cs n) ad (lq_en n ad cI cZ cN) qc qs Q 4 459 [(3, .int (nI i)), (2, .ref (ad (6, 0))), (1, .ref (ad (0, 0))), (0, .ref b)] [] (B, A) := by
  obtain ⟨x, hx⟩ : ∃ x, xs (nI (i + 1)).toNatClampNeg = x := ⟨_, rfl⟩
  obtain ⟨y, hy⟩ : ∃ y, xs (nI (i + 2)).toNatClampNeg = y := ⟨_, rfl⟩
  obtain ⟨v, B', A', hC, hM, hR'⟩ := ho x y B A hRel
  refine xq_aload_n X d_L_law_459 2 rfl rfl ?_
  refine xq_aload_n X d_L_law_460 3 rfl rfl ?_
  refine xq_iload_n X d_L_law_461 0 rfl rfl ?_
  refine xq_iconst (v := 1) X d_L_law_462 (by decide) ?_
  refine xq_iadd X d_L_law_463 ?_
  refine xq_top (nI (i + 1)) lq_i1 ?_
  refine lq_sld (v := x) X hX hbl hbA (vp_in_nI (show i + 1 < Ls by omega) (by omega)) d_L_law_464 (hx) ?_
  refine xq_aload_n X d_L_law_465 3 rfl rfl ?_
  refine xq_iload_n X d_L_law_466 0 rfl rfl ?_
  refine xq_iconst (v := 2) X d_L_law_467 (by decide) ?_
  refine xq_iadd X d_L_law_468 ?_
  refine xq_top (nI (i + 2)) lq_i2 ?_
  refine lq_sld (v := y) X hX hbl hbA (vp_in_nI (show i + 2 < Ls by omega) (by omega)) d_L_law_469 (hy) ?_
  refine lq_callC (As := [.int x, .int y]) (rest := []) X g_L_85 hC rfl rfl (by decide) hcs (Nat.le_of_ble_eq_true rfl) rfl d_L_law_470 ?_
  refine xq_aload_n X d_L_law_473 1 rfl rfl ?_
  refine xq_aload_n X d_L_law_474 3 rfl rfl ?_
  refine xq_iload_n X d_L_law_475 0 rfl rfl ?_
  refine xq_iconst (v := 1) X d_L_law_476 (by decide) ?_
  refine xq_iadd X d_L_law_477 ?_
  refine xq_top (nI (i + 1)) lq_i1 ?_
  refine lq_sld (v := x) X hX hbl hbA (vp_in_nI (show i + 1 < Ls by omega) (by omega)) d_L_law_478 (hx) ?_
  refine xq_aload_n X d_L_law_479 3 rfl rfl ?_
  refine xq_iload_n X d_L_law_480 0 rfl rfl ?_
  refine xq_iconst (v := 2) X d_L_law_481 (by decide) ?_
  refine xq_iadd X d_L_law_482 ?_
  refine xq_top (nI (i + 2)) lq_i2 ?_
  refine lq_sld (v := y) X hX hbl hbA (vp_in_nI (show i + 2 < Ls by omega) (by omega)) d_L_law_483 (hy) ?_
  refine lq_callM (As := [.int x, .int y]) (rest := [.int v]) X g_L_89 hM rfl rfl (by decide) hcs (Nat.le_of_ble_eq_true rfl) rfl d_L_law_484 ?_
  refine xq_icmp_eq X d_L_law_487 505 (by decide) (fun _ => ?_) (fun h => absurd rfl h)
  exact K B' A' hR'
set_option maxHeartbeats 4000000 in
set_option maxRecDepth 100000 in
theorem ll_united {p : Program} {l : Launch} {e : Env} {s : State} {m : MethodId} {below : List Frame} {meth : Method} {c : Code} {Q : State → Prop} {D : va_G} {n : Nat} {ad : xq_I → Nat} {cI cZ cN : ClassId} {qc qs b Ls i : Nat} {xs : Nat → Int32} (X : xq_C p s m #[Value.ref b] meth c D vcl (kc_tys cI cZ cN) (lq_cs n) ad xw R_L b_L_law 4 (some .boolean)) (hX : va_X b Ls xs s s.heap) (hbl : b < s.heap.size) (hbA : ¬ xq_in (lq_cs n) ad b) (hcs : qc ≤ room_1.cells ∧ qs ≤ room_1.slots) (hi : i + 3 ≤ Ls) (hLs : Ls ≤ 1537) {Rel : kc_B → rc_A → Prop} (ho : lo_united l D n ad cI cZ cN Rel) {B : kc_B} {A : rc_A} (hRel : Rel B A)
    (K : ∀ (B' : kc_B) (A' : rc_A), Rel B' A' → xq_W p l e room_1 s m #[Value.ref b] below meth c D vcl (lq_cs n) ad (lq_en n ad cI cZ cN) qc qs Q 4 505 [(3, .int (nI i)), (2, .ref (ad (6, 0))), (1, .ref (ad (0, 0))), (0, .ref b)] [] (B', A')) : xq_W p l e room_1 s m #[Value.ref b] below meth c D vcl (lq_cs n) ad (lq_en n ad cI cZ cN) qc qs Q 4 492 [(3, .int (nI i)), (2, .ref (ad (6, 0))), (1, .ref (ad (0, 0))), (0, .ref b)] [] (B, A) := by
  obtain ⟨v, B', A', hC, hM, hR'⟩ := ho B A hRel
  refine xq_aload_n X d_L_law_492 2 rfl rfl ?_
  refine lq_callC (As := []) (rest := []) X g_L_90 hC rfl rfl (by decide) hcs (Nat.le_of_ble_eq_true rfl) rfl d_L_law_493 ?_
  refine xq_aload_n X d_L_law_496 1 rfl rfl ?_
  refine lq_callM (As := []) (rest := [.int v]) X g_L_94 hM rfl rfl (by decide) hcs (Nat.le_of_ble_eq_true rfl) rfl d_L_law_497 ?_
  refine xq_icmp_eq X d_L_law_500 505 (by decide) (fun _ => ?_) (fun h => absurd rfl h)
  exact K B' A' hR'
