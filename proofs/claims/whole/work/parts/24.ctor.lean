theorem o_i : Cond.instanceMethod Lib.objectInit ∈ xw := (xw_1 (i := 13) rfl rfl)
theorem o_c : Cond.code Lib.objectInit ⟨#[0xb1]⟩ 1 none ∈ xw := (xw_1 (i := 14) rfl rfl)
theorem a_int : Cond.arrayClass .int ∈ xw := (xw_1 (i := 44) rfl rfl)
theorem a_bool : Cond.arrayClass .boolean ∈ xw := (xw_2 (i := 224) rfl rfl)
section YR
variable {p : Program} {l : Launch} {e : Env} {R : Room} {s : State} {m : MethodId} {args : Array Value} {below : List Frame} {meth : Method} {c : Code} {Q : State → Prop}
variable {D : va_G} {cl : List vw_C} {tys : List (ClassId × FieldType)} {A : Nat → Prop} {ws : va_W} {Ts : List Cond} {own : String} {cc : ByteArray} {nL : Nat}
variable {qc qs pc : Nat} {L : List (Nat × Value)} {st : List Value}
theorem yq_newa2 (X : yq_C p s m args c A Ts own cc nL) {atype : ArrayType} {ty : FieldType} (hw : Cond.arrayClass (newarray.typeOf atype) ∈ Ts) (hty : newarray.typeOf atype = ty) {n : Int32} {N : Nat} {a0 : vp_A} (ha : ∀ cA : ClassId, vp_cell cA a0 = arrV cA N (fun _ => defaultValue ty)) (hn : ¬ n < 0) (hN : n.toNatClampNeg = N) (hby : N * componentBytes ty ≤ 536870912) (h1 : qc + 1 ≤ R.cells) (h2 : qs + N ≤ R.slots)
    (t0 : Nat) {cI : ClassId} (ht : tys[t0]? = some (cI, ty)) (hra : ∀ a b, va_RA s a ty → va_RA s b ty → a = b) (hd : decode cc pc = .ok (.newarray atype, 2))
    (k : ∀ q, yq_W p l e R s m args below meth c D cl A tys (qc + 1) (qs + N) Q nL (pc + 2) L (.ref q :: st) (ws ++ [(q, .inl (cI, a0))])) : yq_W p l e R s m args below meth c D cl A tys qc qs Q nL pc L (.int n :: st) ws := by
  refine yq_newa X hw hty ha hn hN hby h1 h2 hd (fun q cA => ?_)
  intro H locs ls g1 g2 g3 g4 g5
  have e : cA = cI := hra _ _ (g5.2 tys.length (cA, ty) (by simp)).2 (g5.2 t0 (cI, ty) (by rw [List.getElem?_append_left (List.getElem?_eq_some_iff.mp ht).1]; exact ht)).2
  subst e
  exact k q H locs ls g1 g2 g3 g4 ⟨g5.1, fun i x hx => g5.2 i x (by rw [List.getElem?_append_left (List.getElem?_eq_some_iff.mp hx).1]; exact hx)⟩
theorem yq_useK (h : va_K D cl tys s → yq_W p l e R s m args below meth c D cl A tys qc qs Q nL pc L st ws) : yq_W p l e R s m args below meth c D cl A tys qc qs Q nL pc L st ws :=
  fun H locs ls g1 g2 g3 g4 g5 => h g5 H locs ls g1 g2 g3 g4 g5
theorem yq_ty {tys' : List (ClassId × FieldType)} (ks : List Nat) (hl : ks.filterMap (fun i => tys[i]?) = tys') (k : yq_W p l e R s m args below meth c D cl A tys' qc qs Q nL pc L st ws) : yq_W p l e R s m args below meth c D cl A tys qc qs Q nL pc L st ws :=
  fun H locs ls g1 g2 g3 g4 g5 => k H locs ls g1 g2 g3 g4 (g5.sub ks hl)
end YR
set_option maxHeartbeats 4000000 in
set_option maxRecDepth 100000 in
theorem yt_D (l : Launch) (D : va_G) (h0 sz : Nat) : yq_M l D vcl y_D_init (Cond.code y_D_init b_D_init 1 none :: xw) 1 1 4 [.ref h0] [(h0, .inr (2, [.null, .int 0, .int 0]))] sz (fun _ => True)
    (fun tys w1 => ∃ (cA : ClassId) (q : Nat), tys = [(cA, .int)] ∧ w1 = [(h0, .inr (2, [.ref q, .int 0, .int 0])), (q, .inl (cA, 4, .inl (fun _ => 0)))]) := by
  refine yq_met (by decide) (Nat.le_of_ble_eq_true rfl) ?_
  intro p e s m args below meth c X hr hlo hm _
  refine yq_sub [0] [(0, .ref h0)] rfl ?_
  refine yq_aload_n X d_D_init_0 0 rfl rfl ?_
  refine yq_obj X (xw_1 (i := 33) rfl rfl) o_i o_c (by decide) (by decide) d_D_init_1 ?_
  refine yq_aload_n X d_D_init_4 0 rfl rfl ?_
  refine yq_iconst (v := 4) X d_D_init_5 (by decide) ?_
  refine yq_newa (atype := .int) (N := 4) (a0 := (4, .inl (fun _ => 0))) X a_int rfl (fun _ => rfl) (by decide) (by decide) (by decide) (by decide) (by decide) d_D_init_6 (fun q cA => ?_)
  refine yq_putF (ws' := [(h0, .inr (2, [.ref q, .int 0, .int 0])), (q, .inl (cA, 4, .inl (fun _ => 0)))]) X f_D_9 T_D_ok (⟨_, _, _, rfl, rfl, rfl, by decide +kernel⟩ : yq_N vcl 2 0 y_D_init.cls (.array .int)) hm 0 rfl (by show 0 < 3; decide) rfl rfl rfl d_D_init_8 ?_
  exact yq_vret (A0 := fun _ => True) X hr hlo ⟨cA, q, rfl, rfl⟩ d_D_init_11
def kz_N (n k q : Nat) : va_E := .inr (3, [.int (nI k), .int (nI n), .ref q, .int 0, .int 0, .int 0, .int 0, .int 0, .int 0, .int 0, .int 0, .int 0, .int 0, .int 0, .int 0, .int 0, .int 0, .int 0, .int 0])
def kz_D (q : Nat) : va_E := .inr (2, [.ref q, .int 0, .int 0])
def kz_L (cA : ClassId) : va_E := .inl (cA, 4, .inl (fun _ => 0))
set_option maxHeartbeats 4000000 in
set_option maxRecDepth 100000 in
theorem yt_N (l : Launch) (D : va_G) (n k h0 sz : Nat) : yq_M l D vcl y_N_init (Cond.code y_N_init b_N_init 3 none :: xw) 2 2 7 [.ref h0, .int (nI k), .int (nI n)] [(h0, .inr (3, [.int 0, .int 0, .null, .int 0, .int 0, .int 0, .int 0, .int 0, .int 0, .int 0, .int 0, .int 0, .int 0, .int 0, .int 0, .int 0, .int 0, .int 0, .int 0]))] sz (fun _ => True)
    (fun tys w1 => ∃ (cA : ClassId) (q q2 : Nat), tys = [(cA, .int)] ∧ w1 = [(h0, kz_N n k q), (q, kz_D q2), (q2, kz_L cA)]) := by
  refine yq_met (by decide) (Nat.le_of_ble_eq_true rfl) ?_
  intro p e s m args below meth c X hr hlo hm _
  refine yq_sub [2, 1, 0] [(2, .int (nI n)), (1, .int (nI k)), (0, .ref h0)] rfl ?_
  refine yq_aload_n X d_N_init_0 2 rfl rfl ?_
  refine yq_obj X (xw_1 (i := 27) rfl rfl) o_i o_c (by decide) (by decide) d_N_init_1 ?_
  refine yq_aload_n X d_N_init_4 2 rfl rfl ?_
  refine yq_iload_n X d_N_init_5 1 rfl rfl ?_
  refine yq_putF (ws' := [(h0, .inr (3, [.int (nI k), .int 0, .null, .int 0, .int 0, .int 0, .int 0, .int 0, .int 0, .int 0, .int 0, .int 0, .int 0, .int 0, .int 0, .int 0, .int 0, .int 0, .int 0]))]) X f_N_9 T_N_ok (⟨_, _, _, rfl, rfl, rfl, by decide +kernel⟩ : yq_N vcl 3 0 y_N_init.cls .int) hm 0 rfl (by show 0 < 19; decide) rfl rfl rfl d_N_init_6 ?_
  refine yq_aload_n X d_N_init_9 2 rfl rfl ?_
  refine yq_iload_n X d_N_init_10 0 rfl rfl ?_
  refine yq_putF (ws' := [(h0, .inr (3, [.int (nI k), .int (nI n), .null, .int 0, .int 0, .int 0, .int 0, .int 0, .int 0, .int 0, .int 0, .int 0, .int 0, .int 0, .int 0, .int 0, .int 0, .int 0, .int 0]))]) X f_N_15 T_N_ok (⟨_, _, _, rfl, rfl, rfl, by decide +kernel⟩ : yq_N vcl 3 1 y_N_init.cls .int) hm 0 rfl (by show 1 < 19; decide) rfl rfl rfl d_N_init_11 ?_
  refine yq_aload_n X d_N_init_14 2 rfl rfl ?_
  refine yq_new (ci := 2) (fs := [.null, .int 0, .int 0]) X rfl in_D ty_D tyo_D (xw_1 (i := 28) rfl rfl) (xw_1 (i := 29) rfl rfl) (xw_1 (i := 4) rfl rfl) (fun j hj => by rcases (show j = 0 ∨ j = 1 ∨ j = 2 by omega) with rfl | rfl | rfl <;> rfl) (by decide) (by decide) d_N_init_15 (fun q => ?_)
  refine yq_dup X d_N_init_18 rfl ?_
  refine yq_callI (As := []) (rest := [.ref q, .ref h0]) X xw_g (yt_D l D q) (xw_1 (i := 32) rfl rfl) (xw_1 (i := 30) rfl rfl) (xw_1 (i := 31) rfl rfl) (xw_1 (i := 4) rfl rfl) rfl (by decide +kernel) rfl (by decide) (by decide) (Nat.le_of_ble_eq_true rfl) rfl d_N_init_19 (fun tys1 w1 hp => ?_)
  obtain ⟨cA, q2, rfl, rfl⟩ := hp
  refine yq_putF (ws' := [(h0, kz_N n k q), (q, kz_D q2), (q2, kz_L cA)]) X f_N_21 T_N_ok (⟨_, _, _, rfl, rfl, rfl, by decide +kernel⟩ : yq_N vcl 3 2 y_N_init.cls (.object "SlotCluster$Deviations")) hm 0 rfl (by show 2 < 19; decide) rfl rfl rfl d_N_init_22 ?_
  refine yq_aload_n X d_N_init_25 2 rfl rfl ?_
  refine yq_iconst (v := 0) X d_N_init_26 (by decide) ?_
  refine yq_put (ws' := [(h0, kz_N n k q), (q, kz_D q2), (q2, kz_L cA)]) X f_N_25 T_N_ok n_N_3 0 rfl (by show 3 < 19; decide) rfl rfl rfl d_N_init_27 ?_
  refine yq_aload_n X d_N_init_30 2 rfl rfl ?_
  refine yq_iconst (v := 0) X d_N_init_31 (by decide) ?_
  refine yq_put (ws' := [(h0, kz_N n k q), (q, kz_D q2), (q2, kz_L cA)]) X f_N_28 T_N_ok n_N_12 0 rfl (by show 12 < 19; decide) rfl rfl rfl d_N_init_32 ?_
  refine yq_aload_n X d_N_init_35 2 rfl rfl ?_
  refine yq_iconst (v := 0) X d_N_init_36 (by decide) ?_
  refine yq_put (ws' := [(h0, kz_N n k q), (q, kz_D q2), (q2, kz_L cA)]) X f_N_31 T_N_ok n_N_18 0 rfl (by show 18 < 19; decide) rfl rfl rfl d_N_init_37 ?_
  exact yq_vret (A0 := fun _ => True) X hr hlo ⟨cA, q, q2, rfl, rfl⟩ d_N_init_40
set_option maxHeartbeats 4000000 in
set_option maxRecDepth 100000 in
theorem yt_W (l : Launch) (D : va_G) (h0 sz : Nat) : yq_M l D vcl y_W_init (Cond.code y_W_init b_W_init 1 none :: xw) 1 0 0 [.ref h0] [(h0, .inr (1, [.int 0, .int 0, .int 0, .int 0, .int 0]))] sz (fun _ => True)
    (fun tys w1 => tys = [] ∧ w1 = [(h0, .inr (1, [.int 0, .int 0, .int 0, .int 0, .int 0]))]) := by
  refine yq_met (by decide) (Nat.le_of_ble_eq_true rfl) ?_
  intro p e s m args below meth c X hr hlo hm _
  refine yq_sub [0] [(0, .ref h0)] rfl ?_
  refine yq_aload_n X d_W_init_0 0 rfl rfl ?_
  refine yq_obj X (xw_1 (i := 126) rfl rfl) o_i o_c (by decide) (by decide) d_W_init_1 ?_
  refine yq_aload_n X d_W_init_4 0 rfl rfl ?_
  refine yq_iconst (v := 0) X d_W_init_5 (by decide) ?_
  refine yq_put (ws' := [(h0, .inr (1, [.int 0, .int 0, .int 0, .int 0, .int 0]))]) X f_W_9 T_W_ok n_W_0 0 rfl (by show 0 < 5; decide) rfl rfl rfl d_W_init_6 ?_
  exact yq_vret (A0 := fun _ => True) X hr hlo ⟨rfl, rfl⟩ d_W_init_9
