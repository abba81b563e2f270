section XN
variable {μ : Type} {p : Program} {l : Launch} {e : Env} {R : Room} {s : State} {m : MethodId} {args : Array Value} {below : List Frame} {meth : Method} {c : Code} {Q : State → Prop}
variable {D : va_G} {cl : List vw_C} {tys : List (ClassId × FieldType)} {cs : List xq_I} {ad : xq_I → Nat} {en : μ → xq_I → va_E} {Ts : List Cond} {own : String} {cc : ByteArray} {nL : Nat} {ret : Option FieldType}
variable {qc qs pc : Nat} {L : List (Nat × Value)} {st : List Value} {M : μ}
theorem xq_astoreN (X : xq_C p s m args meth c D cl tys cs ad Ts own cc nL ret) {i : Nat} (hd : decode cc pc = .ok (.astore i, 2)) (L' : List (Nat × Value)) (hL : (i, Value.null) :: L.filter (fun q => !(q.1 == i) && !(q.1 + 1 == i && q.2.category == 2)) = L') (hn : i < nL)
    (k : xq_W p l e R s m args below meth c D cl cs ad en qc qs Q nL (pc + 2) L' st M) : xq_W p l e R s m args below meth c D cl cs ad en qc qs Q nL pc L (.null :: st) M :=
  fun H locs ls h1 h2 h3 => lv_astoreN X.1 X.2.1 hd h1 hn hL (fun ls' h => k H locs ls' h h2 h3)
theorem xq_aloadN (X : xq_C p s m args meth c D cl tys cs ad Ts own cc nL ret) {i : Nat} (hd : decode cc pc = .ok (.aload i, 2)) (j : Nat) (hL : L[j]? = some (i, .null))
    (k : xq_W p l e R s m args below meth c D cl cs ad en qc qs Q nL (pc + 2) L (.null :: st) M) : xq_W p l e R s m args below meth c D cl cs ad en qc qs Q nL pc L st M :=
  fun H locs ls h1 h2 h3 => lv_aloadN X.1 X.2.1 hd (lv_at h1 j hL) (k H locs ls h1 h2 h3)
end XN
/-- no switched-on node of that number -/
def kq_null (n : Nat) (B : kc_B) (x : Int32) : Prop := (x < 0 ∨ ¬ x < nI n) ∨ ∃ k, k < n ∧ x = nI k ∧ B.1 k 3 = 0
theorem kp_null {l : Launch} {D : va_G} {n : Nat} {ad : xq_I → Nat} {cI cZ cN : ClassId} (hap : xq_ap (kc_cs n) ad) (hn : n = 4 ∨ n = 5 ∨ n = 6) (B : kc_B) (x : Int32) (h : kq_null n B x) : xq_M l D vcl (kc_tys cI cZ cN) (kc_cs n) ad (kc_en n ad cI cN) y_C_findSwitchedOn (Cond.code y_C_findSwitchedOn b_C_findSwitchedOn 3 (some (.object "SlotCluster$Node")) :: xw) 1 [.ref (ad (0, 0)), .int x] B (some .null) B := by
  rcases h with h | ⟨k, hk, rfl, h⟩
  · have q := ct_C_fso_bad (l := l) (D := D) (cI := cI) (cZ := cZ) (cN := cN) hap (show 0 < n by omega) (B := B) (F := B.1 0) (G := B.2.1 0) (E := B.2.2.1 0) (w := B.2.2.2.1) x h
    rw [← kc_self B 0] at q
    exact q
  · have q := ct_C_fso_off (l := l) (D := D) (cI := cI) (cZ := cZ) (cN := cN) hap hk (B := B) (F := B.1 k) (G := B.2.1 k) (E := B.2.2.1 k) (w := B.2.2.2.1) (by omega) (nI_pos (by omega)) (nI_lt hk (by omega)) h
    rw [← kc_self B k] at q
    exact q
theorem kp_on {l : Launch} {D : va_G} {n : Nat} {ad : xq_I → Nat} {cI cZ cN : ClassId} (hap : xq_ap (kc_cs n) ad) (hn : n = 4 ∨ n = 5 ∨ n = 6) (B : kc_B) (k : Nat) (hk : k < n) (h : ¬ B.1 k 3 = 0) : xq_M l D vcl (kc_tys cI cZ cN) (kc_cs n) ad (kc_en n ad cI cN) y_C_findSwitchedOn (Cond.code y_C_findSwitchedOn b_C_findSwitchedOn 3 (some (.object "SlotCluster$Node")) :: xw) 1 [.ref (ad (0, 0)), .int (nI k)] B (some (.ref (ad (3, k)))) B := by
  have q := ct_C_fso_on (l := l) (D := D) (cI := cI) (cZ := cZ) (cN := cN) hap hk (B := B) (F := B.1 k) (G := B.2.1 k) (E := B.2.2.1 k) (w := B.2.2.2.1) (by omega) (nI_pos (by omega)) (nI_lt hk (by omega)) h
  rw [← kc_self B k] at q
  exact q
section KG
variable {p : Program} {l : Launch} {e : Env} {R : Room} {s : State} {m : MethodId} {args : Array Value} {below : List Frame} {meth : Method} {c : Code} {Q : State → Prop}
variable {D : va_G} {ad : xq_I → Nat} {Ts : List Cond} {own : String} {cc : ByteArray} {nL : Nat} {ret : Option FieldType} {n k : Nat} {cI cZ cN : ClassId} {B : kc_B}
variable {qc qs pc index : Nat} {L : List (Nat × Value)} {st : List Value} {v : Int32}
theorem kg_get (X : xq_C p s m args meth c D vcl (kc_tys cI cZ cN) (kc_cs n) ad Ts own cc nL ret) (hk : k < n) (j : Nat) (hj : j < 19 ∧ j ≠ 2) (hF : xq_F Ts own index vcl 3 j) (hd : decode cc pc = .ok (.getfield index, 3)) (hv : B.1 k j = v)
    (K : xq_W p l e R s m args below meth c D vcl (kc_cs n) ad (kc_en n ad cI cN) qc qs Q nL (pc + 3) L (.int v :: st) B) : xq_W p l e R s m args below meth c D vcl (kc_cs n) ad (kc_en n ad cI cN) qc qs Q nL pc L (.ref (ad (3, k)) :: st) B := by
  refine xq_mem (kc_self B k) ?_
  refine kn_get X hk j hj hF hd hv ?_
  exact xq_mem (kc_self B k).symm K
end KG
theorem kb_callN {p : Program} {l : Launch} {e : Env} {R : Room} {s : State} {m : MethodId} {args : Array Value} {below : List Frame} {meth : Method} {c : Code} {Q : State → Prop} {D : va_G} {ad : xq_I → Nat} {own : String} {cc : ByteArray} {nL : Nat} {ret : Option FieldType} {n k : Nat} {cI cZ cN : ClassId} {B M' : kc_B} {Ts : List Cond}
  {pc index d maxL na : Nat} {L : List (Nat × Value)} {st As rest : List Value} {a : Value} {y : MethodName} {code : ByteArray} {rt : Option FieldType} (X : xq_C p s m args meth c D vcl (kc_tys cI cZ cN) (kc_cs n) ad Ts own cc nL ret) (hg : ∀ w ∈ Ts, xq_g w) (hk : k < n) (hG : xq_G Ts own index y code maxL rt na)
    (hM : xq_M l D vcl (kc_tys cI cZ cN) (kc_cs n) ad (kc_en n ad cI cN) y (Cond.code y code maxL rt :: Ts) d (.ref (ad (3, k)) :: As) B (some a) M')
    (hy : y.cls = R_N) (hn : As.length = na) (hR : d + 1 ≤ R.frames ∧ 8 + (maxL + 11) + 32 * d ≤ R.locals) (hst : (rest.map fun v => v.category).sum ≤ 8) (hs : st = As.reverse ++ .ref (ad (3, k)) :: rest) (hd : decode cc pc = .ok (.invokevirtual index, 3))
    (K : xq_W p l e R s m args below meth c D vcl (kc_cs n) ad (kc_en n ad cI cN) 0 0 Q nL (pc + 3) L (a :: rest) M') : xq_W p l e R s m args below meth c D vcl (kc_cs n) ad (kc_en n ad cI cN) 0 0 Q nL pc L st B := by
  have hs2 := kc_self B k
  refine xq_mem hs2 ?_
  rw [hs2] at hM
  exact kn_callI X hg hk hG hM hy hn hR hst hs hd K
def kq_same (B : kc_B) (k j : Nat) : Int32 := if B.1 k 6 = B.1 j 6 then (if B.1 k 4 = B.1 j 4 then (if B.1 k 5 = B.1 j 5 then 1 else 0) else 0) else 0
set_option maxHeartbeats 4000000 in
set_option maxRecDepth 100000 in
theorem kt_same {l : Launch} {D : va_G} {n : Nat} {ad : xq_I → Nat} {cI cZ cN : ClassId} (hap : xq_ap (kc_cs n) ad) (hn : n = 4 ∨ n = 5 ∨ n = 6) (B : kc_B) (k j : Nat) (hk : k < n) (hj : j < n) : xq_M l D vcl (kc_tys cI cZ cN) (kc_cs n) ad (kc_en n ad cI cN) y_N_seesTheSameAs (Cond.code y_N_seesTheSameAs b_N_seesTheSameAs 2 (some .boolean) :: xw) 0 [.ref (ad (3, k)), .ref (ad (3, j))] B (some (.int (kq_same B k j))) B := by
  refine xq_met (by decide) (Nat.le_of_ble_eq_true rfl) hap ?_
  intro p e s m args below meth c X
  refine xq_sub [1, 0] [(1, .ref (ad (3, j))), (0, .ref (ad (3, k)))] rfl ?_
  have hJ : ∀ z : Int32, z = kq_same B k j → z = 0 → xq_W p l e (xq_r 0) s m args below meth c D vcl (kc_cs n) ad (kc_en n ad cI cN) 0 0 (MQ below (xq_Q D vcl (kc_cs n) ad (kc_en n ad cI cN) (some (.int (kq_same B k j))) B) args s 0 0 (xq_in (kc_cs n) ad)) 2 37 [(1, .ref (ad (3, j))), (0, .ref (ad (3, k)))] [] B := by
    intro z h1 h2
    refine xq_iconst (v := 0) X d_N_seesTheSameAs_37 (by decide) ?_
    exact xq_iret X rfl (by decide) (h2.symm.trans h1) rfl d_N_seesTheSameAs_38
  refine xq_aload_n X d_N_seesTheSameAs_0 1 rfl rfl ?_
  refine kg_get (v := (B.1 k 6)) X hk 6 (by decide) f_N_34 d_N_seesTheSameAs_1 rfl ?_
  refine xq_aload_n X d_N_seesTheSameAs_4 0 rfl rfl ?_
  refine kg_get (v := (B.1 j 6)) X hj 6 (by decide) f_N_34 d_N_seesTheSameAs_5 rfl ?_
  refine xq_icmp_ne X d_N_seesTheSameAs_8 37 (by decide) (fun h1 => hJ 0 (if_neg h1).symm rfl) (fun h1 => ?_)
  refine xq_aload_n X d_N_seesTheSameAs_11 1 rfl rfl ?_
  refine kg_get (v := (B.1 k 4)) X hk 4 (by decide) f_N_37 d_N_seesTheSameAs_12 rfl ?_
  refine xq_aload_n X d_N_seesTheSameAs_15 0 rfl rfl ?_
  refine kg_get (v := (B.1 j 4)) X hj 4 (by decide) f_N_37 d_N_seesTheSameAs_16 rfl ?_
  refine xq_icmp_ne X d_N_seesTheSameAs_19 37 (by decide) (fun h2 => hJ 0 ((if_pos h1).trans (if_neg h2)).symm rfl) (fun h2 => ?_)
  refine xq_aload_n X d_N_seesTheSameAs_22 1 rfl rfl ?_
  refine kg_get (v := (B.1 k 5)) X hk 5 (by decide) f_N_40 d_N_seesTheSameAs_23 rfl ?_
  refine xq_aload_n X d_N_seesTheSameAs_26 0 rfl rfl ?_
  refine kg_get (v := (B.1 j 5)) X hj 5 (by decide) f_N_40 d_N_seesTheSameAs_27 rfl ?_
  refine xq_icmp_ne X d_N_seesTheSameAs_30 37 (by decide) (fun h3 => hJ 0 ((if_pos h1).trans ((if_pos h2).trans (if_neg h3))).symm rfl) (fun h3 => ?_)
  refine xq_iconst (v := 1) X d_N_seesTheSameAs_33 (by decide) ?_
  refine xq_goto X d_N_seesTheSameAs_34 38 (by decide) ?_
  exact xq_iret X rfl (by decide) ((if_pos h1).trans ((if_pos h2).trans (if_pos h3))).symm rfl d_N_seesTheSameAs_38
set_option maxHeartbeats 4000000 in
set_option maxRecDepth 100000 in
theorem kt_gap_kk {l : Launch} {D : va_G} {n : Nat} {ad : xq_I → Nat} {cI cZ cN : ClassId} (hap : xq_ap (kc_cs n) ad) (hn : n = 4 ∨ n = 5 ∨ n = 6) (B : kc_B) (k : Nat) (hk : k < n) (ha : ¬ B.1 k 3 = 0) (j : Nat) (hj : j < n) (hb : ¬ B.1 j 3 = 0) : xq_M l D vcl (kc_tys cI cZ cN) (kc_cs n) ad (kc_en n ad cI cN) y_C_gap (Cond.code y_C_gap b_C_gap 5 (some .int) :: xw) 2 [.ref (ad (0, 0)), .int (nI k), .int (nI j)] B (some (.int (B.1 k 14 - B.1 j 14))) B := by
  refine xq_met (by decide) (Nat.le_of_ble_eq_true rfl) hap ?_
  intro p e s m args below meth c X
  refine xq_sub [2, 1, 0] [(2, .int (nI j)), (1, .int (nI k)), (0, .ref (ad (0, 0)))] rfl ?_
  refine xq_aload_n X d_C_gap_0 2 rfl rfl ?_
  refine xq_iload_n X d_C_gap_1 1 rfl rfl ?_
  refine kb_callI (As := [.int (nI k)]) (rest := []) X xw_g g_C_46 (kp_on hap hn B k hk ha) rfl rfl (by decide) (Nat.le_of_ble_eq_true rfl) rfl d_C_gap_2 ?_
  refine xq_astore_n X d_C_gap_5 [(3, .ref (ad (3, k))), (2, .int (nI j)), (1, .int (nI k)), (0, .ref (ad (0, 0)))] rfl rfl (by decide) ?_
  refine xq_aload_n X d_C_gap_6 3 rfl rfl ?_
  refine xq_iload_n X d_C_gap_7 1 rfl rfl ?_
  refine kb_callI (As := [.int (nI j)]) (rest := []) X xw_g g_C_46 (kp_on hap hn B j hj hb) rfl rfl (by decide) (Nat.le_of_ble_eq_true rfl) rfl d_C_gap_8 ?_
  refine xq_astore X d_C_gap_11 [(4, .ref (ad (3, j))), (3, .ref (ad (3, k))), (2, .int (nI j)), (1, .int (nI k)), (0, .ref (ad (0, 0)))] rfl (by decide) ?_
  refine xq_aload_n X d_C_gap_13 1 rfl rfl ?_
  refine xq_ifnull X d_C_gap_14 ?_
  refine xq_aload X d_C_gap_17 0 rfl ?_
  refine xq_ifnonnull X d_C_gap_19 26 (by decide) ?_
  refine xq_aload_n X d_C_gap_26 1 rfl rfl ?_
  refine kg_get (v := (B.1 k 14)) X hk 14 (by decide) f_C_65 d_C_gap_27 rfl ?_
  refine xq_aload X d_C_gap_30 0 rfl ?_
  refine kg_get (v := (B.1 j 14)) X hj 14 (by decide) f_C_65 d_C_gap_32 rfl ?_
  refine xq_isub X d_C_gap_35 ?_
  exact xq_iret X rfl rfl rfl rfl d_C_gap_36
set_option maxHeartbeats 4000000 in
set_option maxRecDepth 100000 in
theorem kt_gap_kn {l : Launch} {D : va_G} {n : Nat} {ad : xq_I → Nat} {cI cZ cN : ClassId} (hap : xq_ap (kc_cs n) ad) (hn : n = 4 ∨ n = 5 ∨ n = 6) (B : kc_B) (k : Nat) (hk : k < n) (ha : ¬ B.1 k 3 = 0) (y : Int32) (hb : kq_null n B y) : xq_M l D vcl (kc_tys cI cZ cN) (kc_cs n) ad (kc_en n ad cI cN) y_C_gap (Cond.code y_C_gap b_C_gap 5 (some .int) :: xw) 2 [.ref (ad (0, 0)), .int (nI k), .int y] B (some (.int 0)) B := by
  refine xq_met (by decide) (Nat.le_of_ble_eq_true rfl) hap ?_
  intro p e s m args below meth c X
  refine xq_sub [2, 1, 0] [(2, .int y), (1, .int (nI k)), (0, .ref (ad (0, 0)))] rfl ?_
  refine xq_aload_n X d_C_gap_0 2 rfl rfl ?_
  refine xq_iload_n X d_C_gap_1 1 rfl rfl ?_
  refine kb_callI (As := [.int (nI k)]) (rest := []) X xw_g g_C_46 (kp_on hap hn B k hk ha) rfl rfl (by decide) (Nat.le_of_ble_eq_true rfl) rfl d_C_gap_2 ?_
  refine xq_astore_n X d_C_gap_5 [(3, .ref (ad (3, k))), (2, .int y), (1, .int (nI k)), (0, .ref (ad (0, 0)))] rfl rfl (by decide) ?_
  refine xq_aload_n X d_C_gap_6 3 rfl rfl ?_
  refine xq_iload_n X d_C_gap_7 1 rfl rfl ?_
  refine kb_callI (As := [.int y]) (rest := []) X xw_g g_C_46 (kp_null hap hn B y hb) rfl rfl (by decide) (Nat.le_of_ble_eq_true rfl) rfl d_C_gap_8 ?_
  refine xq_astoreN X d_C_gap_11 [(4, .null), (3, .ref (ad (3, k))), (2, .int y), (1, .int (nI k)), (0, .ref (ad (0, 0)))] rfl (by decide) ?_
  refine xq_aload_n X d_C_gap_13 1 rfl rfl ?_
  refine xq_ifnull X d_C_gap_14 ?_
  refine xq_aloadN X d_C_gap_17 0 rfl ?_
  refine xq_ifnonnullN X d_C_gap_19 ?_
  refine xq_iconst (v := 0) X d_C_gap_22 (by decide) ?_
  refine xq_goto X d_C_gap_23 36 (by decide) ?_
  exact xq_iret X rfl rfl rfl rfl d_C_gap_36
set_option maxHeartbeats 4000000 in
set_option maxRecDepth 100000 in
theorem kt_gap_nk {l : Launch} {D : va_G} {n : Nat} {ad : xq_I → Nat} {cI cZ cN : ClassId} (hap : xq_ap (kc_cs n) ad) (hn : n = 4 ∨ n = 5 ∨ n = 6) (B : kc_B) (x : Int32) (ha : kq_null n B x) (j : Nat) (hj : j < n) (hb : ¬ B.1 j 3 = 0) : xq_M l D vcl (kc_tys cI cZ cN) (kc_cs n) ad (kc_en n ad cI cN) y_C_gap (Cond.code y_C_gap b_C_gap 5 (some .int) :: xw) 2 [.ref (ad (0, 0)), .int x, .int (nI j)] B (some (.int 0)) B := by
  refine xq_met (by decide) (Nat.le_of_ble_eq_true rfl) hap ?_
  intro p e s m args below meth c X
  refine xq_sub [2, 1, 0] [(2, .int (nI j)), (1, .int x), (0, .ref (ad (0, 0)))] rfl ?_
  refine xq_aload_n X d_C_gap_0 2 rfl rfl ?_
  refine xq_iload_n X d_C_gap_1 1 rfl rfl ?_
  refine kb_callI (As := [.int x]) (rest := []) X xw_g g_C_46 (kp_null hap hn B x ha) rfl rfl (by decide) (Nat.le_of_ble_eq_true rfl) rfl d_C_gap_2 ?_
  refine xq_astore_nN X d_C_gap_5 [(3, .null), (2, .int (nI j)), (1, .int x), (0, .ref (ad (0, 0)))] rfl rfl (by decide) ?_
  refine xq_aload_n X d_C_gap_6 3 rfl rfl ?_
  refine xq_iload_n X d_C_gap_7 1 rfl rfl ?_
  refine kb_callI (As := [.int (nI j)]) (rest := []) X xw_g g_C_46 (kp_on hap hn B j hj hb) rfl rfl (by decide) (Nat.le_of_ble_eq_true rfl) rfl d_C_gap_8 ?_
  refine xq_astore X d_C_gap_11 [(4, .ref (ad (3, j))), (3, .null), (2, .int (nI j)), (1, .int x), (0, .ref (ad (0, 0)))] rfl (by decide) ?_
  refine xq_aload_nN X d_C_gap_13 1 rfl rfl ?_
  refine xq_ifnullN X d_C_gap_14 22 (by decide) ?_
  refine xq_iconst (v := 0) X d_C_gap_22 (by decide) ?_
  refine xq_goto X d_C_gap_23 36 (by decide) ?_
  exact xq_iret X rfl rfl rfl rfl d_C_gap_36
set_option maxHeartbeats 4000000 in
set_option maxRecDepth 100000 in
theorem kt_gap_nn {l : Launch} {D : va_G} {n : Nat} {ad : xq_I → Nat} {cI cZ cN : ClassId} (hap : xq_ap (kc_cs n) ad) (hn : n = 4 ∨ n = 5 ∨ n = 6) (B : kc_B) (x : Int32) (ha : kq_null n B x) (y : Int32) (hb : kq_null n B y) : xq_M l D vcl (kc_tys cI cZ cN) (kc_cs n) ad (kc_en n ad cI cN) y_C_gap (Cond.code y_C_gap b_C_gap 5 (some .int) :: xw) 2 [.ref (ad (0, 0)), .int x, .int y] B (some (.int 0)) B := by
  refine xq_met (by decide) (Nat.le_of_ble_eq_true rfl) hap ?_
  intro p e s m args below meth c X
  refine xq_sub [2, 1, 0] [(2, .int y), (1, .int x), (0, .ref (ad (0, 0)))] rfl ?_
  refine xq_aload_n X d_C_gap_0 2 rfl rfl ?_
  refine xq_iload_n X d_C_gap_1 1 rfl rfl ?_
  refine kb_callI (As := [.int x]) (rest := []) X xw_g g_C_46 (kp_null hap hn B x ha) rfl rfl (by decide) (Nat.le_of_ble_eq_true rfl) rfl d_C_gap_2 ?_
  refine xq_astore_nN X d_C_gap_5 [(3, .null), (2, .int y), (1, .int x), (0, .ref (ad (0, 0)))] rfl rfl (by decide) ?_
  refine xq_aload_n X d_C_gap_6 3 rfl rfl ?_
  refine xq_iload_n X d_C_gap_7 1 rfl rfl ?_
  refine kb_callI (As := [.int y]) (rest := []) X xw_g g_C_46 (kp_null hap hn B y hb) rfl rfl (by decide) (Nat.le_of_ble_eq_true rfl) rfl d_C_gap_8 ?_
  refine xq_astoreN X d_C_gap_11 [(4, .null), (3, .null), (2, .int y), (1, .int x), (0, .ref (ad (0, 0)))] rfl (by decide) ?_
  refine xq_aload_nN X d_C_gap_13 1 rfl rfl ?_
  refine xq_ifnullN X d_C_gap_14 22 (by decide) ?_
  refine xq_iconst (v := 0) X d_C_gap_22 (by decide) ?_
  refine xq_goto X d_C_gap_23 36 (by decide) ?_
  exact xq_iret X rfl rfl rfl rfl d_C_gap_36
/-- united of the class: r nodes left from k on, the first ACTIVE one so far, the count so far -/
def kq_un (B : kc_B) : Nat → Nat → Option Nat → Int32 → Int32
  | 0, _, _, c => if c < 2 then 0 else 1
  | r + 1, k, none, c => if B.1 k 3 = 3 then kq_un B r (k + 1) (some k) (c + 1) else kq_un B r (k + 1) none c
  | r + 1, k, some j, c => if B.1 k 3 = 3 then (if kq_same B k j = 0 then 0 else kq_un B r (k + 1) (some j) (c + 1)) else kq_un B r (k + 1) (some j) c
set_option maxHeartbeats 4000000 in
set_option maxRecDepth 100000 in
theorem kl_united {p : Program} {l : Launch} {e : Env} {s : State} {m : MethodId} {args : Array Value} {below : List Frame} {meth : Method} {c : Code} {D : va_G} {n : Nat} {ad : xq_I → Nat} {cI cZ cN : ClassId} (hap : xq_ap (kc_cs n) ad) (X : xq_C p s m args meth c D vcl (kc_tys cI cZ cN) (kc_cs n) ad xw y_C_united.cls b_C_united 7 (some .boolean)) (hn : n = 4 ∨ n = 5 ∨ n = 6) (B : kc_B) (V : Int32) : ∀ r,
    (∀ k (cc0 : Int32), k + r = n → kq_un B r k none cc0 = V → xq_W p l e (xq_r 1) s m args below meth c D vcl (kc_cs n) ad (kc_en n ad cI cN) 0 0 (MQ below (xq_Q D vcl (kc_cs n) ad (kc_en n ad cI cN) (some (.int V)) B) args s 0 0 (xq_in (kc_cs n) ad)) 7 16 [(5, .int (nI k)), (4, .int (nI n)), (3, .ref (ad (1, 0))), (2, .int cc0), (1, .null), (0, .ref (ad (0, 0)))] [] B) ∧
    ∀ k (cc0 : Int32) (j : Nat), j < n → k + r = n → kq_un B r k (some j) cc0 = V → xq_W p l e (xq_r 1) s m args below meth c D vcl (kc_cs n) ad (kc_en n ad cI cN) 0 0 (MQ below (xq_Q D vcl (kc_cs n) ad (kc_en n ad cI cN) (some (.int V)) B) args s 0 0 (xq_in (kc_cs n) ad)) 7 16 [(5, .int (nI k)), (4, .int (nI n)), (3, .ref (ad (1, 0))), (2, .int cc0), (1, .ref (ad (3, j))), (0, .ref (ad (0, 0)))] [] B := by
  have h31 : n < 2 ^ 31 := by omega
  intro r
  induction r with
  | zero =>
    refine ⟨fun k cc0 hk hV => ?_, fun k cc0 j hj hk hV => ?_⟩
    · have hge : nI n ≤ nI k := nI_le (by omega) (by omega)
      refine xq_iload X d_C_united_16 0 rfl ?_
      refine xq_iload X d_C_united_18 1 rfl ?_
      refine xq_icmp_ge X d_C_united_20 68 (by decide) (fun _ => ?_) (fun h => absurd hge h)
      refine xq_iload_n X d_C_united_68 3 rfl rfl ?_
      refine xq_iconst (v := 2) X d_C_united_69 (by decide) ?_
      refine xq_icmp_lt X d_C_united_70 77 (by decide) (fun h => ?_) (fun h => ?_)
      · refine xq_iconst (v := 0) X d_C_united_77 (by decide) ?_
        exact xq_iret X rfl (by decide) ((if_pos h).symm.trans hV) rfl d_C_united_78
      · refine xq_iconst (v := 1) X d_C_united_73 (by decide) ?_
        refine xq_goto X d_C_united_74 78 (by decide) ?_
        exact xq_iret X rfl (by decide) ((if_neg h).symm.trans hV) rfl d_C_united_78
    · have hge : nI n ≤ nI k := nI_le (by omega) (by omega)
      refine xq_iload X d_C_united_16 0 rfl ?_
      refine xq_iload X d_C_united_18 1 rfl ?_
      refine xq_icmp_ge X d_C_united_20 68 (by decide) (fun _ => ?_) (fun h => absurd hge h)
      refine xq_iload_n X d_C_united_68 3 rfl rfl ?_
      refine xq_iconst (v := 2) X d_C_united_69 (by decide) ?_
      refine xq_icmp_lt X d_C_united_70 77 (by decide) (fun h => ?_) (fun h => ?_)
      · refine xq_iconst (v := 0) X d_C_united_77 (by decide) ?_
        exact xq_iret X rfl (by decide) ((if_pos h).symm.trans hV) rfl d_C_united_78
      · refine xq_iconst (v := 1) X d_C_united_73 (by decide) ?_
        refine xq_goto X d_C_united_74 78 (by decide) ?_
        exact xq_iret X rfl (by decide) ((if_neg h).symm.trans hV) rfl d_C_united_78
  | succ r ih =>
    obtain ⟨ihN, ihS⟩ := ih
    refine ⟨fun k cc0 hk0 hV => ?_, fun k cc0 j hj hk0 hV => ?_⟩
    · have hk : k < n := by omega
      have hlt : ¬ nI n ≤ nI k := nI_ge (by omega) (by omega)
      refine xq_iload X d_C_united_16 0 rfl ?_
      refine xq_iload X d_C_united_18 1 rfl ?_
      refine xq_icmp_ge X d_C_united_20 68 (by decide) (fun h => absurd h hlt) (fun _ => ?_)
      refine xq_aload_n X d_C_united_23 2 rfl rfl ?_
      refine xq_iload X d_C_united_24 0 rfl ?_
      refine kb_ald X hk h31 d_C_united_26 ?_
      refine xq_astore X d_C_united_27 [(6, .ref (ad (3, k))), (5, .int (nI k)), (4, .int (nI n)), (3, .ref (ad (1, 0))), (2, .int cc0), (1, .null), (0, .ref (ad (0, 0)))] rfl (by decide) ?_
      refine xq_aload X d_C_united_29 0 rfl ?_
      refine kg_get (v := (B.1 k 3)) X hk 3 (by decide) f_C_38 d_C_united_31 rfl ?_
      refine xq_iconst (v := 3) X d_C_united_34 (by decide) ?_
      refine xq_icmp_ne X d_C_united_35 62 (by decide) (fun h3 => ?_) (fun h3 => ?_)
      · refine xq_iinc X d_C_united_62 1 rfl [(5, .int (nI (k + 1))), (6, .ref (ad (3, k))), (4, .int (nI n)), (3, .ref (ad (1, 0))), (2, .int cc0), (1, .null), (0, .ref (ad (0, 0)))] rfl (nI_1 k) (by decide) ?_
        refine xq_goto X d_C_united_65 16 (by decide) ?_
        refine xq_sub [0, 2, 3, 4, 5, 6] [(5, .int (nI (k + 1))), (4, .int (nI n)), (3, .ref (ad (1, 0))), (2, .int cc0), (1, .null), (0, .ref (ad (0, 0)))] rfl ?_
        exact ihN (k + 1) cc0 (by omega) ((if_neg h3).symm.trans hV)
      · refine xq_iinc X d_C_united_38 4 rfl [(2, .int (cc0 + 1)), (6, .ref (ad (3, k))), (5, .int (nI k)), (4, .int (nI n)), (3, .ref (ad (1, 0))), (1, .null), (0, .ref (ad (0, 0)))] rfl rfl (by decide) ?_
        refine xq_aload_nN X d_C_united_41 5 rfl rfl ?_
        refine xq_ifnonnullN X d_C_united_42 ?_
        refine xq_aload X d_C_united_45 1 rfl ?_
        refine xq_astore_n X d_C_united_47 [(1, .ref (ad (3, k))), (2, .int (cc0 + 1)), (6, .ref (ad (3, k))), (5, .int (nI k)), (4, .int (nI n)), (3, .ref (ad (1, 0))), (0, .ref (ad (0, 0)))] rfl rfl (by decide) ?_
        refine xq_goto X d_C_united_48 62 (by decide) ?_
        refine xq_iinc X d_C_united_62 3 rfl [(5, .int (nI (k + 1))), (1, .ref (ad (3, k))), (2, .int (cc0 + 1)), (6, .ref (ad (3, k))), (4, .int (nI n)), (3, .ref (ad (1, 0))), (0, .ref (ad (0, 0)))] rfl (nI_1 k) (by decide) ?_
        refine xq_goto X d_C_united_65 16 (by decide) ?_
        refine xq_sub [0, 4, 5, 2, 1, 6] [(5, .int (nI (k + 1))), (4, .int (nI n)), (3, .ref (ad (1, 0))), (2, .int (cc0 + 1)), (1, .ref (ad (3, k))), (0, .ref (ad (0, 0)))] rfl ?_
        exact ihS (k + 1) (cc0 + 1) k hk (by omega) ((if_pos h3).symm.trans hV)
    · have hk : k < n := by omega
      have hlt : ¬ nI n ≤ nI k := nI_ge (by omega) (by omega)
      refine xq_iload X d_C_united_16 0 rfl ?_
      refine xq_iload X d_C_united_18 1 rfl ?_
      refine xq_icmp_ge X d_C_united_20 68 (by decide) (fun h => absurd h hlt) (fun _ => ?_)
      refine xq_aload_n X d_C_united_23 2 rfl rfl ?_
      refine xq_iload X d_C_united_24 0 rfl ?_
      refine kb_ald X hk h31 d_C_united_26 ?_
      refine xq_astore X d_C_united_27 [(6, .ref (ad (3, k))), (5, .int (nI k)), (4, .int (nI n)), (3, .ref (ad (1, 0))), (2, .int cc0), (1, .ref (ad (3, j))), (0, .ref (ad (0, 0)))] rfl (by decide) ?_
      refine xq_aload X d_C_united_29 0 rfl ?_
      refine kg_get (v := (B.1 k 3)) X hk 3 (by decide) f_C_38 d_C_united_31 rfl ?_
      refine xq_iconst (v := 3) X d_C_united_34 (by decide) ?_
      refine xq_icmp_ne X d_C_united_35 62 (by decide) (fun h3 => ?_) (fun h3 => ?_)
      · refine xq_iinc X d_C_united_62 1 rfl [(5, .int (nI (k + 1))), (6, .ref (ad (3, k))), (4, .int (nI n)), (3, .ref (ad (1, 0))), (2, .int cc0), (1, .ref (ad (3, j))), (0, .ref (ad (0, 0)))] rfl (nI_1 k) (by decide) ?_
        refine xq_goto X d_C_united_65 16 (by decide) ?_
        refine xq_sub [0, 2, 3, 4, 5, 6] [(5, .int (nI (k + 1))), (4, .int (nI n)), (3, .ref (ad (1, 0))), (2, .int cc0), (1, .ref (ad (3, j))), (0, .ref (ad (0, 0)))] rfl ?_
        exact ihS (k + 1) cc0 j hj (by omega) ((if_neg h3).symm.trans hV)
      · refine xq_iinc X d_C_united_38 4 rfl [(2, .int (cc0 + 1)), (6, .ref (ad (3, k))), (5, .int (nI k)), (4, .int (nI n)), (3, .ref (ad (1, 0))), (1, .ref (ad (3, j))), (0, .ref (ad (0, 0)))] rfl rfl (by decide) ?_
        refine xq_aload_n X d_C_united_41 5 rfl rfl ?_
        refine xq_ifnonnull X d_C_united_42 51 (by decide) ?_
        refine xq_aload X d_C_united_51 1 rfl ?_
        refine xq_aload_n X d_C_united_53 5 rfl rfl ?_
        refine kb_callN (As := [.ref (ad (3, j))]) (rest := []) X xw_g hk g_C_108 (kt_same hap hn B k j hk hj) rfl rfl (by decide) (Nat.le_of_ble_eq_true rfl) rfl d_C_united_54 ?_
        refine xq_if_ne X d_C_united_57 62 (by decide) (fun h4 => ?_) (fun h4 => ?_)
        · refine xq_iinc X d_C_united_62 2 rfl [(5, .int (nI (k + 1))), (2, .int (cc0 + 1)), (6, .ref (ad (3, k))), (4, .int (nI n)), (3, .ref (ad (1, 0))), (1, .ref (ad (3, j))), (0, .ref (ad (0, 0)))] rfl (nI_1 k) (by decide) ?_
          refine xq_goto X d_C_united_65 16 (by decide) ?_
          refine xq_sub [0, 3, 4, 1, 5, 6] [(5, .int (nI (k + 1))), (4, .int (nI n)), (3, .ref (ad (1, 0))), (2, .int (cc0 + 1)), (1, .ref (ad (3, j))), (0, .ref (ad (0, 0)))] rfl ?_
          exact ihS (k + 1) (cc0 + 1) j hj (by omega) (((if_pos h3).trans (if_neg h4)).symm.trans hV)
        · refine xq_iconst (v := 0) X d_C_united_60 (by decide) ?_
          exact xq_iret X rfl (by decide) (((if_pos h3).trans (if_pos h4)).symm.trans hV) rfl d_C_united_61
set_option maxHeartbeats 4000000 in
set_option maxRecDepth 100000 in
theorem kt_united {l : Launch} {D : va_G} {n : Nat} {ad : xq_I → Nat} {cI cZ cN : ClassId} (hap : xq_ap (kc_cs n) ad) (hn : n = 4 ∨ n = 5 ∨ n = 6) (B : kc_B) : xq_M l D vcl (kc_tys cI cZ cN) (kc_cs n) ad (kc_en n ad cI cN) y_C_united (Cond.code y_C_united b_C_united 7 (some .boolean) :: xw) 1 [.ref (ad (0, 0))] B (some (.int (kq_un B n 0 none 0))) B := by
  refine xq_met (by decide) (Nat.le_of_ble_eq_true rfl) hap ?_
  intro p e s m args below meth c X
  refine xq_eqv (L' := [(0, .ref (ad (0, 0)))]) (st' := []) rfl rfl ?_
  refine xq_null X d_C_united_0 ?_
  refine xq_astore_nN X d_C_united_1 [(1, .null), (0, .ref (ad (0, 0)))] rfl rfl (by decide) ?_
  refine xq_iconst (v := 0) X d_C_united_2 (by decide) ?_
  refine xq_istore_n X d_C_united_3 [(2, .int 0), (1, .null), (0, .ref (ad (0, 0)))] rfl rfl (by decide) ?_
  refine xq_aload_n X d_C_united_4 2 rfl rfl ?_
  refine kb_row X f_C_20 d_C_united_5 ?_
  refine xq_astore_n X d_C_united_8 [(3, .ref (ad (1, 0))), (2, .int 0), (1, .null), (0, .ref (ad (0, 0)))] rfl rfl (by decide) ?_
  refine xq_aload_n X d_C_united_9 0 rfl rfl ?_
  refine kb_len X d_C_united_10 ?_
  refine xq_istore X d_C_united_11 [(4, .int (nI n)), (3, .ref (ad (1, 0))), (2, .int 0), (1, .null), (0, .ref (ad (0, 0)))] rfl (by decide) ?_
  refine xq_iconst (v := 0) X d_C_united_13 (by decide) ?_
  refine xq_istore X d_C_united_14 [(5, .int 0), (4, .int (nI n)), (3, .ref (ad (1, 0))), (2, .int 0), (1, .null), (0, .ref (ad (0, 0)))] rfl (by decide) ?_
  exact (kl_united hap X hn B _ n).1 0 0 (by omega) rfl
