def c_C_nodes (n : Nat) : Int32 := (nI n)
set_option maxHeartbeats 4000000 in
set_option maxRecDepth 100000 in
theorem ct_C_nodes {l : Launch} {D : va_G} {n : Nat} {ad : xq_I → Nat} {cI cZ cN : ClassId} (hap : xq_ap (kc_cs n) ad) {k : Nat} (hk : k < n) {B : kc_B} {F G E w : Nat → Int32}  :
    xq_M l D vcl (kc_tys cI cZ cN) (kc_cs n) ad (kc_en n ad cI cN) y_C_nodes (Cond.code y_C_nodes b_C_nodes 1 (some .int) :: xw) 0 [.ref (ad (0, 0))] (kc_ov B k F G E w) (some (.int (c_C_nodes n))) (kc_ov B k F G E w) := by
  refine xq_met (by decide) (Nat.le_of_ble_eq_true rfl) hap ?_
  intro p e s m args below meth c X
  refine xq_eqv (L' := [(0, .ref (ad (0, 0)))]) (st' := []) rfl rfl ?_
  refine xq_aload_n X d_C_nodes_0 0 rfl rfl ?_
  refine kb_row X f_C_20 d_C_nodes_1 ?_
  refine kb_len X d_C_nodes_4 ?_
  have hh : (c_C_nodes n) = (nI n) := by exact rfl
  exact xq_iret X rfl rfl (by rw [hh]) rfl d_C_nodes_5
set_option maxHeartbeats 4000000 in
set_option maxRecDepth 100000 in
theorem ct_C_find_k {l : Launch} {D : va_G} {n : Nat} {ad : xq_I → Nat} {cI cZ cN : ClassId} (hap : xq_ap (kc_cs n) ad) {k : Nat} (hk : k < n) {B : kc_B} {F G E w : Nat → Int32} (h31 : n < 2 ^ 31) (hk0 : ¬ (nI k) < 0) (hkn : (nI k) < (nI n)) :
    xq_M l D vcl (kc_tys cI cZ cN) (kc_cs n) ad (kc_en n ad cI cN) y_C_find (Cond.code y_C_find b_C_find 2 (some (.object "SlotCluster$Node")) :: xw) 0 [.ref (ad (0, 0)), .int (nI k)] (kc_ov B k F G E w) (some (.ref (ad (3, k)))) (kc_ov B k F G E w) := by
  refine xq_met (by decide) (Nat.le_of_ble_eq_true rfl) hap ?_
  intro p e s m args below meth c X
  refine xq_sub [1, 0] [(1, .int (nI k)), (0, .ref (ad (0, 0)))] rfl ?_
  refine xq_iload_n X d_C_find_0 0 rfl rfl ?_
  refine xq_if_lt X d_C_find_1 13 (by decide) (fun h => absurd h hk0) (fun _ => ?_)
  refine xq_iload_n X d_C_find_4 0 rfl rfl ?_
  refine xq_aload_n X d_C_find_5 1 rfl rfl ?_
  refine kb_row X f_C_20 d_C_find_6 ?_
  refine kb_len X d_C_find_9 ?_
  refine xq_icmp_lt X d_C_find_10 17 (by decide) (fun _ => ?_) (fun h => absurd hkn h)
  refine xq_aload_n X d_C_find_17 1 rfl rfl ?_
  refine kb_row X f_C_20 d_C_find_18 ?_
  refine xq_iload_n X d_C_find_21 0 rfl rfl ?_
  refine kb_ald X hk h31 d_C_find_22 ?_
  exact xq_aret X rfl (Or.inr ⟨_, rfl⟩) rfl rfl d_C_find_23
set_option maxHeartbeats 4000000 in
set_option maxRecDepth 100000 in
theorem ct_C_find_neg {l : Launch} {D : va_G} {n : Nat} {ad : xq_I → Nat} {cI cZ cN : ClassId} (hap : xq_ap (kc_cs n) ad) {k : Nat} (hk : k < n) {B : kc_B} {F G E w : Nat → Int32} (x : Int32) (hx : x < 0) :
    xq_M l D vcl (kc_tys cI cZ cN) (kc_cs n) ad (kc_en n ad cI cN) y_C_find (Cond.code y_C_find b_C_find 2 (some (.object "SlotCluster$Node")) :: xw) 0 [.ref (ad (0, 0)), .int x] (kc_ov B k F G E w) (some (.null)) (kc_ov B k F G E w) := by
  refine xq_met (by decide) (Nat.le_of_ble_eq_true rfl) hap ?_
  intro p e s m args below meth c X
  refine xq_sub [1, 0] [(1, .int x), (0, .ref (ad (0, 0)))] rfl ?_
  refine xq_iload_n X d_C_find_0 0 rfl rfl ?_
  refine xq_if_lt X d_C_find_1 13 (by decide) (fun _ => ?_) (fun h => absurd hx h)
  refine xq_null X d_C_find_13 ?_
  refine xq_goto X d_C_find_14 23 (by decide) ?_
  exact xq_aret X rfl (Or.inl rfl) rfl rfl d_C_find_23
set_option maxHeartbeats 4000000 in
set_option maxRecDepth 100000 in
theorem ct_C_find_big {l : Launch} {D : va_G} {n : Nat} {ad : xq_I → Nat} {cI cZ cN : ClassId} (hap : xq_ap (kc_cs n) ad) {k : Nat} (hk : k < n) {B : kc_B} {F G E w : Nat → Int32} (x : Int32) (hx0 : ¬ x < 0) (hx : ¬ x < (nI n)) :
    xq_M l D vcl (kc_tys cI cZ cN) (kc_cs n) ad (kc_en n ad cI cN) y_C_find (Cond.code y_C_find b_C_find 2 (some (.object "SlotCluster$Node")) :: xw) 0 [.ref (ad (0, 0)), .int x] (kc_ov B k F G E w) (some (.null)) (kc_ov B k F G E w) := by
  refine xq_met (by decide) (Nat.le_of_ble_eq_true rfl) hap ?_
  intro p e s m args below meth c X
  refine xq_sub [1, 0] [(1, .int x), (0, .ref (ad (0, 0)))] rfl ?_
  refine xq_iload_n X d_C_find_0 0 rfl rfl ?_
  refine xq_if_lt X d_C_find_1 13 (by decide) (fun h => absurd h hx0) (fun _ => ?_)
  refine xq_iload_n X d_C_find_4 0 rfl rfl ?_
  refine xq_aload_n X d_C_find_5 1 rfl rfl ?_
  refine kb_row X f_C_20 d_C_find_6 ?_
  refine kb_len X d_C_find_9 ?_
  refine xq_icmp_lt X d_C_find_10 17 (by decide) (fun h => absurd h hx) (fun _ => ?_)
  refine xq_null X d_C_find_13 ?_
  refine xq_goto X d_C_find_14 23 (by decide) ?_
  exact xq_aret X rfl (Or.inl rfl) rfl rfl d_C_find_23
theorem ct_C_find_bad {l : Launch} {D : va_G} {n : Nat} {ad : xq_I → Nat} {cI cZ cN : ClassId} (hap : xq_ap (kc_cs n) ad) {k : Nat} (hk : k < n) {B : kc_B} {F G E w : Nat → Int32} (x : Int32) (hb : x < 0 ∨ ¬ x < (nI n)) :
    xq_M l D vcl (kc_tys cI cZ cN) (kc_cs n) ad (kc_en n ad cI cN) y_C_find (Cond.code y_C_find b_C_find 2 (some (.object "SlotCluster$Node")) :: xw) 0 [.ref (ad (0, 0)), .int x] (kc_ov B k F G E w) (some (.null)) (kc_ov B k F G E w) := by
  by_cases h : x < 0
  · exact ct_C_find_neg hap hk x h
  · exact ct_C_find_big hap hk x h (hb.resolve_left h)
set_option maxHeartbeats 4000000 in
set_option maxRecDepth 100000 in
theorem ct_C_fso_on {l : Launch} {D : va_G} {n : Nat} {ad : xq_I → Nat} {cI cZ cN : ClassId} (hap : xq_ap (kc_cs n) ad) {k : Nat} (hk : k < n) {B : kc_B} {F G E w : Nat → Int32} (h31 : n < 2 ^ 31) (hk0 : ¬ (nI k) < 0) (hkn : (nI k) < (nI n)) (hm : ¬ (F 3) = 0) :
    xq_M l D vcl (kc_tys cI cZ cN) (kc_cs n) ad (kc_en n ad cI cN) y_C_findSwitchedOn (Cond.code y_C_findSwitchedOn b_C_findSwitchedOn 3 (some (.object "SlotCluster$Node")) :: xw) 1 [.ref (ad (0, 0)), .int (nI k)] (kc_ov B k F G E w) (some (.ref (ad (3, k)))) (kc_ov B k F G E w) := by
  refine xq_met (by decide) (Nat.le_of_ble_eq_true rfl) hap ?_
  intro p e s m args below meth c X
  refine xq_sub [1, 0] [(1, .int (nI k)), (0, .ref (ad (0, 0)))] rfl ?_
  refine xq_aload_n X d_C_findSwitchedOn_0 1 rfl rfl ?_
  refine xq_iload_n X d_C_findSwitchedOn_1 0 rfl rfl ?_
  refine kb_callI (As := [.int (nI k)]) (rest := []) X xw_g g_C_34 (ct_C_find_k hap hk (F := F) (G := G) (E := E) (w := w) h31 hk0 hkn) rfl rfl (by decide) (Nat.le_of_ble_eq_true rfl) rfl d_C_findSwitchedOn_2 ?_
  refine xq_astore_n X d_C_findSwitchedOn_5 [(2, .ref (ad (3, k))), (1, .int (nI k)), (0, .ref (ad (0, 0)))] rfl rfl (by decide) ?_
  refine xq_aload_n X d_C_findSwitchedOn_6 0 rfl rfl ?_
  refine xq_ifnull X d_C_findSwitchedOn_7 ?_
  refine xq_aload_n X d_C_findSwitchedOn_10 0 rfl rfl ?_
  refine kn_get (v := (F 3)) X hk 3 (by decide) f_C_38 d_C_findSwitchedOn_11 rfl ?_
  refine xq_if_ne X d_C_findSwitchedOn_14 21 (by decide) (fun _ => ?_) (fun h => absurd h hm)
  refine xq_aload_n X d_C_findSwitchedOn_21 0 rfl rfl ?_
  exact xq_aret X rfl (Or.inr ⟨_, rfl⟩) rfl rfl d_C_findSwitchedOn_22
set_option maxHeartbeats 4000000 in
set_option maxRecDepth 100000 in
theorem ct_C_fso_off {l : Launch} {D : va_G} {n : Nat} {ad : xq_I → Nat} {cI cZ cN : ClassId} (hap : xq_ap (kc_cs n) ad) {k : Nat} (hk : k < n) {B : kc_B} {F G E w : Nat → Int32} (h31 : n < 2 ^ 31) (hk0 : ¬ (nI k) < 0) (hkn : (nI k) < (nI n)) (hm : (F 3) = 0) :
    xq_M l D vcl (kc_tys cI cZ cN) (kc_cs n) ad (kc_en n ad cI cN) y_C_findSwitchedOn (Cond.code y_C_findSwitchedOn b_C_findSwitchedOn 3 (some (.object "SlotCluster$Node")) :: xw) 1 [.ref (ad (0, 0)), .int (nI k)] (kc_ov B k F G E w) (some (.null)) (kc_ov B k F G E w) := by
  refine xq_met (by decide) (Nat.le_of_ble_eq_true rfl) hap ?_
  intro p e s m args below meth c X
  refine xq_sub [1, 0] [(1, .int (nI k)), (0, .ref (ad (0, 0)))] rfl ?_
  refine xq_aload_n X d_C_findSwitchedOn_0 1 rfl rfl ?_
  refine xq_iload_n X d_C_findSwitchedOn_1 0 rfl rfl ?_
  refine kb_callI (As := [.int (nI k)]) (rest := []) X xw_g g_C_34 (ct_C_find_k hap hk (F := F) (G := G) (E := E) (w := w) h31 hk0 hkn) rfl rfl (by decide) (Nat.le_of_ble_eq_true rfl) rfl d_C_findSwitchedOn_2 ?_
  refine xq_astore_n X d_C_findSwitchedOn_5 [(2, .ref (ad (3, k))), (1, .int (nI k)), (0, .ref (ad (0, 0)))] rfl rfl (by decide) ?_
  refine xq_aload_n X d_C_findSwitchedOn_6 0 rfl rfl ?_
  refine xq_ifnull X d_C_findSwitchedOn_7 ?_
  refine xq_aload_n X d_C_findSwitchedOn_10 0 rfl rfl ?_
  refine kn_get (v := (F 3)) X hk 3 (by decide) f_C_38 d_C_findSwitchedOn_11 rfl ?_
  refine xq_if_ne X d_C_findSwitchedOn_14 21 (by decide) (fun h => absurd hm h) (fun _ => ?_)
  refine xq_null X d_C_findSwitchedOn_17 ?_
  refine xq_goto X d_C_findSwitchedOn_18 22 (by decide) ?_
  exact xq_aret X rfl (Or.inl rfl) rfl rfl d_C_findSwitchedOn_22
set_option maxHeartbeats 4000000 in
set_option maxRecDepth 100000 in
theorem ct_C_fin_in {l : Launch} {D : va_G} {n : Nat} {ad : xq_I → Nat} {cI cZ cN : ClassId} (hap : xq_ap (kc_cs n) ad) {k : Nat} (hk : k < n) {B : kc_B} {F G E w : Nat → Int32} (h31 : n < 2 ^ 31) (hk0 : ¬ (nI k) < 0) (hkn : (nI k) < (nI n)) (hm : ¬ (c_N_isInside F) = 0) :
    xq_M l D vcl (kc_tys cI cZ cN) (kc_cs n) ad (kc_en n ad cI cN) y_C_findInside (Cond.code y_C_findInside b_C_findInside 3 (some (.object "SlotCluster$Node")) :: xw) 1 [.ref (ad (0, 0)), .int (nI k)] (kc_ov B k F G E w) (some (.ref (ad (3, k)))) (kc_ov B k F G E w) := by
  refine xq_met (by decide) (Nat.le_of_ble_eq_true rfl) hap ?_
  intro p e s m args below meth c X
  refine xq_sub [1, 0] [(1, .int (nI k)), (0, .ref (ad (0, 0)))] rfl ?_
  refine xq_aload_n X d_C_findInside_0 1 rfl rfl ?_
  refine xq_iload_n X d_C_findInside_1 0 rfl rfl ?_
  refine kb_callI (As := [.int (nI k)]) (rest := []) X xw_g g_C_34 (ct_C_find_k hap hk (F := F) (G := G) (E := E) (w := w) h31 hk0 hkn) rfl rfl (by decide) (Nat.le_of_ble_eq_true rfl) rfl d_C_findInside_2 ?_
  refine xq_astore_n X d_C_findInside_5 [(2, .ref (ad (3, k))), (1, .int (nI k)), (0, .ref (ad (0, 0)))] rfl rfl (by decide) ?_
  refine xq_aload_n X d_C_findInside_6 0 rfl rfl ?_
  refine xq_ifnull X d_C_findInside_7 ?_
  refine xq_aload_n X d_C_findInside_10 0 rfl rfl ?_
  refine kn_callI (As := []) (rest := []) X xw_g hk g_C_112 (ct_N_isInside hap hk) rfl rfl (by decide) (Nat.le_of_ble_eq_true rfl) rfl d_C_findInside_11 ?_
  refine xq_if_ne X d_C_findInside_14 21 (by decide) (fun _ => ?_) (fun h => absurd h hm)
  refine xq_aload_n X d_C_findInside_21 0 rfl rfl ?_
  exact xq_aret X rfl (Or.inr ⟨_, rfl⟩) rfl rfl d_C_findInside_22
set_option maxHeartbeats 4000000 in
set_option maxRecDepth 100000 in
theorem ct_C_fin_out {l : Launch} {D : va_G} {n : Nat} {ad : xq_I → Nat} {cI cZ cN : ClassId} (hap : xq_ap (kc_cs n) ad) {k : Nat} (hk : k < n) {B : kc_B} {F G E w : Nat → Int32} (h31 : n < 2 ^ 31) (hk0 : ¬ (nI k) < 0) (hkn : (nI k) < (nI n)) (hm : (c_N_isInside F) = 0) :
    xq_M l D vcl (kc_tys cI cZ cN) (kc_cs n) ad (kc_en n ad cI cN) y_C_findInside (Cond.code y_C_findInside b_C_findInside 3 (some (.object "SlotCluster$Node")) :: xw) 1 [.ref (ad (0, 0)), .int (nI k)] (kc_ov B k F G E w) (some (.null)) (kc_ov B k F G E w) := by
  refine xq_met (by decide) (Nat.le_of_ble_eq_true rfl) hap ?_
  intro p e s m args below meth c X
  refine xq_sub [1, 0] [(1, .int (nI k)), (0, .ref (ad (0, 0)))] rfl ?_
  refine xq_aload_n X d_C_findInside_0 1 rfl rfl ?_
  refine xq_iload_n X d_C_findInside_1 0 rfl rfl ?_
  refine kb_callI (As := [.int (nI k)]) (rest := []) X xw_g g_C_34 (ct_C_find_k hap hk (F := F) (G := G) (E := E) (w := w) h31 hk0 hkn) rfl rfl (by decide) (Nat.le_of_ble_eq_true rfl) rfl d_C_findInside_2 ?_
  refine xq_astore_n X d_C_findInside_5 [(2, .ref (ad (3, k))), (1, .int (nI k)), (0, .ref (ad (0, 0)))] rfl rfl (by decide) ?_
  refine xq_aload_n X d_C_findInside_6 0 rfl rfl ?_
  refine xq_ifnull X d_C_findInside_7 ?_
  refine xq_aload_n X d_C_findInside_10 0 rfl rfl ?_
  refine kn_callI (As := []) (rest := []) X xw_g hk g_C_112 (ct_N_isInside hap hk) rfl rfl (by decide) (Nat.le_of_ble_eq_true rfl) rfl d_C_findInside_11 ?_
  refine xq_if_ne X d_C_findInside_14 21 (by decide) (fun h => absurd hm h) (fun _ => ?_)
  refine xq_null X d_C_findInside_17 ?_
  refine xq_goto X d_C_findInside_18 22 (by decide) ?_
  exact xq_aret X rfl (Or.inl rfl) rfl rfl d_C_findInside_22
set_option maxHeartbeats 4000000 in
set_option maxRecDepth 100000 in
theorem ct_C_fso_bad {l : Launch} {D : va_G} {n : Nat} {ad : xq_I → Nat} {cI cZ cN : ClassId} (hap : xq_ap (kc_cs n) ad) {k : Nat} (hk : k < n) {B : kc_B} {F G E w : Nat → Int32} (x : Int32) (hb : x < 0 ∨ ¬ x < (nI n)) :
    xq_M l D vcl (kc_tys cI cZ cN) (kc_cs n) ad (kc_en n ad cI cN) y_C_findSwitchedOn (Cond.code y_C_findSwitchedOn b_C_findSwitchedOn 3 (some (.object "SlotCluster$Node")) :: xw) 1 [.ref (ad (0, 0)), .int x] (kc_ov B k F G E w) (some (.null)) (kc_ov B k F G E w) := by
  refine xq_met (by decide) (Nat.le_of_ble_eq_true rfl) hap ?_
  intro p e s m args below meth c X
  refine xq_sub [1, 0] [(1, .int x), (0, .ref (ad (0, 0)))] rfl ?_
  refine xq_aload_n X d_C_findSwitchedOn_0 1 rfl rfl ?_
  refine xq_iload_n X d_C_findSwitchedOn_1 0 rfl rfl ?_
  refine kb_callI (As := [.int x]) (rest := []) X xw_g g_C_34 (ct_C_find_bad hap hk (F := F) (G := G) (E := E) (w := w) x hb) rfl rfl (by decide) (Nat.le_of_ble_eq_true rfl) rfl d_C_findSwitchedOn_2 ?_
  refine xq_astore_nN X d_C_findSwitchedOn_5 [(2, .null), (1, .int x), (0, .ref (ad (0, 0)))] rfl rfl (by decide) ?_
  refine xq_aload_nN X d_C_findSwitchedOn_6 0 rfl rfl ?_
  refine xq_ifnullN X d_C_findSwitchedOn_7 17 (by decide) ?_
  refine xq_null X d_C_findSwitchedOn_17 ?_
  refine xq_goto X d_C_findSwitchedOn_18 22 (by decide) ?_
  exact xq_aret X rfl (Or.inl rfl) rfl rfl d_C_findSwitchedOn_22
set_option maxHeartbeats 4000000 in
set_option maxRecDepth 100000 in
theorem ct_C_fin_bad {l : Launch} {D : va_G} {n : Nat} {ad : xq_I → Nat} {cI cZ cN : ClassId} (hap : xq_ap (kc_cs n) ad) {k : Nat} (hk : k < n) {B : kc_B} {F G E w : Nat → Int32} (x : Int32) (hb : x < 0 ∨ ¬ x < (nI n)) :
    xq_M l D vcl (kc_tys cI cZ cN) (kc_cs n) ad (kc_en n ad cI cN) y_C_findInside (Cond.code y_C_findInside b_C_findInside 3 (some (.object "SlotCluster$Node")) :: xw) 1 [.ref (ad (0, 0)), .int x] (kc_ov B k F G E w) (some (.null)) (kc_ov B k F G E w) := by
  refine xq_met (by decide) (Nat.le_of_ble_eq_true rfl) hap ?_
  intro p e s m args below meth c X
  refine xq_sub [1, 0] [(1, .int x), (0, .ref (ad (0, 0)))] rfl ?_
  refine xq_aload_n X d_C_findInside_0 1 rfl rfl ?_
  refine xq_iload_n X d_C_findInside_1 0 rfl rfl ?_
  refine kb_callI (As := [.int x]) (rest := []) X xw_g g_C_34 (ct_C_find_bad hap hk (F := F) (G := G) (E := E) (w := w) x hb) rfl rfl (by decide) (Nat.le_of_ble_eq_true rfl) rfl d_C_findInside_2 ?_
  refine xq_astore_nN X d_C_findInside_5 [(2, .null), (1, .int x), (0, .ref (ad (0, 0)))] rfl rfl (by decide) ?_
  refine xq_aload_nN X d_C_findInside_6 0 rfl rfl ?_
  refine xq_ifnullN X d_C_findInside_7 17 (by decide) ?_
  refine xq_null X d_C_findInside_17 ?_
  refine xq_goto X d_C_findInside_18 22 (by decide) ?_
  exact xq_aret X rfl (Or.inl rfl) rfl rfl d_C_findInside_22
def c_C_on_k (F : Nat → Int32) (G : Nat → Int32) (y : Int32) : (Nat → Int32) × (Nat → Int32) × Int32 := (if (F 3) = 0 then (if y < (-2) then (F, G, 0) else (if y ≤ 2 then ((c_N_switchOn F G y).1, (c_N_switchOn F G y).2, 1) else (F, G, 0))) else (F, G, 0))
set_option maxHeartbeats 4000000 in
set_option maxRecDepth 100000 in
theorem ct_C_on_k {l : Launch} {D : va_G} {n : Nat} {ad : xq_I → Nat} {cI cZ cN : ClassId} (hap : xq_ap (kc_cs n) ad) {k : Nat} (hk : k < n) {B : kc_B} {F G E w : Nat → Int32} (y : Int32) (h31 : n < 2 ^ 31) (hk0 : ¬ (nI k) < 0) (hkn : (nI k) < (nI n)) :
    xq_M l D vcl (kc_tys cI cZ cN) (kc_cs n) ad (kc_en n ad cI cN) y_C_on (Cond.code y_C_on b_C_on 4 (some .boolean) :: xw) 3 [.ref (ad (0, 0)), .int (nI k), .int y] (kc_ov B k F G E w) (some (.int (c_C_on_k F G y).2.2)) (kc_ov B k (c_C_on_k F G y).1 (c_C_on_k F G y).2.1 E w) := by
  refine xq_met (by decide) (Nat.le_of_ble_eq_true rfl) hap ?_
  intro p e s m args below meth c X
  refine xq_sub [2, 1, 0] [(2, .int y), (1, .int (nI k)), (0, .ref (ad (0, 0)))] rfl ?_
  refine xq_aload_n X d_C_on_0 2 rfl rfl ?_
  refine xq_iload_n X d_C_on_1 1 rfl rfl ?_
  refine kb_callI (As := [.int (nI k)]) (rest := []) X xw_g g_C_34 (ct_C_find_k hap hk (F := F) (G := G) (E := E) (w := w) h31 hk0 hkn) rfl rfl (by decide) (Nat.le_of_ble_eq_true rfl) rfl d_C_on_2 ?_
  refine xq_astore_n X d_C_on_5 [(3, .ref (ad (3, k))), (2, .int y), (1, .int (nI k)), (0, .ref (ad (0, 0)))] rfl rfl (by decide) ?_
  refine xq_aload_n X d_C_on_6 0 rfl rfl ?_
  refine xq_ifnull X d_C_on_7 ?_
  refine xq_aload_n X d_C_on_10 0 rfl rfl ?_
  refine kn_get (v := (F 3)) X hk 3 (by decide) f_C_38 d_C_on_11 rfl ?_
  refine xq_if_ne X d_C_on_14 28 (by decide) (fun h1 => ?_) (fun h1 => ?_)
  · skip
    refine xq_iconst (v := 0) X d_C_on_28 (by decide) ?_
    have hh : (c_C_on_k F G y) = (F, G, 0) := by exact (if_neg h1)
    exact xq_iret X rfl (by decide) (by rw [hh]) (by rw [hh]) d_C_on_29
  · skip
    refine xq_iload_n X d_C_on_17 1 rfl rfl ?_
    refine xq_bipush (v := (-2)) X d_C_on_18 (by decide) ?_
    refine xq_icmp_lt X d_C_on_20 28 (by decide) (fun h2 => ?_) (fun h2 => ?_)
    · skip
      refine xq_iconst (v := 0) X d_C_on_28 (by decide) ?_
      have hh : (c_C_on_k F G y) = (F, G, 0) := by exact ((if_pos h1).trans (if_pos h2))
      exact xq_iret X rfl (by decide) (by rw [hh]) (by rw [hh]) d_C_on_29
    · skip
      refine xq_iload_n X d_C_on_23 1 rfl rfl ?_
      refine xq_iconst (v := 2) X d_C_on_24 (by decide) ?_
      refine xq_icmp_le X d_C_on_25 30 (by decide) (fun h3 => ?_) (fun h3 => ?_)
      · skip
        refine xq_aload_n X d_C_on_30 0 rfl rfl ?_
        refine xq_iload_n X d_C_on_31 1 rfl rfl ?_
        refine kn_callV (As := [.int y]) (rest := []) X xw_g hk g_C_42 (ct_N_switchOn hap hk y) rfl rfl (by decide) (Nat.le_of_ble_eq_true rfl) rfl d_C_on_32 ?_
        refine xq_iconst (v := 1) X d_C_on_35 (by decide) ?_
        have hh : (c_C_on_k F G y) = ((c_N_switchOn F G y).1, (c_N_switchOn F G y).2, 1) := by exact ((if_pos h1).trans ((if_neg h2).trans (if_pos h3)))
        exact xq_iret X rfl (by decide) (by rw [hh]) (by rw [hh]) d_C_on_36
      · skip
        refine xq_iconst (v := 0) X d_C_on_28 (by decide) ?_
        have hh : (c_C_on_k F G y) = (F, G, 0) := by exact ((if_pos h1).trans ((if_neg h2).trans (if_neg h3)))
        exact xq_iret X rfl (by decide) (by rw [hh]) (by rw [hh]) d_C_on_29
def c_C_on_bad (x : Int32) (y : Int32) : Int32 := 0
set_option maxHeartbeats 4000000 in
set_option maxRecDepth 100000 in
theorem ct_C_on_bad {l : Launch} {D : va_G} {n : Nat} {ad : xq_I → Nat} {cI cZ cN : ClassId} (hap : xq_ap (kc_cs n) ad) {k : Nat} (hk : k < n) {B : kc_B} {F G E w : Nat → Int32} (x : Int32) (y : Int32) (hb : x < 0 ∨ ¬ x < (nI n)) :
    xq_M l D vcl (kc_tys cI cZ cN) (kc_cs n) ad (kc_en n ad cI cN) y_C_on (Cond.code y_C_on b_C_on 4 (some .boolean) :: xw) 3 [.ref (ad (0, 0)), .int x, .int y] (kc_ov B k F G E w) (some (.int (c_C_on_bad x y))) (kc_ov B k F G E w) := by
  refine xq_met (by decide) (Nat.le_of_ble_eq_true rfl) hap ?_
  intro p e s m args below meth c X
  refine xq_sub [2, 1, 0] [(2, .int y), (1, .int x), (0, .ref (ad (0, 0)))] rfl ?_
  refine xq_aload_n X d_C_on_0 2 rfl rfl ?_
  refine xq_iload_n X d_C_on_1 1 rfl rfl ?_
  refine kb_callI (As := [.int x]) (rest := []) X xw_g g_C_34 (ct_C_find_bad hap hk (F := F) (G := G) (E := E) (w := w) x hb) rfl rfl (by decide) (Nat.le_of_ble_eq_true rfl) rfl d_C_on_2 ?_
  refine xq_astore_nN X d_C_on_5 [(3, .null), (2, .int y), (1, .int x), (0, .ref (ad (0, 0)))] rfl rfl (by decide) ?_
  refine xq_aload_nN X d_C_on_6 0 rfl rfl ?_
  refine xq_ifnullN X d_C_on_7 28 (by decide) ?_
  refine xq_iconst (v := 0) X d_C_on_28 (by decide) ?_
  have hh : (c_C_on_bad x y) = 0 := by exact rfl
  exact xq_iret X rfl (by decide) (by rw [hh]) rfl d_C_on_29
def c_C_thaw_k (F : Nat → Int32) (G : Nat → Int32) : (Nat → Int32) × (Nat → Int32) × Int32 := (if (F 3) = 5 then ((upd (c_N_beginListening F G).1 11 3), (c_N_beginListening F G).2, 1) else (F, G, 0))
set_option maxHeartbeats 4000000 in
set_option maxRecDepth 100000 in
theorem ct_C_thaw_k {l : Launch} {D : va_G} {n : Nat} {ad : xq_I → Nat} {cI cZ cN : ClassId} (hap : xq_ap (kc_cs n) ad) {k : Nat} (hk : k < n) {B : kc_B} {F G E w : Nat → Int32} (h31 : n < 2 ^ 31) (hk0 : ¬ (nI k) < 0) (hkn : (nI k) < (nI n)) :
    xq_M l D vcl (kc_tys cI cZ cN) (kc_cs n) ad (kc_en n ad cI cN) y_C_thaw (Cond.code y_C_thaw b_C_thaw 3 (some .boolean) :: xw) 3 [.ref (ad (0, 0)), .int (nI k)] (kc_ov B k F G E w) (some (.int (c_C_thaw_k F G).2.2)) (kc_ov B k (c_C_thaw_k F G).1 (c_C_thaw_k F G).2.1 E w) := by
  refine xq_met (by decide) (Nat.le_of_ble_eq_true rfl) hap ?_
  intro p e s m args below meth c X
  refine xq_sub [1, 0] [(1, .int (nI k)), (0, .ref (ad (0, 0)))] rfl ?_
  refine xq_aload_n X d_C_thaw_0 1 rfl rfl ?_
  refine xq_iload_n X d_C_thaw_1 0 rfl rfl ?_
  refine kb_callI (As := [.int (nI k)]) (rest := []) X xw_g g_C_34 (ct_C_find_k hap hk (F := F) (G := G) (E := E) (w := w) h31 hk0 hkn) rfl rfl (by decide) (Nat.le_of_ble_eq_true rfl) rfl d_C_thaw_2 ?_
  refine xq_astore_n X d_C_thaw_5 [(2, .ref (ad (3, k))), (1, .int (nI k)), (0, .ref (ad (0, 0)))] rfl rfl (by decide) ?_
  refine xq_aload_n X d_C_thaw_6 0 rfl rfl ?_
  refine xq_ifnull X d_C_thaw_7 ?_
  refine xq_aload_n X d_C_thaw_10 0 rfl rfl ?_
  refine kn_get (v := (F 3)) X hk 3 (by decide) f_C_38 d_C_thaw_11 rfl ?_
  refine xq_iconst (v := 5) X d_C_thaw_14 (by decide) ?_
  refine xq_icmp_eq X d_C_thaw_15 20 (by decide) (fun h1 => ?_) (fun h1 => ?_)
  · skip
    refine xq_aload_n X d_C_thaw_20 0 rfl rfl ?_
    refine kn_callV (As := []) (rest := []) X xw_g hk g_C_52 (ct_N_beginListening hap hk) rfl rfl (by decide) (Nat.le_of_ble_eq_true rfl) rfl d_C_thaw_21 ?_
    refine xq_aload_n X d_C_thaw_24 0 rfl rfl ?_
    refine xq_iconst (v := 3) X d_C_thaw_25 (by decide) ?_
    refine kn_put X hk 11 (by decide) (ty := .int) f_C_55 T_N_ok n_N_11 rfl rfl d_C_thaw_26 ?_
    refine xq_iconst (v := 1) X d_C_thaw_29 (by decide) ?_
    have hh : (c_C_thaw_k F G) = ((upd (c_N_beginListening F G).1 11 3), (c_N_beginListening F G).2, 1) := by exact (if_pos h1)
    exact xq_iret X rfl (by decide) (by rw [hh]) (by rw [hh]) d_C_thaw_30
  · skip
    refine xq_iconst (v := 0) X d_C_thaw_18 (by decide) ?_
    have hh : (c_C_thaw_k F G) = (F, G, 0) := by exact (if_neg h1)
    exact xq_iret X rfl (by decide) (by rw [hh]) (by rw [hh]) d_C_thaw_19
def c_C_thaw_bad (x : Int32) : Int32 := 0
set_option maxHeartbeats 4000000 in
set_option maxRecDepth 100000 in
theorem ct_C_thaw_bad {l : Launch} {D : va_G} {n : Nat} {ad : xq_I → Nat} {cI cZ cN : ClassId} (hap : xq_ap (kc_cs n) ad) {k : Nat} (hk : k < n) {B : kc_B} {F G E w : Nat → Int32} (x : Int32) (hb : x < 0 ∨ ¬ x < (nI n)) :
    xq_M l D vcl (kc_tys cI cZ cN) (kc_cs n) ad (kc_en n ad cI cN) y_C_thaw (Cond.code y_C_thaw b_C_thaw 3 (some .boolean) :: xw) 3 [.ref (ad (0, 0)), .int x] (kc_ov B k F G E w) (some (.int (c_C_thaw_bad x))) (kc_ov B k F G E w) := by
  refine xq_met (by decide) (Nat.le_of_ble_eq_true rfl) hap ?_
  intro p e s m args below meth c X
  refine xq_sub [1, 0] [(1, .int x), (0, .ref (ad (0, 0)))] rfl ?_
  refine xq_aload_n X d_C_thaw_0 1 rfl rfl ?_
  refine xq_iload_n X d_C_thaw_1 0 rfl rfl ?_
  refine kb_callI (As := [.int x]) (rest := []) X xw_g g_C_34 (ct_C_find_bad hap hk (F := F) (G := G) (E := E) (w := w) x hb) rfl rfl (by decide) (Nat.le_of_ble_eq_true rfl) rfl d_C_thaw_2 ?_
  refine xq_astore_nN X d_C_thaw_5 [(2, .null), (1, .int x), (0, .ref (ad (0, 0)))] rfl rfl (by decide) ?_
  refine xq_aload_nN X d_C_thaw_6 0 rfl rfl ?_
  refine xq_ifnullN X d_C_thaw_7 18 (by decide) ?_
  refine xq_iconst (v := 0) X d_C_thaw_18 (by decide) ?_
  have hh : (c_C_thaw_bad x) = 0 := by exact rfl
  exact xq_iret X rfl (by decide) (by rw [hh]) rfl d_C_thaw_19
def c_C_mode_k (F : Nat → Int32) : Int32 := (F 3)
set_option maxHeartbeats 4000000 in
set_option maxRecDepth 100000 in
theorem ct_C_mode_k {l : Launch} {D : va_G} {n : Nat} {ad : xq_I → Nat} {cI cZ cN : ClassId} (hap : xq_ap (kc_cs n) ad) {k : Nat} (hk : k < n) {B : kc_B} {F G E w : Nat → Int32} (h31 : n < 2 ^ 31) (hk0 : ¬ (nI k) < 0) (hkn : (nI k) < (nI n)) :
    xq_M l D vcl (kc_tys cI cZ cN) (kc_cs n) ad (kc_en n ad cI cN) y_C_mode (Cond.code y_C_mode b_C_mode 3 (some .int) :: xw) 3 [.ref (ad (0, 0)), .int (nI k)] (kc_ov B k F G E w) (some (.int (c_C_mode_k F))) (kc_ov B k F G E w) := by
  refine xq_met (by decide) (Nat.le_of_ble_eq_true rfl) hap ?_
  intro p e s m args below meth c X
  refine xq_sub [1, 0] [(1, .int (nI k)), (0, .ref (ad (0, 0)))] rfl ?_
  refine xq_aload_n X d_C_mode_0 1 rfl rfl ?_
  refine xq_iload_n X d_C_mode_1 0 rfl rfl ?_
  refine kb_callI (As := [.int (nI k)]) (rest := []) X xw_g g_C_34 (ct_C_find_k hap hk (F := F) (G := G) (E := E) (w := w) h31 hk0 hkn) rfl rfl (by decide) (Nat.le_of_ble_eq_true rfl) rfl d_C_mode_2 ?_
  refine xq_astore_n X d_C_mode_5 [(2, .ref (ad (3, k))), (1, .int (nI k)), (0, .ref (ad (0, 0)))] rfl rfl (by decide) ?_
  refine xq_aload_n X d_C_mode_6 0 rfl rfl ?_
  refine xq_ifnonnull X d_C_mode_7 14 (by decide) ?_
  refine xq_aload_n X d_C_mode_14 0 rfl rfl ?_
  refine kn_get (v := (F 3)) X hk 3 (by decide) f_C_38 d_C_mode_15 rfl ?_
  have hh : (c_C_mode_k F) = (F 3) := by exact rfl
  exact xq_iret X rfl rfl (by rw [hh]) rfl d_C_mode_18
def c_C_mode_bad (x : Int32) : Int32 := (-1)
set_option maxHeartbeats 4000000 in
set_option maxRecDepth 100000 in
theorem ct_C_mode_bad {l : Launch} {D : va_G} {n : Nat} {ad : xq_I → Nat} {cI cZ cN : ClassId} (hap : xq_ap (kc_cs n) ad) {k : Nat} (hk : k < n) {B : kc_B} {F G E w : Nat → Int32} (x : Int32) (hb : x < 0 ∨ ¬ x < (nI n)) :
    xq_M l D vcl (kc_tys cI cZ cN) (kc_cs n) ad (kc_en n ad cI cN) y_C_mode (Cond.code y_C_mode b_C_mode 3 (some .int) :: xw) 3 [.ref (ad (0, 0)), .int x] (kc_ov B k F G E w) (some (.int (c_C_mode_bad x))) (kc_ov B k F G E w) := by
  refine xq_met (by decide) (Nat.le_of_ble_eq_true rfl) hap ?_
  intro p e s m args below meth c X
  refine xq_sub [1, 0] [(1, .int x), (0, .ref (ad (0, 0)))] rfl ?_
  refine xq_aload_n X d_C_mode_0 1 rfl rfl ?_
  refine xq_iload_n X d_C_mode_1 0 rfl rfl ?_
  refine kb_callI (As := [.int x]) (rest := []) X xw_g g_C_34 (ct_C_find_bad hap hk (F := F) (G := G) (E := E) (w := w) x hb) rfl rfl (by decide) (Nat.le_of_ble_eq_true rfl) rfl d_C_mode_2 ?_
  refine xq_astore_nN X d_C_mode_5 [(2, .null), (1, .int x), (0, .ref (ad (0, 0)))] rfl rfl (by decide) ?_
  refine xq_aload_nN X d_C_mode_6 0 rfl rfl ?_
  refine xq_ifnonnullN X d_C_mode_7 ?_
  refine xq_iconst (v := (-1)) X d_C_mode_10 (by decide) ?_
  refine xq_goto X d_C_mode_11 18 (by decide) ?_
  have hh : (c_C_mode_bad x) = (-1) := by exact rfl
  exact xq_iret X rfl rfl (by rw [hh]) rfl d_C_mode_18
def c_C_patience_k (F : Nat → Int32) : Int32 := (if (F 3) = 1 then (((F 9) * 4) + (F 11)) else (-1))
set_option maxHeartbeats 4000000 in
set_option maxRecDepth 100000 in
theorem ct_C_patience_k {l : Launch} {D : va_G} {n : Nat} {ad : xq_I → Nat} {cI cZ cN : ClassId} (hap : xq_ap (kc_cs n) ad) {k : Nat} (hk : k < n) {B : kc_B} {F G E w : Nat → Int32} (h31 : n < 2 ^ 31) (hk0 : ¬ (nI k) < 0) (hkn : (nI k) < (nI n)) :
    xq_M l D vcl (kc_tys cI cZ cN) (kc_cs n) ad (kc_en n ad cI cN) y_C_patience (Cond.code y_C_patience b_C_patience 3 (some .int) :: xw) 3 [.ref (ad (0, 0)), .int (nI k)] (kc_ov B k F G E w) (some (.int (c_C_patience_k F))) (kc_ov B k F G E w) := by
  refine xq_met (by decide) (Nat.le_of_ble_eq_true rfl) hap ?_
  intro p e s m args below meth c X
  refine xq_sub [1, 0] [(1, .int (nI k)), (0, .ref (ad (0, 0)))] rfl ?_
  refine xq_aload_n X d_C_patience_0 1 rfl rfl ?_
  refine xq_iload_n X d_C_patience_1 0 rfl rfl ?_
  refine kb_callI (As := [.int (nI k)]) (rest := []) X xw_g g_C_34 (ct_C_find_k hap hk (F := F) (G := G) (E := E) (w := w) h31 hk0 hkn) rfl rfl (by decide) (Nat.le_of_ble_eq_true rfl) rfl d_C_patience_2 ?_
  refine xq_astore_n X d_C_patience_5 [(2, .ref (ad (3, k))), (1, .int (nI k)), (0, .ref (ad (0, 0)))] rfl rfl (by decide) ?_
  refine xq_aload_n X d_C_patience_6 0 rfl rfl ?_
  refine xq_ifnull X d_C_patience_7 ?_
  refine xq_aload_n X d_C_patience_10 0 rfl rfl ?_
  refine kn_get (v := (F 3)) X hk 3 (by decide) f_C_38 d_C_patience_11 rfl ?_
  refine xq_iconst (v := 1) X d_C_patience_14 (by decide) ?_
  refine xq_icmp_eq X d_C_patience_15 20 (by decide) (fun h1 => ?_) (fun h1 => ?_)
  · skip
    refine xq_aload_n X d_C_patience_20 0 rfl rfl ?_
    refine kn_get (v := (F 9)) X hk 9 (by decide) f_C_105 d_C_patience_21 rfl ?_
    refine xq_iconst (v := 4) X d_C_patience_24 (by decide) ?_
    refine xq_imul X d_C_patience_25 ?_
    refine xq_aload_n X d_C_patience_26 0 rfl rfl ?_
    refine kn_get (v := (F 11)) X hk 11 (by decide) f_C_55 d_C_patience_27 rfl ?_
    refine xq_iadd X d_C_patience_30 ?_
    have hh : (c_C_patience_k F) = (((F 9) * 4) + (F 11)) := by exact (if_pos h1)
    exact xq_iret X rfl rfl (by rw [hh]) rfl d_C_patience_31
  · skip
    refine xq_iconst (v := (-1)) X d_C_patience_18 (by decide) ?_
    have hh : (c_C_patience_k F) = (-1) := by exact (if_neg h1)
    exact xq_iret X rfl rfl (by rw [hh]) rfl d_C_patience_19
def c_C_patience_bad (x : Int32) : Int32 := (-1)
set_option maxHeartbeats 4000000 in
set_option maxRecDepth 100000 in
theorem ct_C_patience_bad {l : Launch} {D : va_G} {n : Nat} {ad : xq_I → Nat} {cI cZ cN : ClassId} (hap : xq_ap (kc_cs n) ad) {k : Nat} (hk : k < n) {B : kc_B} {F G E w : Nat → Int32} (x : Int32) (hb : x < 0 ∨ ¬ x < (nI n)) :
    xq_M l D vcl (kc_tys cI cZ cN) (kc_cs n) ad (kc_en n ad cI cN) y_C_patience (Cond.code y_C_patience b_C_patience 3 (some .int) :: xw) 3 [.ref (ad (0, 0)), .int x] (kc_ov B k F G E w) (some (.int (c_C_patience_bad x))) (kc_ov B k F G E w) := by
  refine xq_met (by decide) (Nat.le_of_ble_eq_true rfl) hap ?_
  intro p e s m args below meth c X
  refine xq_sub [1, 0] [(1, .int x), (0, .ref (ad (0, 0)))] rfl ?_
  refine xq_aload_n X d_C_patience_0 1 rfl rfl ?_
  refine xq_iload_n X d_C_patience_1 0 rfl rfl ?_
  refine kb_callI (As := [.int x]) (rest := []) X xw_g g_C_34 (ct_C_find_bad hap hk (F := F) (G := G) (E := E) (w := w) x hb) rfl rfl (by decide) (Nat.le_of_ble_eq_true rfl) rfl d_C_patience_2 ?_
  refine xq_astore_nN X d_C_patience_5 [(2, .null), (1, .int x), (0, .ref (ad (0, 0)))] rfl rfl (by decide) ?_
  refine xq_aload_nN X d_C_patience_6 0 rfl rfl ?_
  refine xq_ifnullN X d_C_patience_7 18 (by decide) ?_
  refine xq_iconst (v := (-1)) X d_C_patience_18 (by decide) ?_
  have hh : (c_C_patience_bad x) = (-1) := by exact rfl
  exact xq_iret X rfl rfl (by rw [hh]) rfl d_C_patience_19
def c_C_off_on (F : Nat → Int32) : (Nat → Int32) × Int32 := ((c_N_switchOff F), 1)
set_option maxHeartbeats 4000000 in
set_option maxRecDepth 100000 in
theorem ct_C_off_on {l : Launch} {D : va_G} {n : Nat} {ad : xq_I → Nat} {cI cZ cN : ClassId} (hap : xq_ap (kc_cs n) ad) {k : Nat} (hk : k < n) {B : kc_B} {F G E w : Nat → Int32} (h31 : n < 2 ^ 31) (hk0 : ¬ (nI k) < 0) (hkn : (nI k) < (nI n)) (hm : ¬ (F 3) = 0) :
    xq_M l D vcl (kc_tys cI cZ cN) (kc_cs n) ad (kc_en n ad cI cN) y_C_off (Cond.code y_C_off b_C_off 3 (some .boolean) :: xw) 2 [.ref (ad (0, 0)), .int (nI k)] (kc_ov B k F G E w) (some (.int (c_C_off_on F).2)) (kc_ov B k (c_C_off_on F).1 G E w) := by
  refine xq_met (by decide) (Nat.le_of_ble_eq_true rfl) hap ?_
  intro p e s m args below meth c X
  refine xq_sub [1, 0] [(1, .int (nI k)), (0, .ref (ad (0, 0)))] rfl ?_
  refine xq_aload_n X d_C_off_0 1 rfl rfl ?_
  refine xq_iload_n X d_C_off_1 0 rfl rfl ?_
  refine kb_callI (As := [.int (nI k)]) (rest := []) X xw_g g_C_46 (ct_C_fso_on hap hk (F := F) (G := G) (E := E) (w := w) h31 hk0 hkn hm) rfl rfl (by decide) (Nat.le_of_ble_eq_true rfl) rfl d_C_off_2 ?_
  refine xq_astore_n X d_C_off_5 [(2, .ref (ad (3, k))), (1, .int (nI k)), (0, .ref (ad (0, 0)))] rfl rfl (by decide) ?_
  refine xq_aload_n X d_C_off_6 0 rfl rfl ?_
  refine xq_ifnonnull X d_C_off_7 12 (by decide) ?_
  refine xq_aload_n X d_C_off_12 0 rfl rfl ?_
  refine kn_callV (As := []) (rest := []) X xw_g hk g_C_49 (ct_N_switchOff hap hk) rfl rfl (by decide) (Nat.le_of_ble_eq_true rfl) rfl d_C_off_13 ?_
  refine xq_iconst (v := 1) X d_C_off_16 (by decide) ?_
  have hh : (c_C_off_on F) = ((c_N_switchOff F), 1) := by exact rfl
  exact xq_iret X rfl (by decide) (by rw [hh]) (by rw [hh]) d_C_off_17
def c_C_off_off : Int32 := 0
set_option maxHeartbeats 4000000 in
set_option maxRecDepth 100000 in
theorem ct_C_off_off {l : Launch} {D : va_G} {n : Nat} {ad : xq_I → Nat} {cI cZ cN : ClassId} (hap : xq_ap (kc_cs n) ad) {k : Nat} (hk : k < n) {B : kc_B} {F G E w : Nat → Int32} (h31 : n < 2 ^ 31) (hk0 : ¬ (nI k) < 0) (hkn : (nI k) < (nI n)) (hm : (F 3) = 0) :
    xq_M l D vcl (kc_tys cI cZ cN) (kc_cs n) ad (kc_en n ad cI cN) y_C_off (Cond.code y_C_off b_C_off 3 (some .boolean) :: xw) 2 [.ref (ad (0, 0)), .int (nI k)] (kc_ov B k F G E w) (some (.int (c_C_off_off))) (kc_ov B k F G E w) := by
  refine xq_met (by decide) (Nat.le_of_ble_eq_true rfl) hap ?_
  intro p e s m args below meth c X
  refine xq_sub [1, 0] [(1, .int (nI k)), (0, .ref (ad (0, 0)))] rfl ?_
  refine xq_aload_n X d_C_off_0 1 rfl rfl ?_
  refine xq_iload_n X d_C_off_1 0 rfl rfl ?_
  refine kb_callI (As := [.int (nI k)]) (rest := []) X xw_g g_C_46 (ct_C_fso_off hap hk (F := F) (G := G) (E := E) (w := w) h31 hk0 hkn hm) rfl rfl (by decide) (Nat.le_of_ble_eq_true rfl) rfl d_C_off_2 ?_
  refine xq_astore_nN X d_C_off_5 [(2, .null), (1, .int (nI k)), (0, .ref (ad (0, 0)))] rfl rfl (by decide) ?_
  refine xq_aload_nN X d_C_off_6 0 rfl rfl ?_
  refine xq_ifnonnullN X d_C_off_7 ?_
  refine xq_iconst (v := 0) X d_C_off_10 (by decide) ?_
  have hh : (c_C_off_off) = 0 := by exact rfl
  exact xq_iret X rfl (by decide) (by rw [hh]) rfl d_C_off_11
def c_C_off_bad (x : Int32) : Int32 := 0
set_option maxHeartbeats 4000000 in
set_option maxRecDepth 100000 in
theorem ct_C_off_bad {l : Launch} {D : va_G} {n : Nat} {ad : xq_I → Nat} {cI cZ cN : ClassId} (hap : xq_ap (kc_cs n) ad) {k : Nat} (hk : k < n) {B : kc_B} {F G E w : Nat → Int32} (x : Int32) (hb : x < 0 ∨ ¬ x < (nI n)) :
    xq_M l D vcl (kc_tys cI cZ cN) (kc_cs n) ad (kc_en n ad cI cN) y_C_off (Cond.code y_C_off b_C_off 3 (some .boolean) :: xw) 2 [.ref (ad (0, 0)), .int x] (kc_ov B k F G E w) (some (.int (c_C_off_bad x))) (kc_ov B k F G E w) := by
  refine xq_met (by decide) (Nat.le_of_ble_eq_true rfl) hap ?_
  intro p e s m args below meth c X
  refine xq_sub [1, 0] [(1, .int x), (0, .ref (ad (0, 0)))] rfl ?_
  refine xq_aload_n X d_C_off_0 1 rfl rfl ?_
  refine xq_iload_n X d_C_off_1 0 rfl rfl ?_
  refine kb_callI (As := [.int x]) (rest := []) X xw_g g_C_46 (ct_C_fso_bad hap hk (F := F) (G := G) (E := E) (w := w) x hb) rfl rfl (by decide) (Nat.le_of_ble_eq_true rfl) rfl d_C_off_2 ?_
  refine xq_astore_nN X d_C_off_5 [(2, .null), (1, .int x), (0, .ref (ad (0, 0)))] rfl rfl (by decide) ?_
  refine xq_aload_nN X d_C_off_6 0 rfl rfl ?_
  refine xq_ifnonnullN X d_C_off_7 ?_
  refine xq_iconst (v := 0) X d_C_off_10 (by decide) ?_
  have hh : (c_C_off_bad x) = 0 := by exact rfl
  exact xq_iret X rfl (by decide) (by rw [hh]) rfl d_C_off_11
def c_C_mute_on (F : Nat → Int32) : (Nat → Int32) × Int32 := (if (F 16) = 0 then ((upd F 16 1), 1) else (F, 0))
set_option maxHeartbeats 4000000 in
set_option maxRecDepth 100000 in
theorem ct_C_mute_on {l : Launch} {D : va_G} {n : Nat} {ad : xq_I → Nat} {cI cZ cN : ClassId} (hap : xq_ap (kc_cs n) ad) {k : Nat} (hk : k < n) {B : kc_B} {F G E w : Nat → Int32} (h31 : n < 2 ^ 31) (hk0 : ¬ (nI k) < 0) (hkn : (nI k) < (nI n)) (hm : ¬ (F 3) = 0) :
    xq_M l D vcl (kc_tys cI cZ cN) (kc_cs n) ad (kc_en n ad cI cN) y_C_mute (Cond.code y_C_mute b_C_mute 3 (some .boolean) :: xw) 2 [.ref (ad (0, 0)), .int (nI k)] (kc_ov B k F G E w) (some (.int (c_C_mute_on F).2)) (kc_ov B k (c_C_mute_on F).1 G E w) := by
  refine xq_met (by decide) (Nat.le_of_ble_eq_true rfl) hap ?_
  intro p e s m args below meth c X
  refine xq_sub [1, 0] [(1, .int (nI k)), (0, .ref (ad (0, 0)))] rfl ?_
  refine xq_aload_n X d_C_mute_0 1 rfl rfl ?_
  refine xq_iload_n X d_C_mute_1 0 rfl rfl ?_
  refine kb_callI (As := [.int (nI k)]) (rest := []) X xw_g g_C_46 (ct_C_fso_on hap hk (F := F) (G := G) (E := E) (w := w) h31 hk0 hkn hm) rfl rfl (by decide) (Nat.le_of_ble_eq_true rfl) rfl d_C_mute_2 ?_
  refine xq_astore_n X d_C_mute_5 [(2, .ref (ad (3, k))), (1, .int (nI k)), (0, .ref (ad (0, 0)))] rfl rfl (by decide) ?_
  refine xq_aload_n X d_C_mute_6 0 rfl rfl ?_
  refine xq_ifnull X d_C_mute_7 ?_
  refine xq_aload_n X d_C_mute_10 0 rfl rfl ?_
  refine kn_get (v := (F 16)) X hk 16 (by decide) f_C_58 d_C_mute_11 rfl ?_
  refine xq_if_eq X d_C_mute_14 19 (by decide) (fun h1 => ?_) (fun h1 => ?_)
  · skip
    refine xq_aload_n X d_C_mute_19 0 rfl rfl ?_
    refine xq_iconst (v := 1) X d_C_mute_20 (by decide) ?_
    refine kn_put X hk 16 (by decide) (ty := .boolean) f_C_58 T_N_ok n_N_16 (by decide) (by decide) d_C_mute_21 ?_
    refine xq_iconst (v := 1) X d_C_mute_24 (by decide) ?_
    have hh : (c_C_mute_on F) = ((upd F 16 1), 1) := by exact (if_pos h1)
    exact xq_iret X rfl (by decide) (by rw [hh]) (by rw [hh]) d_C_mute_25
  · skip
    refine xq_iconst (v := 0) X d_C_mute_17 (by decide) ?_
    have hh : (c_C_mute_on F) = (F, 0) := by exact (if_neg h1)
    exact xq_iret X rfl (by decide) (by rw [hh]) (by rw [hh]) d_C_mute_18
def c_C_mute_off : Int32 := 0
set_option maxHeartbeats 4000000 in
set_option maxRecDepth 100000 in
theorem ct_C_mute_off {l : Launch} {D : va_G} {n : Nat} {ad : xq_I → Nat} {cI cZ cN : ClassId} (hap : xq_ap (kc_cs n) ad) {k : Nat} (hk : k < n) {B : kc_B} {F G E w : Nat → Int32} (h31 : n < 2 ^ 31) (hk0 : ¬ (nI k) < 0) (hkn : (nI k) < (nI n)) (hm : (F 3) = 0) :
    xq_M l D vcl (kc_tys cI cZ cN) (kc_cs n) ad (kc_en n ad cI cN) y_C_mute (Cond.code y_C_mute b_C_mute 3 (some .boolean) :: xw) 2 [.ref (ad (0, 0)), .int (nI k)] (kc_ov B k F G E w) (some (.int (c_C_mute_off))) (kc_ov B k F G E w) := by
  refine xq_met (by decide) (Nat.le_of_ble_eq_true rfl) hap ?_
  intro p e s m args below meth c X
  refine xq_sub [1, 0] [(1, .int (nI k)), (0, .ref (ad (0, 0)))] rfl ?_
  refine xq_aload_n X d_C_mute_0 1 rfl rfl ?_
  refine xq_iload_n X d_C_mute_1 0 rfl rfl ?_
  refine kb_callI (As := [.int (nI k)]) (rest := []) X xw_g g_C_46 (ct_C_fso_off hap hk (F := F) (G := G) (E := E) (w := w) h31 hk0 hkn hm) rfl rfl (by decide) (Nat.le_of_ble_eq_true rfl) rfl d_C_mute_2 ?_
  refine xq_astore_nN X d_C_mute_5 [(2, .null), (1, .int (nI k)), (0, .ref (ad (0, 0)))] rfl rfl (by decide) ?_
  refine xq_aload_nN X d_C_mute_6 0 rfl rfl ?_
  refine xq_ifnullN X d_C_mute_7 17 (by decide) ?_
  refine xq_iconst (v := 0) X d_C_mute_17 (by decide) ?_
  have hh : (c_C_mute_off) = 0 := by exact rfl
  exact xq_iret X rfl (by decide) (by rw [hh]) rfl d_C_mute_18
def c_C_mute_bad (x : Int32) : Int32 := 0
set_option maxHeartbeats 4000000 in
set_option maxRecDepth 100000 in
theorem ct_C_mute_bad {l : Launch} {D : va_G} {n : Nat} {ad : xq_I → Nat} {cI cZ cN : ClassId} (hap : xq_ap (kc_cs n) ad) {k : Nat} (hk : k < n) {B : kc_B} {F G E w : Nat → Int32} (x : Int32) (hb : x < 0 ∨ ¬ x < (nI n)) :
    xq_M l D vcl (kc_tys cI cZ cN) (kc_cs n) ad (kc_en n ad cI cN) y_C_mute (Cond.code y_C_mute b_C_mute 3 (some .boolean) :: xw) 2 [.ref (ad (0, 0)), .int x] (kc_ov B k F G E w) (some (.int (c_C_mute_bad x))) (kc_ov B k F G E w) := by
  refine xq_met (by decide) (Nat.le_of_ble_eq_true rfl) hap ?_
  intro p e s m args below meth c X
  refine xq_sub [1, 0] [(1, .int x), (0, .ref (ad (0, 0)))] rfl ?_
  refine xq_aload_n X d_C_mute_0 1 rfl rfl ?_
  refine xq_iload_n X d_C_mute_1 0 rfl rfl ?_
  refine kb_callI (As := [.int x]) (rest := []) X xw_g g_C_46 (ct_C_fso_bad hap hk (F := F) (G := G) (E := E) (w := w) x hb) rfl rfl (by decide) (Nat.le_of_ble_eq_true rfl) rfl d_C_mute_2 ?_
  refine xq_astore_nN X d_C_mute_5 [(2, .null), (1, .int x), (0, .ref (ad (0, 0)))] rfl rfl (by decide) ?_
  refine xq_aload_nN X d_C_mute_6 0 rfl rfl ?_
  refine xq_ifnullN X d_C_mute_7 17 (by decide) ?_
  refine xq_iconst (v := 0) X d_C_mute_17 (by decide) ?_
  have hh : (c_C_mute_bad x) = 0 := by exact rfl
  exact xq_iret X rfl (by decide) (by rw [hh]) rfl d_C_mute_18
def c_C_deafen_on (F : Nat → Int32) : (Nat → Int32) × Int32 := (if (F 17) = 0 then ((upd F 17 1), 1) else (F, 0))
set_option maxHeartbeats 4000000 in
set_option maxRecDepth 100000 in
theorem ct_C_deafen_on {l : Launch} {D : va_G} {n : Nat} {ad : xq_I → Nat} {cI cZ cN : ClassId} (hap : xq_ap (kc_cs n) ad) {k : Nat} (hk : k < n) {B : kc_B} {F G E w : Nat → Int32} (h31 : n < 2 ^ 31) (hk0 : ¬ (nI k) < 0) (hkn : (nI k) < (nI n)) (hm : ¬ (F 3) = 0) :
    xq_M l D vcl (kc_tys cI cZ cN) (kc_cs n) ad (kc_en n ad cI cN) y_C_deafen (Cond.code y_C_deafen b_C_deafen 3 (some .boolean) :: xw) 2 [.ref (ad (0, 0)), .int (nI k)] (kc_ov B k F G E w) (some (.int (c_C_deafen_on F).2)) (kc_ov B k (c_C_deafen_on F).1 G E w) := by
  refine xq_met (by decide) (Nat.le_of_ble_eq_true rfl) hap ?_
  intro p e s m args below meth c X
  refine xq_sub [1, 0] [(1, .int (nI k)), (0, .ref (ad (0, 0)))] rfl ?_
  refine xq_aload_n X d_C_deafen_0 1 rfl rfl ?_
  refine xq_iload_n X d_C_deafen_1 0 rfl rfl ?_
  refine kb_callI (As := [.int (nI k)]) (rest := []) X xw_g g_C_46 (ct_C_fso_on hap hk (F := F) (G := G) (E := E) (w := w) h31 hk0 hkn hm) rfl rfl (by decide) (Nat.le_of_ble_eq_true rfl) rfl d_C_deafen_2 ?_
  refine xq_astore_n X d_C_deafen_5 [(2, .ref (ad (3, k))), (1, .int (nI k)), (0, .ref (ad (0, 0)))] rfl rfl (by decide) ?_
  refine xq_aload_n X d_C_deafen_6 0 rfl rfl ?_
  refine xq_ifnull X d_C_deafen_7 ?_
  refine xq_aload_n X d_C_deafen_10 0 rfl rfl ?_
  refine kn_get (v := (F 17)) X hk 17 (by decide) f_C_62 d_C_deafen_11 rfl ?_
  refine xq_if_eq X d_C_deafen_14 19 (by decide) (fun h1 => ?_) (fun h1 => ?_)
  · skip
    refine xq_aload_n X d_C_deafen_19 0 rfl rfl ?_
    refine xq_iconst (v := 1) X d_C_deafen_20 (by decide) ?_
    refine kn_put X hk 17 (by decide) (ty := .boolean) f_C_62 T_N_ok n_N_17 (by decide) (by decide) d_C_deafen_21 ?_
    refine xq_iconst (v := 1) X d_C_deafen_24 (by decide) ?_
    have hh : (c_C_deafen_on F) = ((upd F 17 1), 1) := by exact (if_pos h1)
    exact xq_iret X rfl (by decide) (by rw [hh]) (by rw [hh]) d_C_deafen_25
  · skip
    refine xq_iconst (v := 0) X d_C_deafen_17 (by decide) ?_
    have hh : (c_C_deafen_on F) = (F, 0) := by exact (if_neg h1)
    exact xq_iret X rfl (by decide) (by rw [hh]) (by rw [hh]) d_C_deafen_18
def c_C_deafen_off : Int32 := 0
set_option maxHeartbeats 4000000 in
set_option maxRecDepth 100000 in
theorem ct_C_deafen_off {l : Launch} {D : va_G} {n : Nat} {ad : xq_I → Nat} {cI cZ cN : ClassId} (hap : xq_ap (kc_cs n) ad) {k : Nat} (hk : k < n) {B : kc_B} {F G E w : Nat → Int32} (h31 : n < 2 ^ 31) (hk0 : ¬ (nI k) < 0) (hkn : (nI k) < (nI n)) (hm : (F 3) = 0) :
    xq_M l D vcl (kc_tys cI cZ cN) (kc_cs n) ad (kc_en n ad cI cN) y_C_deafen (Cond.code y_C_deafen b_C_deafen 3 (some .boolean) :: xw) 2 [.ref (ad (0, 0)), .int (nI k)] (kc_ov B k F G E w) (some (.int (c_C_deafen_off))) (kc_ov B k F G E w) := by
  refine xq_met (by decide) (Nat.le_of_ble_eq_true rfl) hap ?_
  intro p e s m args below meth c X
  refine xq_sub [1, 0] [(1, .int (nI k)), (0, .ref (ad (0, 0)))] rfl ?_
  refine xq_aload_n X d_C_deafen_0 1 rfl rfl ?_
  refine xq_iload_n X d_C_deafen_1 0 rfl rfl ?_
  refine kb_callI (As := [.int (nI k)]) (rest := []) X xw_g g_C_46 (ct_C_fso_off hap hk (F := F) (G := G) (E := E) (w := w) h31 hk0 hkn hm) rfl rfl (by decide) (Nat.le_of_ble_eq_true rfl) rfl d_C_deafen_2 ?_
  refine xq_astore_nN X d_C_deafen_5 [(2, .null), (1, .int (nI k)), (0, .ref (ad (0, 0)))] rfl rfl (by decide) ?_
  refine xq_aload_nN X d_C_deafen_6 0 rfl rfl ?_
  refine xq_ifnullN X d_C_deafen_7 17 (by decide) ?_
  refine xq_iconst (v := 0) X d_C_deafen_17 (by decide) ?_
  have hh : (c_C_deafen_off) = 0 := by exact rfl
  exact xq_iret X rfl (by decide) (by rw [hh]) rfl d_C_deafen_18
def c_C_deafen_bad (x : Int32) : Int32 := 0
set_option maxHeartbeats 4000000 in
set_option maxRecDepth 100000 in
theorem ct_C_deafen_bad {l : Launch} {D : va_G} {n : Nat} {ad : xq_I → Nat} {cI cZ cN : ClassId} (hap : xq_ap (kc_cs n) ad) {k : Nat} (hk : k < n) {B : kc_B} {F G E w : Nat → Int32} (x : Int32) (hb : x < 0 ∨ ¬ x < (nI n)) :
    xq_M l D vcl (kc_tys cI cZ cN) (kc_cs n) ad (kc_en n ad cI cN) y_C_deafen (Cond.code y_C_deafen b_C_deafen 3 (some .boolean) :: xw) 2 [.ref (ad (0, 0)), .int x] (kc_ov B k F G E w) (some (.int (c_C_deafen_bad x))) (kc_ov B k F G E w) := by
  refine xq_met (by decide) (Nat.le_of_ble_eq_true rfl) hap ?_
  intro p e s m args below meth c X
  refine xq_sub [1, 0] [(1, .int x), (0, .ref (ad (0, 0)))] rfl ?_
  refine xq_aload_n X d_C_deafen_0 1 rfl rfl ?_
  refine xq_iload_n X d_C_deafen_1 0 rfl rfl ?_
  refine kb_callI (As := [.int x]) (rest := []) X xw_g g_C_46 (ct_C_fso_bad hap hk (F := F) (G := G) (E := E) (w := w) x hb) rfl rfl (by decide) (Nat.le_of_ble_eq_true rfl) rfl d_C_deafen_2 ?_
  refine xq_astore_nN X d_C_deafen_5 [(2, .null), (1, .int x), (0, .ref (ad (0, 0)))] rfl rfl (by decide) ?_
  refine xq_aload_nN X d_C_deafen_6 0 rfl rfl ?_
  refine xq_ifnullN X d_C_deafen_7 17 (by decide) ?_
  refine xq_iconst (v := 0) X d_C_deafen_17 (by decide) ?_
  have hh : (c_C_deafen_bad x) = 0 := by exact rfl
  exact xq_iret X rfl (by decide) (by rw [hh]) rfl d_C_deafen_18
def c_C_shift_on (F : Nat → Int32) (y : Int32) : (Nat → Int32) × Int32 := (if y < (-1000) then (F, 0) else (if y ≤ 1000 then ((upd F 14 ((F 14) + y)), 1) else (F, 0)))
set_option maxHeartbeats 4000000 in
set_option maxRecDepth 100000 in
theorem ct_C_shift_on {l : Launch} {D : va_G} {n : Nat} {ad : xq_I → Nat} {cI cZ cN : ClassId} (hap : xq_ap (kc_cs n) ad) {k : Nat} (hk : k < n) {B : kc_B} {F G E w : Nat → Int32} (y : Int32) (h31 : n < 2 ^ 31) (hk0 : ¬ (nI k) < 0) (hkn : (nI k) < (nI n)) (hm : ¬ (F 3) = 0) :
    xq_M l D vcl (kc_tys cI cZ cN) (kc_cs n) ad (kc_en n ad cI cN) y_C_shift (Cond.code y_C_shift b_C_shift 4 (some .boolean) :: xw) 2 [.ref (ad (0, 0)), .int (nI k), .int y] (kc_ov B k F G E w) (some (.int (c_C_shift_on F y).2)) (kc_ov B k (c_C_shift_on F y).1 G E w) := by
  refine xq_met (by decide) (Nat.le_of_ble_eq_true rfl) hap ?_
  intro p e s m args below meth c X
  refine xq_sub [2, 1, 0] [(2, .int y), (1, .int (nI k)), (0, .ref (ad (0, 0)))] rfl ?_
  refine xq_aload_n X d_C_shift_0 2 rfl rfl ?_
  refine xq_iload_n X d_C_shift_1 1 rfl rfl ?_
  refine kb_callI (As := [.int (nI k)]) (rest := []) X xw_g g_C_46 (ct_C_fso_on hap hk (F := F) (G := G) (E := E) (w := w) h31 hk0 hkn hm) rfl rfl (by decide) (Nat.le_of_ble_eq_true rfl) rfl d_C_shift_2 ?_
  refine xq_astore_n X d_C_shift_5 [(3, .ref (ad (3, k))), (2, .int y), (1, .int (nI k)), (0, .ref (ad (0, 0)))] rfl rfl (by decide) ?_
  refine xq_aload_n X d_C_shift_6 0 rfl rfl ?_
  refine xq_ifnull X d_C_shift_7 ?_
  refine xq_iload_n X d_C_shift_10 1 rfl rfl ?_
  refine xq_sipush (v := (-1000)) X d_C_shift_11 (by decide) ?_
  refine xq_icmp_lt X d_C_shift_14 24 (by decide) (fun h1 => ?_) (fun h1 => ?_)
  · skip
    refine xq_iconst (v := 0) X d_C_shift_24 (by decide) ?_
    have hh : (c_C_shift_on F y) = (F, 0) := by exact (if_pos h1)
    exact xq_iret X rfl (by decide) (by rw [hh]) (by rw [hh]) d_C_shift_25
  · skip
    refine xq_iload_n X d_C_shift_17 1 rfl rfl ?_
    refine xq_sipush (v := 1000) X d_C_shift_18 (by decide) ?_
    refine xq_icmp_le X d_C_shift_21 26 (by decide) (fun h2 => ?_) (fun h2 => ?_)
    · skip
      refine xq_aload_n X d_C_shift_26 0 rfl rfl ?_
      refine xq_dup X d_C_shift_27 rfl ?_
      refine kn_get (v := (F 14)) X hk 14 (by decide) f_C_65 d_C_shift_28 rfl ?_
      refine xq_iload_n X d_C_shift_31 1 rfl rfl ?_
      refine xq_iadd X d_C_shift_32 ?_
      refine kn_put X hk 14 (by decide) (ty := .int) f_C_65 T_N_ok n_N_14 rfl rfl d_C_shift_33 ?_
      refine xq_iconst (v := 1) X d_C_shift_36 (by decide) ?_
      have hh : (c_C_shift_on F y) = ((upd F 14 ((F 14) + y)), 1) := by exact ((if_neg h1).trans (if_pos h2))
      exact xq_iret X rfl (by decide) (by rw [hh]) (by rw [hh]) d_C_shift_37
    · skip
      refine xq_iconst (v := 0) X d_C_shift_24 (by decide) ?_
      have hh : (c_C_shift_on F y) = (F, 0) := by exact ((if_neg h1).trans (if_neg h2))
      exact xq_iret X rfl (by decide) (by rw [hh]) (by rw [hh]) d_C_shift_25
def c_C_shift_off (y : Int32) : Int32 := 0
set_option maxHeartbeats 4000000 in
set_option maxRecDepth 100000 in
theorem ct_C_shift_off {l : Launch} {D : va_G} {n : Nat} {ad : xq_I → Nat} {cI cZ cN : ClassId} (hap : xq_ap (kc_cs n) ad) {k : Nat} (hk : k < n) {B : kc_B} {F G E w : Nat → Int32} (y : Int32) (h31 : n < 2 ^ 31) (hk0 : ¬ (nI k) < 0) (hkn : (nI k) < (nI n)) (hm : (F 3) = 0) :
    xq_M l D vcl (kc_tys cI cZ cN) (kc_cs n) ad (kc_en n ad cI cN) y_C_shift (Cond.code y_C_shift b_C_shift 4 (some .boolean) :: xw) 2 [.ref (ad (0, 0)), .int (nI k), .int y] (kc_ov B k F G E w) (some (.int (c_C_shift_off y))) (kc_ov B k F G E w) := by
  refine xq_met (by decide) (Nat.le_of_ble_eq_true rfl) hap ?_
  intro p e s m args below meth c X
  refine xq_sub [2, 1, 0] [(2, .int y), (1, .int (nI k)), (0, .ref (ad (0, 0)))] rfl ?_
  refine xq_aload_n X d_C_shift_0 2 rfl rfl ?_
  refine xq_iload_n X d_C_shift_1 1 rfl rfl ?_
  refine kb_callI (As := [.int (nI k)]) (rest := []) X xw_g g_C_46 (ct_C_fso_off hap hk (F := F) (G := G) (E := E) (w := w) h31 hk0 hkn hm) rfl rfl (by decide) (Nat.le_of_ble_eq_true rfl) rfl d_C_shift_2 ?_
  refine xq_astore_nN X d_C_shift_5 [(3, .null), (2, .int y), (1, .int (nI k)), (0, .ref (ad (0, 0)))] rfl rfl (by decide) ?_
  refine xq_aload_nN X d_C_shift_6 0 rfl rfl ?_
  refine xq_ifnullN X d_C_shift_7 24 (by decide) ?_
  refine xq_iconst (v := 0) X d_C_shift_24 (by decide) ?_
  have hh : (c_C_shift_off y) = 0 := by exact rfl
  exact xq_iret X rfl (by decide) (by rw [hh]) rfl d_C_shift_25
def c_C_shift_bad (x : Int32) (y : Int32) : Int32 := 0
set_option maxHeartbeats 4000000 in
set_option maxRecDepth 100000 in
theorem ct_C_shift_bad {l : Launch} {D : va_G} {n : Nat} {ad : xq_I → Nat} {cI cZ cN : ClassId} (hap : xq_ap (kc_cs n) ad) {k : Nat} (hk : k < n) {B : kc_B} {F G E w : Nat → Int32} (x : Int32) (y : Int32) (hb : x < 0 ∨ ¬ x < (nI n)) :
    xq_M l D vcl (kc_tys cI cZ cN) (kc_cs n) ad (kc_en n ad cI cN) y_C_shift (Cond.code y_C_shift b_C_shift 4 (some .boolean) :: xw) 2 [.ref (ad (0, 0)), .int x, .int y] (kc_ov B k F G E w) (some (.int (c_C_shift_bad x y))) (kc_ov B k F G E w) := by
  refine xq_met (by decide) (Nat.le_of_ble_eq_true rfl) hap ?_
  intro p e s m args below meth c X
  refine xq_sub [2, 1, 0] [(2, .int y), (1, .int x), (0, .ref (ad (0, 0)))] rfl ?_
  refine xq_aload_n X d_C_shift_0 2 rfl rfl ?_
  refine xq_iload_n X d_C_shift_1 1 rfl rfl ?_
  refine kb_callI (As := [.int x]) (rest := []) X xw_g g_C_46 (ct_C_fso_bad hap hk (F := F) (G := G) (E := E) (w := w) x hb) rfl rfl (by decide) (Nat.le_of_ble_eq_true rfl) rfl d_C_shift_2 ?_
  refine xq_astore_nN X d_C_shift_5 [(3, .null), (2, .int y), (1, .int x), (0, .ref (ad (0, 0)))] rfl rfl (by decide) ?_
  refine xq_aload_nN X d_C_shift_6 0 rfl rfl ?_
  refine xq_ifnullN X d_C_shift_7 24 (by decide) ?_
  refine xq_iconst (v := 0) X d_C_shift_24 (by decide) ?_
  have hh : (c_C_shift_bad x y) = 0 := by exact rfl
  exact xq_iret X rfl (by decide) (by rw [hh]) rfl d_C_shift_25
def c_C_members_in (F : Nat → Int32) : Int32 := (F 6)
set_option maxHeartbeats 4000000 in
set_option maxRecDepth 100000 in
theorem ct_C_members_in {l : Launch} {D : va_G} {n : Nat} {ad : xq_I → Nat} {cI cZ cN : ClassId} (hap : xq_ap (kc_cs n) ad) {k : Nat} (hk : k < n) {B : kc_B} {F G E w : Nat → Int32} (h31 : n < 2 ^ 31) (hk0 : ¬ (nI k) < 0) (hkn : (nI k) < (nI n)) (hm : ¬ (c_N_isInside F) = 0) :
    xq_M l D vcl (kc_tys cI cZ cN) (kc_cs n) ad (kc_en n ad cI cN) y_C_members (Cond.code y_C_members b_C_members 3 (some .int) :: xw) 2 [.ref (ad (0, 0)), .int (nI k)] (kc_ov B k F G E w) (some (.int (c_C_members_in F))) (kc_ov B k F G E w) := by
  refine xq_met (by decide) (Nat.le_of_ble_eq_true rfl) hap ?_
  intro p e s m args below meth c X
  refine xq_sub [1, 0] [(1, .int (nI k)), (0, .ref (ad (0, 0)))] rfl ?_
  refine xq_aload_n X d_C_members_0 1 rfl rfl ?_
  refine xq_iload_n X d_C_members_1 0 rfl rfl ?_
  refine kb_callI (As := [.int (nI k)]) (rest := []) X xw_g g_C_84 (ct_C_fin_in hap hk (F := F) (G := G) (E := E) (w := w) h31 hk0 hkn hm) rfl rfl (by decide) (Nat.le_of_ble_eq_true rfl) rfl d_C_members_2 ?_
  refine xq_astore_n X d_C_members_5 [(2, .ref (ad (3, k))), (1, .int (nI k)), (0, .ref (ad (0, 0)))] rfl rfl (by decide) ?_
  refine xq_aload_n X d_C_members_6 0 rfl rfl ?_
  refine xq_ifnonnull X d_C_members_7 14 (by decide) ?_
  refine xq_aload_n X d_C_members_14 0 rfl rfl ?_
  refine kn_get (v := (F 6)) X hk 6 (by decide) f_C_87 d_C_members_15 rfl ?_
  have hh : (c_C_members_in F) = (F 6) := by exact rfl
  exact xq_iret X rfl rfl (by rw [hh]) rfl d_C_members_18
def c_C_members_out : Int32 := (-1)
set_option maxHeartbeats 4000000 in
set_option maxRecDepth 100000 in
theorem ct_C_members_out {l : Launch} {D : va_G} {n : Nat} {ad : xq_I → Nat} {cI cZ cN : ClassId} (hap : xq_ap (kc_cs n) ad) {k : Nat} (hk : k < n) {B : kc_B} {F G E w : Nat → Int32} (h31 : n < 2 ^ 31) (hk0 : ¬ (nI k) < 0) (hkn : (nI k) < (nI n)) (hm : (c_N_isInside F) = 0) :
    xq_M l D vcl (kc_tys cI cZ cN) (kc_cs n) ad (kc_en n ad cI cN) y_C_members (Cond.code y_C_members b_C_members 3 (some .int) :: xw) 2 [.ref (ad (0, 0)), .int (nI k)] (kc_ov B k F G E w) (some (.int (c_C_members_out))) (kc_ov B k F G E w) := by
  refine xq_met (by decide) (Nat.le_of_ble_eq_true rfl) hap ?_
  intro p e s m args below meth c X
  refine xq_sub [1, 0] [(1, .int (nI k)), (0, .ref (ad (0, 0)))] rfl ?_
  refine xq_aload_n X d_C_members_0 1 rfl rfl ?_
  refine xq_iload_n X d_C_members_1 0 rfl rfl ?_
  refine kb_callI (As := [.int (nI k)]) (rest := []) X xw_g g_C_84 (ct_C_fin_out hap hk (F := F) (G := G) (E := E) (w := w) h31 hk0 hkn hm) rfl rfl (by decide) (Nat.le_of_ble_eq_true rfl) rfl d_C_members_2 ?_
  refine xq_astore_nN X d_C_members_5 [(2, .null), (1, .int (nI k)), (0, .ref (ad (0, 0)))] rfl rfl (by decide) ?_
  refine xq_aload_nN X d_C_members_6 0 rfl rfl ?_
  refine xq_ifnonnullN X d_C_members_7 ?_
  refine xq_iconst (v := (-1)) X d_C_members_10 (by decide) ?_
  refine xq_goto X d_C_members_11 18 (by decide) ?_
  have hh : (c_C_members_out) = (-1) := by exact rfl
  exact xq_iret X rfl rfl (by rw [hh]) rfl d_C_members_18
def c_C_members_bad (x : Int32) : Int32 := (-1)
set_option maxHeartbeats 4000000 in
set_option maxRecDepth 100000 in
theorem ct_C_members_bad {l : Launch} {D : va_G} {n : Nat} {ad : xq_I → Nat} {cI cZ cN : ClassId} (hap : xq_ap (kc_cs n) ad) {k : Nat} (hk : k < n) {B : kc_B} {F G E w : Nat → Int32} (x : Int32) (hb : x < 0 ∨ ¬ x < (nI n)) :
    xq_M l D vcl (kc_tys cI cZ cN) (kc_cs n) ad (kc_en n ad cI cN) y_C_members (Cond.code y_C_members b_C_members 3 (some .int) :: xw) 2 [.ref (ad (0, 0)), .int x] (kc_ov B k F G E w) (some (.int (c_C_members_bad x))) (kc_ov B k F G E w) := by
  refine xq_met (by decide) (Nat.le_of_ble_eq_true rfl) hap ?_
  intro p e s m args below meth c X
  refine xq_sub [1, 0] [(1, .int x), (0, .ref (ad (0, 0)))] rfl ?_
  refine xq_aload_n X d_C_members_0 1 rfl rfl ?_
  refine xq_iload_n X d_C_members_1 0 rfl rfl ?_
  refine kb_callI (As := [.int x]) (rest := []) X xw_g g_C_84 (ct_C_fin_bad hap hk (F := F) (G := G) (E := E) (w := w) x hb) rfl rfl (by decide) (Nat.le_of_ble_eq_true rfl) rfl d_C_members_2 ?_
  refine xq_astore_nN X d_C_members_5 [(2, .null), (1, .int x), (0, .ref (ad (0, 0)))] rfl rfl (by decide) ?_
  refine xq_aload_nN X d_C_members_6 0 rfl rfl ?_
  refine xq_ifnonnullN X d_C_members_7 ?_
  refine xq_iconst (v := (-1)) X d_C_members_10 (by decide) ?_
  refine xq_goto X d_C_members_11 18 (by decide) ?_
  have hh : (c_C_members_bad x) = (-1) := by exact rfl
  exact xq_iret X rfl rfl (by rw [hh]) rfl d_C_members_18
def c_C_time_in (F : Nat → Int32) : Int32 := (((F 5) * 8) + (F 4))
set_option maxHeartbeats 4000000 in
set_option maxRecDepth 100000 in
theorem ct_C_time_in {l : Launch} {D : va_G} {n : Nat} {ad : xq_I → Nat} {cI cZ cN : ClassId} (hap : xq_ap (kc_cs n) ad) {k : Nat} (hk : k < n) {B : kc_B} {F G E w : Nat → Int32} (h31 : n < 2 ^ 31) (hk0 : ¬ (nI k) < 0) (hkn : (nI k) < (nI n)) (hm : ¬ (c_N_isInside F) = 0) :
    xq_M l D vcl (kc_tys cI cZ cN) (kc_cs n) ad (kc_en n ad cI cN) y_C_time (Cond.code y_C_time b_C_time 3 (some .int) :: xw) 2 [.ref (ad (0, 0)), .int (nI k)] (kc_ov B k F G E w) (some (.int (c_C_time_in F))) (kc_ov B k F G E w) := by
  refine xq_met (by decide) (Nat.le_of_ble_eq_true rfl) hap ?_
  intro p e s m args below meth c X
  refine xq_sub [1, 0] [(1, .int (nI k)), (0, .ref (ad (0, 0)))] rfl ?_
  refine xq_aload_n X d_C_time_0 1 rfl rfl ?_
  refine xq_iload_n X d_C_time_1 0 rfl rfl ?_
  refine kb_callI (As := [.int (nI k)]) (rest := []) X xw_g g_C_84 (ct_C_fin_in hap hk (F := F) (G := G) (E := E) (w := w) h31 hk0 hkn hm) rfl rfl (by decide) (Nat.le_of_ble_eq_true rfl) rfl d_C_time_2 ?_
  refine xq_astore_n X d_C_time_5 [(2, .ref (ad (3, k))), (1, .int (nI k)), (0, .ref (ad (0, 0)))] rfl rfl (by decide) ?_
  refine xq_aload_n X d_C_time_6 0 rfl rfl ?_
  refine xq_ifnonnull X d_C_time_7 14 (by decide) ?_
  refine xq_aload_n X d_C_time_14 0 rfl rfl ?_
  refine kn_get (v := (F 5)) X hk 5 (by decide) f_C_90 d_C_time_15 rfl ?_
  refine xq_bipush (v := 8) X d_C_time_18 (by decide) ?_
  refine xq_imul X d_C_time_20 ?_
  refine xq_aload_n X d_C_time_21 0 rfl rfl ?_
  refine kn_get (v := (F 4)) X hk 4 (by decide) f_C_93 d_C_time_22 rfl ?_
  refine xq_iadd X d_C_time_25 ?_
  have hh : (c_C_time_in F) = (((F 5) * 8) + (F 4)) := by exact rfl
  exact xq_iret X rfl rfl (by rw [hh]) rfl d_C_time_26
def c_C_time_out : Int32 := (-1)
set_option maxHeartbeats 4000000 in
set_option maxRecDepth 100000 in
theorem ct_C_time_out {l : Launch} {D : va_G} {n : Nat} {ad : xq_I → Nat} {cI cZ cN : ClassId} (hap : xq_ap (kc_cs n) ad) {k : Nat} (hk : k < n) {B : kc_B} {F G E w : Nat → Int32} (h31 : n < 2 ^ 31) (hk0 : ¬ (nI k) < 0) (hkn : (nI k) < (nI n)) (hm : (c_N_isInside F) = 0) :
    xq_M l D vcl (kc_tys cI cZ cN) (kc_cs n) ad (kc_en n ad cI cN) y_C_time (Cond.code y_C_time b_C_time 3 (some .int) :: xw) 2 [.ref (ad (0, 0)), .int (nI k)] (kc_ov B k F G E w) (some (.int (c_C_time_out))) (kc_ov B k F G E w) := by
  refine xq_met (by decide) (Nat.le_of_ble_eq_true rfl) hap ?_
  intro p e s m args below meth c X
  refine xq_sub [1, 0] [(1, .int (nI k)), (0, .ref (ad (0, 0)))] rfl ?_
  refine xq_aload_n X d_C_time_0 1 rfl rfl ?_
  refine xq_iload_n X d_C_time_1 0 rfl rfl ?_
  refine kb_callI (As := [.int (nI k)]) (rest := []) X xw_g g_C_84 (ct_C_fin_out hap hk (F := F) (G := G) (E := E) (w := w) h31 hk0 hkn hm) rfl rfl (by decide) (Nat.le_of_ble_eq_true rfl) rfl d_C_time_2 ?_
  refine xq_astore_nN X d_C_time_5 [(2, .null), (1, .int (nI k)), (0, .ref (ad (0, 0)))] rfl rfl (by decide) ?_
  refine xq_aload_nN X d_C_time_6 0 rfl rfl ?_
  refine xq_ifnonnullN X d_C_time_7 ?_
  refine xq_iconst (v := (-1)) X d_C_time_10 (by decide) ?_
  refine xq_goto X d_C_time_11 26 (by decide) ?_
  have hh : (c_C_time_out) = (-1) := by exact rfl
  exact xq_iret X rfl rfl (by rw [hh]) rfl d_C_time_26
def c_C_time_bad (x : Int32) : Int32 := (-1)
set_option maxHeartbeats 4000000 in
set_option maxRecDepth 100000 in
theorem ct_C_time_bad {l : Launch} {D : va_G} {n : Nat} {ad : xq_I → Nat} {cI cZ cN : ClassId} (hap : xq_ap (kc_cs n) ad) {k : Nat} (hk : k < n) {B : kc_B} {F G E w : Nat → Int32} (x : Int32) (hb : x < 0 ∨ ¬ x < (nI n)) :
    xq_M l D vcl (kc_tys cI cZ cN) (kc_cs n) ad (kc_en n ad cI cN) y_C_time (Cond.code y_C_time b_C_time 3 (some .int) :: xw) 2 [.ref (ad (0, 0)), .int x] (kc_ov B k F G E w) (some (.int (c_C_time_bad x))) (kc_ov B k F G E w) := by
  refine xq_met (by decide) (Nat.le_of_ble_eq_true rfl) hap ?_
  intro p e s m args below meth c X
  refine xq_sub [1, 0] [(1, .int x), (0, .ref (ad (0, 0)))] rfl ?_
  refine xq_aload_n X d_C_time_0 1 rfl rfl ?_
  refine xq_iload_n X d_C_time_1 0 rfl rfl ?_
  refine kb_callI (As := [.int x]) (rest := []) X xw_g g_C_84 (ct_C_fin_bad hap hk (F := F) (G := G) (E := E) (w := w) x hb) rfl rfl (by decide) (Nat.le_of_ble_eq_true rfl) rfl d_C_time_2 ?_
  refine xq_astore_nN X d_C_time_5 [(2, .null), (1, .int x), (0, .ref (ad (0, 0)))] rfl rfl (by decide) ?_
  refine xq_aload_nN X d_C_time_6 0 rfl rfl ?_
  refine xq_ifnonnullN X d_C_time_7 ?_
  refine xq_iconst (v := (-1)) X d_C_time_10 (by decide) ?_
  refine xq_goto X d_C_time_11 26 (by decide) ?_
  have hh : (c_C_time_bad x) = (-1) := by exact rfl
  exact xq_iret X rfl rfl (by rw [hh]) rfl d_C_time_26
def c_C_counts_in (F : Nat → Int32) : Int32 := ((((F 7) * 1024) + ((F 8) * 4)) + (F 12))
set_option maxHeartbeats 4000000 in
set_option maxRecDepth 100000 in
theorem ct_C_counts_in {l : Launch} {D : va_G} {n : Nat} {ad : xq_I → Nat} {cI cZ cN : ClassId} (hap : xq_ap (kc_cs n) ad) {k : Nat} (hk : k < n) {B : kc_B} {F G E w : Nat → Int32} (h31 : n < 2 ^ 31) (hk0 : ¬ (nI k) < 0) (hkn : (nI k) < (nI n)) (hm : ¬ (c_N_isInside F) = 0) :
    xq_M l D vcl (kc_tys cI cZ cN) (kc_cs n) ad (kc_en n ad cI cN) y_C_counts (Cond.code y_C_counts b_C_counts 3 (some .int) :: xw) 2 [.ref (ad (0, 0)), .int (nI k)] (kc_ov B k F G E w) (some (.int (c_C_counts_in F))) (kc_ov B k F G E w) := by
  refine xq_met (by decide) (Nat.le_of_ble_eq_true rfl) hap ?_
  intro p e s m args below meth c X
  refine xq_sub [1, 0] [(1, .int (nI k)), (0, .ref (ad (0, 0)))] rfl ?_
  refine xq_aload_n X d_C_counts_0 1 rfl rfl ?_
  refine xq_iload_n X d_C_counts_1 0 rfl rfl ?_
  refine kb_callI (As := [.int (nI k)]) (rest := []) X xw_g g_C_84 (ct_C_fin_in hap hk (F := F) (G := G) (E := E) (w := w) h31 hk0 hkn hm) rfl rfl (by decide) (Nat.le_of_ble_eq_true rfl) rfl d_C_counts_2 ?_
  refine xq_astore_n X d_C_counts_5 [(2, .ref (ad (3, k))), (1, .int (nI k)), (0, .ref (ad (0, 0)))] rfl rfl (by decide) ?_
  refine xq_aload_n X d_C_counts_6 0 rfl rfl ?_
  refine xq_ifnonnull X d_C_counts_7 14 (by decide) ?_
  refine xq_aload_n X d_C_counts_14 0 rfl rfl ?_
  refine kn_get (v := (F 7)) X hk 7 (by decide) f_C_96 d_C_counts_15 rfl ?_
  refine xq_sipush (v := 1024) X d_C_counts_18 (by decide) ?_
  refine xq_imul X d_C_counts_21 ?_
  refine xq_aload_n X d_C_counts_22 0 rfl rfl ?_
  refine kn_get (v := (F 8)) X hk 8 (by decide) f_C_99 d_C_counts_23 rfl ?_
  refine xq_iconst (v := 4) X d_C_counts_26 (by decide) ?_
  refine xq_imul X d_C_counts_27 ?_
  refine xq_iadd X d_C_counts_28 ?_
  refine xq_aload_n X d_C_counts_29 0 rfl rfl ?_
  refine kn_get (v := (F 12)) X hk 12 (by decide) f_C_102 d_C_counts_30 rfl ?_
  refine xq_iadd X d_C_counts_33 ?_
  have hh : (c_C_counts_in F) = ((((F 7) * 1024) + ((F 8) * 4)) + (F 12)) := by exact rfl
  exact xq_iret X rfl rfl (by rw [hh]) rfl d_C_counts_34
def c_C_counts_out : Int32 := (-1)
set_option maxHeartbeats 4000000 in
set_option maxRecDepth 100000 in
theorem ct_C_counts_out {l : Launch} {D : va_G} {n : Nat} {ad : xq_I → Nat} {cI cZ cN : ClassId} (hap : xq_ap (kc_cs n) ad) {k : Nat} (hk : k < n) {B : kc_B} {F G E w : Nat → Int32} (h31 : n < 2 ^ 31) (hk0 : ¬ (nI k) < 0) (hkn : (nI k) < (nI n)) (hm : (c_N_isInside F) = 0) :
    xq_M l D vcl (kc_tys cI cZ cN) (kc_cs n) ad (kc_en n ad cI cN) y_C_counts (Cond.code y_C_counts b_C_counts 3 (some .int) :: xw) 2 [.ref (ad (0, 0)), .int (nI k)] (kc_ov B k F G E w) (some (.int (c_C_counts_out))) (kc_ov B k F G E w) := by
  refine xq_met (by decide) (Nat.le_of_ble_eq_true rfl) hap ?_
  intro p e s m args below meth c X
  refine xq_sub [1, 0] [(1, .int (nI k)), (0, .ref (ad (0, 0)))] rfl ?_
  refine xq_aload_n X d_C_counts_0 1 rfl rfl ?_
  refine xq_iload_n X d_C_counts_1 0 rfl rfl ?_
  refine kb_callI (As := [.int (nI k)]) (rest := []) X xw_g g_C_84 (ct_C_fin_out hap hk (F := F) (G := G) (E := E) (w := w) h31 hk0 hkn hm) rfl rfl (by decide) (Nat.le_of_ble_eq_true rfl) rfl d_C_counts_2 ?_
  refine xq_astore_nN X d_C_counts_5 [(2, .null), (1, .int (nI k)), (0, .ref (ad (0, 0)))] rfl rfl (by decide) ?_
  refine xq_aload_nN X d_C_counts_6 0 rfl rfl ?_
  refine xq_ifnonnullN X d_C_counts_7 ?_
  refine xq_iconst (v := (-1)) X d_C_counts_10 (by decide) ?_
  refine xq_goto X d_C_counts_11 34 (by decide) ?_
  have hh : (c_C_counts_out) = (-1) := by exact rfl
  exact xq_iret X rfl rfl (by rw [hh]) rfl d_C_counts_34
def c_C_counts_bad (x : Int32) : Int32 := (-1)
set_option maxHeartbeats 4000000 in
set_option maxRecDepth 100000 in
theorem ct_C_counts_bad {l : Launch} {D : va_G} {n : Nat} {ad : xq_I → Nat} {cI cZ cN : ClassId} (hap : xq_ap (kc_cs n) ad) {k : Nat} (hk : k < n) {B : kc_B} {F G E w : Nat → Int32} (x : Int32) (hb : x < 0 ∨ ¬ x < (nI n)) :
    xq_M l D vcl (kc_tys cI cZ cN) (kc_cs n) ad (kc_en n ad cI cN) y_C_counts (Cond.code y_C_counts b_C_counts 3 (some .int) :: xw) 2 [.ref (ad (0, 0)), .int x] (kc_ov B k F G E w) (some (.int (c_C_counts_bad x))) (kc_ov B k F G E w) := by
  refine xq_met (by decide) (Nat.le_of_ble_eq_true rfl) hap ?_
  intro p e s m args below meth c X
  refine xq_sub [1, 0] [(1, .int x), (0, .ref (ad (0, 0)))] rfl ?_
  refine xq_aload_n X d_C_counts_0 1 rfl rfl ?_
  refine xq_iload_n X d_C_counts_1 0 rfl rfl ?_
  refine kb_callI (As := [.int x]) (rest := []) X xw_g g_C_84 (ct_C_fin_bad hap hk (F := F) (G := G) (E := E) (w := w) x hb) rfl rfl (by decide) (Nat.le_of_ble_eq_true rfl) rfl d_C_counts_2 ?_
  refine xq_astore_nN X d_C_counts_5 [(2, .null), (1, .int x), (0, .ref (ad (0, 0)))] rfl rfl (by decide) ?_
  refine xq_aload_nN X d_C_counts_6 0 rfl rfl ?_
  refine xq_ifnonnullN X d_C_counts_7 ?_
  refine xq_iconst (v := (-1)) X d_C_counts_10 (by decide) ?_
  refine xq_goto X d_C_counts_11 34 (by decide) ?_
  have hh : (c_C_counts_bad x) = (-1) := by exact rfl
  exact xq_iret X rfl rfl (by rw [hh]) rfl d_C_counts_34
set_option maxHeartbeats 4000000 in
set_option maxRecDepth 100000 in
theorem ct_C_lose_no {l : Launch} {D : va_G} {n : Nat} {ad : xq_I → Nat} {cI cZ cN : ClassId} (hap : xq_ap (kc_cs n) ad) {k : Nat} (hk : k < n) {B : kc_B} {F G E w : Nat → Int32} (hf : (c_W_hasFrame w) = 0) :
    xq_M l D vcl (kc_tys cI cZ cN) (kc_cs n) ad (kc_en n ad cI cN) y_C_loseMutedFrame (Cond.code y_C_loseMutedFrame b_C_loseMutedFrame 2 none :: xw) 1 [.ref (ad (0, 0))] (kc_ov B k F G E w) none (kc_ov B k F G E w) := by
  refine xq_met (by decide) (Nat.le_of_ble_eq_true rfl) hap ?_
  intro p e s m args below meth c X
  refine xq_eqv (L' := [(0, .ref (ad (0, 0)))]) (st' := []) rfl rfl ?_
  refine xq_aload_n X d_C_loseMutedFrame_0 0 rfl rfl ?_
  refine kb_wire X f_C_30 d_C_loseMutedFrame_1 ?_
  refine kw_callI (As := []) (rest := []) X xw_g g_C_71 (ct_W_hasFrame hap hk) rfl rfl (by decide) (Nat.le_of_ble_eq_true rfl) rfl d_C_loseMutedFrame_4 ?_
  refine xq_if_ne X d_C_loseMutedFrame_7 11 (by decide) (fun h => absurd hf h) (fun _ => ?_)
  exact xq_vret X rfl rfl d_C_loseMutedFrame_10
def c_C_lose_yes (F : Nat → Int32) (w : Nat → Int32) : (Nat → Int32) × (Nat → Int32) := (let z2 : Nat → Int32 := (if (F 16) = 0 then F else (upd F 16 0)); let z3 : Nat → Int32 := (if (F 16) = 0 then w else (c_W_fallSilent w)); (z2, z3))
set_option maxHeartbeats 4000000 in
set_option maxRecDepth 100000 in
theorem ct_C_lose_yes {l : Launch} {D : va_G} {n : Nat} {ad : xq_I → Nat} {cI cZ cN : ClassId} (hap : xq_ap (kc_cs n) ad) {k : Nat} (hk : k < n) {B : kc_B} {F G E w : Nat → Int32} (h31 : n < 2 ^ 31) (hk0 : ¬ (nI k) < 0) (hkn : (nI k) < (nI n)) (hf : ¬ (c_W_hasFrame w) = 0) (hs : (w 1) = nI k) :
    xq_M l D vcl (kc_tys cI cZ cN) (kc_cs n) ad (kc_en n ad cI cN) y_C_loseMutedFrame (Cond.code y_C_loseMutedFrame b_C_loseMutedFrame 2 none :: xw) 1 [.ref (ad (0, 0))] (kc_ov B k F G E w) none (kc_ov B k (c_C_lose_yes F w).1 G E (c_C_lose_yes F w).2) := by
  refine xq_met (by decide) (Nat.le_of_ble_eq_true rfl) hap ?_
  intro p e s m args below meth c X
  refine xq_eqv (L' := [(0, .ref (ad (0, 0)))]) (st' := []) rfl rfl ?_
  refine xq_aload_n X d_C_loseMutedFrame_0 0 rfl rfl ?_
  refine kb_wire X f_C_30 d_C_loseMutedFrame_1 ?_
  refine kw_callI (As := []) (rest := []) X xw_g g_C_71 (ct_W_hasFrame hap hk) rfl rfl (by decide) (Nat.le_of_ble_eq_true rfl) rfl d_C_loseMutedFrame_4 ?_
  refine xq_if_ne X d_C_loseMutedFrame_7 11 (by decide) (fun _ => ?_) (fun h => absurd h hf)
  refine xq_aload_n X d_C_loseMutedFrame_11 0 rfl rfl ?_
  refine xq_aload_n X d_C_loseMutedFrame_12 0 rfl rfl ?_
  refine kb_wire X f_C_30 d_C_loseMutedFrame_13 ?_
  refine kw_get (v := (nI k)) X 1 (by decide) f_C_81 d_C_loseMutedFrame_16 hs ?_
  refine kb_callI (As := [.int (nI k)]) (rest := []) X xw_g g_C_34 (ct_C_find_k hap hk (F := F) (G := G) (E := E) (w := w) h31 hk0 hkn) rfl rfl (by decide) (Nat.le_of_ble_eq_true rfl) rfl d_C_loseMutedFrame_19 ?_
  refine xq_astore_n X d_C_loseMutedFrame_22 [(1, .ref (ad (3, k))), (0, .ref (ad (0, 0)))] rfl rfl (by decide) ?_
  refine xq_aload_n X d_C_loseMutedFrame_23 0 rfl rfl ?_
  refine xq_ifnull X d_C_loseMutedFrame_24 ?_
  refine xq_aload_n X d_C_loseMutedFrame_27 0 rfl rfl ?_
  refine kn_get (v := (F 16)) X hk 16 (by decide) f_C_58 d_C_loseMutedFrame_28 rfl ?_
  have J4 : ∀ (z2 : Nat → Int32) (z3 : Nat → Int32), z2 = (if (F 16) = 0 then F else (upd F 16 0)) → z3 = (if (F 16) = 0 then w else (c_W_fallSilent w)) → xq_W p l e (xq_r 1) s m args below meth c D vcl (kc_cs n) ad (kc_en n ad cI cN) 0 0 (MQ below (xq_Q D vcl (kc_cs n) ad (kc_en n ad cI cN) none (kc_ov B k (c_C_lose_yes F w).1 G E (c_C_lose_yes F w).2)) args s 0 0 (xq_in (kc_cs n) ad)) 2 46 [(1, .ref (ad (3, k))), (0, .ref (ad (0, 0)))] [] (kc_ov B k z2 G E z3) := by
    intro z2 z3 e5 e6
    have hh : (c_C_lose_yes F w) = (z2, z3) := by subst e5; subst e6; exact rfl
    exact xq_vret X rfl (by rw [hh]) d_C_loseMutedFrame_46
  refine xq_if_eq X d_C_loseMutedFrame_31 46 (by decide) (fun h1 => ?_) (fun h1 => ?_)
  · skip
    exact J4 _ _ (if_pos h1).symm (if_pos h1).symm
  · skip
    refine xq_aload_n X d_C_loseMutedFrame_34 0 rfl rfl ?_
    refine xq_iconst (v := 0) X d_C_loseMutedFrame_35 (by decide) ?_
    refine kn_put X hk 16 (by decide) (ty := .boolean) f_C_58 T_N_ok n_N_16 (by decide) (by decide) d_C_loseMutedFrame_36 ?_
    refine xq_aload_n X d_C_loseMutedFrame_39 1 rfl rfl ?_
    refine kb_wire X f_C_30 d_C_loseMutedFrame_40 ?_
    refine kw_callV (As := []) (rest := []) X xw_g g_C_130 (ct_W_fallSilent hap hk) rfl rfl (by decide) (Nat.le_of_ble_eq_true rfl) rfl d_C_loseMutedFrame_43 ?_
    exact J4 _ _ (if_neg h1).symm (if_neg h1).symm
