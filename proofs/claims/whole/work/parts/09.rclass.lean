def r_M_nodes (g : Nat → Int32) : Int32 := (g 0)
set_option maxHeartbeats 4000000 in
set_option maxRecDepth 100000 in
theorem rt_M_nodes {l : Launch} {D : va_G} {ad : xq_I → Nat} {cI cZ cN : ClassId} (hap : xq_ap rc_cs ad) {k : Nat} (hk : k < 6) {A : rc_A} {F E T g f : Nat → Int32}  :
    xq_M l D vcl (kc_tys cI cZ cN) rc_cs ad (rc_en ad cI cZ) y_M_nodes (Cond.code y_M_nodes b_M_nodes 1 (some .int) :: xw) 0 [.ref (ad (6, 0))] (rc_ov A k F E T g f) (some (.int (r_M_nodes g))) (rc_ov A k F E T g f) := by
  refine xq_met (by decide) (Nat.le_of_ble_eq_true rfl) hap ?_
  intro p e s m args below meth c X
  refine xq_eqv (L' := [(0, .ref (ad (6, 0)))]) (st' := []) rfl rfl ?_
  refine xq_aload_n X d_M_nodes_0 0 rfl rfl ?_
  refine rg_get (v := (g 0)) X 0 (by decide) f_M_72 d_M_nodes_1 rfl ?_
  have hh : (r_M_nodes g) = (g 0) := by exact rfl
  exact xq_iret X rfl rfl (by rw [hh]) rfl d_M_nodes_4
def r_M_slots (g : Nat → Int32) : Int32 := (g 18)
set_option maxHeartbeats 4000000 in
set_option maxRecDepth 100000 in
theorem rt_M_slots {l : Launch} {D : va_G} {ad : xq_I → Nat} {cI cZ cN : ClassId} (hap : xq_ap rc_cs ad) {k : Nat} (hk : k < 6) {A : rc_A} {F E T g f : Nat → Int32}  :
    xq_M l D vcl (kc_tys cI cZ cN) rc_cs ad (rc_en ad cI cZ) y_M_slots (Cond.code y_M_slots b_M_slots 1 (some .int) :: xw) 0 [.ref (ad (6, 0))] (rc_ov A k F E T g f) (some (.int (r_M_slots g))) (rc_ov A k F E T g f) := by
  refine xq_met (by decide) (Nat.le_of_ble_eq_true rfl) hap ?_
  intro p e s m args below meth c X
  refine xq_eqv (L' := [(0, .ref (ad (6, 0)))]) (st' := []) rfl rfl ?_
  refine xq_aload_n X d_M_slots_0 0 rfl rfl ?_
  refine rg_get (v := (g 18)) X 18 (by decide) f_M_146 d_M_slots_1 rfl ?_
  have hh : (r_M_slots g) = (g 18) := by exact rfl
  exact xq_iret X rfl rfl (by rw [hh]) rfl d_M_slots_4
def r_M_bus (g : Nat → Int32) : Int32 := (g 20)
set_option maxHeartbeats 4000000 in
set_option maxRecDepth 100000 in
theorem rt_M_bus {l : Launch} {D : va_G} {ad : xq_I → Nat} {cI cZ cN : ClassId} (hap : xq_ap rc_cs ad) {k : Nat} (hk : k < 6) {A : rc_A} {F E T g f : Nat → Int32}  :
    xq_M l D vcl (kc_tys cI cZ cN) rc_cs ad (rc_en ad cI cZ) y_M_bus (Cond.code y_M_bus b_M_bus 1 (some .int) :: xw) 0 [.ref (ad (6, 0))] (rc_ov A k F E T g f) (some (.int (r_M_bus g))) (rc_ov A k F E T g f) := by
  refine xq_met (by decide) (Nat.le_of_ble_eq_true rfl) hap ?_
  intro p e s m args below meth c X
  refine xq_eqv (L' := [(0, .ref (ad (6, 0)))]) (st' := []) rfl rfl ?_
  refine xq_aload_n X d_M_bus_0 0 rfl rfl ?_
  refine rg_get (v := (g 20)) X 20 (by decide) f_M_62 d_M_bus_1 rfl ?_
  have hh : (r_M_bus g) = (g 20) := by exact rfl
  exact xq_iret X rfl rfl (by rw [hh]) rfl d_M_bus_4
def r_M_isNode (g : Nat → Int32) (x : Int32) : Int32 := (if x < 0 then 0 else (if (g 0) ≤ x then 0 else 1))
set_option maxHeartbeats 4000000 in
set_option maxRecDepth 100000 in
theorem rt_M_isNode {l : Launch} {D : va_G} {ad : xq_I → Nat} {cI cZ cN : ClassId} (hap : xq_ap rc_cs ad) {k : Nat} (hk : k < 6) {A : rc_A} {F E T g f : Nat → Int32} (x : Int32)  :
    xq_M l D vcl (kc_tys cI cZ cN) rc_cs ad (rc_en ad cI cZ) y_M_isNode (Cond.code y_M_isNode b_M_isNode 2 (some .boolean) :: xw) 0 [.ref (ad (6, 0)), .int x] (rc_ov A k F E T g f) (some (.int (r_M_isNode g x))) (rc_ov A k F E T g f) := by
  refine xq_met (by decide) (Nat.le_of_ble_eq_true rfl) hap ?_
  intro p e s m args below meth c X
  refine xq_sub [1, 0] [(1, .int x), (0, .ref (ad (6, 0)))] rfl ?_
  refine xq_iload_n X d_M_isNode_0 0 rfl rfl ?_
  refine xq_if_lt X d_M_isNode_1 16 (by decide) (fun h1 => ?_) (fun h1 => ?_)
  · skip
    refine xq_iconst (v := 0) X d_M_isNode_16 (by decide) ?_
    have hh : (r_M_isNode g x) = 0 := by exact (if_pos h1)
    exact xq_iret X rfl (by decide) (by rw [hh]) rfl d_M_isNode_17
  · skip
    refine xq_iload_n X d_M_isNode_4 0 rfl rfl ?_
    refine xq_aload_n X d_M_isNode_5 1 rfl rfl ?_
    refine rg_get (v := (g 0)) X 0 (by decide) f_M_72 d_M_isNode_6 rfl ?_
    refine xq_icmp_ge X d_M_isNode_9 16 (by decide) (fun h2 => ?_) (fun h2 => ?_)
    · skip
      refine xq_iconst (v := 0) X d_M_isNode_16 (by decide) ?_
      have hh : (r_M_isNode g x) = 0 := by exact ((if_neg h1).trans (if_pos h2))
      exact xq_iret X rfl (by decide) (by rw [hh]) rfl d_M_isNode_17
    · skip
      refine xq_iconst (v := 1) X d_M_isNode_12 (by decide) ?_
      refine xq_goto X d_M_isNode_13 17 (by decide) ?_
      have hh : (r_M_isNode g x) = 1 := by exact ((if_neg h1).trans (if_neg h2))
      exact xq_iret X rfl (by decide) (by rw [hh]) rfl d_M_isNode_17
def r_M_inside (F : Nat → Int32) : Int32 := (if (F 1) = 2 then 1 else (if (F 1) = 3 then 1 else (if (F 1) = 4 then 1 else 0)))
set_option maxHeartbeats 4000000 in
set_option maxRecDepth 100000 in
theorem rt_M_inside {l : Launch} {D : va_G} {ad : xq_I → Nat} {cI cZ cN : ClassId} (hap : xq_ap rc_cs ad) {k : Nat} (hk : k < 6) {A : rc_A} {F E T g f : Nat → Int32}  :
    xq_M l D vcl (kc_tys cI cZ cN) rc_cs ad (rc_en ad cI cZ) y_M_inside (Cond.code y_M_inside b_M_inside 2 (some .boolean) :: xw) 0 [.ref (ad (6, 0)), .int (nI k)] (rc_ov A k F E T g f) (some (.int (r_M_inside F))) (rc_ov A k F E T g f) := by
  refine xq_met (by decide) (Nat.le_of_ble_eq_true rfl) hap ?_
  intro p e s m args below meth c X
  refine xq_sub [1, 0] [(1, .int (nI k)), (0, .ref (ad (6, 0)))] rfl ?_
  refine xq_aload_n X d_M_inside_0 1 rfl rfl ?_
  refine rg_row X 1 (by decide) f_M_7 d_M_inside_1 ?_
  refine xq_iload_n X d_M_inside_4 0 rfl rfl ?_
  refine rn_ald (v := (F 1)) X 1 (by decide) hk rfl d_M_inside_5 rfl ?_
  refine xq_iconst (v := 2) X d_M_inside_6 (by decide) ?_
  refine xq_icmp_eq X d_M_inside_7 30 (by decide) (fun h1 => ?_) (fun h1 => ?_)
  · skip
    refine xq_iconst (v := 1) X d_M_inside_30 (by decide) ?_
    refine xq_goto X d_M_inside_31 35 (by decide) ?_
    have hh : (r_M_inside F) = 1 := by exact (if_pos h1)
    exact xq_iret X rfl (by decide) (by rw [hh]) rfl d_M_inside_35
  · skip
    refine xq_aload_n X d_M_inside_10 1 rfl rfl ?_
    refine rg_row X 1 (by decide) f_M_7 d_M_inside_11 ?_
    refine xq_iload_n X d_M_inside_14 0 rfl rfl ?_
    refine rn_ald (v := (F 1)) X 1 (by decide) hk rfl d_M_inside_15 rfl ?_
    refine xq_iconst (v := 3) X d_M_inside_16 (by decide) ?_
    refine xq_icmp_eq X d_M_inside_17 30 (by decide) (fun h2 => ?_) (fun h2 => ?_)
    · skip
      refine xq_iconst (v := 1) X d_M_inside_30 (by decide) ?_
      refine xq_goto X d_M_inside_31 35 (by decide) ?_
      have hh : (r_M_inside F) = 1 := by exact ((if_neg h1).trans (if_pos h2))
      exact xq_iret X rfl (by decide) (by rw [hh]) rfl d_M_inside_35
    · skip
      refine xq_aload_n X d_M_inside_20 1 rfl rfl ?_
      refine rg_row X 1 (by decide) f_M_7 d_M_inside_21 ?_
      refine xq_iload_n X d_M_inside_24 0 rfl rfl ?_
      refine rn_ald (v := (F 1)) X 1 (by decide) hk rfl d_M_inside_25 rfl ?_
      refine xq_iconst (v := 4) X d_M_inside_26 (by decide) ?_
      refine xq_icmp_ne X d_M_inside_27 34 (by decide) (fun h3 => ?_) (fun h3 => ?_)
      · skip
        refine xq_iconst (v := 0) X d_M_inside_34 (by decide) ?_
        have hh : (r_M_inside F) = 0 := by exact ((if_neg h1).trans ((if_neg h2).trans (if_neg h3)))
        exact xq_iret X rfl (by decide) (by rw [hh]) rfl d_M_inside_35
      · skip
        refine xq_iconst (v := 1) X d_M_inside_30 (by decide) ?_
        refine xq_goto X d_M_inside_31 35 (by decide) ?_
        have hh : (r_M_inside F) = 1 := by exact ((if_neg h1).trans ((if_neg h2).trans (if_pos h3)))
        exact xq_iret X rfl (by decide) (by rw [hh]) rfl d_M_inside_35
def r_M_isOn (k : Nat) (F : Nat → Int32) (g : Nat → Int32) : Int32 := (if (r_M_isNode g (nI k)) = 0 then 0 else (if (F 1) = 0 then 0 else 1))
set_option maxHeartbeats 4000000 in
set_option maxRecDepth 100000 in
theorem rt_M_isOn {l : Launch} {D : va_G} {ad : xq_I → Nat} {cI cZ cN : ClassId} (hap : xq_ap rc_cs ad) {k : Nat} (hk : k < 6) {A : rc_A} {F E T g f : Nat → Int32}  :
    xq_M l D vcl (kc_tys cI cZ cN) rc_cs ad (rc_en ad cI cZ) y_M_isOn (Cond.code y_M_isOn b_M_isOn 2 (some .boolean) :: xw) 1 [.ref (ad (6, 0)), .int (nI k)] (rc_ov A k F E T g f) (some (.int (r_M_isOn k F g))) (rc_ov A k F E T g f) := by
  refine xq_met (by decide) (Nat.le_of_ble_eq_true rfl) hap ?_
  intro p e s m args below meth c X
  refine xq_sub [1, 0] [(1, .int (nI k)), (0, .ref (ad (6, 0)))] rfl ?_
  refine xq_aload_n X d_M_isOn_0 1 rfl rfl ?_
  refine xq_iload_n X d_M_isOn_1 0 rfl rfl ?_
  refine rk_callI (As := [.int (nI k)]) (rest := []) X xw_g g_M_75 (rt_M_isNode hap hk (nI k)) rfl rfl (by decide) (Nat.le_of_ble_eq_true rfl) rfl d_M_isOn_2 ?_
  refine xq_if_eq X d_M_isOn_5 21 (by decide) (fun h1 => ?_) (fun h1 => ?_)
  · skip
    refine xq_iconst (v := 0) X d_M_isOn_21 (by decide) ?_
    have hh : (r_M_isOn k F g) = 0 := by exact (if_pos h1)
    exact xq_iret X rfl (by decide) (by rw [hh]) rfl d_M_isOn_22
  · skip
    refine xq_aload_n X d_M_isOn_8 1 rfl rfl ?_
    refine rg_row X 1 (by decide) f_M_7 d_M_isOn_9 ?_
    refine xq_iload_n X d_M_isOn_12 0 rfl rfl ?_
    refine rn_ald (v := (F 1)) X 1 (by decide) hk rfl d_M_isOn_13 rfl ?_
    refine xq_if_eq X d_M_isOn_14 21 (by decide) (fun h2 => ?_) (fun h2 => ?_)
    · skip
      refine xq_iconst (v := 0) X d_M_isOn_21 (by decide) ?_
      have hh : (r_M_isOn k F g) = 0 := by exact ((if_neg h1).trans (if_pos h2))
      exact xq_iret X rfl (by decide) (by rw [hh]) rfl d_M_isOn_22
    · skip
      refine xq_iconst (v := 1) X d_M_isOn_17 (by decide) ?_
      refine xq_goto X d_M_isOn_18 22 (by decide) ?_
      have hh : (r_M_isOn k F g) = 1 := by exact ((if_neg h1).trans (if_neg h2))
      exact xq_iret X rfl (by decide) (by rw [hh]) rfl d_M_isOn_22
def r_M_listen (k : Nat) (F : Nat → Int32) (g : Nat → Int32) : (Nat → Int32) := (upd (upd (upd (upd F 1 1) 6 ((2 * (g 0)) + (nI k))) 7 0) 17 0)
set_option maxHeartbeats 4000000 in
set_option maxRecDepth 100000 in
theorem rt_M_listen {l : Launch} {D : va_G} {ad : xq_I → Nat} {cI cZ cN : ClassId} (hap : xq_ap rc_cs ad) {k : Nat} (hk : k < 6) {A : rc_A} {F E T g f : Nat → Int32}  :
    xq_M l D vcl (kc_tys cI cZ cN) rc_cs ad (rc_en ad cI cZ) y_M_listen (Cond.code y_M_listen b_M_listen 2 none :: xw) 0 [.ref (ad (6, 0)), .int (nI k)] (rc_ov A k F E T g f) none (rc_ov A k (r_M_listen k F g) E T g f) := by
  refine xq_met (by decide) (Nat.le_of_ble_eq_true rfl) hap ?_
  intro p e s m args below meth c X
  refine xq_sub [1, 0] [(1, .int (nI k)), (0, .ref (ad (6, 0)))] rfl ?_
  refine xq_aload_n X d_M_listen_0 1 rfl rfl ?_
  refine rg_row X 1 (by decide) f_M_7 d_M_listen_1 ?_
  refine xq_iload_n X d_M_listen_4 0 rfl rfl ?_
  refine xq_iconst (v := 1) X d_M_listen_5 (by decide) ?_
  refine rn_ast X 1 (by decide) hk rfl d_M_listen_6 ?_
  refine xq_aload_n X d_M_listen_7 1 rfl rfl ?_
  refine rg_row X 6 (by decide) f_M_25 d_M_listen_8 ?_
  refine xq_iload_n X d_M_listen_11 0 rfl rfl ?_
  refine xq_iconst (v := 2) X d_M_listen_12 (by decide) ?_
  refine xq_aload_n X d_M_listen_13 1 rfl rfl ?_
  refine rg_get (v := (g 0)) X 0 (by decide) f_M_72 d_M_listen_14 rfl ?_
  refine xq_imul X d_M_listen_17 ?_
  refine xq_iload_n X d_M_listen_18 0 rfl rfl ?_
  refine xq_iadd X d_M_listen_19 ?_
  refine rn_ast X 6 (by decide) hk rfl d_M_listen_20 ?_
  refine xq_aload_n X d_M_listen_21 1 rfl rfl ?_
  refine rg_row X 7 (by decide) f_M_28 d_M_listen_22 ?_
  refine xq_iload_n X d_M_listen_25 0 rfl rfl ?_
  refine xq_iconst (v := 0) X d_M_listen_26 (by decide) ?_
  refine rz_ast (v' := 0) X 7 (by decide) hk rfl (by decide) d_M_listen_27 ?_
  refine xq_aload_n X d_M_listen_28 1 rfl rfl ?_
  refine rg_row X 17 (by decide) f_M_59 d_M_listen_29 ?_
  refine xq_iload_n X d_M_listen_32 0 rfl rfl ?_
  refine xq_iconst (v := 0) X d_M_listen_33 (by decide) ?_
  refine rn_ast X 17 (by decide) hk rfl d_M_listen_34 ?_
  have hh : (r_M_listen k F g) = (upd (upd (upd (upd F 1 1) 6 ((2 * (g 0)) + (nI k))) 7 0) 17 0) := by exact rfl
  exact xq_vret X rfl (by rw [hh]) d_M_listen_35
def r_M_isOn_bad (x : Int32) : Int32 := 0
set_option maxHeartbeats 4000000 in
set_option maxRecDepth 100000 in
theorem rt_M_isOn_bad {l : Launch} {D : va_G} {ad : xq_I → Nat} {cI cZ cN : ClassId} (hap : xq_ap rc_cs ad) {k : Nat} (hk : k < 6) {A : rc_A} {F E T g f : Nat → Int32} (x : Int32) (hb : (r_M_isNode g x) = 0) :
    xq_M l D vcl (kc_tys cI cZ cN) rc_cs ad (rc_en ad cI cZ) y_M_isOn (Cond.code y_M_isOn b_M_isOn 2 (some .boolean) :: xw) 1 [.ref (ad (6, 0)), .int x] (rc_ov A k F E T g f) (some (.int (r_M_isOn_bad x))) (rc_ov A k F E T g f) := by
  refine xq_met (by decide) (Nat.le_of_ble_eq_true rfl) hap ?_
  intro p e s m args below meth c X
  refine xq_sub [1, 0] [(1, .int x), (0, .ref (ad (6, 0)))] rfl ?_
  refine xq_aload_n X d_M_isOn_0 1 rfl rfl ?_
  refine xq_iload_n X d_M_isOn_1 0 rfl rfl ?_
  refine rk_callI (As := [.int x]) (rest := []) X xw_g g_M_75 (rt_M_isNode hap hk x) rfl rfl (by decide) (Nat.le_of_ble_eq_true rfl) rfl d_M_isOn_2 ?_
  refine xq_if_eq X d_M_isOn_5 21 (by decide) (fun _ => ?_) (fun h => absurd hb h)
  refine xq_iconst (v := 0) X d_M_isOn_21 (by decide) ?_
  have hh : (r_M_isOn_bad x) = 0 := by exact rfl
  exact xq_iret X rfl (by decide) (by rw [hh]) rfl d_M_isOn_22
def r_M_mode (k : Nat) (F : Nat → Int32) (g : Nat → Int32) : Int32 := (let z2 : Int32 := (if (r_M_isNode g (nI k)) = 0 then (-1) else (F 1)); z2)
set_option maxHeartbeats 4000000 in
set_option maxRecDepth 100000 in
theorem rt_M_mode {l : Launch} {D : va_G} {ad : xq_I → Nat} {cI cZ cN : ClassId} (hap : xq_ap rc_cs ad) {k : Nat} (hk : k < 6) {A : rc_A} {F E T g f : Nat → Int32}  :
    xq_M l D vcl (kc_tys cI cZ cN) rc_cs ad (rc_en ad cI cZ) y_M_mode (Cond.code y_M_mode b_M_mode 2 (some .int) :: xw) 1 [.ref (ad (6, 0)), .int (nI k)] (rc_ov A k F E T g f) (some (.int (r_M_mode k F g))) (rc_ov A k F E T g f) := by
  refine xq_met (by decide) (Nat.le_of_ble_eq_true rfl) hap ?_
  intro p e s m args below meth c X
  refine xq_sub [1, 0] [(1, .int (nI k)), (0, .ref (ad (6, 0)))] rfl ?_
  refine xq_aload_n X d_M_mode_0 1 rfl rfl ?_
  refine xq_iload_n X d_M_mode_1 0 rfl rfl ?_
  refine rk_callI (As := [.int (nI k)]) (rest := []) X xw_g g_M_75 (rt_M_isNode hap hk (nI k)) rfl rfl (by decide) (Nat.le_of_ble_eq_true rfl) rfl d_M_mode_2 ?_
  have J3 : ∀ (z2 : Int32), z2 = (if (r_M_isNode g (nI k)) = 0 then (-1) else (F 1)) → xq_W p l e (xq_r 1) s m args below meth c D vcl rc_cs ad (rc_en ad cI cZ) 0 0 (MQ below (xq_Q D vcl rc_cs ad (rc_en ad cI cZ) (some (.int (r_M_mode k F g))) (rc_ov A k F E T g f)) args s 0 0 (xq_in rc_cs ad)) 2 18 [(1, .int (nI k)), (0, .ref (ad (6, 0)))] [.int z2] (rc_ov A k F E T g f) := by
    intro z2 e4
    have hh : (r_M_mode k F g) = z2 := by subst e4; exact rfl
    exact xq_iret X rfl rfl (by rw [hh]) rfl d_M_mode_18
  refine xq_if_eq X d_M_mode_5 17 (by decide) (fun h1 => ?_) (fun h1 => ?_)
  · skip
    refine xq_iconst (v := (-1)) X d_M_mode_17 (by decide) ?_
    exact J3 _ (if_pos h1).symm
  · skip
    refine xq_aload_n X d_M_mode_8 1 rfl rfl ?_
    refine rg_row X 1 (by decide) f_M_7 d_M_mode_9 ?_
    refine xq_iload_n X d_M_mode_12 0 rfl rfl ?_
    refine rn_ald (v := (F 1)) X 1 (by decide) hk rfl d_M_mode_13 rfl ?_
    refine xq_goto X d_M_mode_14 18 (by decide) ?_
    exact J3 _ (if_neg h1).symm
def r_M_mode_bad (x : Int32) : Int32 := (-1)
set_option maxHeartbeats 4000000 in
set_option maxRecDepth 100000 in
theorem rt_M_mode_bad {l : Launch} {D : va_G} {ad : xq_I → Nat} {cI cZ cN : ClassId} (hap : xq_ap rc_cs ad) {k : Nat} (hk : k < 6) {A : rc_A} {F E T g f : Nat → Int32} (x : Int32) (hb : (r_M_isNode g x) = 0) :
    xq_M l D vcl (kc_tys cI cZ cN) rc_cs ad (rc_en ad cI cZ) y_M_mode (Cond.code y_M_mode b_M_mode 2 (some .int) :: xw) 1 [.ref (ad (6, 0)), .int x] (rc_ov A k F E T g f) (some (.int (r_M_mode_bad x))) (rc_ov A k F E T g f) := by
  refine xq_met (by decide) (Nat.le_of_ble_eq_true rfl) hap ?_
  intro p e s m args below meth c X
  refine xq_sub [1, 0] [(1, .int x), (0, .ref (ad (6, 0)))] rfl ?_
  refine xq_aload_n X d_M_mode_0 1 rfl rfl ?_
  refine xq_iload_n X d_M_mode_1 0 rfl rfl ?_
  refine rk_callI (As := [.int x]) (rest := []) X xw_g g_M_75 (rt_M_isNode hap hk x) rfl rfl (by decide) (Nat.le_of_ble_eq_true rfl) rfl d_M_mode_2 ?_
  refine xq_if_eq X d_M_mode_5 17 (by decide) (fun _ => ?_) (fun h => absurd hb h)
  refine xq_iconst (v := (-1)) X d_M_mode_17 (by decide) ?_
  have hh : (r_M_mode_bad x) = (-1) := by exact rfl
  exact xq_iret X rfl rfl (by rw [hh]) rfl d_M_mode_18
def r_M_time (k : Nat) (F : Nat → Int32) (g : Nat → Int32) : Int32 := (let z3 : Int32 := (if (r_M_isNode g (nI k)) = 0 then (-1) else (if (r_M_inside F) = 0 then (-1) else (((F 3) * 8) + (F 2)))); z3)
set_option maxHeartbeats 4000000 in
set_option maxRecDepth 100000 in
theorem rt_M_time {l : Launch} {D : va_G} {ad : xq_I → Nat} {cI cZ cN : ClassId} (hap : xq_ap rc_cs ad) {k : Nat} (hk : k < 6) {A : rc_A} {F E T g f : Nat → Int32}  :
    xq_M l D vcl (kc_tys cI cZ cN) rc_cs ad (rc_en ad cI cZ) y_M_time (Cond.code y_M_time b_M_time 2 (some .int) :: xw) 1 [.ref (ad (6, 0)), .int (nI k)] (rc_ov A k F E T g f) (some (.int (r_M_time k F g))) (rc_ov A k F E T g f) := by
  refine xq_met (by decide) (Nat.le_of_ble_eq_true rfl) hap ?_
  intro p e s m args below meth c X
  refine xq_sub [1, 0] [(1, .int (nI k)), (0, .ref (ad (6, 0)))] rfl ?_
  refine xq_aload_n X d_M_time_0 1 rfl rfl ?_
  refine xq_iload_n X d_M_time_1 0 rfl rfl ?_
  refine rk_callI (As := [.int (nI k)]) (rest := []) X xw_g g_M_75 (rt_M_isNode hap hk (nI k)) rfl rfl (by decide) (Nat.le_of_ble_eq_true rfl) rfl d_M_time_2 ?_
  have J4 : ∀ (z3 : Int32), z3 = (if (r_M_isNode g (nI k)) = 0 then (-1) else (if (r_M_inside F) = 0 then (-1) else (((F 3) * 8) + (F 2)))) → xq_W p l e (xq_r 1) s m args below meth c D vcl rc_cs ad (rc_en ad cI cZ) 0 0 (MQ below (xq_Q D vcl rc_cs ad (rc_en ad cI cZ) (some (.int (r_M_time k F g))) (rc_ov A k F E T g f)) args s 0 0 (xq_in rc_cs ad)) 2 36 [(1, .int (nI k)), (0, .ref (ad (6, 0)))] [.int z3] (rc_ov A k F E T g f) := by
    intro z3 e5
    have hh : (r_M_time k F g) = z3 := by subst e5; exact rfl
    exact xq_iret X rfl rfl (by rw [hh]) rfl d_M_time_36
  refine xq_if_eq X d_M_time_5 35 (by decide) (fun h1 => ?_) (fun h1 => ?_)
  · skip
    refine xq_iconst (v := (-1)) X d_M_time_35 (by decide) ?_
    exact J4 _ (if_pos h1).symm
  · skip
    refine xq_aload_n X d_M_time_8 1 rfl rfl ?_
    refine xq_iload_n X d_M_time_9 0 rfl rfl ?_
    refine rk_callI (As := [.int (nI k)]) (rest := []) X xw_g g_M_86 (rt_M_inside hap hk) rfl rfl (by decide) (Nat.le_of_ble_eq_true rfl) rfl d_M_time_10 ?_
    refine xq_if_eq X d_M_time_13 35 (by decide) (fun h2 => ?_) (fun h2 => ?_)
    · skip
      refine xq_iconst (v := (-1)) X d_M_time_35 (by decide) ?_
      exact J4 _ ((if_neg h1).trans (if_pos h2)).symm
    · skip
      refine xq_aload_n X d_M_time_16 1 rfl rfl ?_
      refine rg_row X 3 (by decide) f_M_16 d_M_time_17 ?_
      refine xq_iload_n X d_M_time_20 0 rfl rfl ?_
      refine rn_ald (v := (F 3)) X 3 (by decide) hk rfl d_M_time_21 rfl ?_
      refine xq_bipush (v := 8) X d_M_time_22 (by decide) ?_
      refine xq_imul X d_M_time_24 ?_
      refine xq_aload_n X d_M_time_25 1 rfl rfl ?_
      refine rg_row X 2 (by decide) f_M_13 d_M_time_26 ?_
      refine xq_iload_n X d_M_time_29 0 rfl rfl ?_
      refine rn_ald (v := (F 2)) X 2 (by decide) hk rfl d_M_time_30 rfl ?_
      refine xq_iadd X d_M_time_31 ?_
      refine xq_goto X d_M_time_32 36 (by decide) ?_
      exact J4 _ ((if_neg h1).trans (if_neg h2)).symm
def r_M_time_bad (x : Int32) : Int32 := (-1)
set_option maxHeartbeats 4000000 in
set_option maxRecDepth 100000 in
theorem rt_M_time_bad {l : Launch} {D : va_G} {ad : xq_I → Nat} {cI cZ cN : ClassId} (hap : xq_ap rc_cs ad) {k : Nat} (hk : k < 6) {A : rc_A} {F E T g f : Nat → Int32} (x : Int32) (hb : (r_M_isNode g x) = 0) :
    xq_M l D vcl (kc_tys cI cZ cN) rc_cs ad (rc_en ad cI cZ) y_M_time (Cond.code y_M_time b_M_time 2 (some .int) :: xw) 1 [.ref (ad (6, 0)), .int x] (rc_ov A k F E T g f) (some (.int (r_M_time_bad x))) (rc_ov A k F E T g f) := by
  refine xq_met (by decide) (Nat.le_of_ble_eq_true rfl) hap ?_
  intro p e s m args below meth c X
  refine xq_sub [1, 0] [(1, .int x), (0, .ref (ad (6, 0)))] rfl ?_
  refine xq_aload_n X d_M_time_0 1 rfl rfl ?_
  refine xq_iload_n X d_M_time_1 0 rfl rfl ?_
  refine rk_callI (As := [.int x]) (rest := []) X xw_g g_M_75 (rt_M_isNode hap hk x) rfl rfl (by decide) (Nat.le_of_ble_eq_true rfl) rfl d_M_time_2 ?_
  refine xq_if_eq X d_M_time_5 35 (by decide) (fun _ => ?_) (fun h => absurd hb h)
  refine xq_iconst (v := (-1)) X d_M_time_35 (by decide) ?_
  have hh : (r_M_time_bad x) = (-1) := by exact rfl
  exact xq_iret X rfl rfl (by rw [hh]) rfl d_M_time_36
def r_M_counts (k : Nat) (F : Nat → Int32) (g : Nat → Int32) : Int32 := (let z3 : Int32 := (if (r_M_isNode g (nI k)) = 0 then (-1) else (if (r_M_inside F) = 0 then (-1) else ((((F 4) * 1024) + ((F 5) * 4)) + (F 9)))); z3)
set_option maxHeartbeats 4000000 in
set_option maxRecDepth 100000 in
theorem rt_M_counts {l : Launch} {D : va_G} {ad : xq_I → Nat} {cI cZ cN : ClassId} (hap : xq_ap rc_cs ad) {k : Nat} (hk : k < 6) {A : rc_A} {F E T g f : Nat → Int32}  :
    xq_M l D vcl (kc_tys cI cZ cN) rc_cs ad (rc_en ad cI cZ) y_M_counts (Cond.code y_M_counts b_M_counts 2 (some .int) :: xw) 1 [.ref (ad (6, 0)), .int (nI k)] (rc_ov A k F E T g f) (some (.int (r_M_counts k F g))) (rc_ov A k F E T g f) := by
  refine xq_met (by decide) (Nat.le_of_ble_eq_true rfl) hap ?_
  intro p e s m args below meth c X
  refine xq_sub [1, 0] [(1, .int (nI k)), (0, .ref (ad (6, 0)))] rfl ?_
  refine xq_aload_n X d_M_counts_0 1 rfl rfl ?_
  refine xq_iload_n X d_M_counts_1 0 rfl rfl ?_
  refine rk_callI (As := [.int (nI k)]) (rest := []) X xw_g g_M_75 (rt_M_isNode hap hk (nI k)) rfl rfl (by decide) (Nat.le_of_ble_eq_true rfl) rfl d_M_counts_2 ?_
  have J4 : ∀ (z3 : Int32), z3 = (if (r_M_isNode g (nI k)) = 0 then (-1) else (if (r_M_inside F) = 0 then (-1) else ((((F 4) * 1024) + ((F 5) * 4)) + (F 9)))) → xq_W p l e (xq_r 1) s m args below meth c D vcl rc_cs ad (rc_en ad cI cZ) 0 0 (MQ below (xq_Q D vcl rc_cs ad (rc_en ad cI cZ) (some (.int (r_M_counts k F g))) (rc_ov A k F E T g f)) args s 0 0 (xq_in rc_cs ad)) 2 46 [(1, .int (nI k)), (0, .ref (ad (6, 0)))] [.int z3] (rc_ov A k F E T g f) := by
    intro z3 e5
    have hh : (r_M_counts k F g) = z3 := by subst e5; exact rfl
    exact xq_iret X rfl rfl (by rw [hh]) rfl d_M_counts_46
  refine xq_if_eq X d_M_counts_5 45 (by decide) (fun h1 => ?_) (fun h1 => ?_)
  · skip
    refine xq_iconst (v := (-1)) X d_M_counts_45 (by decide) ?_
    exact J4 _ (if_pos h1).symm
  · skip
    refine xq_aload_n X d_M_counts_8 1 rfl rfl ?_
    refine xq_iload_n X d_M_counts_9 0 rfl rfl ?_
    refine rk_callI (As := [.int (nI k)]) (rest := []) X xw_g g_M_86 (rt_M_inside hap hk) rfl rfl (by decide) (Nat.le_of_ble_eq_true rfl) rfl d_M_counts_10 ?_
    refine xq_if_eq X d_M_counts_13 45 (by decide) (fun h2 => ?_) (fun h2 => ?_)
    · skip
      refine xq_iconst (v := (-1)) X d_M_counts_45 (by decide) ?_
      exact J4 _ ((if_neg h1).trans (if_pos h2)).symm
    · skip
      refine xq_aload_n X d_M_counts_16 1 rfl rfl ?_
      refine rg_row X 4 (by decide) f_M_19 d_M_counts_17 ?_
      refine xq_iload_n X d_M_counts_20 0 rfl rfl ?_
      refine rn_ald (v := (F 4)) X 4 (by decide) hk rfl d_M_counts_21 rfl ?_
      refine xq_sipush (v := 1024) X d_M_counts_22 (by decide) ?_
      refine xq_imul X d_M_counts_25 ?_
      refine xq_aload_n X d_M_counts_26 1 rfl rfl ?_
      refine rg_row X 5 (by decide) f_M_22 d_M_counts_27 ?_
      refine xq_iload_n X d_M_counts_30 0 rfl rfl ?_
      refine rn_ald (v := (F 5)) X 5 (by decide) hk rfl d_M_counts_31 rfl ?_
      refine xq_iconst (v := 4) X d_M_counts_32 (by decide) ?_
      refine xq_imul X d_M_counts_33 ?_
      refine xq_iadd X d_M_counts_34 ?_
      refine xq_aload_n X d_M_counts_35 1 rfl rfl ?_
      refine rg_row X 9 (by decide) f_M_35 d_M_counts_36 ?_
      refine xq_iload_n X d_M_counts_39 0 rfl rfl ?_
      refine rn_ald (v := (F 9)) X 9 (by decide) hk rfl d_M_counts_40 rfl ?_
      refine xq_iadd X d_M_counts_41 ?_
      refine xq_goto X d_M_counts_42 46 (by decide) ?_
      exact J4 _ ((if_neg h1).trans (if_neg h2)).symm
def r_M_counts_bad (x : Int32) : Int32 := (-1)
set_option maxHeartbeats 4000000 in
set_option maxRecDepth 100000 in
theorem rt_M_counts_bad {l : Launch} {D : va_G} {ad : xq_I → Nat} {cI cZ cN : ClassId} (hap : xq_ap rc_cs ad) {k : Nat} (hk : k < 6) {A : rc_A} {F E T g f : Nat → Int32} (x : Int32) (hb : (r_M_isNode g x) = 0) :
    xq_M l D vcl (kc_tys cI cZ cN) rc_cs ad (rc_en ad cI cZ) y_M_counts (Cond.code y_M_counts b_M_counts 2 (some .int) :: xw) 1 [.ref (ad (6, 0)), .int x] (rc_ov A k F E T g f) (some (.int (r_M_counts_bad x))) (rc_ov A k F E T g f) := by
  refine xq_met (by decide) (Nat.le_of_ble_eq_true rfl) hap ?_
  intro p e s m args below meth c X
  refine xq_sub [1, 0] [(1, .int x), (0, .ref (ad (6, 0)))] rfl ?_
  refine xq_aload_n X d_M_counts_0 1 rfl rfl ?_
  refine xq_iload_n X d_M_counts_1 0 rfl rfl ?_
  refine rk_callI (As := [.int x]) (rest := []) X xw_g g_M_75 (rt_M_isNode hap hk x) rfl rfl (by decide) (Nat.le_of_ble_eq_true rfl) rfl d_M_counts_2 ?_
  refine xq_if_eq X d_M_counts_5 45 (by decide) (fun _ => ?_) (fun h => absurd hb h)
  refine xq_iconst (v := (-1)) X d_M_counts_45 (by decide) ?_
  have hh : (r_M_counts_bad x) = (-1) := by exact rfl
  exact xq_iret X rfl rfl (by rw [hh]) rfl d_M_counts_46
def r_M_patience (k : Nat) (F : Nat → Int32) (g : Nat → Int32) : Int32 := (let z3 : Int32 := (if (r_M_isNode g (nI k)) = 0 then (-1) else (if (F 1) = 1 then (((F 6) * 4) + (F 8)) else (-1))); z3)
set_option maxHeartbeats 4000000 in
set_option maxRecDepth 100000 in
theorem rt_M_patience {l : Launch} {D : va_G} {ad : xq_I → Nat} {cI cZ cN : ClassId} (hap : xq_ap rc_cs ad) {k : Nat} (hk : k < 6) {A : rc_A} {F E T g f : Nat → Int32}  :
    xq_M l D vcl (kc_tys cI cZ cN) rc_cs ad (rc_en ad cI cZ) y_M_patience (Cond.code y_M_patience b_M_patience 2 (some .int) :: xw) 1 [.ref (ad (6, 0)), .int (nI k)] (rc_ov A k F E T g f) (some (.int (r_M_patience k F g))) (rc_ov A k F E T g f) := by
  refine xq_met (by decide) (Nat.le_of_ble_eq_true rfl) hap ?_
  intro p e s m args below meth c X
  refine xq_sub [1, 0] [(1, .int (nI k)), (0, .ref (ad (6, 0)))] rfl ?_
  refine xq_aload_n X d_M_patience_0 1 rfl rfl ?_
  refine xq_iload_n X d_M_patience_1 0 rfl rfl ?_
  refine rk_callI (As := [.int (nI k)]) (rest := []) X xw_g g_M_75 (rt_M_isNode hap hk (nI k)) rfl rfl (by decide) (Nat.le_of_ble_eq_true rfl) rfl d_M_patience_2 ?_
  have J4 : ∀ (z3 : Int32), z3 = (if (r_M_isNode g (nI k)) = 0 then (-1) else (if (F 1) = 1 then (((F 6) * 4) + (F 8)) else (-1))) → xq_W p l e (xq_r 1) s m args below meth c D vcl rc_cs ad (rc_en ad cI cZ) 0 0 (MQ below (xq_Q D vcl rc_cs ad (rc_en ad cI cZ) (some (.int (r_M_patience k F g))) (rc_ov A k F E T g f)) args s 0 0 (xq_in rc_cs ad)) 2 37 [(1, .int (nI k)), (0, .ref (ad (6, 0)))] [.int z3] (rc_ov A k F E T g f) := by
    intro z3 e5
    have hh : (r_M_patience k F g) = z3 := by subst e5; exact rfl
    exact xq_iret X rfl rfl (by rw [hh]) rfl d_M_patience_37
  refine xq_if_eq X d_M_patience_5 36 (by decide) (fun h1 => ?_) (fun h1 => ?_)
  · skip
    refine xq_iconst (v := (-1)) X d_M_patience_36 (by decide) ?_
    exact J4 _ (if_pos h1).symm
  · skip
    refine xq_aload_n X d_M_patience_8 1 rfl rfl ?_
    refine rg_row X 1 (by decide) f_M_7 d_M_patience_9 ?_
    refine xq_iload_n X d_M_patience_12 0 rfl rfl ?_
    refine rn_ald (v := (F 1)) X 1 (by decide) hk rfl d_M_patience_13 rfl ?_
    refine xq_iconst (v := 1) X d_M_patience_14 (by decide) ?_
    refine xq_icmp_ne X d_M_patience_15 36 (by decide) (fun h2 => ?_) (fun h2 => ?_)
    · skip
      refine xq_iconst (v := (-1)) X d_M_patience_36 (by decide) ?_
      exact J4 _ ((if_neg h1).trans (if_neg h2)).symm
    · skip
      refine xq_aload_n X d_M_patience_18 1 rfl rfl ?_
      refine rg_row X 6 (by decide) f_M_25 d_M_patience_19 ?_
      refine xq_iload_n X d_M_patience_22 0 rfl rfl ?_
      refine rn_ald (v := (F 6)) X 6 (by decide) hk rfl d_M_patience_23 rfl ?_
      refine xq_iconst (v := 4) X d_M_patience_24 (by decide) ?_
      refine xq_imul X d_M_patience_25 ?_
      refine xq_aload_n X d_M_patience_26 1 rfl rfl ?_
      refine rg_row X 8 (by decide) f_M_32 d_M_patience_27 ?_
      refine xq_iload_n X d_M_patience_30 0 rfl rfl ?_
      refine rn_ald (v := (F 8)) X 8 (by decide) hk rfl d_M_patience_31 rfl ?_
      refine xq_iadd X d_M_patience_32 ?_
      refine xq_goto X d_M_patience_33 37 (by decide) ?_
      exact J4 _ ((if_neg h1).trans (if_pos h2)).symm
def r_M_patience_bad (x : Int32) : Int32 := (-1)
set_option maxHeartbeats 4000000 in
set_option maxRecDepth 100000 in
theorem rt_M_patience_bad {l : Launch} {D : va_G} {ad : xq_I → Nat} {cI cZ cN : ClassId} (hap : xq_ap rc_cs ad) {k : Nat} (hk : k < 6) {A : rc_A} {F E T g f : Nat → Int32} (x : Int32) (hb : (r_M_isNode g x) = 0) :
    xq_M l D vcl (kc_tys cI cZ cN) rc_cs ad (rc_en ad cI cZ) y_M_patience (Cond.code y_M_patience b_M_patience 2 (some .int) :: xw) 1 [.ref (ad (6, 0)), .int x] (rc_ov A k F E T g f) (some (.int (r_M_patience_bad x))) (rc_ov A k F E T g f) := by
  refine xq_met (by decide) (Nat.le_of_ble_eq_true rfl) hap ?_
  intro p e s m args below meth c X
  refine xq_sub [1, 0] [(1, .int x), (0, .ref (ad (6, 0)))] rfl ?_
  refine xq_aload_n X d_M_patience_0 1 rfl rfl ?_
  refine xq_iload_n X d_M_patience_1 0 rfl rfl ?_
  refine rk_callI (As := [.int x]) (rest := []) X xw_g g_M_75 (rt_M_isNode hap hk x) rfl rfl (by decide) (Nat.le_of_ble_eq_true rfl) rfl d_M_patience_2 ?_
  refine xq_if_eq X d_M_patience_5 36 (by decide) (fun _ => ?_) (fun h => absurd hb h)
  refine xq_iconst (v := (-1)) X d_M_patience_36 (by decide) ?_
  have hh : (r_M_patience_bad x) = (-1) := by exact rfl
  exact xq_iret X rfl rfl (by rw [hh]) rfl d_M_patience_37
def r_M_on (k : Nat) (F : Nat → Int32) (E : Nat → Int32) (g : Nat → Int32) (y : Int32) : (Nat → Int32) × (Nat → Int32) × Int32 := (if (r_M_isNode g (nI k)) = 0 then (F, E, 0) else (if (F 1) = 0 then (if y < (-2) then (F, E, 0) else (if y ≤ 2 then ((upd (upd (upd (upd (upd (upd (upd (r_M_listen k (upd F 12 y) g) 8 3) 11 0) 4 0) 5 0) 2 0) 3 0) 9 0), (upd (upd (upd (upd (upd (upd E 0 0) 1 0) 2 0) 3 0) 4 0) 5 0), 1) else (F, E, 0))) else (F, E, 0)))
set_option maxHeartbeats 4000000 in
set_option maxRecDepth 100000 in
theorem rt_M_on {l : Launch} {D : va_G} {ad : xq_I → Nat} {cI cZ cN : ClassId} (hap : xq_ap rc_cs ad) {k : Nat} (hk : k < 6) {A : rc_A} {F E T g f : Nat → Int32} (y : Int32)  :
    xq_M l D vcl (kc_tys cI cZ cN) rc_cs ad (rc_en ad cI cZ) y_M_on (Cond.code y_M_on b_M_on 4 (some .boolean) :: xw) 1 [.ref (ad (6, 0)), .int (nI k), .int y] (rc_ov A k F E T g f) (some (.int (r_M_on k F E g y).2.2)) (rc_ov A k (r_M_on k F E g y).1 (r_M_on k F E g y).2.1 T g f) := by
  refine xq_met (by decide) (Nat.le_of_ble_eq_true rfl) hap ?_
  intro p e s m args below meth c X
  refine xq_sub [2, 1, 0] [(2, .int y), (1, .int (nI k)), (0, .ref (ad (6, 0)))] rfl ?_
  refine xq_aload_n X d_M_on_0 2 rfl rfl ?_
  refine xq_iload_n X d_M_on_1 1 rfl rfl ?_
  refine rk_callI (As := [.int (nI k)]) (rest := []) X xw_g g_M_75 (rt_M_isNode hap hk (nI k)) rfl rfl (by decide) (Nat.le_of_ble_eq_true rfl) rfl d_M_on_2 ?_
  refine xq_if_eq X d_M_on_5 28 (by decide) (fun h1 => ?_) (fun h1 => ?_)
  · skip
    refine xq_iconst (v := 0) X d_M_on_28 (by decide) ?_
    have hh : (r_M_on k F E g y) = (F, E, 0) := by exact (if_pos h1)
    exact xq_iret X rfl (by decide) (by rw [hh]) (by rw [hh]) d_M_on_29
  · skip
    refine xq_aload_n X d_M_on_8 2 rfl rfl ?_
    refine rg_row X 1 (by decide) f_M_7 d_M_on_9 ?_
    refine xq_iload_n X d_M_on_12 1 rfl rfl ?_
    refine rn_ald (v := (F 1)) X 1 (by decide) hk rfl d_M_on_13 rfl ?_
    refine xq_if_ne X d_M_on_14 28 (by decide) (fun h2 => ?_) (fun h2 => ?_)
    · skip
      refine xq_iconst (v := 0) X d_M_on_28 (by decide) ?_
      have hh : (r_M_on k F E g y) = (F, E, 0) := by exact ((if_neg h1).trans (if_neg h2))
      exact xq_iret X rfl (by decide) (by rw [hh]) (by rw [hh]) d_M_on_29
    · skip
      refine xq_iload_n X d_M_on_17 0 rfl rfl ?_
      refine xq_bipush (v := (-2)) X d_M_on_18 (by decide) ?_
      refine xq_icmp_lt X d_M_on_20 28 (by decide) (fun h3 => ?_) (fun h3 => ?_)
      · skip
        refine xq_iconst (v := 0) X d_M_on_28 (by decide) ?_
        have hh : (r_M_on k F E g y) = (F, E, 0) := by exact ((if_neg h1).trans ((if_pos h2).trans (if_pos h3)))
        exact xq_iret X rfl (by decide) (by rw [hh]) (by rw [hh]) d_M_on_29
      · skip
        refine xq_iload_n X d_M_on_23 0 rfl rfl ?_
        refine xq_iconst (v := 2) X d_M_on_24 (by decide) ?_
        refine xq_icmp_le X d_M_on_25 30 (by decide) (fun h4 => ?_) (fun h4 => ?_)
        · skip
          refine xq_aload_n X d_M_on_30 2 rfl rfl ?_
          refine rg_row X 12 (by decide) f_M_44 d_M_on_31 ?_
          refine xq_iload_n X d_M_on_34 1 rfl rfl ?_
          refine xq_iload_n X d_M_on_35 0 rfl rfl ?_
          refine rn_ast X 12 (by decide) hk rfl d_M_on_36 ?_
          refine xq_aload_n X d_M_on_37 2 rfl rfl ?_
          refine xq_iload_n X d_M_on_38 1 rfl rfl ?_
          refine rk_callV (As := [.int (nI k)]) (rest := []) X xw_g g_M_79 (rt_M_listen hap hk) rfl rfl (by decide) (Nat.le_of_ble_eq_true rfl) rfl d_M_on_39 ?_
          refine xq_aload_n X d_M_on_42 2 rfl rfl ?_
          refine rg_row X 8 (by decide) f_M_32 d_M_on_43 ?_
          refine xq_iload_n X d_M_on_46 1 rfl rfl ?_
          refine xq_iconst (v := 3) X d_M_on_47 (by decide) ?_
          refine rn_ast X 8 (by decide) hk rfl d_M_on_48 ?_
          refine xq_aload_n X d_M_on_49 2 rfl rfl ?_
          refine rg_row X 11 (by decide) f_M_41 d_M_on_50 ?_
          refine xq_iload_n X d_M_on_53 1 rfl rfl ?_
          refine xq_iconst (v := 0) X d_M_on_54 (by decide) ?_
          refine rn_ast X 11 (by decide) hk rfl d_M_on_55 ?_
          refine xq_aload_n X d_M_on_56 2 rfl rfl ?_
          refine rg_row X 4 (by decide) f_M_19 d_M_on_57 ?_
          refine xq_iload_n X d_M_on_60 1 rfl rfl ?_
          refine xq_iconst (v := 0) X d_M_on_61 (by decide) ?_
          refine rn_ast X 4 (by decide) hk rfl d_M_on_62 ?_
          refine xq_aload_n X d_M_on_63 2 rfl rfl ?_
          refine rg_row X 5 (by decide) f_M_22 d_M_on_64 ?_
          refine xq_iload_n X d_M_on_67 1 rfl rfl ?_
          refine xq_iconst (v := 0) X d_M_on_68 (by decide) ?_
          refine rn_ast X 5 (by decide) hk rfl d_M_on_69 ?_
          refine xq_aload_n X d_M_on_70 2 rfl rfl ?_
          refine rg_row X 2 (by decide) f_M_13 d_M_on_71 ?_
          refine xq_iload_n X d_M_on_74 1 rfl rfl ?_
          refine xq_iconst (v := 0) X d_M_on_75 (by decide) ?_
          refine rn_ast X 2 (by decide) hk rfl d_M_on_76 ?_
          refine xq_aload_n X d_M_on_77 2 rfl rfl ?_
          refine rg_row X 3 (by decide) f_M_16 d_M_on_78 ?_
          refine xq_iload_n X d_M_on_81 1 rfl rfl ?_
          refine xq_iconst (v := 0) X d_M_on_82 (by decide) ?_
          refine rn_ast X 3 (by decide) hk rfl d_M_on_83 ?_
          refine xq_aload_n X d_M_on_84 2 rfl rfl ?_
          refine rg_row X 9 (by decide) f_M_35 d_M_on_85 ?_
          refine xq_iload_n X d_M_on_88 1 rfl rfl ?_
          refine xq_iconst (v := 0) X d_M_on_89 (by decide) ?_
          refine rn_ast X 9 (by decide) hk rfl d_M_on_90 ?_
          refine xq_iconst (v := 0) X d_M_on_91 (by decide) ?_
          refine xq_istore_n X d_M_on_92 [(3, .int 0), (2, .int y), (1, .int (nI k)), (0, .ref (ad (6, 0)))] rfl rfl (by decide) ?_
          refine xq_iload_n X d_M_on_93 0 rfl rfl ?_
          refine xq_bipush (v := 6) X d_M_on_94 (by decide) ?_
          refine xq_icmp_ge X d_M_on_96 117 (by decide) (fun h => absurd h (by decide)) (fun _ => ?_)
          refine xq_aload_n X d_M_on_99 3 rfl rfl ?_
          refine rg_row X 15 (by decide) f_M_53 d_M_on_100 ?_
          refine xq_bipush (v := 6) X d_M_on_103 (by decide) ?_
          refine xq_iload_n X d_M_on_105 2 rfl rfl ?_
          refine xq_imul X d_M_on_106 ?_
          refine xq_iload_n X d_M_on_107 0 rfl rfl ?_
          refine xq_iadd X d_M_on_108 ?_
          refine xq_iconst (v := 0) X d_M_on_109 (by decide) ?_
          refine re_ast (v' := 0) X 0 (by decide) hk (ri_6 rfl) (by decide) d_M_on_110 ?_
          refine xq_iinc X d_M_on_111 0 rfl [(3, .int 1), (2, .int y), (1, .int (nI k)), (0, .ref (ad (6, 0)))] rfl (by decide) (by decide) ?_
          refine xq_goto X d_M_on_114 93 (by decide) ?_
          refine xq_iload_n X d_M_on_93 0 rfl rfl ?_
          refine xq_bipush (v := 6) X d_M_on_94 (by decide) ?_
          refine xq_icmp_ge X d_M_on_96 117 (by decide) (fun h => absurd h (by decide)) (fun _ => ?_)
          refine xq_aload_n X d_M_on_99 3 rfl rfl ?_
          refine rg_row X 15 (by decide) f_M_53 d_M_on_100 ?_
          refine xq_bipush (v := 6) X d_M_on_103 (by decide) ?_
          refine xq_iload_n X d_M_on_105 2 rfl rfl ?_
          refine xq_imul X d_M_on_106 ?_
          refine xq_iload_n X d_M_on_107 0 rfl rfl ?_
          refine xq_iadd X d_M_on_108 ?_
          refine xq_iconst (v := 0) X d_M_on_109 (by decide) ?_
          refine re_ast (v' := 0) X 1 (by decide) hk (ri_6 rfl) (by decide) d_M_on_110 ?_
          refine xq_iinc X d_M_on_111 0 rfl [(3, .int 2), (2, .int y), (1, .int (nI k)), (0, .ref (ad (6, 0)))] rfl (by decide) (by decide) ?_
          refine xq_goto X d_M_on_114 93 (by decide) ?_
          refine xq_iload_n X d_M_on_93 0 rfl rfl ?_
          refine xq_bipush (v := 6) X d_M_on_94 (by decide) ?_
          refine xq_icmp_ge X d_M_on_96 117 (by decide) (fun h => absurd h (by decide)) (fun _ => ?_)
          refine xq_aload_n X d_M_on_99 3 rfl rfl ?_
          refine rg_row X 15 (by decide) f_M_53 d_M_on_100 ?_
          refine xq_bipush (v := 6) X d_M_on_103 (by decide) ?_
          refine xq_iload_n X d_M_on_105 2 rfl rfl ?_
          refine xq_imul X d_M_on_106 ?_
          refine xq_iload_n X d_M_on_107 0 rfl rfl ?_
          refine xq_iadd X d_M_on_108 ?_
          refine xq_iconst (v := 0) X d_M_on_109 (by decide) ?_
          refine re_ast (v' := 0) X 2 (by decide) hk (ri_6 rfl) (by decide) d_M_on_110 ?_
          refine xq_iinc X d_M_on_111 0 rfl [(3, .int 3), (2, .int y), (1, .int (nI k)), (0, .ref (ad (6, 0)))] rfl (by decide) (by decide) ?_
          refine xq_goto X d_M_on_114 93 (by decide) ?_
          refine xq_iload_n X d_M_on_93 0 rfl rfl ?_
          refine xq_bipush (v := 6) X d_M_on_94 (by decide) ?_
          refine xq_icmp_ge X d_M_on_96 117 (by decide) (fun h => absurd h (by decide)) (fun _ => ?_)
          refine xq_aload_n X d_M_on_99 3 rfl rfl ?_
          refine rg_row X 15 (by decide) f_M_53 d_M_on_100 ?_
          refine xq_bipush (v := 6) X d_M_on_103 (by decide) ?_
          refine xq_iload_n X d_M_on_105 2 rfl rfl ?_
          refine xq_imul X d_M_on_106 ?_
          refine xq_iload_n X d_M_on_107 0 rfl rfl ?_
          refine xq_iadd X d_M_on_108 ?_
          refine xq_iconst (v := 0) X d_M_on_109 (by decide) ?_
          refine re_ast (v' := 0) X 3 (by decide) hk (ri_6 rfl) (by decide) d_M_on_110 ?_
          refine xq_iinc X d_M_on_111 0 rfl [(3, .int 4), (2, .int y), (1, .int (nI k)), (0, .ref (ad (6, 0)))] rfl (by decide) (by decide) ?_
          refine xq_goto X d_M_on_114 93 (by decide) ?_
          refine xq_iload_n X d_M_on_93 0 rfl rfl ?_
          refine xq_bipush (v := 6) X d_M_on_94 (by decide) ?_
          refine xq_icmp_ge X d_M_on_96 117 (by decide) (fun h => absurd h (by decide)) (fun _ => ?_)
          refine xq_aload_n X d_M_on_99 3 rfl rfl ?_
          refine rg_row X 15 (by decide) f_M_53 d_M_on_100 ?_
          refine xq_bipush (v := 6) X d_M_on_103 (by decide) ?_
          refine xq_iload_n X d_M_on_105 2 rfl rfl ?_
          refine xq_imul X d_M_on_106 ?_
          refine xq_iload_n X d_M_on_107 0 rfl rfl ?_
          refine xq_iadd X d_M_on_108 ?_
          refine xq_iconst (v := 0) X d_M_on_109 (by decide) ?_
          refine re_ast (v' := 0) X 4 (by decide) hk (ri_6 rfl) (by decide) d_M_on_110 ?_
          refine xq_iinc X d_M_on_111 0 rfl [(3, .int 5), (2, .int y), (1, .int (nI k)), (0, .ref (ad (6, 0)))] rfl (by decide) (by decide) ?_
          refine xq_goto X d_M_on_114 93 (by decide) ?_
          refine xq_iload_n X d_M_on_93 0 rfl rfl ?_
          refine xq_bipush (v := 6) X d_M_on_94 (by decide) ?_
          refine xq_icmp_ge X d_M_on_96 117 (by decide) (fun h => absurd h (by decide)) (fun _ => ?_)
          refine xq_aload_n X d_M_on_99 3 rfl rfl ?_
          refine rg_row X 15 (by decide) f_M_53 d_M_on_100 ?_
          refine xq_bipush (v := 6) X d_M_on_103 (by decide) ?_
          refine xq_iload_n X d_M_on_105 2 rfl rfl ?_
          refine xq_imul X d_M_on_106 ?_
          refine xq_iload_n X d_M_on_107 0 rfl rfl ?_
          refine xq_iadd X d_M_on_108 ?_
          refine xq_iconst (v := 0) X d_M_on_109 (by decide) ?_
          refine re_ast (v' := 0) X 5 (by decide) hk (ri_6 rfl) (by decide) d_M_on_110 ?_
          refine xq_iinc X d_M_on_111 0 rfl [(3, .int 6), (2, .int y), (1, .int (nI k)), (0, .ref (ad (6, 0)))] rfl (by decide) (by decide) ?_
          refine xq_goto X d_M_on_114 93 (by decide) ?_
          refine xq_iload_n X d_M_on_93 0 rfl rfl ?_
          refine xq_bipush (v := 6) X d_M_on_94 (by decide) ?_
          refine xq_icmp_ge X d_M_on_96 117 (by decide) (fun _ => ?_) (fun h => absurd h (by decide))
          refine xq_iconst (v := 1) X d_M_on_117 (by decide) ?_
          have hh : (r_M_on k F E g y) = ((upd (upd (upd (upd (upd (upd (upd (r_M_listen k (upd F 12 y) g) 8 3) 11 0) 4 0) 5 0) 2 0) 3 0) 9 0), (upd (upd (upd (upd (upd (upd E 0 0) 1 0) 2 0) 3 0) 4 0) 5 0), 1) := by exact ((if_neg h1).trans ((if_pos h2).trans ((if_neg h3).trans (if_pos h4))))
          exact xq_iret X rfl (by decide) (by rw [hh]) (by rw [hh]) d_M_on_118
        · skip
          refine xq_iconst (v := 0) X d_M_on_28 (by decide) ?_
          have hh : (r_M_on k F E g y) = (F, E, 0) := by exact ((if_neg h1).trans ((if_pos h2).trans ((if_neg h3).trans (if_neg h4))))
          exact xq_iret X rfl (by decide) (by rw [hh]) (by rw [hh]) d_M_on_29
def r_M_on_bad (x : Int32) (y : Int32) : Int32 := 0
set_option maxHeartbeats 4000000 in
set_option maxRecDepth 100000 in
theorem rt_M_on_bad {l : Launch} {D : va_G} {ad : xq_I → Nat} {cI cZ cN : ClassId} (hap : xq_ap rc_cs ad) {k : Nat} (hk : k < 6) {A : rc_A} {F E T g f : Nat → Int32} (x : Int32) (y : Int32) (hb : (r_M_isNode g x) = 0) :
    xq_M l D vcl (kc_tys cI cZ cN) rc_cs ad (rc_en ad cI cZ) y_M_on (Cond.code y_M_on b_M_on 4 (some .boolean) :: xw) 1 [.ref (ad (6, 0)), .int x, .int y] (rc_ov A k F E T g f) (some (.int (r_M_on_bad x y))) (rc_ov A k F E T g f) := by
  refine xq_met (by decide) (Nat.le_of_ble_eq_true rfl) hap ?_
  intro p e s m args below meth c X
  refine xq_sub [2, 1, 0] [(2, .int y), (1, .int x), (0, .ref (ad (6, 0)))] rfl ?_
  refine xq_aload_n X d_M_on_0 2 rfl rfl ?_
  refine xq_iload_n X d_M_on_1 1 rfl rfl ?_
  refine rk_callI (As := [.int x]) (rest := []) X xw_g g_M_75 (rt_M_isNode hap hk x) rfl rfl (by decide) (Nat.le_of_ble_eq_true rfl) rfl d_M_on_2 ?_
  refine xq_if_eq X d_M_on_5 28 (by decide) (fun _ => ?_) (fun h => absurd hb h)
  refine xq_iconst (v := 0) X d_M_on_28 (by decide) ?_
  have hh : (r_M_on_bad x y) = 0 := by exact rfl
  exact xq_iret X rfl (by decide) (by rw [hh]) rfl d_M_on_29
def r_M_thaw (k : Nat) (F : Nat → Int32) (g : Nat → Int32) : (Nat → Int32) × Int32 := (if (r_M_isNode g (nI k)) = 0 then (F, 0) else (if (F 1) = 5 then ((upd (r_M_listen k F g) 8 3), 1) else (F, 0)))
set_option maxHeartbeats 4000000 in
set_option maxRecDepth 100000 in
theorem rt_M_thaw {l : Launch} {D : va_G} {ad : xq_I → Nat} {cI cZ cN : ClassId} (hap : xq_ap rc_cs ad) {k : Nat} (hk : k < 6) {A : rc_A} {F E T g f : Nat → Int32}  :
    xq_M l D vcl (kc_tys cI cZ cN) rc_cs ad (rc_en ad cI cZ) y_M_thaw (Cond.code y_M_thaw b_M_thaw 2 (some .boolean) :: xw) 1 [.ref (ad (6, 0)), .int (nI k)] (rc_ov A k F E T g f) (some (.int (r_M_thaw k F g).2)) (rc_ov A k (r_M_thaw k F g).1 E T g f) := by
  refine xq_met (by decide) (Nat.le_of_ble_eq_true rfl) hap ?_
  intro p e s m args below meth c X
  refine xq_sub [1, 0] [(1, .int (nI k)), (0, .ref (ad (6, 0)))] rfl ?_
  refine xq_aload_n X d_M_thaw_0 1 rfl rfl ?_
  refine xq_iload_n X d_M_thaw_1 0 rfl rfl ?_
  refine rk_callI (As := [.int (nI k)]) (rest := []) X xw_g g_M_75 (rt_M_isNode hap hk (nI k)) rfl rfl (by decide) (Nat.le_of_ble_eq_true rfl) rfl d_M_thaw_2 ?_
  refine xq_if_eq X d_M_thaw_5 18 (by decide) (fun h1 => ?_) (fun h1 => ?_)
  · skip
    refine xq_iconst (v := 0) X d_M_thaw_18 (by decide) ?_
    have hh : (r_M_thaw k F g) = (F, 0) := by exact (if_pos h1)
    exact xq_iret X rfl (by decide) (by rw [hh]) (by rw [hh]) d_M_thaw_19
  · skip
    refine xq_aload_n X d_M_thaw_8 1 rfl rfl ?_
    refine rg_row X 1 (by decide) f_M_7 d_M_thaw_9 ?_
    refine xq_iload_n X d_M_thaw_12 0 rfl rfl ?_
    refine rn_ald (v := (F 1)) X 1 (by decide) hk rfl d_M_thaw_13 rfl ?_
    refine xq_iconst (v := 5) X d_M_thaw_14 (by decide) ?_
    refine xq_icmp_eq X d_M_thaw_15 20 (by decide) (fun h2 => ?_) (fun h2 => ?_)
    · skip
      refine xq_aload_n X d_M_thaw_20 1 rfl rfl ?_
      refine xq_iload_n X d_M_thaw_21 0 rfl rfl ?_
      refine rk_callV (As := [.int (nI k)]) (rest := []) X xw_g g_M_79 (rt_M_listen hap hk) rfl rfl (by decide) (Nat.le_of_ble_eq_true rfl) rfl d_M_thaw_22 ?_
      refine xq_aload_n X d_M_thaw_25 1 rfl rfl ?_
      refine rg_row X 8 (by decide) f_M_32 d_M_thaw_26 ?_
      refine xq_iload_n X d_M_thaw_29 0 rfl rfl ?_
      refine xq_iconst (v := 3) X d_M_thaw_30 (by decide) ?_
      refine rn_ast X 8 (by decide) hk rfl d_M_thaw_31 ?_
      refine xq_iconst (v := 1) X d_M_thaw_32 (by decide) ?_
      have hh : (r_M_thaw k F g) = ((upd (r_M_listen k F g) 8 3), 1) := by exact ((if_neg h1).trans (if_pos h2))
      exact xq_iret X rfl (by decide) (by rw [hh]) (by rw [hh]) d_M_thaw_33
    · skip
      refine xq_iconst (v := 0) X d_M_thaw_18 (by decide) ?_
      have hh : (r_M_thaw k F g) = (F, 0) := by exact ((if_neg h1).trans (if_neg h2))
      exact xq_iret X rfl (by decide) (by rw [hh]) (by rw [hh]) d_M_thaw_19
def r_M_thaw_bad (x : Int32) : Int32 := 0
set_option maxHeartbeats 4000000 in
set_option maxRecDepth 100000 in
theorem rt_M_thaw_bad {l : Launch} {D : va_G} {ad : xq_I → Nat} {cI cZ cN : ClassId} (hap : xq_ap rc_cs ad) {k : Nat} (hk : k < 6) {A : rc_A} {F E T g f : Nat → Int32} (x : Int32) (hb : (r_M_isNode g x) = 0) :
    xq_M l D vcl (kc_tys cI cZ cN) rc_cs ad (rc_en ad cI cZ) y_M_thaw (Cond.code y_M_thaw b_M_thaw 2 (some .boolean) :: xw) 1 [.ref (ad (6, 0)), .int x] (rc_ov A k F E T g f) (some (.int (r_M_thaw_bad x))) (rc_ov A k F E T g f) := by
  refine xq_met (by decide) (Nat.le_of_ble_eq_true rfl) hap ?_
  intro p e s m args below meth c X
  refine xq_sub [1, 0] [(1, .int x), (0, .ref (ad (6, 0)))] rfl ?_
  refine xq_aload_n X d_M_thaw_0 1 rfl rfl ?_
  refine xq_iload_n X d_M_thaw_1 0 rfl rfl ?_
  refine rk_callI (As := [.int x]) (rest := []) X xw_g g_M_75 (rt_M_isNode hap hk x) rfl rfl (by decide) (Nat.le_of_ble_eq_true rfl) rfl d_M_thaw_2 ?_
  refine xq_if_eq X d_M_thaw_5 18 (by decide) (fun _ => ?_) (fun h => absurd hb h)
  refine xq_iconst (v := 0) X d_M_thaw_18 (by decide) ?_
  have hh : (r_M_thaw_bad x) = 0 := by exact rfl
  exact xq_iret X rfl (by decide) (by rw [hh]) rfl d_M_thaw_19
def r_M_off (k : Nat) (F : Nat → Int32) (g : Nat → Int32) : (Nat → Int32) × Int32 := (if (r_M_isOn k F g) = 0 then (F, 0) else ((upd (upd (upd F 1 0) 13 0) 14 0), 1))
set_option maxHeartbeats 4000000 in
set_option maxRecDepth 100000 in
theorem rt_M_off {l : Launch} {D : va_G} {ad : xq_I → Nat} {cI cZ cN : ClassId} (hap : xq_ap rc_cs ad) {k : Nat} (hk : k < 6) {A : rc_A} {F E T g f : Nat → Int32}  :
    xq_M l D vcl (kc_tys cI cZ cN) rc_cs ad (rc_en ad cI cZ) y_M_off (Cond.code y_M_off b_M_off 2 (some .boolean) :: xw) 2 [.ref (ad (6, 0)), .int (nI k)] (rc_ov A k F E T g f) (some (.int (r_M_off k F g).2)) (rc_ov A k (r_M_off k F g).1 E T g f) := by
  refine xq_met (by decide) (Nat.le_of_ble_eq_true rfl) hap ?_
  intro p e s m args below meth c X
  refine xq_sub [1, 0] [(1, .int (nI k)), (0, .ref (ad (6, 0)))] rfl ?_
  refine xq_aload_n X d_M_off_0 1 rfl rfl ?_
  refine xq_iload_n X d_M_off_1 0 rfl rfl ?_
  refine rk_callI (As := [.int (nI k)]) (rest := []) X xw_g g_M_83 (rt_M_isOn hap hk) rfl rfl (by decide) (Nat.le_of_ble_eq_true rfl) rfl d_M_off_2 ?_
  refine xq_if_ne X d_M_off_5 10 (by decide) (fun h1 => ?_) (fun h1 => ?_)
  · skip
    refine xq_aload_n X d_M_off_10 1 rfl rfl ?_
    refine rg_row X 1 (by decide) f_M_7 d_M_off_11 ?_
    refine xq_iload_n X d_M_off_14 0 rfl rfl ?_
    refine xq_iconst (v := 0) X d_M_off_15 (by decide) ?_
    refine rn_ast X 1 (by decide) hk rfl d_M_off_16 ?_
    refine xq_aload_n X d_M_off_17 1 rfl rfl ?_
    refine rg_row X 13 (by decide) f_M_47 d_M_off_18 ?_
    refine xq_iload_n X d_M_off_21 0 rfl rfl ?_
    refine xq_iconst (v := 0) X d_M_off_22 (by decide) ?_
    refine rz_ast (v' := 0) X 13 (by decide) hk rfl (by decide) d_M_off_23 ?_
    refine xq_aload_n X d_M_off_24 1 rfl rfl ?_
    refine rg_row X 14 (by decide) f_M_50 d_M_off_25 ?_
    refine xq_iload_n X d_M_off_28 0 rfl rfl ?_
    refine xq_iconst (v := 0) X d_M_off_29 (by decide) ?_
    refine rz_ast (v' := 0) X 14 (by decide) hk rfl (by decide) d_M_off_30 ?_
    refine xq_iconst (v := 1) X d_M_off_31 (by decide) ?_
    have hh : (r_M_off k F g) = ((upd (upd (upd F 1 0) 13 0) 14 0), 1) := by exact (if_neg h1)
    exact xq_iret X rfl (by decide) (by rw [hh]) (by rw [hh]) d_M_off_32
  · skip
    refine xq_iconst (v := 0) X d_M_off_8 (by decide) ?_
    have hh : (r_M_off k F g) = (F, 0) := by exact (if_pos h1)
    exact xq_iret X rfl (by decide) (by rw [hh]) (by rw [hh]) d_M_off_9
def r_M_off_bad (x : Int32) : Int32 := 0
set_option maxHeartbeats 4000000 in
set_option maxRecDepth 100000 in
theorem rt_M_off_bad {l : Launch} {D : va_G} {ad : xq_I → Nat} {cI cZ cN : ClassId} (hap : xq_ap rc_cs ad) {k : Nat} (hk : k < 6) {A : rc_A} {F E T g f : Nat → Int32} (x : Int32) (hb : (r_M_isNode g x) = 0) :
    xq_M l D vcl (kc_tys cI cZ cN) rc_cs ad (rc_en ad cI cZ) y_M_off (Cond.code y_M_off b_M_off 2 (some .boolean) :: xw) 2 [.ref (ad (6, 0)), .int x] (rc_ov A k F E T g f) (some (.int (r_M_off_bad x))) (rc_ov A k F E T g f) := by
  refine xq_met (by decide) (Nat.le_of_ble_eq_true rfl) hap ?_
  intro p e s m args below meth c X
  refine xq_sub [1, 0] [(1, .int x), (0, .ref (ad (6, 0)))] rfl ?_
  refine xq_aload_n X d_M_off_0 1 rfl rfl ?_
  refine xq_iload_n X d_M_off_1 0 rfl rfl ?_
  refine rk_callI (As := [.int x]) (rest := []) X xw_g g_M_83 (rt_M_isOn_bad hap hk x hb) rfl rfl (by decide) (Nat.le_of_ble_eq_true rfl) rfl d_M_off_2 ?_
  refine xq_if_ne X d_M_off_5 10 (by decide) (fun h => absurd (show r_M_isOn_bad x = 0 from rfl) h) (fun _ => ?_)
  refine xq_iconst (v := 0) X d_M_off_8 (by decide) ?_
  have hh : (r_M_off_bad x) = 0 := by exact rfl
  exact xq_iret X rfl (by decide) (by rw [hh]) rfl d_M_off_9
def r_M_mute (k : Nat) (F : Nat → Int32) (g : Nat → Int32) : (Nat → Int32) × Int32 := (if (r_M_isOn k F g) = 0 then (F, 0) else (if (F 13) = 0 then ((upd F 13 1), 1) else (F, 0)))
set_option maxHeartbeats 4000000 in
set_option maxRecDepth 100000 in
theorem rt_M_mute {l : Launch} {D : va_G} {ad : xq_I → Nat} {cI cZ cN : ClassId} (hap : xq_ap rc_cs ad) {k : Nat} (hk : k < 6) {A : rc_A} {F E T g f : Nat → Int32}  :
    xq_M l D vcl (kc_tys cI cZ cN) rc_cs ad (rc_en ad cI cZ) y_M_mute (Cond.code y_M_mute b_M_mute 2 (some .boolean) :: xw) 2 [.ref (ad (6, 0)), .int (nI k)] (rc_ov A k F E T g f) (some (.int (r_M_mute k F g).2)) (rc_ov A k (r_M_mute k F g).1 E T g f) := by
  refine xq_met (by decide) (Nat.le_of_ble_eq_true rfl) hap ?_
  intro p e s m args below meth c X
  refine xq_sub [1, 0] [(1, .int (nI k)), (0, .ref (ad (6, 0)))] rfl ?_
  refine xq_aload_n X d_M_mute_0 1 rfl rfl ?_
  refine xq_iload_n X d_M_mute_1 0 rfl rfl ?_
  refine rk_callI (As := [.int (nI k)]) (rest := []) X xw_g g_M_83 (rt_M_isOn hap hk) rfl rfl (by decide) (Nat.le_of_ble_eq_true rfl) rfl d_M_mute_2 ?_
  refine xq_if_eq X d_M_mute_5 17 (by decide) (fun h1 => ?_) (fun h1 => ?_)
  · skip
    refine xq_iconst (v := 0) X d_M_mute_17 (by decide) ?_
    have hh : (r_M_mute k F g) = (F, 0) := by exact (if_pos h1)
    exact xq_iret X rfl (by decide) (by rw [hh]) (by rw [hh]) d_M_mute_18
  · skip
    refine xq_aload_n X d_M_mute_8 1 rfl rfl ?_
    refine rg_row X 13 (by decide) f_M_47 d_M_mute_9 ?_
    refine xq_iload_n X d_M_mute_12 0 rfl rfl ?_
    refine rz_ald (v := (F 13)) X 13 (by decide) hk rfl d_M_mute_13 rfl ?_
    refine xq_if_eq X d_M_mute_14 19 (by decide) (fun h2 => ?_) (fun h2 => ?_)
    · skip
      refine xq_aload_n X d_M_mute_19 1 rfl rfl ?_
      refine rg_row X 13 (by decide) f_M_47 d_M_mute_20 ?_
      refine xq_iload_n X d_M_mute_23 0 rfl rfl ?_
      refine xq_iconst (v := 1) X d_M_mute_24 (by decide) ?_
      refine rz_ast (v' := 1) X 13 (by decide) hk rfl (by decide) d_M_mute_25 ?_
      refine xq_iconst (v := 1) X d_M_mute_26 (by decide) ?_
      have hh : (r_M_mute k F g) = ((upd F 13 1), 1) := by exact ((if_neg h1).trans (if_pos h2))
      exact xq_iret X rfl (by decide) (by rw [hh]) (by rw [hh]) d_M_mute_27
    · skip
      refine xq_iconst (v := 0) X d_M_mute_17 (by decide) ?_
      have hh : (r_M_mute k F g) = (F, 0) := by exact ((if_neg h1).trans (if_neg h2))
      exact xq_iret X rfl (by decide) (by rw [hh]) (by rw [hh]) d_M_mute_18
def r_M_mute_bad (x : Int32) : Int32 := 0
set_option maxHeartbeats 4000000 in
set_option maxRecDepth 100000 in
theorem rt_M_mute_bad {l : Launch} {D : va_G} {ad : xq_I → Nat} {cI cZ cN : ClassId} (hap : xq_ap rc_cs ad) {k : Nat} (hk : k < 6) {A : rc_A} {F E T g f : Nat → Int32} (x : Int32) (hb : (r_M_isNode g x) = 0) :
    xq_M l D vcl (kc_tys cI cZ cN) rc_cs ad (rc_en ad cI cZ) y_M_mute (Cond.code y_M_mute b_M_mute 2 (some .boolean) :: xw) 2 [.ref (ad (6, 0)), .int x] (rc_ov A k F E T g f) (some (.int (r_M_mute_bad x))) (rc_ov A k F E T g f) := by
  refine xq_met (by decide) (Nat.le_of_ble_eq_true rfl) hap ?_
  intro p e s m args below meth c X
  refine xq_sub [1, 0] [(1, .int x), (0, .ref (ad (6, 0)))] rfl ?_
  refine xq_aload_n X d_M_mute_0 1 rfl rfl ?_
  refine xq_iload_n X d_M_mute_1 0 rfl rfl ?_
  refine rk_callI (As := [.int x]) (rest := []) X xw_g g_M_83 (rt_M_isOn_bad hap hk x hb) rfl rfl (by decide) (Nat.le_of_ble_eq_true rfl) rfl d_M_mute_2 ?_
  refine xq_if_eq X d_M_mute_5 17 (by decide) (fun _ => ?_) (fun h => absurd (show r_M_isOn_bad x = 0 from rfl) h)
  refine xq_iconst (v := 0) X d_M_mute_17 (by decide) ?_
  have hh : (r_M_mute_bad x) = 0 := by exact rfl
  exact xq_iret X rfl (by decide) (by rw [hh]) rfl d_M_mute_18
def r_M_deafen (k : Nat) (F : Nat → Int32) (g : Nat → Int32) : (Nat → Int32) × Int32 := (if (r_M_isOn k F g) = 0 then (F, 0) else (if (F 14) = 0 then ((upd F 14 1), 1) else (F, 0)))
set_option maxHeartbeats 4000000 in
set_option maxRecDepth 100000 in
theorem rt_M_deafen {l : Launch} {D : va_G} {ad : xq_I → Nat} {cI cZ cN : ClassId} (hap : xq_ap rc_cs ad) {k : Nat} (hk : k < 6) {A : rc_A} {F E T g f : Nat → Int32}  :
    xq_M l D vcl (kc_tys cI cZ cN) rc_cs ad (rc_en ad cI cZ) y_M_deafen (Cond.code y_M_deafen b_M_deafen 2 (some .boolean) :: xw) 2 [.ref (ad (6, 0)), .int (nI k)] (rc_ov A k F E T g f) (some (.int (r_M_deafen k F g).2)) (rc_ov A k (r_M_deafen k F g).1 E T g f) := by
  refine xq_met (by decide) (Nat.le_of_ble_eq_true rfl) hap ?_
  intro p e s m args below meth c X
  refine xq_sub [1, 0] [(1, .int (nI k)), (0, .ref (ad (6, 0)))] rfl ?_
  refine xq_aload_n X d_M_deafen_0 1 rfl rfl ?_
  refine xq_iload_n X d_M_deafen_1 0 rfl rfl ?_
  refine rk_callI (As := [.int (nI k)]) (rest := []) X xw_g g_M_83 (rt_M_isOn hap hk) rfl rfl (by decide) (Nat.le_of_ble_eq_true rfl) rfl d_M_deafen_2 ?_
  refine xq_if_eq X d_M_deafen_5 17 (by decide) (fun h1 => ?_) (fun h1 => ?_)
  · skip
    refine xq_iconst (v := 0) X d_M_deafen_17 (by decide) ?_
    have hh : (r_M_deafen k F g) = (F, 0) := by exact (if_pos h1)
    exact xq_iret X rfl (by decide) (by rw [hh]) (by rw [hh]) d_M_deafen_18
  · skip
    refine xq_aload_n X d_M_deafen_8 1 rfl rfl ?_
    refine rg_row X 14 (by decide) f_M_50 d_M_deafen_9 ?_
    refine xq_iload_n X d_M_deafen_12 0 rfl rfl ?_
    refine rz_ald (v := (F 14)) X 14 (by decide) hk rfl d_M_deafen_13 rfl ?_
    refine xq_if_eq X d_M_deafen_14 19 (by decide) (fun h2 => ?_) (fun h2 => ?_)
    · skip
      refine xq_aload_n X d_M_deafen_19 1 rfl rfl ?_
      refine rg_row X 14 (by decide) f_M_50 d_M_deafen_20 ?_
      refine xq_iload_n X d_M_deafen_23 0 rfl rfl ?_
      refine xq_iconst (v := 1) X d_M_deafen_24 (by decide) ?_
      refine rz_ast (v' := 1) X 14 (by decide) hk rfl (by decide) d_M_deafen_25 ?_
      refine xq_iconst (v := 1) X d_M_deafen_26 (by decide) ?_
      have hh : (r_M_deafen k F g) = ((upd F 14 1), 1) := by exact ((if_neg h1).trans (if_pos h2))
      exact xq_iret X rfl (by decide) (by rw [hh]) (by rw [hh]) d_M_deafen_27
    · skip
      refine xq_iconst (v := 0) X d_M_deafen_17 (by decide) ?_
      have hh : (r_M_deafen k F g) = (F, 0) := by exact ((if_neg h1).trans (if_neg h2))
      exact xq_iret X rfl (by decide) (by rw [hh]) (by rw [hh]) d_M_deafen_18
def r_M_deafen_bad (x : Int32) : Int32 := 0
set_option maxHeartbeats 4000000 in
set_option maxRecDepth 100000 in
theorem rt_M_deafen_bad {l : Launch} {D : va_G} {ad : xq_I → Nat} {cI cZ cN : ClassId} (hap : xq_ap rc_cs ad) {k : Nat} (hk : k < 6) {A : rc_A} {F E T g f : Nat → Int32} (x : Int32) (hb : (r_M_isNode g x) = 0) :
    xq_M l D vcl (kc_tys cI cZ cN) rc_cs ad (rc_en ad cI cZ) y_M_deafen (Cond.code y_M_deafen b_M_deafen 2 (some .boolean) :: xw) 2 [.ref (ad (6, 0)), .int x] (rc_ov A k F E T g f) (some (.int (r_M_deafen_bad x))) (rc_ov A k F E T g f) := by
  refine xq_met (by decide) (Nat.le_of_ble_eq_true rfl) hap ?_
  intro p e s m args below meth c X
  refine xq_sub [1, 0] [(1, .int x), (0, .ref (ad (6, 0)))] rfl ?_
  refine xq_aload_n X d_M_deafen_0 1 rfl rfl ?_
  refine xq_iload_n X d_M_deafen_1 0 rfl rfl ?_
  refine rk_callI (As := [.int x]) (rest := []) X xw_g g_M_83 (rt_M_isOn_bad hap hk x hb) rfl rfl (by decide) (Nat.le_of_ble_eq_true rfl) rfl d_M_deafen_2 ?_
  refine xq_if_eq X d_M_deafen_5 17 (by decide) (fun _ => ?_) (fun h => absurd (show r_M_isOn_bad x = 0 from rfl) h)
  refine xq_iconst (v := 0) X d_M_deafen_17 (by decide) ?_
  have hh : (r_M_deafen_bad x) = 0 := by exact rfl
  exact xq_iret X rfl (by decide) (by rw [hh]) rfl d_M_deafen_18
def r_M_shift (k : Nat) (F : Nat → Int32) (g : Nat → Int32) (y : Int32) : (Nat → Int32) × Int32 := (if (r_M_isOn k F g) = 0 then (F, 0) else (if y < (-1000) then (F, 0) else (if y ≤ 1000 then ((upd F 11 ((F 11) + y)), 1) else (F, 0))))
set_option maxHeartbeats 4000000 in
set_option maxRecDepth 100000 in
theorem rt_M_shift {l : Launch} {D : va_G} {ad : xq_I → Nat} {cI cZ cN : ClassId} (hap : xq_ap rc_cs ad) {k : Nat} (hk : k < 6) {A : rc_A} {F E T g f : Nat → Int32} (y : Int32)  :
    xq_M l D vcl (kc_tys cI cZ cN) rc_cs ad (rc_en ad cI cZ) y_M_shift (Cond.code y_M_shift b_M_shift 3 (some .boolean) :: xw) 2 [.ref (ad (6, 0)), .int (nI k), .int y] (rc_ov A k F E T g f) (some (.int (r_M_shift k F g y).2)) (rc_ov A k (r_M_shift k F g y).1 E T g f) := by
  refine xq_met (by decide) (Nat.le_of_ble_eq_true rfl) hap ?_
  intro p e s m args below meth c X
  refine xq_sub [2, 1, 0] [(2, .int y), (1, .int (nI k)), (0, .ref (ad (6, 0)))] rfl ?_
  refine xq_aload_n X d_M_shift_0 2 rfl rfl ?_
  refine xq_iload_n X d_M_shift_1 1 rfl rfl ?_
  refine rk_callI (As := [.int (nI k)]) (rest := []) X xw_g g_M_83 (rt_M_isOn hap hk) rfl rfl (by decide) (Nat.le_of_ble_eq_true rfl) rfl d_M_shift_2 ?_
  refine xq_if_eq X d_M_shift_5 22 (by decide) (fun h1 => ?_) (fun h1 => ?_)
  · skip
    refine xq_iconst (v := 0) X d_M_shift_22 (by decide) ?_
    have hh : (r_M_shift k F g y) = (F, 0) := by exact (if_pos h1)
    exact xq_iret X rfl (by decide) (by rw [hh]) (by rw [hh]) d_M_shift_23
  · skip
    refine xq_iload_n X d_M_shift_8 0 rfl rfl ?_
    refine xq_sipush (v := (-1000)) X d_M_shift_9 (by decide) ?_
    refine xq_icmp_lt X d_M_shift_12 22 (by decide) (fun h2 => ?_) (fun h2 => ?_)
    · skip
      refine xq_iconst (v := 0) X d_M_shift_22 (by decide) ?_
      have hh : (r_M_shift k F g y) = (F, 0) := by exact ((if_neg h1).trans (if_pos h2))
      exact xq_iret X rfl (by decide) (by rw [hh]) (by rw [hh]) d_M_shift_23
    · skip
      refine xq_iload_n X d_M_shift_15 0 rfl rfl ?_
      refine xq_sipush (v := 1000) X d_M_shift_16 (by decide) ?_
      refine xq_icmp_le X d_M_shift_19 24 (by decide) (fun h3 => ?_) (fun h3 => ?_)
      · skip
        refine xq_aload_n X d_M_shift_24 2 rfl rfl ?_
        refine rg_row X 11 (by decide) f_M_41 d_M_shift_25 ?_
        refine xq_iload_n X d_M_shift_28 1 rfl rfl ?_
        refine xq_aload_n X d_M_shift_29 2 rfl rfl ?_
        refine rg_row X 11 (by decide) f_M_41 d_M_shift_30 ?_
        refine xq_iload_n X d_M_shift_33 1 rfl rfl ?_
        refine rn_ald (v := (F 11)) X 11 (by decide) hk rfl d_M_shift_34 rfl ?_
        refine xq_iload_n X d_M_shift_35 0 rfl rfl ?_
        refine xq_iadd X d_M_shift_36 ?_
        refine rn_ast X 11 (by decide) hk rfl d_M_shift_37 ?_
        refine xq_iconst (v := 1) X d_M_shift_38 (by decide) ?_
        have hh : (r_M_shift k F g y) = ((upd F 11 ((F 11) + y)), 1) := by exact ((if_neg h1).trans ((if_neg h2).trans (if_pos h3)))
        exact xq_iret X rfl (by decide) (by rw [hh]) (by rw [hh]) d_M_shift_39
      · skip
        refine xq_iconst (v := 0) X d_M_shift_22 (by decide) ?_
        have hh : (r_M_shift k F g y) = (F, 0) := by exact ((if_neg h1).trans ((if_neg h2).trans (if_neg h3)))
        exact xq_iret X rfl (by decide) (by rw [hh]) (by rw [hh]) d_M_shift_23
def r_M_shift_bad (x : Int32) (y : Int32) : Int32 := 0
set_option maxHeartbeats 4000000 in
set_option maxRecDepth 100000 in
theorem rt_M_shift_bad {l : Launch} {D : va_G} {ad : xq_I → Nat} {cI cZ cN : ClassId} (hap : xq_ap rc_cs ad) {k : Nat} (hk : k < 6) {A : rc_A} {F E T g f : Nat → Int32} (x : Int32) (y : Int32) (hb : (r_M_isNode g x) = 0) :
    xq_M l D vcl (kc_tys cI cZ cN) rc_cs ad (rc_en ad cI cZ) y_M_shift (Cond.code y_M_shift b_M_shift 3 (some .boolean) :: xw) 2 [.ref (ad (6, 0)), .int x, .int y] (rc_ov A k F E T g f) (some (.int (r_M_shift_bad x y))) (rc_ov A k F E T g f) := by
  refine xq_met (by decide) (Nat.le_of_ble_eq_true rfl) hap ?_
  intro p e s m args below meth c X
  refine xq_sub [2, 1, 0] [(2, .int y), (1, .int x), (0, .ref (ad (6, 0)))] rfl ?_
  refine xq_aload_n X d_M_shift_0 2 rfl rfl ?_
  refine xq_iload_n X d_M_shift_1 1 rfl rfl ?_
  refine rk_callI (As := [.int x]) (rest := []) X xw_g g_M_83 (rt_M_isOn_bad hap hk x hb) rfl rfl (by decide) (Nat.le_of_ble_eq_true rfl) rfl d_M_shift_2 ?_
  refine xq_if_eq X d_M_shift_5 22 (by decide) (fun _ => ?_) (fun h => absurd (show r_M_isOn_bad x = 0 from rfl) h)
  refine xq_iconst (v := 0) X d_M_shift_22 (by decide) ?_
  have hh : (r_M_shift_bad x y) = 0 := by exact rfl
  exact xq_iret X rfl (by decide) (by rw [hh]) rfl d_M_shift_23
def r_M_goOn (F : Nat → Int32) (g : Nat → Int32) : (Nat → Int32) := (let z2 : Int32 := (if (F 1) = 0 then (F 11) else ((F 11) + (F 12))); (let z6 : Nat → Int32 := (if (r_M_inside (upd F 11 z2)) = 0 then (upd F 11 z2) else (upd (upd (upd F 11 z2) 2 (if (F 2) = ((g 0) - 1) then 0 else ((F 2) + 1))) 3 (if (F 3) = 65535 then 0 else ((F 3) + 1)))); z6))
set_option maxHeartbeats 4000000 in
set_option maxRecDepth 100000 in
theorem rt_M_goOn {l : Launch} {D : va_G} {ad : xq_I → Nat} {cI cZ cN : ClassId} (hap : xq_ap rc_cs ad) {k : Nat} (hk : k < 6) {A : rc_A} {F E T g f : Nat → Int32}  :
    xq_M l D vcl (kc_tys cI cZ cN) rc_cs ad (rc_en ad cI cZ) y_M_goOn (Cond.code y_M_goOn b_M_goOn 2 none :: xw) 1 [.ref (ad (6, 0)), .int (nI k)] (rc_ov A k F E T g f) none (rc_ov A k (r_M_goOn F g) E T g f) := by
  refine xq_met (by decide) (Nat.le_of_ble_eq_true rfl) hap ?_
  intro p e s m args below meth c X
  refine xq_sub [1, 0] [(1, .int (nI k)), (0, .ref (ad (6, 0)))] rfl ?_
  refine xq_aload_n X d_M_goOn_0 1 rfl rfl ?_
  refine rg_row X 11 (by decide) f_M_41 d_M_goOn_1 ?_
  refine xq_iload_n X d_M_goOn_4 0 rfl rfl ?_
  refine xq_aload_n X d_M_goOn_5 1 rfl rfl ?_
  refine rg_row X 1 (by decide) f_M_7 d_M_goOn_6 ?_
  refine xq_iload_n X d_M_goOn_9 0 rfl rfl ?_
  refine rn_ald (v := (F 1)) X 1 (by decide) hk rfl d_M_goOn_10 rfl ?_
  have J7 : ∀ (z2 : Int32), z2 = (if (F 1) = 0 then (F 11) else ((F 11) + (F 12))) → xq_W p l e (xq_r 1) s m args below meth c D vcl rc_cs ad (rc_en ad cI cZ) 0 0 (MQ below (xq_Q D vcl rc_cs ad (rc_en ad cI cZ) none (rc_ov A k (r_M_goOn F g) E T g f)) args s 0 0 (xq_in rc_cs ad)) 2 36 [(1, .int (nI k)), (0, .ref (ad (6, 0)))] [.int z2, .int (nI k), .ref (ad (7, 11))] (rc_ov A k F E T g f) := by
    intro z2 e8
    refine rn_ast X 11 (by decide) hk rfl d_M_goOn_36 ?_
    refine xq_aload_n X d_M_goOn_37 1 rfl rfl ?_
    refine xq_iload_n X d_M_goOn_38 0 rfl rfl ?_
    refine rk_callI (As := [.int (nI k)]) (rest := []) X xw_g g_M_86 (rt_M_inside hap hk) rfl rfl (by decide) (Nat.le_of_ble_eq_true rfl) rfl d_M_goOn_39 ?_
    have J9 : ∀ (z6 : Nat → Int32), z6 = (if (r_M_inside (upd F 11 z2)) = 0 then (upd F 11 z2) else (upd (upd (upd F 11 z2) 2 (if (F 2) = ((g 0) - 1) then 0 else ((F 2) + 1))) 3 (if (F 3) = 65535 then 0 else ((F 3) + 1)))) → xq_W p l e (xq_r 1) s m args below meth c D vcl rc_cs ad (rc_en ad cI cZ) 0 0 (MQ below (xq_Q D vcl rc_cs ad (rc_en ad cI cZ) none (rc_ov A k (r_M_goOn F g) E T g f)) args s 0 0 (xq_in rc_cs ad)) 2 107 [(1, .int (nI k)), (0, .ref (ad (6, 0)))] [] (rc_ov A k z6 E T g f) := by
      intro z6 e10
      have hh : (r_M_goOn F g) = z6 := by subst e8; subst e10; exact rfl
      exact xq_vret X rfl (by rw [hh]) d_M_goOn_107
    refine xq_if_eq X d_M_goOn_42 107 (by decide) (fun h3 => ?_) (fun h3 => ?_)
    · skip
      exact J9 _ (if_pos h3).symm
    · skip
      refine xq_aload_n X d_M_goOn_45 1 rfl rfl ?_
      refine rg_row X 2 (by decide) f_M_13 d_M_goOn_46 ?_
      refine xq_iload_n X d_M_goOn_49 0 rfl rfl ?_
      refine xq_aload_n X d_M_goOn_50 1 rfl rfl ?_
      refine rg_row X 2 (by decide) f_M_13 d_M_goOn_51 ?_
      refine xq_iload_n X d_M_goOn_54 0 rfl rfl ?_
      refine rn_ald (v := (F 2)) X 2 (by decide) hk rfl d_M_goOn_55 rfl ?_
      refine xq_aload_n X d_M_goOn_56 1 rfl rfl ?_
      refine rg_get (v := (g 0)) X 0 (by decide) f_M_72 d_M_goOn_57 rfl ?_
      refine xq_iconst (v := 1) X d_M_goOn_60 (by decide) ?_
      refine xq_isub X d_M_goOn_61 ?_
      have J11 : ∀ (y12 : Int32), y12 = (if (F 2) = ((g 0) - 1) then 0 else ((F 2) + 1)) → xq_W p l e (xq_r 1) s m args below meth c D vcl rc_cs ad (rc_en ad cI cZ) 0 0 (MQ below (xq_Q D vcl rc_cs ad (rc_en ad cI cZ) none (rc_ov A k (r_M_goOn F g) E T g f)) args s 0 0 (xq_in rc_cs ad)) 2 77 [(1, .int (nI k)), (0, .ref (ad (6, 0)))] [.int y12, .int (nI k), .ref (ad (7, 2))] (rc_ov A k (upd F 11 z2) E T g f) := by
        intro y12 e13
        subst e13
        refine rn_ast X 2 (by decide) hk rfl d_M_goOn_77 ?_
        refine xq_aload_n X d_M_goOn_78 1 rfl rfl ?_
        refine rg_row X 3 (by decide) f_M_16 d_M_goOn_79 ?_
        refine xq_iload_n X d_M_goOn_82 0 rfl rfl ?_
        refine xq_aload_n X d_M_goOn_83 1 rfl rfl ?_
        refine rg_row X 3 (by decide) f_M_16 d_M_goOn_84 ?_
        refine xq_iload_n X d_M_goOn_87 0 rfl rfl ?_
        refine rn_ald (v := (F 3)) X 3 (by decide) hk rfl d_M_goOn_88 rfl ?_
        refine xq_ldc (v := 65535) X k_M_89 d_M_goOn_89 ?_
        have J14 : ∀ (y15 : Int32), y15 = (if (F 3) = 65535 then 0 else ((F 3) + 1)) → xq_W p l e (xq_r 1) s m args below meth c D vcl rc_cs ad (rc_en ad cI cZ) 0 0 (MQ below (xq_Q D vcl rc_cs ad (rc_en ad cI cZ) none (rc_ov A k (r_M_goOn F g) E T g f)) args s 0 0 (xq_in rc_cs ad)) 2 106 [(1, .int (nI k)), (0, .ref (ad (6, 0)))] [.int y15, .int (nI k), .ref (ad (7, 3))] (rc_ov A k (upd (upd F 11 z2) 2 (if (F 2) = ((g 0) - 1) then 0 else ((F 2) + 1))) E T g f) := by
          intro y15 e16
          subst e16
          refine rn_ast X 3 (by decide) hk rfl d_M_goOn_106 ?_
          exact J9 _ (if_neg h3).symm
        refine xq_icmp_ne X d_M_goOn_91 98 (by decide) (fun h5 => ?_) (fun h5 => ?_)
        · skip
          refine xq_aload_n X d_M_goOn_98 1 rfl rfl ?_
          refine rg_row X 3 (by decide) f_M_16 d_M_goOn_99 ?_
          refine xq_iload_n X d_M_goOn_102 0 rfl rfl ?_
          refine rn_ald (v := (F 3)) X 3 (by decide) hk rfl d_M_goOn_103 rfl ?_
          refine xq_iconst (v := 1) X d_M_goOn_104 (by decide) ?_
          refine xq_iadd X d_M_goOn_105 ?_
          exact J14 _ (if_neg h5).symm
        · skip
          refine xq_iconst (v := 0) X d_M_goOn_94 (by decide) ?_
          refine xq_goto X d_M_goOn_95 106 (by decide) ?_
          exact J14 _ (if_pos h5).symm
      refine xq_icmp_ne X d_M_goOn_62 69 (by decide) (fun h4 => ?_) (fun h4 => ?_)
      · skip
        refine xq_aload_n X d_M_goOn_69 1 rfl rfl ?_
        refine rg_row X 2 (by decide) f_M_13 d_M_goOn_70 ?_
        refine xq_iload_n X d_M_goOn_73 0 rfl rfl ?_
        refine rn_ald (v := (F 2)) X 2 (by decide) hk rfl d_M_goOn_74 rfl ?_
        refine xq_iconst (v := 1) X d_M_goOn_75 (by decide) ?_
        refine xq_iadd X d_M_goOn_76 ?_
        exact J11 _ (if_neg h4).symm
      · skip
        refine xq_iconst (v := 0) X d_M_goOn_65 (by decide) ?_
        refine xq_goto X d_M_goOn_66 77 (by decide) ?_
        exact J11 _ (if_pos h4).symm
  refine xq_if_ne X d_M_goOn_11 23 (by decide) (fun h1 => ?_) (fun h1 => ?_)
  · skip
    refine xq_aload_n X d_M_goOn_23 1 rfl rfl ?_
    refine rg_row X 11 (by decide) f_M_41 d_M_goOn_24 ?_
    refine xq_iload_n X d_M_goOn_27 0 rfl rfl ?_
    refine rn_ald (v := (F 11)) X 11 (by decide) hk rfl d_M_goOn_28 rfl ?_
    refine xq_aload_n X d_M_goOn_29 1 rfl rfl ?_
    refine rg_row X 12 (by decide) f_M_44 d_M_goOn_30 ?_
    refine xq_iload_n X d_M_goOn_33 0 rfl rfl ?_
    refine rn_ald (v := (F 12)) X 12 (by decide) hk rfl d_M_goOn_34 rfl ?_
    refine xq_iadd X d_M_goOn_35 ?_
    exact J7 _ (if_neg h1).symm
  · skip
    refine xq_aload_n X d_M_goOn_14 1 rfl rfl ?_
    refine rg_row X 11 (by decide) f_M_41 d_M_goOn_15 ?_
    refine xq_iload_n X d_M_goOn_18 0 rfl rfl ?_
    refine rn_ald (v := (F 11)) X 11 (by decide) hk rfl d_M_goOn_19 rfl ?_
    refine xq_goto X d_M_goOn_20 36 (by decide) ?_
    exact J7 _ (if_pos h1).symm
def r_M_startAlone (k : Nat) (F : Nat → Int32) (E : Nat → Int32) : (Nat → Int32) × (Nat → Int32) := (let z2 : Int32 := (if 0 = (nI k) then 1 else 0); (let z4 : Int32 := (if 1 = (nI k) then 1 else 0); (let z6 : Int32 := (if 2 = (nI k) then 1 else 0); (let z8 : Int32 := (if 3 = (nI k) then 1 else 0); (let z10 : Int32 := (if 4 = (nI k) then 1 else 0); (let z12 : Int32 := (if 5 = (nI k) then 1 else 0); ((upd (upd (upd (upd (upd (upd (upd (upd F 8 ((F 8) - 1)) 1 2) 2 (nI k)) 3 0) 4 1) 5 0) 9 0) 25 1), (upd (upd (upd (upd (upd (upd E 0 (z2 &&& 1)) 1 (z4 &&& 1)) 2 (z6 &&& 1)) 3 (z8 &&& 1)) 4 (z10 &&& 1)) 5 (z12 &&& 1)))))))))
set_option maxHeartbeats 4000000 in
set_option maxRecDepth 100000 in
theorem rt_M_startAlone {l : Launch} {D : va_G} {ad : xq_I → Nat} {cI cZ cN : ClassId} (hap : xq_ap rc_cs ad) {k : Nat} (hk : k < 6) {A : rc_A} {F E T g f : Nat → Int32}  :
    xq_M l D vcl (kc_tys cI cZ cN) rc_cs ad (rc_en ad cI cZ) y_M_startAlone (Cond.code y_M_startAlone b_M_startAlone 3 none :: xw) 0 [.ref (ad (6, 0)), .int (nI k)] (rc_ov A k F E T g f) none (rc_ov A k (r_M_startAlone k F E).1 (r_M_startAlone k F E).2 T g f) := by
  refine xq_met (by decide) (Nat.le_of_ble_eq_true rfl) hap ?_
  intro p e s m args below meth c X
  refine xq_sub [1, 0] [(1, .int (nI k)), (0, .ref (ad (6, 0)))] rfl ?_
  refine xq_aload_n X d_M_startAlone_0 1 rfl rfl ?_
  refine rg_row X 8 (by decide) f_M_32 d_M_startAlone_1 ?_
  refine xq_iload_n X d_M_startAlone_4 0 rfl rfl ?_
  refine xq_aload_n X d_M_startAlone_5 1 rfl rfl ?_
  refine rg_row X 8 (by decide) f_M_32 d_M_startAlone_6 ?_
  refine xq_iload_n X d_M_startAlone_9 0 rfl rfl ?_
  refine rn_ald (v := (F 8)) X 8 (by decide) hk rfl d_M_startAlone_10 rfl ?_
  refine xq_iconst (v := 1) X d_M_startAlone_11 (by decide) ?_
  refine xq_isub X d_M_startAlone_12 ?_
  refine rn_ast X 8 (by decide) hk rfl d_M_startAlone_13 ?_
  refine xq_aload_n X d_M_startAlone_14 1 rfl rfl ?_
  refine rg_row X 1 (by decide) f_M_7 d_M_startAlone_15 ?_
  refine xq_iload_n X d_M_startAlone_18 0 rfl rfl ?_
  refine xq_iconst (v := 2) X d_M_startAlone_19 (by decide) ?_
  refine rn_ast X 1 (by decide) hk rfl d_M_startAlone_20 ?_
  refine xq_aload_n X d_M_startAlone_21 1 rfl rfl ?_
  refine rg_row X 2 (by decide) f_M_13 d_M_startAlone_22 ?_
  refine xq_iload_n X d_M_startAlone_25 0 rfl rfl ?_
  refine xq_iload_n X d_M_startAlone_26 0 rfl rfl ?_
  refine rn_ast X 2 (by decide) hk rfl d_M_startAlone_27 ?_
  refine xq_aload_n X d_M_startAlone_28 1 rfl rfl ?_
  refine rg_row X 3 (by decide) f_M_16 d_M_startAlone_29 ?_
  refine xq_iload_n X d_M_startAlone_32 0 rfl rfl ?_
  refine xq_iconst (v := 0) X d_M_startAlone_33 (by decide) ?_
  refine rn_ast X 3 (by decide) hk rfl d_M_startAlone_34 ?_
  refine xq_aload_n X d_M_startAlone_35 1 rfl rfl ?_
  refine rg_row X 4 (by decide) f_M_19 d_M_startAlone_36 ?_
  refine xq_iload_n X d_M_startAlone_39 0 rfl rfl ?_
  refine xq_iconst (v := 1) X d_M_startAlone_40 (by decide) ?_
  refine rn_ast X 4 (by decide) hk rfl d_M_startAlone_41 ?_
  refine xq_aload_n X d_M_startAlone_42 1 rfl rfl ?_
  refine rg_row X 5 (by decide) f_M_22 d_M_startAlone_43 ?_
  refine xq_iload_n X d_M_startAlone_46 0 rfl rfl ?_
  refine xq_iconst (v := 0) X d_M_startAlone_47 (by decide) ?_
  refine rn_ast X 5 (by decide) hk rfl d_M_startAlone_48 ?_
  refine xq_aload_n X d_M_startAlone_49 1 rfl rfl ?_
  refine rg_row X 9 (by decide) f_M_35 d_M_startAlone_50 ?_
  refine xq_iload_n X d_M_startAlone_53 0 rfl rfl ?_
  refine xq_iconst (v := 0) X d_M_startAlone_54 (by decide) ?_
  refine rn_ast X 9 (by decide) hk rfl d_M_startAlone_55 ?_
  refine xq_iconst (v := 0) X d_M_startAlone_56 (by decide) ?_
  refine xq_istore_n X d_M_startAlone_57 [(2, .int 0), (1, .int (nI k)), (0, .ref (ad (6, 0)))] rfl rfl (by decide) ?_
  refine xq_iload_n X d_M_startAlone_58 0 rfl rfl ?_
  refine xq_bipush (v := 6) X d_M_startAlone_59 (by decide) ?_
  refine xq_icmp_ge X d_M_startAlone_61 91 (by decide) (fun h => absurd h (by decide)) (fun _ => ?_)
  refine xq_aload_n X d_M_startAlone_64 2 rfl rfl ?_
  refine rg_row X 15 (by decide) f_M_53 d_M_startAlone_65 ?_
  refine xq_bipush (v := 6) X d_M_startAlone_68 (by decide) ?_
  refine xq_iload_n X d_M_startAlone_70 1 rfl rfl ?_
  refine xq_imul X d_M_startAlone_71 ?_
  refine xq_iload_n X d_M_startAlone_72 0 rfl rfl ?_
  refine xq_iadd X d_M_startAlone_73 ?_
  refine xq_iload_n X d_M_startAlone_74 0 rfl rfl ?_
  refine xq_iload_n X d_M_startAlone_75 1 rfl rfl ?_
  have J13 : ∀ (z2 : Int32), z2 = (if 0 = (nI k) then 1 else 0) → xq_W p l e (xq_r 0) s m args below meth c D vcl rc_cs ad (rc_en ad cI cZ) 0 0 (MQ below (xq_Q D vcl rc_cs ad (rc_en ad cI cZ) none (rc_ov A k (r_M_startAlone k F E).1 (r_M_startAlone k F E).2 T g f)) args s 0 0 (xq_in rc_cs ad)) 3 84 [(2, .int 0), (1, .int (nI k)), (0, .ref (ad (6, 0)))] [.int z2, .int ((6 * (nI k)) + 0), .ref (ad (7, 15))] (rc_ov A k (upd (upd (upd (upd (upd (upd (upd F 8 ((F 8) - 1)) 1 2) 2 (nI k)) 3 0) 4 1) 5 0) 9 0) E T g f) := by
    intro z2 e14
    refine re_ast (v' := (z2 &&& 1)) X 0 (by decide) hk (ri_6 rfl) rfl d_M_startAlone_84 ?_
    refine xq_iinc X d_M_startAlone_85 0 rfl [(2, .int 1), (1, .int (nI k)), (0, .ref (ad (6, 0)))] rfl (by decide) (by decide) ?_
    refine xq_goto X d_M_startAlone_88 58 (by decide) ?_
    refine xq_iload_n X d_M_startAlone_58 0 rfl rfl ?_
    refine xq_bipush (v := 6) X d_M_startAlone_59 (by decide) ?_
    refine xq_icmp_ge X d_M_startAlone_61 91 (by decide) (fun h => absurd h (by decide)) (fun _ => ?_)
    refine xq_aload_n X d_M_startAlone_64 2 rfl rfl ?_
    refine rg_row X 15 (by decide) f_M_53 d_M_startAlone_65 ?_
    refine xq_bipush (v := 6) X d_M_startAlone_68 (by decide) ?_
    refine xq_iload_n X d_M_startAlone_70 1 rfl rfl ?_
    refine xq_imul X d_M_startAlone_71 ?_
    refine xq_iload_n X d_M_startAlone_72 0 rfl rfl ?_
    refine xq_iadd X d_M_startAlone_73 ?_
    refine xq_iload_n X d_M_startAlone_74 0 rfl rfl ?_
    refine xq_iload_n X d_M_startAlone_75 1 rfl rfl ?_
    have J15 : ∀ (z4 : Int32), z4 = (if 1 = (nI k) then 1 else 0) → xq_W p l e (xq_r 0) s m args below meth c D vcl rc_cs ad (rc_en ad cI cZ) 0 0 (MQ below (xq_Q D vcl rc_cs ad (rc_en ad cI cZ) none (rc_ov A k (r_M_startAlone k F E).1 (r_M_startAlone k F E).2 T g f)) args s 0 0 (xq_in rc_cs ad)) 3 84 [(2, .int 1), (1, .int (nI k)), (0, .ref (ad (6, 0)))] [.int z4, .int ((6 * (nI k)) + 1), .ref (ad (7, 15))] (rc_ov A k (upd (upd (upd (upd (upd (upd (upd F 8 ((F 8) - 1)) 1 2) 2 (nI k)) 3 0) 4 1) 5 0) 9 0) (upd E 0 (z2 &&& 1)) T g f) := by
      intro z4 e16
      refine re_ast (v' := (z4 &&& 1)) X 1 (by decide) hk (ri_6 rfl) rfl d_M_startAlone_84 ?_
      refine xq_iinc X d_M_startAlone_85 0 rfl [(2, .int 2), (1, .int (nI k)), (0, .ref (ad (6, 0)))] rfl (by decide) (by decide) ?_
      refine xq_goto X d_M_startAlone_88 58 (by decide) ?_
      refine xq_iload_n X d_M_startAlone_58 0 rfl rfl ?_
      refine xq_bipush (v := 6) X d_M_startAlone_59 (by decide) ?_
      refine xq_icmp_ge X d_M_startAlone_61 91 (by decide) (fun h => absurd h (by decide)) (fun _ => ?_)
      refine xq_aload_n X d_M_startAlone_64 2 rfl rfl ?_
      refine rg_row X 15 (by decide) f_M_53 d_M_startAlone_65 ?_
      refine xq_bipush (v := 6) X d_M_startAlone_68 (by decide) ?_
      refine xq_iload_n X d_M_startAlone_70 1 rfl rfl ?_
      refine xq_imul X d_M_startAlone_71 ?_
      refine xq_iload_n X d_M_startAlone_72 0 rfl rfl ?_
      refine xq_iadd X d_M_startAlone_73 ?_
      refine xq_iload_n X d_M_startAlone_74 0 rfl rfl ?_
      refine xq_iload_n X d_M_startAlone_75 1 rfl rfl ?_
      have J17 : ∀ (z6 : Int32), z6 = (if 2 = (nI k) then 1 else 0) → xq_W p l e (xq_r 0) s m args below meth c D vcl rc_cs ad (rc_en ad cI cZ) 0 0 (MQ below (xq_Q D vcl rc_cs ad (rc_en ad cI cZ) none (rc_ov A k (r_M_startAlone k F E).1 (r_M_startAlone k F E).2 T g f)) args s 0 0 (xq_in rc_cs ad)) 3 84 [(2, .int 2), (1, .int (nI k)), (0, .ref (ad (6, 0)))] [.int z6, .int ((6 * (nI k)) + 2), .ref (ad (7, 15))] (rc_ov A k (upd (upd (upd (upd (upd (upd (upd F 8 ((F 8) - 1)) 1 2) 2 (nI k)) 3 0) 4 1) 5 0) 9 0) (upd (upd E 0 (z2 &&& 1)) 1 (z4 &&& 1)) T g f) := by
        intro z6 e18
        refine re_ast (v' := (z6 &&& 1)) X 2 (by decide) hk (ri_6 rfl) rfl d_M_startAlone_84 ?_
        refine xq_iinc X d_M_startAlone_85 0 rfl [(2, .int 3), (1, .int (nI k)), (0, .ref (ad (6, 0)))] rfl (by decide) (by decide) ?_
        refine xq_goto X d_M_startAlone_88 58 (by decide) ?_
        refine xq_iload_n X d_M_startAlone_58 0 rfl rfl ?_
        refine xq_bipush (v := 6) X d_M_startAlone_59 (by decide) ?_
        refine xq_icmp_ge X d_M_startAlone_61 91 (by decide) (fun h => absurd h (by decide)) (fun _ => ?_)
        refine xq_aload_n X d_M_startAlone_64 2 rfl rfl ?_
        refine rg_row X 15 (by decide) f_M_53 d_M_startAlone_65 ?_
        refine xq_bipush (v := 6) X d_M_startAlone_68 (by decide) ?_
        refine xq_iload_n X d_M_startAlone_70 1 rfl rfl ?_
        refine xq_imul X d_M_startAlone_71 ?_
        refine xq_iload_n X d_M_startAlone_72 0 rfl rfl ?_
        refine xq_iadd X d_M_startAlone_73 ?_
        refine xq_iload_n X d_M_startAlone_74 0 rfl rfl ?_
        refine xq_iload_n X d_M_startAlone_75 1 rfl rfl ?_
        have J19 : ∀ (z8 : Int32), z8 = (if 3 = (nI k) then 1 else 0) → xq_W p l e (xq_r 0) s m args below meth c D vcl rc_cs ad (rc_en ad cI cZ) 0 0 (MQ below (xq_Q D vcl rc_cs ad (rc_en ad cI cZ) none (rc_ov A k (r_M_startAlone k F E).1 (r_M_startAlone k F E).2 T g f)) args s 0 0 (xq_in rc_cs ad)) 3 84 [(2, .int 3), (1, .int (nI k)), (0, .ref (ad (6, 0)))] [.int z8, .int ((6 * (nI k)) + 3), .ref (ad (7, 15))] (rc_ov A k (upd (upd (upd (upd (upd (upd (upd F 8 ((F 8) - 1)) 1 2) 2 (nI k)) 3 0) 4 1) 5 0) 9 0) (upd (upd (upd E 0 (z2 &&& 1)) 1 (z4 &&& 1)) 2 (z6 &&& 1)) T g f) := by
          intro z8 e20
          refine re_ast (v' := (z8 &&& 1)) X 3 (by decide) hk (ri_6 rfl) rfl d_M_startAlone_84 ?_
          refine xq_iinc X d_M_startAlone_85 0 rfl [(2, .int 4), (1, .int (nI k)), (0, .ref (ad (6, 0)))] rfl (by decide) (by decide) ?_
          refine xq_goto X d_M_startAlone_88 58 (by decide) ?_
          refine xq_iload_n X d_M_startAlone_58 0 rfl rfl ?_
          refine xq_bipush (v := 6) X d_M_startAlone_59 (by decide) ?_
          refine xq_icmp_ge X d_M_startAlone_61 91 (by decide) (fun h => absurd h (by decide)) (fun _ => ?_)
          refine xq_aload_n X d_M_startAlone_64 2 rfl rfl ?_
          refine rg_row X 15 (by decide) f_M_53 d_M_startAlone_65 ?_
          refine xq_bipush (v := 6) X d_M_startAlone_68 (by decide) ?_
          refine xq_iload_n X d_M_startAlone_70 1 rfl rfl ?_
          refine xq_imul X d_M_startAlone_71 ?_
          refine xq_iload_n X d_M_startAlone_72 0 rfl rfl ?_
          refine xq_iadd X d_M_startAlone_73 ?_
          refine xq_iload_n X d_M_startAlone_74 0 rfl rfl ?_
          refine xq_iload_n X d_M_startAlone_75 1 rfl rfl ?_
          have J21 : ∀ (z10 : Int32), z10 = (if 4 = (nI k) then 1 else 0) → xq_W p l e (xq_r 0) s m args below meth c D vcl rc_cs ad (rc_en ad cI cZ) 0 0 (MQ below (xq_Q D vcl rc_cs ad (rc_en ad cI cZ) none (rc_ov A k (r_M_startAlone k F E).1 (r_M_startAlone k F E).2 T g f)) args s 0 0 (xq_in rc_cs ad)) 3 84 [(2, .int 4), (1, .int (nI k)), (0, .ref (ad (6, 0)))] [.int z10, .int ((6 * (nI k)) + 4), .ref (ad (7, 15))] (rc_ov A k (upd (upd (upd (upd (upd (upd (upd F 8 ((F 8) - 1)) 1 2) 2 (nI k)) 3 0) 4 1) 5 0) 9 0) (upd (upd (upd (upd E 0 (z2 &&& 1)) 1 (z4 &&& 1)) 2 (z6 &&& 1)) 3 (z8 &&& 1)) T g f) := by
            intro z10 e22
            refine re_ast (v' := (z10 &&& 1)) X 4 (by decide) hk (ri_6 rfl) rfl d_M_startAlone_84 ?_
            refine xq_iinc X d_M_startAlone_85 0 rfl [(2, .int 5), (1, .int (nI k)), (0, .ref (ad (6, 0)))] rfl (by decide) (by decide) ?_
            refine xq_goto X d_M_startAlone_88 58 (by decide) ?_
            refine xq_iload_n X d_M_startAlone_58 0 rfl rfl ?_
            refine xq_bipush (v := 6) X d_M_startAlone_59 (by decide) ?_
            refine xq_icmp_ge X d_M_startAlone_61 91 (by decide) (fun h => absurd h (by decide)) (fun _ => ?_)
            refine xq_aload_n X d_M_startAlone_64 2 rfl rfl ?_
            refine rg_row X 15 (by decide) f_M_53 d_M_startAlone_65 ?_
            refine xq_bipush (v := 6) X d_M_startAlone_68 (by decide) ?_
            refine xq_iload_n X d_M_startAlone_70 1 rfl rfl ?_
            refine xq_imul X d_M_startAlone_71 ?_
            refine xq_iload_n X d_M_startAlone_72 0 rfl rfl ?_
            refine xq_iadd X d_M_startAlone_73 ?_
            refine xq_iload_n X d_M_startAlone_74 0 rfl rfl ?_
            refine xq_iload_n X d_M_startAlone_75 1 rfl rfl ?_
            have J23 : ∀ (z12 : Int32), z12 = (if 5 = (nI k) then 1 else 0) → xq_W p l e (xq_r 0) s m args below meth c D vcl rc_cs ad (rc_en ad cI cZ) 0 0 (MQ below (xq_Q D vcl rc_cs ad (rc_en ad cI cZ) none (rc_ov A k (r_M_startAlone k F E).1 (r_M_startAlone k F E).2 T g f)) args s 0 0 (xq_in rc_cs ad)) 3 84 [(2, .int 5), (1, .int (nI k)), (0, .ref (ad (6, 0)))] [.int z12, .int ((6 * (nI k)) + 5), .ref (ad (7, 15))] (rc_ov A k (upd (upd (upd (upd (upd (upd (upd F 8 ((F 8) - 1)) 1 2) 2 (nI k)) 3 0) 4 1) 5 0) 9 0) (upd (upd (upd (upd (upd E 0 (z2 &&& 1)) 1 (z4 &&& 1)) 2 (z6 &&& 1)) 3 (z8 &&& 1)) 4 (z10 &&& 1)) T g f) := by
              intro z12 e24
              refine re_ast (v' := (z12 &&& 1)) X 5 (by decide) hk (ri_6 rfl) rfl d_M_startAlone_84 ?_
              refine xq_iinc X d_M_startAlone_85 0 rfl [(2, .int 6), (1, .int (nI k)), (0, .ref (ad (6, 0)))] rfl (by decide) (by decide) ?_
              refine xq_goto X d_M_startAlone_88 58 (by decide) ?_
              refine xq_iload_n X d_M_startAlone_58 0 rfl rfl ?_
              refine xq_bipush (v := 6) X d_M_startAlone_59 (by decide) ?_
              refine xq_icmp_ge X d_M_startAlone_61 91 (by decide) (fun _ => ?_) (fun h => absurd h (by decide))
              refine xq_aload_n X d_M_startAlone_91 2 rfl rfl ?_
              refine rg_row X 25 (by decide) f_M_69 d_M_startAlone_92 ?_
              refine xq_iload_n X d_M_startAlone_95 1 rfl rfl ?_
              refine xq_iconst (v := 1) X d_M_startAlone_96 (by decide) ?_
              refine rz_ast (v' := 1) X 25 (by decide) hk rfl (by decide) d_M_startAlone_97 ?_
              have hh : (r_M_startAlone k F E) = ((upd (upd (upd (upd (upd (upd (upd (upd F 8 ((F 8) - 1)) 1 2) 2 (nI k)) 3 0) 4 1) 5 0) 9 0) 25 1), (upd (upd (upd (upd (upd (upd E 0 (z2 &&& 1)) 1 (z4 &&& 1)) 2 (z6 &&& 1)) 3 (z8 &&& 1)) 4 (z10 &&& 1)) 5 (z12 &&& 1))) := by subst e14; subst e16; subst e18; subst e20; subst e22; subst e24; exact rfl
              exact xq_vret X rfl (by rw [hh]) d_M_startAlone_98
            refine xq_icmp_ne X d_M_startAlone_76 83 (by decide) (fun h11 => ?_) (fun h11 => ?_)
            · skip
              refine xq_iconst (v := 0) X d_M_startAlone_83 (by decide) ?_
              exact J23 _ (if_neg h11).symm
            · skip
              refine xq_iconst (v := 1) X d_M_startAlone_79 (by decide) ?_
              refine xq_goto X d_M_startAlone_80 84 (by decide) ?_
              exact J23 _ (if_pos h11).symm
          refine xq_icmp_ne X d_M_startAlone_76 83 (by decide) (fun h9 => ?_) (fun h9 => ?_)
          · skip
            refine xq_iconst (v := 0) X d_M_startAlone_83 (by decide) ?_
            exact J21 _ (if_neg h9).symm
          · skip
            refine xq_iconst (v := 1) X d_M_startAlone_79 (by decide) ?_
            refine xq_goto X d_M_startAlone_80 84 (by decide) ?_
            exact J21 _ (if_pos h9).symm
        refine xq_icmp_ne X d_M_startAlone_76 83 (by decide) (fun h7 => ?_) (fun h7 => ?_)
        · skip
          refine xq_iconst (v := 0) X d_M_startAlone_83 (by decide) ?_
          exact J19 _ (if_neg h7).symm
        · skip
          refine xq_iconst (v := 1) X d_M_startAlone_79 (by decide) ?_
          refine xq_goto X d_M_startAlone_80 84 (by decide) ?_
          exact J19 _ (if_pos h7).symm
      refine xq_icmp_ne X d_M_startAlone_76 83 (by decide) (fun h5 => ?_) (fun h5 => ?_)
      · skip
        refine xq_iconst (v := 0) X d_M_startAlone_83 (by decide) ?_
        exact J17 _ (if_neg h5).symm
      · skip
        refine xq_iconst (v := 1) X d_M_startAlone_79 (by decide) ?_
        refine xq_goto X d_M_startAlone_80 84 (by decide) ?_
        exact J17 _ (if_pos h5).symm
    refine xq_icmp_ne X d_M_startAlone_76 83 (by decide) (fun h3 => ?_) (fun h3 => ?_)
    · skip
      refine xq_iconst (v := 0) X d_M_startAlone_83 (by decide) ?_
      exact J15 _ (if_neg h3).symm
    · skip
      refine xq_iconst (v := 1) X d_M_startAlone_79 (by decide) ?_
      refine xq_goto X d_M_startAlone_80 84 (by decide) ?_
      exact J15 _ (if_pos h3).symm
  refine xq_icmp_ne X d_M_startAlone_76 83 (by decide) (fun h1 => ?_) (fun h1 => ?_)
  · skip
    refine xq_iconst (v := 0) X d_M_startAlone_83 (by decide) ?_
    exact J13 _ (if_neg h1).symm
  · skip
    refine xq_iconst (v := 1) X d_M_startAlone_79 (by decide) ?_
    refine xq_goto X d_M_startAlone_80 84 (by decide) ?_
    exact J13 _ (if_pos h1).symm
def r_M_ownTurn (k : Nat) (F : Nat → Int32) (E : Nat → Int32) (g : Nat → Int32) : (Nat → Int32) × (Nat → Int32) := (let z7 : Nat → Int32 := (if (F 1) = 2 then (if (F 4) = 1 then (if (F 5) = 0 then (r_M_listen k F g) else (if (F 5) < (F 4) then (upd (upd (upd (upd (upd F 1 3) 4 1) 5 0) 9 1) 25 1) else (upd F 1 5))) else (if (F 5) < (F 4) then (upd (upd (upd (upd (upd F 1 3) 4 1) 5 0) 9 1) 25 1) else (upd F 1 5))) else (if (F 5) < (F 4) then (upd (upd (upd (upd (upd F 1 3) 4 1) 5 0) 9 1) 25 1) else (upd F 1 5))); let z8 : Nat → Int32 := (if (F 1) = 2 then (if (F 4) = 1 then (if (F 5) = 0 then E else (if (F 5) < (F 4) then (upd E k 1) else E)) else (if (F 5) < (F 4) then (upd E k 1) else E)) else (if (F 5) < (F 4) then (upd E k 1) else E)); (z7, z8))
set_option maxHeartbeats 4000000 in
set_option maxRecDepth 100000 in
theorem rt_M_ownTurn {l : Launch} {D : va_G} {ad : xq_I → Nat} {cI cZ cN : ClassId} (hap : xq_ap rc_cs ad) {k : Nat} (hk : k < 6) {A : rc_A} {F E T g f : Nat → Int32}  :
    xq_M l D vcl (kc_tys cI cZ cN) rc_cs ad (rc_en ad cI cZ) y_M_ownTurn (Cond.code y_M_ownTurn b_M_ownTurn 2 none :: xw) 1 [.ref (ad (6, 0)), .int (nI k)] (rc_ov A k F E T g f) none (rc_ov A k (r_M_ownTurn k F E g).1 (r_M_ownTurn k F E g).2 T g f) := by
  refine xq_met (by decide) (Nat.le_of_ble_eq_true rfl) hap ?_
  intro p e s m args below meth c X
  refine xq_sub [1, 0] [(1, .int (nI k)), (0, .ref (ad (6, 0)))] rfl ?_
  refine xq_aload_n X d_M_ownTurn_0 1 rfl rfl ?_
  refine rg_row X 1 (by decide) f_M_7 d_M_ownTurn_1 ?_
  refine xq_iload_n X d_M_ownTurn_4 0 rfl rfl ?_
  refine rn_ald (v := (F 1)) X 1 (by decide) hk rfl d_M_ownTurn_5 rfl ?_
  refine xq_iconst (v := 2) X d_M_ownTurn_6 (by decide) ?_
  have J9 : ∀ (z7 : Nat → Int32) (z8 : Nat → Int32), z7 = (if (F 1) = 2 then (if (F 4) = 1 then (if (F 5) = 0 then (r_M_listen k F g) else (if (F 5) < (F 4) then (upd (upd (upd (upd (upd F 1 3) 4 1) 5 0) 9 1) 25 1) else (upd F 1 5))) else (if (F 5) < (F 4) then (upd (upd (upd (upd (upd F 1 3) 4 1) 5 0) 9 1) 25 1) else (upd F 1 5))) else (if (F 5) < (F 4) then (upd (upd (upd (upd (upd F 1 3) 4 1) 5 0) 9 1) 25 1) else (upd F 1 5))) → z8 = (if (F 1) = 2 then (if (F 4) = 1 then (if (F 5) = 0 then E else (if (F 5) < (F 4) then (upd E k 1) else E)) else (if (F 5) < (F 4) then (upd E k 1) else E)) else (if (F 5) < (F 4) then (upd E k 1) else E)) → xq_W p l e (xq_r 1) s m args below meth c D vcl rc_cs ad (rc_en ad cI cZ) 0 0 (MQ below (xq_Q D vcl rc_cs ad (rc_en ad cI cZ) none (rc_ov A k (r_M_ownTurn k F E g).1 (r_M_ownTurn k F E g).2 T g f)) args s 0 0 (xq_in rc_cs ad)) 2 109 [(1, .int (nI k)), (0, .ref (ad (6, 0)))] [] (rc_ov A k z7 z8 T g f) := by
    intro z7 z8 e10 e11
    have hh : (r_M_ownTurn k F E g) = (z7, z8) := by subst e10; subst e11; exact rfl
    exact xq_vret X rfl (by rw [hh]) d_M_ownTurn_109
  refine xq_icmp_ne X d_M_ownTurn_7 37 (by decide) (fun h1 => ?_) (fun h1 => ?_)
  · skip
    refine xq_aload_n X d_M_ownTurn_37 1 rfl rfl ?_
    refine rg_row X 4 (by decide) f_M_19 d_M_ownTurn_38 ?_
    refine xq_iload_n X d_M_ownTurn_41 0 rfl rfl ?_
    refine rn_ald (v := (F 4)) X 4 (by decide) hk rfl d_M_ownTurn_42 rfl ?_
    refine xq_aload_n X d_M_ownTurn_43 1 rfl rfl ?_
    refine rg_row X 5 (by decide) f_M_22 d_M_ownTurn_44 ?_
    refine xq_iload_n X d_M_ownTurn_47 0 rfl rfl ?_
    refine rn_ald (v := (F 5)) X 5 (by decide) hk rfl d_M_ownTurn_48 rfl ?_
    refine xq_icmp_gt X d_M_ownTurn_49 62 (by decide) (fun h2 => ?_) (fun h2 => ?_)
    · skip
      refine xq_aload_n X d_M_ownTurn_62 1 rfl rfl ?_
      refine rg_row X 1 (by decide) f_M_7 d_M_ownTurn_63 ?_
      refine xq_iload_n X d_M_ownTurn_66 0 rfl rfl ?_
      refine xq_iconst (v := 3) X d_M_ownTurn_67 (by decide) ?_
      refine rn_ast X 1 (by decide) hk rfl d_M_ownTurn_68 ?_
      refine xq_aload_n X d_M_ownTurn_69 1 rfl rfl ?_
      refine rg_row X 15 (by decide) f_M_53 d_M_ownTurn_70 ?_
      refine xq_bipush (v := 6) X d_M_ownTurn_73 (by decide) ?_
      refine xq_iload_n X d_M_ownTurn_75 0 rfl rfl ?_
      refine xq_imul X d_M_ownTurn_76 ?_
      refine xq_iload_n X d_M_ownTurn_77 0 rfl rfl ?_
      refine xq_iadd X d_M_ownTurn_78 ?_
      refine xq_iconst (v := 1) X d_M_ownTurn_79 (by decide) ?_
      refine re_ast (v' := 1) X k hk hk (ri_6 rfl) (by decide) d_M_ownTurn_80 ?_
      refine xq_aload_n X d_M_ownTurn_81 1 rfl rfl ?_
      refine rg_row X 4 (by decide) f_M_19 d_M_ownTurn_82 ?_
      refine xq_iload_n X d_M_ownTurn_85 0 rfl rfl ?_
      refine xq_iconst (v := 1) X d_M_ownTurn_86 (by decide) ?_
      refine rn_ast X 4 (by decide) hk rfl d_M_ownTurn_87 ?_
      refine xq_aload_n X d_M_ownTurn_88 1 rfl rfl ?_
      refine rg_row X 5 (by decide) f_M_22 d_M_ownTurn_89 ?_
      refine xq_iload_n X d_M_ownTurn_92 0 rfl rfl ?_
      refine xq_iconst (v := 0) X d_M_ownTurn_93 (by decide) ?_
      refine rn_ast X 5 (by decide) hk rfl d_M_ownTurn_94 ?_
      refine xq_aload_n X d_M_ownTurn_95 1 rfl rfl ?_
      refine rg_row X 9 (by decide) f_M_35 d_M_ownTurn_96 ?_
      refine xq_iload_n X d_M_ownTurn_99 0 rfl rfl ?_
      refine xq_iconst (v := 1) X d_M_ownTurn_100 (by decide) ?_
      refine rn_ast X 9 (by decide) hk rfl d_M_ownTurn_101 ?_
      refine xq_aload_n X d_M_ownTurn_102 1 rfl rfl ?_
      refine rg_row X 25 (by decide) f_M_69 d_M_ownTurn_103 ?_
      refine xq_iload_n X d_M_ownTurn_106 0 rfl rfl ?_
      refine xq_iconst (v := 1) X d_M_ownTurn_107 (by decide) ?_
      refine rz_ast (v' := 1) X 25 (by decide) hk rfl (by decide) d_M_ownTurn_108 ?_
      exact J9 _ _ ((if_neg h1).trans (if_pos h2)).symm ((if_neg h1).trans (if_pos h2)).symm
    · skip
      refine xq_aload_n X d_M_ownTurn_52 1 rfl rfl ?_
      refine rg_row X 1 (by decide) f_M_7 d_M_ownTurn_53 ?_
      refine xq_iload_n X d_M_ownTurn_56 0 rfl rfl ?_
      refine xq_iconst (v := 5) X d_M_ownTurn_57 (by decide) ?_
      refine rn_ast X 1 (by decide) hk rfl d_M_ownTurn_58 ?_
      refine xq_goto X d_M_ownTurn_59 109 (by decide) ?_
      exact J9 _ _ ((if_neg h1).trans (if_neg h2)).symm ((if_neg h1).trans (if_neg h2)).symm
  · skip
    refine xq_aload_n X d_M_ownTurn_10 1 rfl rfl ?_
    refine rg_row X 4 (by decide) f_M_19 d_M_ownTurn_11 ?_
    refine xq_iload_n X d_M_ownTurn_14 0 rfl rfl ?_
    refine rn_ald (v := (F 4)) X 4 (by decide) hk rfl d_M_ownTurn_15 rfl ?_
    refine xq_iconst (v := 1) X d_M_ownTurn_16 (by decide) ?_
    refine xq_icmp_ne X d_M_ownTurn_17 37 (by decide) (fun h3 => ?_) (fun h3 => ?_)
    · skip
      refine xq_aload_n X d_M_ownTurn_37 1 rfl rfl ?_
      refine rg_row X 4 (by decide) f_M_19 d_M_ownTurn_38 ?_
      refine xq_iload_n X d_M_ownTurn_41 0 rfl rfl ?_
      refine rn_ald (v := (F 4)) X 4 (by decide) hk rfl d_M_ownTurn_42 rfl ?_
      refine xq_aload_n X d_M_ownTurn_43 1 rfl rfl ?_
      refine rg_row X 5 (by decide) f_M_22 d_M_ownTurn_44 ?_
      refine xq_iload_n X d_M_ownTurn_47 0 rfl rfl ?_
      refine rn_ald (v := (F 5)) X 5 (by decide) hk rfl d_M_ownTurn_48 rfl ?_
      refine xq_icmp_gt X d_M_ownTurn_49 62 (by decide) (fun h4 => ?_) (fun h4 => ?_)
      · skip
        refine xq_aload_n X d_M_ownTurn_62 1 rfl rfl ?_
        refine rg_row X 1 (by decide) f_M_7 d_M_ownTurn_63 ?_
        refine xq_iload_n X d_M_ownTurn_66 0 rfl rfl ?_
        refine xq_iconst (v := 3) X d_M_ownTurn_67 (by decide) ?_
        refine rn_ast X 1 (by decide) hk rfl d_M_ownTurn_68 ?_
        refine xq_aload_n X d_M_ownTurn_69 1 rfl rfl ?_
        refine rg_row X 15 (by decide) f_M_53 d_M_ownTurn_70 ?_
        refine xq_bipush (v := 6) X d_M_ownTurn_73 (by decide) ?_
        refine xq_iload_n X d_M_ownTurn_75 0 rfl rfl ?_
        refine xq_imul X d_M_ownTurn_76 ?_
        refine xq_iload_n X d_M_ownTurn_77 0 rfl rfl ?_
        refine xq_iadd X d_M_ownTurn_78 ?_
        refine xq_iconst (v := 1) X d_M_ownTurn_79 (by decide) ?_
        refine re_ast (v' := 1) X k hk hk (ri_6 rfl) (by decide) d_M_ownTurn_80 ?_
        refine xq_aload_n X d_M_ownTurn_81 1 rfl rfl ?_
        refine rg_row X 4 (by decide) f_M_19 d_M_ownTurn_82 ?_
        refine xq_iload_n X d_M_ownTurn_85 0 rfl rfl ?_
        refine xq_iconst (v := 1) X d_M_ownTurn_86 (by decide) ?_
        refine rn_ast X 4 (by decide) hk rfl d_M_ownTurn_87 ?_
        refine xq_aload_n X d_M_ownTurn_88 1 rfl rfl ?_
        refine rg_row X 5 (by decide) f_M_22 d_M_ownTurn_89 ?_
        refine xq_iload_n X d_M_ownTurn_92 0 rfl rfl ?_
        refine xq_iconst (v := 0) X d_M_ownTurn_93 (by decide) ?_
        refine rn_ast X 5 (by decide) hk rfl d_M_ownTurn_94 ?_
        refine xq_aload_n X d_M_ownTurn_95 1 rfl rfl ?_
        refine rg_row X 9 (by decide) f_M_35 d_M_ownTurn_96 ?_
        refine xq_iload_n X d_M_ownTurn_99 0 rfl rfl ?_
        refine xq_iconst (v := 1) X d_M_ownTurn_100 (by decide) ?_
        refine rn_ast X 9 (by decide) hk rfl d_M_ownTurn_101 ?_
        refine xq_aload_n X d_M_ownTurn_102 1 rfl rfl ?_
        refine rg_row X 25 (by decide) f_M_69 d_M_ownTurn_103 ?_
        refine xq_iload_n X d_M_ownTurn_106 0 rfl rfl ?_
        refine xq_iconst (v := 1) X d_M_ownTurn_107 (by decide) ?_
        refine rz_ast (v' := 1) X 25 (by decide) hk rfl (by decide) d_M_ownTurn_108 ?_
        exact J9 _ _ ((if_pos h1).trans ((if_neg h3).trans (if_pos h4))).symm ((if_pos h1).trans ((if_neg h3).trans (if_pos h4))).symm
      · skip
        refine xq_aload_n X d_M_ownTurn_52 1 rfl rfl ?_
        refine rg_row X 1 (by decide) f_M_7 d_M_ownTurn_53 ?_
        refine xq_iload_n X d_M_ownTurn_56 0 rfl rfl ?_
        refine xq_iconst (v := 5) X d_M_ownTurn_57 (by decide) ?_
        refine rn_ast X 1 (by decide) hk rfl d_M_ownTurn_58 ?_
        refine xq_goto X d_M_ownTurn_59 109 (by decide) ?_
        exact J9 _ _ ((if_pos h1).trans ((if_neg h3).trans (if_neg h4))).symm ((if_pos h1).trans ((if_neg h3).trans (if_neg h4))).symm
    · skip
      refine xq_aload_n X d_M_ownTurn_20 1 rfl rfl ?_
      refine rg_row X 5 (by decide) f_M_22 d_M_ownTurn_21 ?_
      refine xq_iload_n X d_M_ownTurn_24 0 rfl rfl ?_
      refine rn_ald (v := (F 5)) X 5 (by decide) hk rfl d_M_ownTurn_25 rfl ?_
      refine xq_if_ne X d_M_ownTurn_26 37 (by decide) (fun h5 => ?_) (fun h5 => ?_)
      · skip
        refine xq_aload_n X d_M_ownTurn_37 1 rfl rfl ?_
        refine rg_row X 4 (by decide) f_M_19 d_M_ownTurn_38 ?_
        refine xq_iload_n X d_M_ownTurn_41 0 rfl rfl ?_
        refine rn_ald (v := (F 4)) X 4 (by decide) hk rfl d_M_ownTurn_42 rfl ?_
        refine xq_aload_n X d_M_ownTurn_43 1 rfl rfl ?_
        refine rg_row X 5 (by decide) f_M_22 d_M_ownTurn_44 ?_
        refine xq_iload_n X d_M_ownTurn_47 0 rfl rfl ?_
        refine rn_ald (v := (F 5)) X 5 (by decide) hk rfl d_M_ownTurn_48 rfl ?_
        refine xq_icmp_gt X d_M_ownTurn_49 62 (by decide) (fun h6 => ?_) (fun h6 => ?_)
        · skip
          refine xq_aload_n X d_M_ownTurn_62 1 rfl rfl ?_
          refine rg_row X 1 (by decide) f_M_7 d_M_ownTurn_63 ?_
          refine xq_iload_n X d_M_ownTurn_66 0 rfl rfl ?_
          refine xq_iconst (v := 3) X d_M_ownTurn_67 (by decide) ?_
          refine rn_ast X 1 (by decide) hk rfl d_M_ownTurn_68 ?_
          refine xq_aload_n X d_M_ownTurn_69 1 rfl rfl ?_
          refine rg_row X 15 (by decide) f_M_53 d_M_ownTurn_70 ?_
          refine xq_bipush (v := 6) X d_M_ownTurn_73 (by decide) ?_
          refine xq_iload_n X d_M_ownTurn_75 0 rfl rfl ?_
          refine xq_imul X d_M_ownTurn_76 ?_
          refine xq_iload_n X d_M_ownTurn_77 0 rfl rfl ?_
          refine xq_iadd X d_M_ownTurn_78 ?_
          refine xq_iconst (v := 1) X d_M_ownTurn_79 (by decide) ?_
          refine re_ast (v' := 1) X k hk hk (ri_6 rfl) (by decide) d_M_ownTurn_80 ?_
          refine xq_aload_n X d_M_ownTurn_81 1 rfl rfl ?_
          refine rg_row X 4 (by decide) f_M_19 d_M_ownTurn_82 ?_
          refine xq_iload_n X d_M_ownTurn_85 0 rfl rfl ?_
          refine xq_iconst (v := 1) X d_M_ownTurn_86 (by decide) ?_
          refine rn_ast X 4 (by decide) hk rfl d_M_ownTurn_87 ?_
          refine xq_aload_n X d_M_ownTurn_88 1 rfl rfl ?_
          refine rg_row X 5 (by decide) f_M_22 d_M_ownTurn_89 ?_
          refine xq_iload_n X d_M_ownTurn_92 0 rfl rfl ?_
          refine xq_iconst (v := 0) X d_M_ownTurn_93 (by decide) ?_
          refine rn_ast X 5 (by decide) hk rfl d_M_ownTurn_94 ?_
          refine xq_aload_n X d_M_ownTurn_95 1 rfl rfl ?_
          refine rg_row X 9 (by decide) f_M_35 d_M_ownTurn_96 ?_
          refine xq_iload_n X d_M_ownTurn_99 0 rfl rfl ?_
          refine xq_iconst (v := 1) X d_M_ownTurn_100 (by decide) ?_
          refine rn_ast X 9 (by decide) hk rfl d_M_ownTurn_101 ?_
          refine xq_aload_n X d_M_ownTurn_102 1 rfl rfl ?_
          refine rg_row X 25 (by decide) f_M_69 d_M_ownTurn_103 ?_
          refine xq_iload_n X d_M_ownTurn_106 0 rfl rfl ?_
          refine xq_iconst (v := 1) X d_M_ownTurn_107 (by decide) ?_
          refine rz_ast (v' := 1) X 25 (by decide) hk rfl (by decide) d_M_ownTurn_108 ?_
          exact J9 _ _ ((if_pos h1).trans ((if_pos h3).trans ((if_neg h5).trans (if_pos h6)))).symm ((if_pos h1).trans ((if_pos h3).trans ((if_neg h5).trans (if_pos h6)))).symm
        · skip
          refine xq_aload_n X d_M_ownTurn_52 1 rfl rfl ?_
          refine rg_row X 1 (by decide) f_M_7 d_M_ownTurn_53 ?_
          refine xq_iload_n X d_M_ownTurn_56 0 rfl rfl ?_
          refine xq_iconst (v := 5) X d_M_ownTurn_57 (by decide) ?_
          refine rn_ast X 1 (by decide) hk rfl d_M_ownTurn_58 ?_
          refine xq_goto X d_M_ownTurn_59 109 (by decide) ?_
          exact J9 _ _ ((if_pos h1).trans ((if_pos h3).trans ((if_neg h5).trans (if_neg h6)))).symm ((if_pos h1).trans ((if_pos h3).trans ((if_neg h5).trans (if_neg h6)))).symm
      · skip
        refine xq_aload_n X d_M_ownTurn_29 1 rfl rfl ?_
        refine xq_iload_n X d_M_ownTurn_30 0 rfl rfl ?_
        refine rk_callV (As := [.int (nI k)]) (rest := []) X xw_g g_M_79 (rt_M_listen hap hk) rfl rfl (by decide) (Nat.le_of_ble_eq_true rfl) rfl d_M_ownTurn_31 ?_
        refine xq_goto X d_M_ownTurn_34 109 (by decide) ?_
        exact J9 _ _ ((if_pos h1).trans ((if_pos h3).trans (if_pos h5))).symm ((if_pos h1).trans ((if_pos h3).trans (if_pos h5))).symm
def r_M_decide (k : Nat) (F : Nat → Int32) (E : Nat → Int32) (g : Nat → Int32) : (Nat → Int32) × (Nat → Int32) := (let z6 : Nat → Int32 := (if (F 1) = 1 then (if ((F 6) - 1) = 0 then (if (F 8) = 0 then (upd (upd (upd F 25 0) 6 ((F 6) - 1)) 1 5) else (r_M_startAlone k (upd (upd F 25 0) 6 ((F 6) - 1)) E).1) else (upd (upd F 25 0) 6 ((F 6) - 1))) else (if (r_M_inside (upd F 25 0)) = 0 then (upd F 25 0) else (if (F 2) = (nI k) then (r_M_ownTurn k (upd F 25 0) E g).1 else (upd F 25 0)))); let z7 : Nat → Int32 := (if (F 1) = 1 then (if ((F 6) - 1) = 0 then (if (F 8) = 0 then E else (r_M_startAlone k (upd (upd F 25 0) 6 ((F 6) - 1)) E).2) else E) else (if (r_M_inside (upd F 25 0)) = 0 then E else (if (F 2) = (nI k) then (r_M_ownTurn k (upd F 25 0) E g).2 else E))); (z6, z7))
set_option maxHeartbeats 4000000 in
set_option maxRecDepth 100000 in
theorem rt_M_decide {l : Launch} {D : va_G} {ad : xq_I → Nat} {cI cZ cN : ClassId} (hap : xq_ap rc_cs ad) {k : Nat} (hk : k < 6) {A : rc_A} {F E T g f : Nat → Int32}  :
    xq_M l D vcl (kc_tys cI cZ cN) rc_cs ad (rc_en ad cI cZ) y_M_decide (Cond.code y_M_decide b_M_decide 2 none :: xw) 2 [.ref (ad (6, 0)), .int (nI k)] (rc_ov A k F E T g f) none (rc_ov A k (r_M_decide k F E g).1 (r_M_decide k F E g).2 T g f) := by
  refine xq_met (by decide) (Nat.le_of_ble_eq_true rfl) hap ?_
  intro p e s m args below meth c X
  refine xq_sub [1, 0] [(1, .int (nI k)), (0, .ref (ad (6, 0)))] rfl ?_
  refine xq_aload_n X d_M_decide_0 1 rfl rfl ?_
  refine rg_row X 25 (by decide) f_M_69 d_M_decide_1 ?_
  refine xq_iload_n X d_M_decide_4 0 rfl rfl ?_
  refine xq_iconst (v := 0) X d_M_decide_5 (by decide) ?_
  refine rz_ast (v' := 0) X 25 (by decide) hk rfl (by decide) d_M_decide_6 ?_
  refine xq_aload_n X d_M_decide_7 1 rfl rfl ?_
  refine rg_row X 1 (by decide) f_M_7 d_M_decide_8 ?_
  refine xq_iload_n X d_M_decide_11 0 rfl rfl ?_
  refine rn_ald (v := (F 1)) X 1 (by decide) hk rfl d_M_decide_12 rfl ?_
  refine xq_iconst (v := 1) X d_M_decide_13 (by decide) ?_
  have J8 : ∀ (z6 : Nat → Int32) (z7 : Nat → Int32), z6 = (if (F 1) = 1 then (if ((F 6) - 1) = 0 then (if (F 8) = 0 then (upd (upd (upd F 25 0) 6 ((F 6) - 1)) 1 5) else (r_M_startAlone k (upd (upd F 25 0) 6 ((F 6) - 1)) E).1) else (upd (upd F 25 0) 6 ((F 6) - 1))) else (if (r_M_inside (upd F 25 0)) = 0 then (upd F 25 0) else (if (F 2) = (nI k) then (r_M_ownTurn k (upd F 25 0) E g).1 else (upd F 25 0)))) → z7 = (if (F 1) = 1 then (if ((F 6) - 1) = 0 then (if (F 8) = 0 then E else (r_M_startAlone k (upd (upd F 25 0) 6 ((F 6) - 1)) E).2) else E) else (if (r_M_inside (upd F 25 0)) = 0 then E else (if (F 2) = (nI k) then (r_M_ownTurn k (upd F 25 0) E g).2 else E))) → xq_W p l e (xq_r 2) s m args below meth c D vcl rc_cs ad (rc_en ad cI cZ) 0 0 (MQ below (xq_Q D vcl rc_cs ad (rc_en ad cI cZ) none (rc_ov A k (r_M_decide k F E g).1 (r_M_decide k F E g).2 T g f)) args s 0 0 (xq_in rc_cs ad)) 2 99 [(1, .int (nI k)), (0, .ref (ad (6, 0)))] [] (rc_ov A k z6 z7 T g f) := by
    intro z6 z7 e9 e10
    have hh : (r_M_decide k F E g) = (z6, z7) := by subst e9; subst e10; exact rfl
    exact xq_vret X rfl (by rw [hh]) d_M_decide_99
  refine xq_icmp_ne X d_M_decide_14 76 (by decide) (fun h1 => ?_) (fun h1 => ?_)
  · skip
    refine xq_aload_n X d_M_decide_76 1 rfl rfl ?_
    refine xq_iload_n X d_M_decide_77 0 rfl rfl ?_
    refine rk_callI (As := [.int (nI k)]) (rest := []) X xw_g g_M_86 (rt_M_inside hap hk) rfl rfl (by decide) (Nat.le_of_ble_eq_true rfl) rfl d_M_decide_78 ?_
    refine xq_if_eq X d_M_decide_81 99 (by decide) (fun h2 => ?_) (fun h2 => ?_)
    · skip
      exact J8 _ _ ((if_neg h1).trans (if_pos h2)).symm ((if_neg h1).trans (if_pos h2)).symm
    · skip
      refine xq_aload_n X d_M_decide_84 1 rfl rfl ?_
      refine rg_row X 2 (by decide) f_M_13 d_M_decide_85 ?_
      refine xq_iload_n X d_M_decide_88 0 rfl rfl ?_
      refine rn_ald (v := (F 2)) X 2 (by decide) hk rfl d_M_decide_89 rfl ?_
      refine xq_iload_n X d_M_decide_90 0 rfl rfl ?_
      refine xq_icmp_ne X d_M_decide_91 99 (by decide) (fun h3 => ?_) (fun h3 => ?_)
      · skip
        exact J8 _ _ ((if_neg h1).trans ((if_neg h2).trans (if_neg h3))).symm ((if_neg h1).trans ((if_neg h2).trans (if_neg h3))).symm
      · skip
        refine xq_aload_n X d_M_decide_94 1 rfl rfl ?_
        refine xq_iload_n X d_M_decide_95 0 rfl rfl ?_
        refine rk_callV (As := [.int (nI k)]) (rest := []) X xw_g g_M_93 (rt_M_ownTurn hap hk) rfl rfl (by decide) (Nat.le_of_ble_eq_true rfl) rfl d_M_decide_96 ?_
        exact J8 _ _ ((if_neg h1).trans ((if_neg h2).trans (if_pos h3))).symm ((if_neg h1).trans ((if_neg h2).trans (if_pos h3))).symm
  · skip
    refine xq_aload_n X d_M_decide_17 1 rfl rfl ?_
    refine rg_row X 6 (by decide) f_M_25 d_M_decide_18 ?_
    refine xq_iload_n X d_M_decide_21 0 rfl rfl ?_
    refine xq_aload_n X d_M_decide_22 1 rfl rfl ?_
    refine rg_row X 6 (by decide) f_M_25 d_M_decide_23 ?_
    refine xq_iload_n X d_M_decide_26 0 rfl rfl ?_
    refine rn_ald (v := (F 6)) X 6 (by decide) hk rfl d_M_decide_27 rfl ?_
    refine xq_iconst (v := 1) X d_M_decide_28 (by decide) ?_
    refine xq_isub X d_M_decide_29 ?_
    refine rn_ast X 6 (by decide) hk rfl d_M_decide_30 ?_
    refine xq_aload_n X d_M_decide_31 1 rfl rfl ?_
    refine rg_row X 6 (by decide) f_M_25 d_M_decide_32 ?_
    refine xq_iload_n X d_M_decide_35 0 rfl rfl ?_
    refine rn_ald (v := ((F 6) - 1)) X 6 (by decide) hk rfl d_M_decide_36 rfl ?_
    refine xq_if_ne X d_M_decide_37 59 (by decide) (fun h4 => ?_) (fun h4 => ?_)
    · skip
      refine xq_aload_n X d_M_decide_59 1 rfl rfl ?_
      refine rg_row X 6 (by decide) f_M_25 d_M_decide_60 ?_
      refine xq_iload_n X d_M_decide_63 0 rfl rfl ?_
      refine rn_ald (v := ((F 6) - 1)) X 6 (by decide) hk rfl d_M_decide_64 rfl ?_
      refine xq_if_ne X d_M_decide_65 99 (by decide) (fun _ => ?_) (fun h => absurd h h4)
      exact J8 _ _ ((if_pos h1).trans (if_neg h4)).symm ((if_pos h1).trans (if_neg h4)).symm
    · skip
      refine xq_aload_n X d_M_decide_40 1 rfl rfl ?_
      refine rg_row X 8 (by decide) f_M_32 d_M_decide_41 ?_
      refine xq_iload_n X d_M_decide_44 0 rfl rfl ?_
      refine rn_ald (v := (F 8)) X 8 (by decide) hk rfl d_M_decide_45 rfl ?_
      refine xq_if_ne X d_M_decide_46 59 (by decide) (fun h5 => ?_) (fun h5 => ?_)
      · skip
        refine xq_aload_n X d_M_decide_59 1 rfl rfl ?_
        refine rg_row X 6 (by decide) f_M_25 d_M_decide_60 ?_
        refine xq_iload_n X d_M_decide_63 0 rfl rfl ?_
        refine rn_ald (v := ((F 6) - 1)) X 6 (by decide) hk rfl d_M_decide_64 rfl ?_
        refine xq_if_ne X d_M_decide_65 99 (by decide) (fun h => absurd h4 h) (fun _ => ?_)
        refine xq_aload_n X d_M_decide_68 1 rfl rfl ?_
        refine xq_iload_n X d_M_decide_69 0 rfl rfl ?_
        refine rk_callV (As := [.int (nI k)]) (rest := []) X xw_g g_M_90 (rt_M_startAlone hap hk) rfl rfl (by decide) (Nat.le_of_ble_eq_true rfl) rfl d_M_decide_70 ?_
        refine xq_goto X d_M_decide_73 99 (by decide) ?_
        exact J8 _ _ ((if_pos h1).trans ((if_pos h4).trans (if_neg h5))).symm ((if_pos h1).trans ((if_pos h4).trans (if_neg h5))).symm
      · skip
        refine xq_aload_n X d_M_decide_49 1 rfl rfl ?_
        refine rg_row X 1 (by decide) f_M_7 d_M_decide_50 ?_
        refine xq_iload_n X d_M_decide_53 0 rfl rfl ?_
        refine xq_iconst (v := 5) X d_M_decide_54 (by decide) ?_
        refine rn_ast X 1 (by decide) hk rfl d_M_decide_55 ?_
        refine xq_goto X d_M_decide_56 99 (by decide) ?_
        exact J8 _ _ ((if_pos h1).trans ((if_pos h4).trans (if_pos h5))).symm ((if_pos h1).trans ((if_pos h4).trans (if_pos h5))).symm
def r_M_comeIn (F : Nat → Int32) (E : Nat → Int32) (g : Nat → Int32) (f : Nat → Int32) : (Nat → Int32) × (Nat → Int32) := ((upd (upd (upd (upd (upd (upd (upd F 1 4) 2 (g 21)) 3 (g 22)) 11 (g 23)) 4 1) 5 0) 9 0), (upd (upd (upd (upd (upd (upd E 0 ((f 0) &&& 1)) 1 ((f 1) &&& 1)) 2 ((f 2) &&& 1)) 3 ((f 3) &&& 1)) 4 ((f 4) &&& 1)) 5 ((f 5) &&& 1)))
set_option maxHeartbeats 4000000 in
set_option maxRecDepth 100000 in
theorem rt_M_comeIn {l : Launch} {D : va_G} {ad : xq_I → Nat} {cI cZ cN : ClassId} (hap : xq_ap rc_cs ad) {k : Nat} (hk : k < 6) {A : rc_A} {F E T g f : Nat → Int32}  :
    xq_M l D vcl (kc_tys cI cZ cN) rc_cs ad (rc_en ad cI cZ) y_M_comeIn (Cond.code y_M_comeIn b_M_comeIn 3 none :: xw) 0 [.ref (ad (6, 0)), .int (nI k)] (rc_ov A k F E T g f) none (rc_ov A k (r_M_comeIn F E g f).1 (r_M_comeIn F E g f).2 T g f) := by
  refine xq_met (by decide) (Nat.le_of_ble_eq_true rfl) hap ?_
  intro p e s m args below meth c X
  refine xq_sub [1, 0] [(1, .int (nI k)), (0, .ref (ad (6, 0)))] rfl ?_
  refine xq_aload_n X d_M_comeIn_0 1 rfl rfl ?_
  refine rg_row X 1 (by decide) f_M_7 d_M_comeIn_1 ?_
  refine xq_iload_n X d_M_comeIn_4 0 rfl rfl ?_
  refine xq_iconst (v := 4) X d_M_comeIn_5 (by decide) ?_
  refine rn_ast X 1 (by decide) hk rfl d_M_comeIn_6 ?_
  refine xq_aload_n X d_M_comeIn_7 1 rfl rfl ?_
  refine rg_row X 2 (by decide) f_M_13 d_M_comeIn_8 ?_
  refine xq_iload_n X d_M_comeIn_11 0 rfl rfl ?_
  refine xq_aload_n X d_M_comeIn_12 1 rfl rfl ?_
  refine rg_get (v := (g 21)) X 21 (by decide) f_M_96 d_M_comeIn_13 rfl ?_
  refine rn_ast X 2 (by decide) hk rfl d_M_comeIn_16 ?_
  refine xq_aload_n X d_M_comeIn_17 1 rfl rfl ?_
  refine rg_row X 3 (by decide) f_M_16 d_M_comeIn_18 ?_
  refine xq_iload_n X d_M_comeIn_21 0 rfl rfl ?_
  refine xq_aload_n X d_M_comeIn_22 1 rfl rfl ?_
  refine rg_get (v := (g 22)) X 22 (by decide) f_M_102 d_M_comeIn_23 rfl ?_
  refine rn_ast X 3 (by decide) hk rfl d_M_comeIn_26 ?_
  refine xq_aload_n X d_M_comeIn_27 1 rfl rfl ?_
  refine rg_row X 11 (by decide) f_M_41 d_M_comeIn_28 ?_
  refine xq_iload_n X d_M_comeIn_31 0 rfl rfl ?_
  refine xq_aload_n X d_M_comeIn_32 1 rfl rfl ?_
  refine rg_get (v := (g 23)) X 23 (by decide) f_M_105 d_M_comeIn_33 rfl ?_
  refine rn_ast X 11 (by decide) hk rfl d_M_comeIn_36 ?_
  refine xq_aload_n X d_M_comeIn_37 1 rfl rfl ?_
  refine rg_row X 4 (by decide) f_M_19 d_M_comeIn_38 ?_
  refine xq_iload_n X d_M_comeIn_41 0 rfl rfl ?_
  refine xq_iconst (v := 1) X d_M_comeIn_42 (by decide) ?_
  refine rn_ast X 4 (by decide) hk rfl d_M_comeIn_43 ?_
  refine xq_aload_n X d_M_comeIn_44 1 rfl rfl ?_
  refine rg_row X 5 (by decide) f_M_22 d_M_comeIn_45 ?_
  refine xq_iload_n X d_M_comeIn_48 0 rfl rfl ?_
  refine xq_iconst (v := 0) X d_M_comeIn_49 (by decide) ?_
  refine rn_ast X 5 (by decide) hk rfl d_M_comeIn_50 ?_
  refine xq_aload_n X d_M_comeIn_51 1 rfl rfl ?_
  refine rg_row X 9 (by decide) f_M_35 d_M_comeIn_52 ?_
  refine xq_iload_n X d_M_comeIn_55 0 rfl rfl ?_
  refine xq_iconst (v := 0) X d_M_comeIn_56 (by decide) ?_
  refine rn_ast X 9 (by decide) hk rfl d_M_comeIn_57 ?_
  refine xq_iconst (v := 0) X d_M_comeIn_58 (by decide) ?_
  refine xq_istore_n X d_M_comeIn_59 [(2, .int 0), (1, .int (nI k)), (0, .ref (ad (6, 0)))] rfl rfl (by decide) ?_
  refine xq_iload_n X d_M_comeIn_60 0 rfl rfl ?_
  refine xq_bipush (v := 6) X d_M_comeIn_61 (by decide) ?_
  refine xq_icmp_ge X d_M_comeIn_63 89 (by decide) (fun h => absurd h (by decide)) (fun _ => ?_)
  refine xq_aload_n X d_M_comeIn_66 2 rfl rfl ?_
  refine rg_row X 15 (by decide) f_M_53 d_M_comeIn_67 ?_
  refine xq_bipush (v := 6) X d_M_comeIn_70 (by decide) ?_
  refine xq_iload_n X d_M_comeIn_72 1 rfl rfl ?_
  refine xq_imul X d_M_comeIn_73 ?_
  refine xq_iload_n X d_M_comeIn_74 0 rfl rfl ?_
  refine xq_iadd X d_M_comeIn_75 ?_
  refine xq_aload_n X d_M_comeIn_76 2 rfl rfl ?_
  refine rg_row X 24 (by decide) f_M_66 d_M_comeIn_77 ?_
  refine xq_iload_n X d_M_comeIn_80 0 rfl rfl ?_
  refine rf_ald (v := (f 0)) X 0 (by decide) rfl d_M_comeIn_81 rfl ?_
  refine re_ast (v' := ((f 0) &&& 1)) X 0 (by decide) hk (ri_6 rfl) rfl d_M_comeIn_82 ?_
  refine xq_iinc X d_M_comeIn_83 0 rfl [(2, .int 1), (1, .int (nI k)), (0, .ref (ad (6, 0)))] rfl (by decide) (by decide) ?_
  refine xq_goto X d_M_comeIn_86 60 (by decide) ?_
  refine xq_iload_n X d_M_comeIn_60 0 rfl rfl ?_
  refine xq_bipush (v := 6) X d_M_comeIn_61 (by decide) ?_
  refine xq_icmp_ge X d_M_comeIn_63 89 (by decide) (fun h => absurd h (by decide)) (fun _ => ?_)
  refine xq_aload_n X d_M_comeIn_66 2 rfl rfl ?_
  refine rg_row X 15 (by decide) f_M_53 d_M_comeIn_67 ?_
  refine xq_bipush (v := 6) X d_M_comeIn_70 (by decide) ?_
  refine xq_iload_n X d_M_comeIn_72 1 rfl rfl ?_
  refine xq_imul X d_M_comeIn_73 ?_
  refine xq_iload_n X d_M_comeIn_74 0 rfl rfl ?_
  refine xq_iadd X d_M_comeIn_75 ?_
  refine xq_aload_n X d_M_comeIn_76 2 rfl rfl ?_
  refine rg_row X 24 (by decide) f_M_66 d_M_comeIn_77 ?_
  refine xq_iload_n X d_M_comeIn_80 0 rfl rfl ?_
  refine rf_ald (v := (f 1)) X 1 (by decide) rfl d_M_comeIn_81 rfl ?_
  refine re_ast (v' := ((f 1) &&& 1)) X 1 (by decide) hk (ri_6 rfl) rfl d_M_comeIn_82 ?_
  refine xq_iinc X d_M_comeIn_83 0 rfl [(2, .int 2), (1, .int (nI k)), (0, .ref (ad (6, 0)))] rfl (by decide) (by decide) ?_
  refine xq_goto X d_M_comeIn_86 60 (by decide) ?_
  refine xq_iload_n X d_M_comeIn_60 0 rfl rfl ?_
  refine xq_bipush (v := 6) X d_M_comeIn_61 (by decide) ?_
  refine xq_icmp_ge X d_M_comeIn_63 89 (by decide) (fun h => absurd h (by decide)) (fun _ => ?_)
  refine xq_aload_n X d_M_comeIn_66 2 rfl rfl ?_
  refine rg_row X 15 (by decide) f_M_53 d_M_comeIn_67 ?_
  refine xq_bipush (v := 6) X d_M_comeIn_70 (by decide) ?_
  refine xq_iload_n X d_M_comeIn_72 1 rfl rfl ?_
  refine xq_imul X d_M_comeIn_73 ?_
  refine xq_iload_n X d_M_comeIn_74 0 rfl rfl ?_
  refine xq_iadd X d_M_comeIn_75 ?_
  refine xq_aload_n X d_M_comeIn_76 2 rfl rfl ?_
  refine rg_row X 24 (by decide) f_M_66 d_M_comeIn_77 ?_
  refine xq_iload_n X d_M_comeIn_80 0 rfl rfl ?_
  refine rf_ald (v := (f 2)) X 2 (by decide) rfl d_M_comeIn_81 rfl ?_
  refine re_ast (v' := ((f 2) &&& 1)) X 2 (by decide) hk (ri_6 rfl) rfl d_M_comeIn_82 ?_
  refine xq_iinc X d_M_comeIn_83 0 rfl [(2, .int 3), (1, .int (nI k)), (0, .ref (ad (6, 0)))] rfl (by decide) (by decide) ?_
  refine xq_goto X d_M_comeIn_86 60 (by decide) ?_
  refine xq_iload_n X d_M_comeIn_60 0 rfl rfl ?_
  refine xq_bipush (v := 6) X d_M_comeIn_61 (by decide) ?_
  refine xq_icmp_ge X d_M_comeIn_63 89 (by decide) (fun h => absurd h (by decide)) (fun _ => ?_)
  refine xq_aload_n X d_M_comeIn_66 2 rfl rfl ?_
  refine rg_row X 15 (by decide) f_M_53 d_M_comeIn_67 ?_
  refine xq_bipush (v := 6) X d_M_comeIn_70 (by decide) ?_
  refine xq_iload_n X d_M_comeIn_72 1 rfl rfl ?_
  refine xq_imul X d_M_comeIn_73 ?_
  refine xq_iload_n X d_M_comeIn_74 0 rfl rfl ?_
  refine xq_iadd X d_M_comeIn_75 ?_
  refine xq_aload_n X d_M_comeIn_76 2 rfl rfl ?_
  refine rg_row X 24 (by decide) f_M_66 d_M_comeIn_77 ?_
  refine xq_iload_n X d_M_comeIn_80 0 rfl rfl ?_
  refine rf_ald (v := (f 3)) X 3 (by decide) rfl d_M_comeIn_81 rfl ?_
  refine re_ast (v' := ((f 3) &&& 1)) X 3 (by decide) hk (ri_6 rfl) rfl d_M_comeIn_82 ?_
  refine xq_iinc X d_M_comeIn_83 0 rfl [(2, .int 4), (1, .int (nI k)), (0, .ref (ad (6, 0)))] rfl (by decide) (by decide) ?_
  refine xq_goto X d_M_comeIn_86 60 (by decide) ?_
  refine xq_iload_n X d_M_comeIn_60 0 rfl rfl ?_
  refine xq_bipush (v := 6) X d_M_comeIn_61 (by decide) ?_
  refine xq_icmp_ge X d_M_comeIn_63 89 (by decide) (fun h => absurd h (by decide)) (fun _ => ?_)
  refine xq_aload_n X d_M_comeIn_66 2 rfl rfl ?_
  refine rg_row X 15 (by decide) f_M_53 d_M_comeIn_67 ?_
  refine xq_bipush (v := 6) X d_M_comeIn_70 (by decide) ?_
  refine xq_iload_n X d_M_comeIn_72 1 rfl rfl ?_
  refine xq_imul X d_M_comeIn_73 ?_
  refine xq_iload_n X d_M_comeIn_74 0 rfl rfl ?_
  refine xq_iadd X d_M_comeIn_75 ?_
  refine xq_aload_n X d_M_comeIn_76 2 rfl rfl ?_
  refine rg_row X 24 (by decide) f_M_66 d_M_comeIn_77 ?_
  refine xq_iload_n X d_M_comeIn_80 0 rfl rfl ?_
  refine rf_ald (v := (f 4)) X 4 (by decide) rfl d_M_comeIn_81 rfl ?_
  refine re_ast (v' := ((f 4) &&& 1)) X 4 (by decide) hk (ri_6 rfl) rfl d_M_comeIn_82 ?_
  refine xq_iinc X d_M_comeIn_83 0 rfl [(2, .int 5), (1, .int (nI k)), (0, .ref (ad (6, 0)))] rfl (by decide) (by decide) ?_
  refine xq_goto X d_M_comeIn_86 60 (by decide) ?_
  refine xq_iload_n X d_M_comeIn_60 0 rfl rfl ?_
  refine xq_bipush (v := 6) X d_M_comeIn_61 (by decide) ?_
  refine xq_icmp_ge X d_M_comeIn_63 89 (by decide) (fun h => absurd h (by decide)) (fun _ => ?_)
  refine xq_aload_n X d_M_comeIn_66 2 rfl rfl ?_
  refine rg_row X 15 (by decide) f_M_53 d_M_comeIn_67 ?_
  refine xq_bipush (v := 6) X d_M_comeIn_70 (by decide) ?_
  refine xq_iload_n X d_M_comeIn_72 1 rfl rfl ?_
  refine xq_imul X d_M_comeIn_73 ?_
  refine xq_iload_n X d_M_comeIn_74 0 rfl rfl ?_
  refine xq_iadd X d_M_comeIn_75 ?_
  refine xq_aload_n X d_M_comeIn_76 2 rfl rfl ?_
  refine rg_row X 24 (by decide) f_M_66 d_M_comeIn_77 ?_
  refine xq_iload_n X d_M_comeIn_80 0 rfl rfl ?_
  refine rf_ald (v := (f 5)) X 5 (by decide) rfl d_M_comeIn_81 rfl ?_
  refine re_ast (v' := ((f 5) &&& 1)) X 5 (by decide) hk (ri_6 rfl) rfl d_M_comeIn_82 ?_
  refine xq_iinc X d_M_comeIn_83 0 rfl [(2, .int 6), (1, .int (nI k)), (0, .ref (ad (6, 0)))] rfl (by decide) (by decide) ?_
  refine xq_goto X d_M_comeIn_86 60 (by decide) ?_
  refine xq_iload_n X d_M_comeIn_60 0 rfl rfl ?_
  refine xq_bipush (v := 6) X d_M_comeIn_61 (by decide) ?_
  refine xq_icmp_ge X d_M_comeIn_63 89 (by decide) (fun _ => ?_) (fun h => absurd h (by decide))
  have hh : (r_M_comeIn F E g f) = ((upd (upd (upd (upd (upd (upd (upd F 1 4) 2 (g 21)) 3 (g 22)) 11 (g 23)) 4 1) 5 0) 9 0), (upd (upd (upd (upd (upd (upd E 0 ((f 0) &&& 1)) 1 ((f 1) &&& 1)) 2 ((f 2) &&& 1)) 3 ((f 3) &&& 1)) 4 ((f 4) &&& 1)) 5 ((f 5) &&& 1))) := by exact rfl
  exact xq_vret X rfl (by rw [hh]) d_M_comeIn_89
def r_M_listens (k : Nat) (F : Nat → Int32) (E : Nat → Int32) (g : Nat → Int32) (f : Nat → Int32) (y : Int32) : (Nat → Int32) × (Nat → Int32) := (let z4 : Nat → Int32 := (if y = 3 then (r_M_comeIn F E g f).1 else (if y = 2 then (if (F 7) = 0 then (upd (upd F 7 1) 6 ((2 * (g 0)) + (nI k))) else (r_M_comeIn F E g f).1) else F)); let z5 : Nat → Int32 := (if y = 3 then (r_M_comeIn F E g f).2 else (if y = 2 then (if (F 7) = 0 then E else (r_M_comeIn F E g f).2) else E)); (z4, z5))
set_option maxHeartbeats 4000000 in
set_option maxRecDepth 100000 in
theorem rt_M_listens {l : Launch} {D : va_G} {ad : xq_I → Nat} {cI cZ cN : ClassId} (hap : xq_ap rc_cs ad) {k : Nat} (hk : k < 6) {A : rc_A} {F E T g f : Nat → Int32} (y : Int32)  :
    xq_M l D vcl (kc_tys cI cZ cN) rc_cs ad (rc_en ad cI cZ) y_M_listens (Cond.code y_M_listens b_M_listens 3 none :: xw) 1 [.ref (ad (6, 0)), .int (nI k), .int y] (rc_ov A k F E T g f) none (rc_ov A k (r_M_listens k F E g f y).1 (r_M_listens k F E g f y).2 T g f) := by
  refine xq_met (by decide) (Nat.le_of_ble_eq_true rfl) hap ?_
  intro p e s m args below meth c X
  refine xq_sub [2, 1, 0] [(2, .int y), (1, .int (nI k)), (0, .ref (ad (6, 0)))] rfl ?_
  refine xq_iload_n X d_M_listens_0 0 rfl rfl ?_
  refine xq_iconst (v := 3) X d_M_listens_1 (by decide) ?_
  have J6 : ∀ (z4 : Nat → Int32) (z5 : Nat → Int32), z4 = (if y = 3 then (r_M_comeIn F E g f).1 else (if y = 2 then (if (F 7) = 0 then (upd (upd F 7 1) 6 ((2 * (g 0)) + (nI k))) else (r_M_comeIn F E g f).1) else F)) → z5 = (if y = 3 then (r_M_comeIn F E g f).2 else (if y = 2 then (if (F 7) = 0 then E else (r_M_comeIn F E g f).2) else E)) → xq_W p l e (xq_r 1) s m args below meth c D vcl rc_cs ad (rc_en ad cI cZ) 0 0 (MQ below (xq_Q D vcl rc_cs ad (rc_en ad cI cZ) none (rc_ov A k (r_M_listens k F E g f y).1 (r_M_listens k F E g f y).2 T g f)) args s 0 0 (xq_in rc_cs ad)) 3 53 [(2, .int y), (1, .int (nI k)), (0, .ref (ad (6, 0)))] [] (rc_ov A k z4 z5 T g f) := by
    intro z4 z5 e7 e8
    have hh : (r_M_listens k F E g f y) = (z4, z5) := by subst e7; subst e8; exact rfl
    exact xq_vret X rfl (by rw [hh]) d_M_listens_53
  refine xq_icmp_eq X d_M_listens_2 19 (by decide) (fun h1 => ?_) (fun h1 => ?_)
  · skip
    refine xq_aload_n X d_M_listens_19 2 rfl rfl ?_
    refine xq_iload_n X d_M_listens_20 1 rfl rfl ?_
    refine rk_callV (As := [.int (nI k)]) (rest := []) X xw_g g_M_108 (rt_M_comeIn hap hk) rfl rfl (by decide) (Nat.le_of_ble_eq_true rfl) rfl d_M_listens_21 ?_
    refine xq_goto X d_M_listens_24 53 (by decide) ?_
    exact J6 _ _ (if_pos h1).symm (if_pos h1).symm
  · skip
    refine xq_iload_n X d_M_listens_5 0 rfl rfl ?_
    refine xq_iconst (v := 2) X d_M_listens_6 (by decide) ?_
    refine xq_icmp_ne X d_M_listens_7 27 (by decide) (fun h2 => ?_) (fun h2 => ?_)
    · skip
      refine xq_iload_n X d_M_listens_27 0 rfl rfl ?_
      refine xq_iconst (v := 2) X d_M_listens_28 (by decide) ?_
      refine xq_icmp_ne X d_M_listens_29 53 (by decide) (fun _ => ?_) (fun h => absurd h h2)
      exact J6 _ _ ((if_neg h1).trans (if_neg h2)).symm ((if_neg h1).trans (if_neg h2)).symm
    · skip
      refine xq_aload_n X d_M_listens_10 2 rfl rfl ?_
      refine rg_row X 7 (by decide) f_M_28 d_M_listens_11 ?_
      refine xq_iload_n X d_M_listens_14 1 rfl rfl ?_
      refine rz_ald (v := (F 7)) X 7 (by decide) hk rfl d_M_listens_15 rfl ?_
      refine xq_if_eq X d_M_listens_16 27 (by decide) (fun h3 => ?_) (fun h3 => ?_)
      · skip
        refine xq_iload_n X d_M_listens_27 0 rfl rfl ?_
        refine xq_iconst (v := 2) X d_M_listens_28 (by decide) ?_
        refine xq_icmp_ne X d_M_listens_29 53 (by decide) (fun h => absurd h2 h) (fun _ => ?_)
        refine xq_aload_n X d_M_listens_32 2 rfl rfl ?_
        refine rg_row X 7 (by decide) f_M_28 d_M_listens_33 ?_
        refine xq_iload_n X d_M_listens_36 1 rfl rfl ?_
        refine xq_iconst (v := 1) X d_M_listens_37 (by decide) ?_
        refine rz_ast (v' := 1) X 7 (by decide) hk rfl (by decide) d_M_listens_38 ?_
        refine xq_aload_n X d_M_listens_39 2 rfl rfl ?_
        refine rg_row X 6 (by decide) f_M_25 d_M_listens_40 ?_
        refine xq_iload_n X d_M_listens_43 1 rfl rfl ?_
        refine xq_iconst (v := 2) X d_M_listens_44 (by decide) ?_
        refine xq_aload_n X d_M_listens_45 2 rfl rfl ?_
        refine rg_get (v := (g 0)) X 0 (by decide) f_M_72 d_M_listens_46 rfl ?_
        refine xq_imul X d_M_listens_49 ?_
        refine xq_iload_n X d_M_listens_50 1 rfl rfl ?_
        refine xq_iadd X d_M_listens_51 ?_
        refine rn_ast X 6 (by decide) hk rfl d_M_listens_52 ?_
        exact J6 _ _ ((if_neg h1).trans ((if_pos h2).trans (if_pos h3))).symm ((if_neg h1).trans ((if_pos h2).trans (if_pos h3))).symm
      · skip
        refine xq_aload_n X d_M_listens_19 2 rfl rfl ?_
        refine xq_iload_n X d_M_listens_20 1 rfl rfl ?_
        refine rk_callV (As := [.int (nI k)]) (rest := []) X xw_g g_M_108 (rt_M_comeIn hap hk) rfl rfl (by decide) (Nat.le_of_ble_eq_true rfl) rfl d_M_listens_21 ?_
        refine xq_goto X d_M_listens_24 53 (by decide) ?_
        exact J6 _ _ ((if_neg h1).trans ((if_pos h2).trans (if_neg h3))).symm ((if_neg h1).trans ((if_pos h2).trans (if_neg h3))).symm
def r_M_bad (t : Nat) (F : Nat → Int32) (E : Nat → Int32) : (Nat → Int32) × (Nat → Int32) := ((upd F 5 ((F 5) + 1)), (upd E t 0))
set_option maxHeartbeats 4000000 in
set_option maxRecDepth 100000 in
theorem rt_M_bad {l : Launch} {D : va_G} {ad : xq_I → Nat} {cI cZ cN : ClassId} (hap : xq_ap rc_cs ad) {k : Nat} (hk : k < 6) {A : rc_A} {F E T g f : Nat → Int32} (t : Nat) (htl : t < 6) (ht : (F 2) = nI t) :
    xq_M l D vcl (kc_tys cI cZ cN) rc_cs ad (rc_en ad cI cZ) y_M_bad (Cond.code y_M_bad b_M_bad 2 none :: xw) 0 [.ref (ad (6, 0)), .int (nI k)] (rc_ov A k F E T g f) none (rc_ov A k (r_M_bad t F E).1 (r_M_bad t F E).2 T g f) := by
  refine xq_met (by decide) (Nat.le_of_ble_eq_true rfl) hap ?_
  intro p e s m args below meth c X
  refine xq_sub [1, 0] [(1, .int (nI k)), (0, .ref (ad (6, 0)))] rfl ?_
  refine xq_aload_n X d_M_bad_0 1 rfl rfl ?_
  refine rg_row X 15 (by decide) f_M_53 d_M_bad_1 ?_
  refine xq_bipush (v := 6) X d_M_bad_4 (by decide) ?_
  refine xq_iload_n X d_M_bad_6 0 rfl rfl ?_
  refine xq_imul X d_M_bad_7 ?_
  refine xq_aload_n X d_M_bad_8 1 rfl rfl ?_
  refine rg_row X 2 (by decide) f_M_13 d_M_bad_9 ?_
  refine xq_iload_n X d_M_bad_12 0 rfl rfl ?_
  refine rn_ald (v := (F 2)) X 2 (by decide) hk rfl d_M_bad_13 rfl ?_
  refine xq_iadd X d_M_bad_14 ?_
  refine xq_iconst (v := 0) X d_M_bad_15 (by decide) ?_
  refine re_ast (v' := 0) X t htl hk (ri_6 ht) (by decide) d_M_bad_16 ?_
  refine xq_aload_n X d_M_bad_17 1 rfl rfl ?_
  refine rg_row X 5 (by decide) f_M_22 d_M_bad_18 ?_
  refine xq_iload_n X d_M_bad_21 0 rfl rfl ?_
  refine xq_aload_n X d_M_bad_22 1 rfl rfl ?_
  refine rg_row X 5 (by decide) f_M_22 d_M_bad_23 ?_
  refine xq_iload_n X d_M_bad_26 0 rfl rfl ?_
  refine rn_ald (v := (F 5)) X 5 (by decide) hk rfl d_M_bad_27 rfl ?_
  refine xq_iconst (v := 1) X d_M_bad_28 (by decide) ?_
  refine xq_iadd X d_M_bad_29 ?_
  refine rn_ast X 5 (by decide) hk rfl d_M_bad_30 ?_
  have hh : (r_M_bad t F E) = ((upd F 5 ((F 5) + 1)), (upd E t 0)) := by exact rfl
  exact xq_vret X rfl (by rw [hh]) d_M_bad_31
def r_M_set (F : Nat → Int32) (T : Nat → Int32) (g : Nat → Int32) : (Nat → Int32) := (if (r_M_inside F) = 0 then F else (if (F 2) = ((g 0) - 1) then (if 4 ≤ (F 17) then (let z7 : Int32 := (if (T 0) ≤ (T 1) then (T 0) else (T 1)); (let z9 : Int32 := (if (T 1) ≤ (T 0) then (T 0) else (T 1)); (let z11 : Int32 := (if z7 ≤ (T 2) then z7 else (T 2)); (let z13 : Int32 := (if (T 2) ≤ z9 then z9 else (T 2)); (let z15 : Int32 := (if z11 ≤ (T 3) then z11 else (T 3)); (let z17 : Int32 := (if (T 3) ≤ z13 then z13 else (T 3)); (upd F 11 ((F 11) + (((((((0 + (T 0)) + (T 1)) + (T 2)) + (T 3)) - z15) - z17) / 2))))))))) else F) else F))
set_option maxHeartbeats 4000000 in
set_option maxRecDepth 100000 in
theorem rt_M_set {l : Launch} {D : va_G} {ad : xq_I → Nat} {cI cZ cN : ClassId} (hap : xq_ap rc_cs ad) {k : Nat} (hk : k < 6) {A : rc_A} {F E T g f : Nat → Int32}  :
    xq_M l D vcl (kc_tys cI cZ cN) rc_cs ad (rc_en ad cI cZ) y_M_set (Cond.code y_M_set b_M_set 7 none :: xw) 1 [.ref (ad (6, 0)), .int (nI k)] (rc_ov A k F E T g f) none (rc_ov A k (r_M_set F T g) E T g f) := by
  refine xq_met (by decide) (Nat.le_of_ble_eq_true rfl) hap ?_
  intro p e s m args below meth c X
  refine xq_sub [1, 0] [(1, .int (nI k)), (0, .ref (ad (6, 0)))] rfl ?_
  refine xq_aload_n X d_M_set_0 1 rfl rfl ?_
  refine xq_iload_n X d_M_set_1 0 rfl rfl ?_
  refine rk_callI (As := [.int (nI k)]) (rest := []) X xw_g g_M_86 (rt_M_inside hap hk) rfl rfl (by decide) (Nat.le_of_ble_eq_true rfl) rfl d_M_set_2 ?_
  refine xq_if_eq X d_M_set_5 33 (by decide) (fun h1 => ?_) (fun h1 => ?_)
  · skip
    have hh : (r_M_set F T g) = F := by exact (if_pos h1)
    exact xq_vret X rfl (by rw [hh]) d_M_set_33
  · skip
    refine xq_aload_n X d_M_set_8 1 rfl rfl ?_
    refine rg_row X 2 (by decide) f_M_13 d_M_set_9 ?_
    refine xq_iload_n X d_M_set_12 0 rfl rfl ?_
    refine rn_ald (v := (F 2)) X 2 (by decide) hk rfl d_M_set_13 rfl ?_
    refine xq_aload_n X d_M_set_14 1 rfl rfl ?_
    refine rg_get (v := (g 0)) X 0 (by decide) f_M_72 d_M_set_15 rfl ?_
    refine xq_iconst (v := 1) X d_M_set_18 (by decide) ?_
    refine xq_isub X d_M_set_19 ?_
    refine xq_icmp_ne X d_M_set_20 33 (by decide) (fun h2 => ?_) (fun h2 => ?_)
    · skip
      have hh : (r_M_set F T g) = F := by exact ((if_neg h1).trans (if_neg h2))
      exact xq_vret X rfl (by rw [hh]) d_M_set_33
    · skip
      refine xq_aload_n X d_M_set_23 1 rfl rfl ?_
      refine rg_row X 17 (by decide) f_M_59 d_M_set_24 ?_
      refine xq_iload_n X d_M_set_27 0 rfl rfl ?_
      refine rn_ald (v := (F 17)) X 17 (by decide) hk rfl d_M_set_28 rfl ?_
      refine xq_iconst (v := 4) X d_M_set_29 (by decide) ?_
      refine xq_icmp_ge X d_M_set_30 34 (by decide) (fun h3 => ?_) (fun h3 => ?_)
      · skip
        refine xq_iconst (v := 0) X d_M_set_34 (by decide) ?_
        refine xq_istore_n X d_M_set_35 [(2, .int 0), (1, .int (nI k)), (0, .ref (ad (6, 0)))] rfl rfl (by decide) ?_
        refine xq_aload_n X d_M_set_36 2 rfl rfl ?_
        refine rg_row X 16 (by decide) f_M_56 d_M_set_37 ?_
        refine xq_iconst (v := 4) X d_M_set_40 (by decide) ?_
        refine xq_iload_n X d_M_set_41 1 rfl rfl ?_
        refine xq_imul X d_M_set_42 ?_
        refine rt_ald (v := (T 0)) X 0 (by decide) hk (ri_40 k) d_M_set_43 rfl ?_
        refine xq_istore_n X d_M_set_44 [(3, .int (T 0)), (2, .int 0), (1, .int (nI k)), (0, .ref (ad (6, 0)))] rfl rfl (by decide) ?_
        refine xq_aload_n X d_M_set_45 3 rfl rfl ?_
        refine rg_row X 16 (by decide) f_M_56 d_M_set_46 ?_
        refine xq_iconst (v := 4) X d_M_set_49 (by decide) ?_
        refine xq_iload_n X d_M_set_50 2 rfl rfl ?_
        refine xq_imul X d_M_set_51 ?_
        refine rt_ald (v := (T 0)) X 0 (by decide) hk (ri_40 k) d_M_set_52 rfl ?_
        refine xq_istore X d_M_set_53 [(4, .int (T 0)), (3, .int (T 0)), (2, .int 0), (1, .int (nI k)), (0, .ref (ad (6, 0)))] rfl (by decide) ?_
        refine xq_iconst (v := 0) X d_M_set_55 (by decide) ?_
        refine xq_istore X d_M_set_56 [(5, .int 0), (4, .int (T 0)), (3, .int (T 0)), (2, .int 0), (1, .int (nI k)), (0, .ref (ad (6, 0)))] rfl (by decide) ?_
        refine xq_iload X d_M_set_58 0 rfl ?_
        refine xq_iconst (v := 4) X d_M_set_60 (by decide) ?_
        refine xq_icmp_ge X d_M_set_61 117 (by decide) (fun h => absurd h (by decide)) (fun _ => ?_)
        refine xq_aload_n X d_M_set_64 5 rfl rfl ?_
        refine rg_row X 16 (by decide) f_M_56 d_M_set_65 ?_
        refine xq_iconst (v := 4) X d_M_set_68 (by decide) ?_
        refine xq_iload_n X d_M_set_69 4 rfl rfl ?_
        refine xq_imul X d_M_set_70 ?_
        refine xq_iload X d_M_set_71 0 rfl ?_
        refine xq_iadd X d_M_set_73 ?_
        refine rt_ald (v := (T 0)) X 0 (by decide) hk (ri_4 rfl) d_M_set_74 rfl ?_
        refine xq_istore X d_M_set_75 [(6, .int (T 0)), (5, .int 0), (4, .int (T 0)), (3, .int (T 0)), (2, .int 0), (1, .int (nI k)), (0, .ref (ad (6, 0)))] rfl (by decide) ?_
        refine xq_iload_n X d_M_set_77 4 rfl rfl ?_
        refine xq_iload X d_M_set_78 0 rfl ?_
        refine xq_iadd X d_M_set_80 ?_
        refine xq_istore_n X d_M_set_81 [(2, .int (0 + (T 0))), (6, .int (T 0)), (5, .int 0), (4, .int (T 0)), (3, .int (T 0)), (1, .int (nI k)), (0, .ref (ad (6, 0)))] rfl rfl (by decide) ?_
        refine xq_sub [1, 2, 3, 4, 0, 5, 6] [(6, .int (T 0)), (5, .int 0), (4, .int (T 0)), (3, .int (T 0)), (2, .int (0 + (T 0))), (1, .int (nI k)), (0, .ref (ad (6, 0)))] rfl ?_
        refine xq_iload X d_M_set_82 0 rfl ?_
        refine xq_iload_n X d_M_set_84 3 rfl rfl ?_
        have J18 : xq_W p l e (xq_r 1) s m args below meth c D vcl rc_cs ad (rc_en ad cI cZ) 0 0 (MQ below (xq_Q D vcl rc_cs ad (rc_en ad cI cZ) none (rc_ov A k (r_M_set F T g) E T g f)) args s 0 0 (xq_in rc_cs ad)) 7 94 [(6, .int (T 0)), (5, .int 0), (4, .int (T 0)), (3, .int (T 0)), (2, .int (0 + (T 0))), (1, .int (nI k)), (0, .ref (ad (6, 0)))] [.int (T 0)] (rc_ov A k F E T g f) := by
          refine xq_istore_n X d_M_set_94 [(3, .int (T 0)), (6, .int (T 0)), (5, .int 0), (4, .int (T 0)), (2, .int (0 + (T 0))), (1, .int (nI k)), (0, .ref (ad (6, 0)))] rfl rfl (by decide) ?_
          refine xq_sub [1, 2, 3, 0, 4, 5, 6] [(6, .int (T 0)), (5, .int 0), (4, .int (T 0)), (3, .int (T 0)), (2, .int (0 + (T 0))), (1, .int (nI k)), (0, .ref (ad (6, 0)))] rfl ?_
          refine xq_iload X d_M_set_95 0 rfl ?_
          refine xq_iload X d_M_set_97 2 rfl ?_
          have J19 : xq_W p l e (xq_r 1) s m args below meth c D vcl rc_cs ad (rc_en ad cI cZ) 0 0 (MQ below (xq_Q D vcl rc_cs ad (rc_en ad cI cZ) none (rc_ov A k (r_M_set F T g) E T g f)) args s 0 0 (xq_in rc_cs ad)) 7 109 [(6, .int (T 0)), (5, .int 0), (4, .int (T 0)), (3, .int (T 0)), (2, .int (0 + (T 0))), (1, .int (nI k)), (0, .ref (ad (6, 0)))] [.int (T 0)] (rc_ov A k F E T g f) := by
            refine xq_istore X d_M_set_109 [(4, .int (T 0)), (6, .int (T 0)), (5, .int 0), (3, .int (T 0)), (2, .int (0 + (T 0))), (1, .int (nI k)), (0, .ref (ad (6, 0)))] rfl (by decide) ?_
            refine xq_sub [1, 2, 0, 3, 4, 5, 6] [(6, .int (T 0)), (5, .int 0), (4, .int (T 0)), (3, .int (T 0)), (2, .int (0 + (T 0))), (1, .int (nI k)), (0, .ref (ad (6, 0)))] rfl ?_
            refine xq_iinc X d_M_set_111 1 rfl [(5, .int 1), (6, .int (T 0)), (4, .int (T 0)), (3, .int (T 0)), (2, .int (0 + (T 0))), (1, .int (nI k)), (0, .ref (ad (6, 0)))] rfl (by decide) (by decide) ?_
            refine xq_sub [1, 0, 2, 3, 4, 5, 6] [(6, .int (T 0)), (5, .int 1), (4, .int (T 0)), (3, .int (T 0)), (2, .int (0 + (T 0))), (1, .int (nI k)), (0, .ref (ad (6, 0)))] rfl ?_
            refine xq_goto X d_M_set_114 58 (by decide) ?_
            refine xq_iload X d_M_set_58 1 rfl ?_
            refine xq_iconst (v := 4) X d_M_set_60 (by decide) ?_
            refine xq_icmp_ge X d_M_set_61 117 (by decide) (fun h => absurd h (by decide)) (fun _ => ?_)
            refine xq_aload_n X d_M_set_64 6 rfl rfl ?_
            refine rg_row X 16 (by decide) f_M_56 d_M_set_65 ?_
            refine xq_iconst (v := 4) X d_M_set_68 (by decide) ?_
            refine xq_iload_n X d_M_set_69 5 rfl rfl ?_
            refine xq_imul X d_M_set_70 ?_
            refine xq_iload X d_M_set_71 1 rfl ?_
            refine xq_iadd X d_M_set_73 ?_
            refine rt_ald (v := (T 1)) X 1 (by decide) hk (ri_4 rfl) d_M_set_74 rfl ?_
            refine xq_istore X d_M_set_75 [(6, .int (T 1)), (5, .int 1), (4, .int (T 0)), (3, .int (T 0)), (2, .int (0 + (T 0))), (1, .int (nI k)), (0, .ref (ad (6, 0)))] rfl (by decide) ?_
            refine xq_iload_n X d_M_set_77 4 rfl rfl ?_
            refine xq_iload X d_M_set_78 0 rfl ?_
            refine xq_iadd X d_M_set_80 ?_
            refine xq_istore_n X d_M_set_81 [(2, .int ((0 + (T 0)) + (T 1))), (6, .int (T 1)), (5, .int 1), (4, .int (T 0)), (3, .int (T 0)), (1, .int (nI k)), (0, .ref (ad (6, 0)))] rfl rfl (by decide) ?_
            refine xq_sub [1, 2, 3, 4, 0, 5, 6] [(6, .int (T 1)), (5, .int 1), (4, .int (T 0)), (3, .int (T 0)), (2, .int ((0 + (T 0)) + (T 1))), (1, .int (nI k)), (0, .ref (ad (6, 0)))] rfl ?_
            refine xq_iload X d_M_set_82 0 rfl ?_
            refine xq_iload_n X d_M_set_84 3 rfl rfl ?_
            have J20 : ∀ (z7 : Int32), z7 = (if (T 0) ≤ (T 1) then (T 0) else (T 1)) → xq_W p l e (xq_r 1) s m args below meth c D vcl rc_cs ad (rc_en ad cI cZ) 0 0 (MQ below (xq_Q D vcl rc_cs ad (rc_en ad cI cZ) none (rc_ov A k (r_M_set F T g) E T g f)) args s 0 0 (xq_in rc_cs ad)) 7 94 [(6, .int (T 1)), (5, .int 1), (4, .int (T 0)), (3, .int (T 0)), (2, .int ((0 + (T 0)) + (T 1))), (1, .int (nI k)), (0, .ref (ad (6, 0)))] [.int z7] (rc_ov A k F E T g f) := by
              intro z7 e21
              refine xq_istore_n X d_M_set_94 [(3, .int z7), (6, .int (T 1)), (5, .int 1), (4, .int (T 0)), (2, .int ((0 + (T 0)) + (T 1))), (1, .int (nI k)), (0, .ref (ad (6, 0)))] rfl rfl (by decide) ?_
              refine xq_sub [1, 2, 3, 0, 4, 5, 6] [(6, .int (T 1)), (5, .int 1), (4, .int (T 0)), (3, .int z7), (2, .int ((0 + (T 0)) + (T 1))), (1, .int (nI k)), (0, .ref (ad (6, 0)))] rfl ?_
              refine xq_iload X d_M_set_95 0 rfl ?_
              refine xq_iload X d_M_set_97 2 rfl ?_
              have J22 : ∀ (z9 : Int32), z9 = (if (T 1) ≤ (T 0) then (T 0) else (T 1)) → xq_W p l e (xq_r 1) s m args below meth c D vcl rc_cs ad (rc_en ad cI cZ) 0 0 (MQ below (xq_Q D vcl rc_cs ad (rc_en ad cI cZ) none (rc_ov A k (r_M_set F T g) E T g f)) args s 0 0 (xq_in rc_cs ad)) 7 109 [(6, .int (T 1)), (5, .int 1), (4, .int (T 0)), (3, .int z7), (2, .int ((0 + (T 0)) + (T 1))), (1, .int (nI k)), (0, .ref (ad (6, 0)))] [.int z9] (rc_ov A k F E T g f) := by
                intro z9 e23
                refine xq_istore X d_M_set_109 [(4, .int z9), (6, .int (T 1)), (5, .int 1), (3, .int z7), (2, .int ((0 + (T 0)) + (T 1))), (1, .int (nI k)), (0, .ref (ad (6, 0)))] rfl (by decide) ?_
                refine xq_sub [1, 2, 0, 3, 4, 5, 6] [(6, .int (T 1)), (5, .int 1), (4, .int z9), (3, .int z7), (2, .int ((0 + (T 0)) + (T 1))), (1, .int (nI k)), (0, .ref (ad (6, 0)))] rfl ?_
                refine xq_iinc X d_M_set_111 1 rfl [(5, .int 2), (6, .int (T 1)), (4, .int z9), (3, .int z7), (2, .int ((0 + (T 0)) + (T 1))), (1, .int (nI k)), (0, .ref (ad (6, 0)))] rfl (by decide) (by decide) ?_
                refine xq_sub [1, 0, 2, 3, 4, 5, 6] [(6, .int (T 1)), (5, .int 2), (4, .int z9), (3, .int z7), (2, .int ((0 + (T 0)) + (T 1))), (1, .int (nI k)), (0, .ref (ad (6, 0)))] rfl ?_
                refine xq_goto X d_M_set_114 58 (by decide) ?_
                refine xq_iload X d_M_set_58 1 rfl ?_
                refine xq_iconst (v := 4) X d_M_set_60 (by decide) ?_
                refine xq_icmp_ge X d_M_set_61 117 (by decide) (fun h => absurd h (by decide)) (fun _ => ?_)
                refine xq_aload_n X d_M_set_64 6 rfl rfl ?_
                refine rg_row X 16 (by decide) f_M_56 d_M_set_65 ?_
                refine xq_iconst (v := 4) X d_M_set_68 (by decide) ?_
                refine xq_iload_n X d_M_set_69 5 rfl rfl ?_
                refine xq_imul X d_M_set_70 ?_
                refine xq_iload X d_M_set_71 1 rfl ?_
                refine xq_iadd X d_M_set_73 ?_
                refine rt_ald (v := (T 2)) X 2 (by decide) hk (ri_4 rfl) d_M_set_74 rfl ?_
                refine xq_istore X d_M_set_75 [(6, .int (T 2)), (5, .int 2), (4, .int z9), (3, .int z7), (2, .int ((0 + (T 0)) + (T 1))), (1, .int (nI k)), (0, .ref (ad (6, 0)))] rfl (by decide) ?_
                refine xq_iload_n X d_M_set_77 4 rfl rfl ?_
                refine xq_iload X d_M_set_78 0 rfl ?_
                refine xq_iadd X d_M_set_80 ?_
                refine xq_istore_n X d_M_set_81 [(2, .int (((0 + (T 0)) + (T 1)) + (T 2))), (6, .int (T 2)), (5, .int 2), (4, .int z9), (3, .int z7), (1, .int (nI k)), (0, .ref (ad (6, 0)))] rfl rfl (by decide) ?_
                refine xq_sub [1, 2, 3, 4, 0, 5, 6] [(6, .int (T 2)), (5, .int 2), (4, .int z9), (3, .int z7), (2, .int (((0 + (T 0)) + (T 1)) + (T 2))), (1, .int (nI k)), (0, .ref (ad (6, 0)))] rfl ?_
                refine xq_iload X d_M_set_82 0 rfl ?_
                refine xq_iload_n X d_M_set_84 3 rfl rfl ?_
                have J24 : ∀ (z11 : Int32), z11 = (if z7 ≤ (T 2) then z7 else (T 2)) → xq_W p l e (xq_r 1) s m args below meth c D vcl rc_cs ad (rc_en ad cI cZ) 0 0 (MQ below (xq_Q D vcl rc_cs ad (rc_en ad cI cZ) none (rc_ov A k (r_M_set F T g) E T g f)) args s 0 0 (xq_in rc_cs ad)) 7 94 [(6, .int (T 2)), (5, .int 2), (4, .int z9), (3, .int z7), (2, .int (((0 + (T 0)) + (T 1)) + (T 2))), (1, .int (nI k)), (0, .ref (ad (6, 0)))] [.int z11] (rc_ov A k F E T g f) := by
                  intro z11 e25
                  refine xq_istore_n X d_M_set_94 [(3, .int z11), (6, .int (T 2)), (5, .int 2), (4, .int z9), (2, .int (((0 + (T 0)) + (T 1)) + (T 2))), (1, .int (nI k)), (0, .ref (ad (6, 0)))] rfl rfl (by decide) ?_
                  refine xq_sub [1, 2, 3, 0, 4, 5, 6] [(6, .int (T 2)), (5, .int 2), (4, .int z9), (3, .int z11), (2, .int (((0 + (T 0)) + (T 1)) + (T 2))), (1, .int (nI k)), (0, .ref (ad (6, 0)))] rfl ?_
                  refine xq_iload X d_M_set_95 0 rfl ?_
                  refine xq_iload X d_M_set_97 2 rfl ?_
                  have J26 : ∀ (z13 : Int32), z13 = (if (T 2) ≤ z9 then z9 else (T 2)) → xq_W p l e (xq_r 1) s m args below meth c D vcl rc_cs ad (rc_en ad cI cZ) 0 0 (MQ below (xq_Q D vcl rc_cs ad (rc_en ad cI cZ) none (rc_ov A k (r_M_set F T g) E T g f)) args s 0 0 (xq_in rc_cs ad)) 7 109 [(6, .int (T 2)), (5, .int 2), (4, .int z9), (3, .int z11), (2, .int (((0 + (T 0)) + (T 1)) + (T 2))), (1, .int (nI k)), (0, .ref (ad (6, 0)))] [.int z13] (rc_ov A k F E T g f) := by
                    intro z13 e27
                    refine xq_istore X d_M_set_109 [(4, .int z13), (6, .int (T 2)), (5, .int 2), (3, .int z11), (2, .int (((0 + (T 0)) + (T 1)) + (T 2))), (1, .int (nI k)), (0, .ref (ad (6, 0)))] rfl (by decide) ?_
                    refine xq_sub [1, 2, 0, 3, 4, 5, 6] [(6, .int (T 2)), (5, .int 2), (4, .int z13), (3, .int z11), (2, .int (((0 + (T 0)) + (T 1)) + (T 2))), (1, .int (nI k)), (0, .ref (ad (6, 0)))] rfl ?_
                    refine xq_iinc X d_M_set_111 1 rfl [(5, .int 3), (6, .int (T 2)), (4, .int z13), (3, .int z11), (2, .int (((0 + (T 0)) + (T 1)) + (T 2))), (1, .int (nI k)), (0, .ref (ad (6, 0)))] rfl (by decide) (by decide) ?_
                    refine xq_sub [1, 0, 2, 3, 4, 5, 6] [(6, .int (T 2)), (5, .int 3), (4, .int z13), (3, .int z11), (2, .int (((0 + (T 0)) + (T 1)) + (T 2))), (1, .int (nI k)), (0, .ref (ad (6, 0)))] rfl ?_
                    refine xq_goto X d_M_set_114 58 (by decide) ?_
                    refine xq_iload X d_M_set_58 1 rfl ?_
                    refine xq_iconst (v := 4) X d_M_set_60 (by decide) ?_
                    refine xq_icmp_ge X d_M_set_61 117 (by decide) (fun h => absurd h (by decide)) (fun _ => ?_)
                    refine xq_aload_n X d_M_set_64 6 rfl rfl ?_
                    refine rg_row X 16 (by decide) f_M_56 d_M_set_65 ?_
                    refine xq_iconst (v := 4) X d_M_set_68 (by decide) ?_
                    refine xq_iload_n X d_M_set_69 5 rfl rfl ?_
                    refine xq_imul X d_M_set_70 ?_
                    refine xq_iload X d_M_set_71 1 rfl ?_
                    refine xq_iadd X d_M_set_73 ?_
                    refine rt_ald (v := (T 3)) X 3 (by decide) hk (ri_4 rfl) d_M_set_74 rfl ?_
                    refine xq_istore X d_M_set_75 [(6, .int (T 3)), (5, .int 3), (4, .int z13), (3, .int z11), (2, .int (((0 + (T 0)) + (T 1)) + (T 2))), (1, .int (nI k)), (0, .ref (ad (6, 0)))] rfl (by decide) ?_
                    refine xq_iload_n X d_M_set_77 4 rfl rfl ?_
                    refine xq_iload X d_M_set_78 0 rfl ?_
                    refine xq_iadd X d_M_set_80 ?_
                    refine xq_istore_n X d_M_set_81 [(2, .int ((((0 + (T 0)) + (T 1)) + (T 2)) + (T 3))), (6, .int (T 3)), (5, .int 3), (4, .int z13), (3, .int z11), (1, .int (nI k)), (0, .ref (ad (6, 0)))] rfl rfl (by decide) ?_
                    refine xq_sub [1, 2, 3, 4, 0, 5, 6] [(6, .int (T 3)), (5, .int 3), (4, .int z13), (3, .int z11), (2, .int ((((0 + (T 0)) + (T 1)) + (T 2)) + (T 3))), (1, .int (nI k)), (0, .ref (ad (6, 0)))] rfl ?_
                    refine xq_iload X d_M_set_82 0 rfl ?_
                    refine xq_iload_n X d_M_set_84 3 rfl rfl ?_
                    have J28 : ∀ (z15 : Int32), z15 = (if z11 ≤ (T 3) then z11 else (T 3)) → xq_W p l e (xq_r 1) s m args below meth c D vcl rc_cs ad (rc_en ad cI cZ) 0 0 (MQ below (xq_Q D vcl rc_cs ad (rc_en ad cI cZ) none (rc_ov A k (r_M_set F T g) E T g f)) args s 0 0 (xq_in rc_cs ad)) 7 94 [(6, .int (T 3)), (5, .int 3), (4, .int z13), (3, .int z11), (2, .int ((((0 + (T 0)) + (T 1)) + (T 2)) + (T 3))), (1, .int (nI k)), (0, .ref (ad (6, 0)))] [.int z15] (rc_ov A k F E T g f) := by
                      intro z15 e29
                      refine xq_istore_n X d_M_set_94 [(3, .int z15), (6, .int (T 3)), (5, .int 3), (4, .int z13), (2, .int ((((0 + (T 0)) + (T 1)) + (T 2)) + (T 3))), (1, .int (nI k)), (0, .ref (ad (6, 0)))] rfl rfl (by decide) ?_
                      refine xq_sub [1, 2, 3, 0, 4, 5, 6] [(6, .int (T 3)), (5, .int 3), (4, .int z13), (3, .int z15), (2, .int ((((0 + (T 0)) + (T 1)) + (T 2)) + (T 3))), (1, .int (nI k)), (0, .ref (ad (6, 0)))] rfl ?_
                      refine xq_iload X d_M_set_95 0 rfl ?_
                      refine xq_iload X d_M_set_97 2 rfl ?_
                      have J30 : ∀ (z17 : Int32), z17 = (if (T 3) ≤ z13 then z13 else (T 3)) → xq_W p l e (xq_r 1) s m args below meth c D vcl rc_cs ad (rc_en ad cI cZ) 0 0 (MQ below (xq_Q D vcl rc_cs ad (rc_en ad cI cZ) none (rc_ov A k (r_M_set F T g) E T g f)) args s 0 0 (xq_in rc_cs ad)) 7 109 [(6, .int (T 3)), (5, .int 3), (4, .int z13), (3, .int z15), (2, .int ((((0 + (T 0)) + (T 1)) + (T 2)) + (T 3))), (1, .int (nI k)), (0, .ref (ad (6, 0)))] [.int z17] (rc_ov A k F E T g f) := by
                        intro z17 e31
                        refine xq_istore X d_M_set_109 [(4, .int z17), (6, .int (T 3)), (5, .int 3), (3, .int z15), (2, .int ((((0 + (T 0)) + (T 1)) + (T 2)) + (T 3))), (1, .int (nI k)), (0, .ref (ad (6, 0)))] rfl (by decide) ?_
                        refine xq_sub [1, 2, 0, 3, 4, 5, 6] [(6, .int (T 3)), (5, .int 3), (4, .int z17), (3, .int z15), (2, .int ((((0 + (T 0)) + (T 1)) + (T 2)) + (T 3))), (1, .int (nI k)), (0, .ref (ad (6, 0)))] rfl ?_
                        refine xq_iinc X d_M_set_111 1 rfl [(5, .int 4), (6, .int (T 3)), (4, .int z17), (3, .int z15), (2, .int ((((0 + (T 0)) + (T 1)) + (T 2)) + (T 3))), (1, .int (nI k)), (0, .ref (ad (6, 0)))] rfl (by decide) (by decide) ?_
                        refine xq_sub [1, 0, 2, 3, 4, 5, 6] [(6, .int (T 3)), (5, .int 4), (4, .int z17), (3, .int z15), (2, .int ((((0 + (T 0)) + (T 1)) + (T 2)) + (T 3))), (1, .int (nI k)), (0, .ref (ad (6, 0)))] rfl ?_
                        refine xq_goto X d_M_set_114 58 (by decide) ?_
                        refine xq_iload X d_M_set_58 1 rfl ?_
                        refine xq_iconst (v := 4) X d_M_set_60 (by decide) ?_
                        refine xq_icmp_ge X d_M_set_61 117 (by decide) (fun _ => ?_) (fun h => absurd h (by decide))
                        refine xq_aload_n X d_M_set_117 6 rfl rfl ?_
                        refine rg_row X 11 (by decide) f_M_41 d_M_set_118 ?_
                        refine xq_iload_n X d_M_set_121 5 rfl rfl ?_
                        refine xq_aload_n X d_M_set_122 6 rfl rfl ?_
                        refine rg_row X 11 (by decide) f_M_41 d_M_set_123 ?_
                        refine xq_iload_n X d_M_set_126 5 rfl rfl ?_
                        refine rn_ald (v := (F 11)) X 11 (by decide) hk rfl d_M_set_127 rfl ?_
                        refine xq_iload_n X d_M_set_128 4 rfl rfl ?_
                        refine xq_iload_n X d_M_set_129 3 rfl rfl ?_
                        refine xq_isub X d_M_set_130 ?_
                        refine xq_iload X d_M_set_131 2 rfl ?_
                        refine xq_isub X d_M_set_133 ?_
                        refine xq_iconst (v := 2) X d_M_set_134 (by decide) ?_
                        refine xq_idiv X d_M_set_135 (by decide) ?_
                        refine xq_iadd X d_M_set_136 ?_
                        refine rn_ast X 11 (by decide) hk rfl d_M_set_137 ?_
                        have hh : (r_M_set F T g) = (upd F 11 ((F 11) + (((((((0 + (T 0)) + (T 1)) + (T 2)) + (T 3)) - z15) - z17) / 2))) := by subst e21; subst e23; subst e25; subst e27; subst e29; subst e31; exact ((if_neg h1).trans ((if_pos h2).trans (if_pos h3)))
                        exact xq_vret X rfl (by rw [hh]) d_M_set_138
                      refine xq_icmp_le X d_M_set_99 107 (by decide) (fun h16 => ?_) (fun h16 => ?_)
                      · skip
                        refine xq_iload X d_M_set_107 2 rfl ?_
                        exact J30 _ (if_pos h16).symm
                      · skip
                        refine xq_iload X d_M_set_102 0 rfl ?_
                        refine xq_goto X d_M_set_104 109 (by decide) ?_
                        exact J30 _ (if_neg h16).symm
                    refine xq_icmp_ge X d_M_set_85 93 (by decide) (fun h14 => ?_) (fun h14 => ?_)
                    · skip
                      refine xq_iload_n X d_M_set_93 3 rfl rfl ?_
                      exact J28 _ (if_pos h14).symm
                    · skip
                      refine xq_iload X d_M_set_88 0 rfl ?_
                      refine xq_goto X d_M_set_90 94 (by decide) ?_
                      exact J28 _ (if_neg h14).symm
                  refine xq_icmp_le X d_M_set_99 107 (by decide) (fun h12 => ?_) (fun h12 => ?_)
                  · skip
                    refine xq_iload X d_M_set_107 2 rfl ?_
                    exact J26 _ (if_pos h12).symm
                  · skip
                    refine xq_iload X d_M_set_102 0 rfl ?_
                    refine xq_goto X d_M_set_104 109 (by decide) ?_
                    exact J26 _ (if_neg h12).symm
                refine xq_icmp_ge X d_M_set_85 93 (by decide) (fun h10 => ?_) (fun h10 => ?_)
                · skip
                  refine xq_iload_n X d_M_set_93 3 rfl rfl ?_
                  exact J24 _ (if_pos h10).symm
                · skip
                  refine xq_iload X d_M_set_88 0 rfl ?_
                  refine xq_goto X d_M_set_90 94 (by decide) ?_
                  exact J24 _ (if_neg h10).symm
              refine xq_icmp_le X d_M_set_99 107 (by decide) (fun h8 => ?_) (fun h8 => ?_)
              · skip
                refine xq_iload X d_M_set_107 2 rfl ?_
                exact J22 _ (if_pos h8).symm
              · skip
                refine xq_iload X d_M_set_102 0 rfl ?_
                refine xq_goto X d_M_set_104 109 (by decide) ?_
                exact J22 _ (if_neg h8).symm
            refine xq_icmp_ge X d_M_set_85 93 (by decide) (fun h6 => ?_) (fun h6 => ?_)
            · skip
              refine xq_iload_n X d_M_set_93 3 rfl rfl ?_
              exact J20 _ (if_pos h6).symm
            · skip
              refine xq_iload X d_M_set_88 0 rfl ?_
              refine xq_goto X d_M_set_90 94 (by decide) ?_
              exact J20 _ (if_neg h6).symm
          refine xq_icmp_le X d_M_set_99 107 (by decide) (fun h5 => ?_) (fun h5 => ?_)
          · skip
            refine xq_iload X d_M_set_107 2 rfl ?_
            exact J19
          · skip
            refine xq_iload X d_M_set_102 0 rfl ?_
            refine xq_goto X d_M_set_104 109 (by decide) ?_
            exact J19
        refine xq_icmp_ge X d_M_set_85 93 (by decide) (fun h4 => ?_) (fun h4 => ?_)
        · skip
          refine xq_iload_n X d_M_set_93 3 rfl rfl ?_
          exact J18
        · skip
          refine xq_iload X d_M_set_88 0 rfl ?_
          refine xq_goto X d_M_set_90 94 (by decide) ?_
          exact J18
      · skip
        have hh : (r_M_set F T g) = F := by exact ((if_neg h1).trans ((if_pos h2).trans (if_neg h3)))
        exact xq_vret X rfl (by rw [hh]) d_M_set_33
