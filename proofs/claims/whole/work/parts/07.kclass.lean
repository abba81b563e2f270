def c_W_fallSilent (w : Nat → Int32) : (Nat → Int32) := (upd w 0 0)
set_option maxHeartbeats 4000000 in
set_option maxRecDepth 100000 in
theorem ct_W_fallSilent {l : Launch} {D : va_G} {n : Nat} {ad : xq_I → Nat} {cI cZ cN : ClassId} (hap : xq_ap (kc_cs n) ad) {k : Nat} (hk : k < n) {B : kc_B} {F G E w : Nat → Int32}  :
    xq_M l D vcl (kc_tys cI cZ cN) (kc_cs n) ad (kc_en n ad cI cN) y_W_fallSilent (Cond.code y_W_fallSilent b_W_fallSilent 1 none :: xw) 0 [.ref (ad (2, 0))] (kc_ov B k F G E w) none (kc_ov B k F G E (c_W_fallSilent w)) := by
  refine xq_met (by decide) (Nat.le_of_ble_eq_true rfl) hap ?_
  intro p e s m args below meth c X
  refine xq_eqv (L' := [(0, .ref (ad (2, 0)))]) (st' := []) rfl rfl ?_
  refine xq_aload_n X d_W_fallSilent_0 0 rfl rfl ?_
  refine xq_iconst (v := 0) X d_W_fallSilent_1 (by decide) ?_
  refine kw_put X 0 (by decide) f_W_9 T_W_ok n_W_0 d_W_fallSilent_2 ?_
  have hh : (c_W_fallSilent w) = (upd w 0 0) := by exact rfl
  exact xq_vret X rfl (by rw [hh]) d_W_fallSilent_5
def c_W_hasFrame (w : Nat → Int32) : Int32 := (if (w 0) = 2 then 1 else (if (w 0) = 3 then 1 else 0))
set_option maxHeartbeats 4000000 in
set_option maxRecDepth 100000 in
theorem ct_W_hasFrame {l : Launch} {D : va_G} {n : Nat} {ad : xq_I → Nat} {cI cZ cN : ClassId} (hap : xq_ap (kc_cs n) ad) {k : Nat} (hk : k < n) {B : kc_B} {F G E w : Nat → Int32}  :
    xq_M l D vcl (kc_tys cI cZ cN) (kc_cs n) ad (kc_en n ad cI cN) y_W_hasFrame (Cond.code y_W_hasFrame b_W_hasFrame 1 (some .boolean) :: xw) 0 [.ref (ad (2, 0))] (kc_ov B k F G E w) (some (.int (c_W_hasFrame w))) (kc_ov B k F G E w) := by
  refine xq_met (by decide) (Nat.le_of_ble_eq_true rfl) hap ?_
  intro p e s m args below meth c X
  refine xq_eqv (L' := [(0, .ref (ad (2, 0)))]) (st' := []) rfl rfl ?_
  refine xq_aload_n X d_W_hasFrame_0 0 rfl rfl ?_
  refine kw_get (v := (w 0)) X 0 (by decide) f_W_9 d_W_hasFrame_1 rfl ?_
  refine xq_iconst (v := 2) X d_W_hasFrame_4 (by decide) ?_
  refine xq_icmp_eq X d_W_hasFrame_5 16 (by decide) (fun h1 => ?_) (fun h1 => ?_)
  · skip
    refine xq_iconst (v := 1) X d_W_hasFrame_16 (by decide) ?_
    refine xq_goto X d_W_hasFrame_17 21 (by decide) ?_
    have hh : (c_W_hasFrame w) = 1 := by exact (if_pos h1)
    exact xq_iret X rfl (by decide) (by rw [hh]) rfl d_W_hasFrame_21
  · skip
    refine xq_aload_n X d_W_hasFrame_8 0 rfl rfl ?_
    refine kw_get (v := (w 0)) X 0 (by decide) f_W_9 d_W_hasFrame_9 rfl ?_
    refine xq_iconst (v := 3) X d_W_hasFrame_12 (by decide) ?_
    refine xq_icmp_ne X d_W_hasFrame_13 20 (by decide) (fun h2 => ?_) (fun h2 => ?_)
    · skip
      refine xq_iconst (v := 0) X d_W_hasFrame_20 (by decide) ?_
      have hh : (c_W_hasFrame w) = 0 := by exact ((if_neg h1).trans (if_neg h2))
      exact xq_iret X rfl (by decide) (by rw [hh]) rfl d_W_hasFrame_21
    · skip
      refine xq_iconst (v := 1) X d_W_hasFrame_16 (by decide) ?_
      refine xq_goto X d_W_hasFrame_17 21 (by decide) ?_
      have hh : (c_W_hasFrame w) = 1 := by exact ((if_neg h1).trans (if_pos h2))
      exact xq_iret X rfl (by decide) (by rw [hh]) rfl d_W_hasFrame_21
def c_W_carry (F : Nat → Int32) (w : Nat → Int32) : (Nat → Int32) := (let z2 : Int32 := (if (w 0) = 0 then (F 18) else 1); (upd (upd (upd (upd (upd w 0 z2) 1 (F 0)) 2 (F 5)) 3 (F 6)) 4 (F 14)))
set_option maxHeartbeats 4000000 in
set_option maxRecDepth 100000 in
theorem ct_W_carry {l : Launch} {D : va_G} {n : Nat} {ad : xq_I → Nat} {cI cZ cN : ClassId} (hap : xq_ap (kc_cs n) ad) {k : Nat} (hk : k < n) {B : kc_B} {F G E w : Nat → Int32}  :
    xq_M l D vcl (kc_tys cI cZ cN) (kc_cs n) ad (kc_en n ad cI cN) y_W_carry (Cond.code y_W_carry b_W_carry 2 none :: xw) 0 [.ref (ad (2, 0)), .ref (ad (3, k))] (kc_ov B k F G E w) none (kc_ov B k F G E (c_W_carry F w)) := by
  refine xq_met (by decide) (Nat.le_of_ble_eq_true rfl) hap ?_
  intro p e s m args below meth c X
  refine xq_sub [1, 0] [(1, .ref (ad (3, k))), (0, .ref (ad (2, 0)))] rfl ?_
  refine xq_aload_n X d_W_carry_0 1 rfl rfl ?_
  refine xq_aload_n X d_W_carry_1 1 rfl rfl ?_
  refine kw_get (v := (w 0)) X 0 (by decide) f_W_9 d_W_carry_2 rfl ?_
  have J3 : ∀ (z2 : Int32), z2 = (if (w 0) = 0 then (F 18) else 1) → xq_W p l e (xq_r 0) s m args below meth c D vcl (kc_cs n) ad (kc_en n ad cI cN) 0 0 (MQ below (xq_Q D vcl (kc_cs n) ad (kc_en n ad cI cN) none (kc_ov B k F G E (c_W_carry F w))) args s 0 0 (xq_in (kc_cs n) ad)) 2 16 [(1, .ref (ad (3, k))), (0, .ref (ad (2, 0)))] [.int z2, .ref (ad (2, 0))] (kc_ov B k F G E w) := by
    intro z2 e4
    refine kw_put X 0 (by decide) f_W_9 T_W_ok n_W_0 d_W_carry_16 ?_
    refine xq_aload_n X d_W_carry_19 1 rfl rfl ?_
    refine xq_aload_n X d_W_carry_20 0 rfl rfl ?_
    refine kn_get (v := (F 0)) X hk 0 (by decide) f_W_20 d_W_carry_21 rfl ?_
    refine kw_put X 1 (by decide) f_W_23 T_W_ok n_W_1 d_W_carry_24 ?_
    refine xq_aload_n X d_W_carry_27 1 rfl rfl ?_
    refine xq_aload_n X d_W_carry_28 0 rfl rfl ?_
    refine kn_get (v := (F 5)) X hk 5 (by decide) f_W_26 d_W_carry_29 rfl ?_
    refine kw_put X 2 (by decide) f_W_29 T_W_ok n_W_2 d_W_carry_32 ?_
    refine xq_aload_n X d_W_carry_35 1 rfl rfl ?_
    refine xq_aload_n X d_W_carry_36 0 rfl rfl ?_
    refine kn_get (v := (F 6)) X hk 6 (by decide) f_W_30 d_W_carry_37 rfl ?_
    refine kw_put X 3 (by decide) f_W_33 T_W_ok n_W_3 d_W_carry_40 ?_
    refine xq_aload_n X d_W_carry_43 1 rfl rfl ?_
    refine xq_aload_n X d_W_carry_44 0 rfl rfl ?_
    refine kn_get (v := (F 14)) X hk 14 (by decide) f_W_34 d_W_carry_45 rfl ?_
    refine kw_put X 4 (by decide) f_W_37 T_W_ok n_W_4 d_W_carry_48 ?_
    have hh : (c_W_carry F w) = (upd (upd (upd (upd (upd w 0 z2) 1 (F 0)) 2 (F 5)) 3 (F 6)) 4 (F 14)) := by subst e4; exact rfl
    exact xq_vret X rfl (by rw [hh]) d_W_carry_51
  refine xq_if_ne X d_W_carry_5 15 (by decide) (fun h1 => ?_) (fun h1 => ?_)
  · skip
    refine xq_iconst (v := 1) X d_W_carry_15 (by decide) ?_
    exact J3 _ (if_neg h1).symm
  · skip
    refine xq_aload_n X d_W_carry_8 0 rfl rfl ?_
    refine kn_get (v := (F 18)) X hk 18 (by decide) f_W_15 d_W_carry_9 rfl ?_
    refine xq_goto X d_W_carry_12 16 (by decide) ?_
    exact J3 _ (if_pos h1).symm
def c_D_forget (G : Nat → Int32) : (Nat → Int32) := (upd (upd G 1 0) 2 0)
set_option maxHeartbeats 4000000 in
set_option maxRecDepth 100000 in
theorem ct_D_forget {l : Launch} {D : va_G} {n : Nat} {ad : xq_I → Nat} {cI cZ cN : ClassId} (hap : xq_ap (kc_cs n) ad) {k : Nat} (hk : k < n) {B : kc_B} {F G E w : Nat → Int32}  :
    xq_M l D vcl (kc_tys cI cZ cN) (kc_cs n) ad (kc_en n ad cI cN) y_D_forget (Cond.code y_D_forget b_D_forget 1 none :: xw) 0 [.ref (ad (4, k))] (kc_ov B k F G E w) none (kc_ov B k F (c_D_forget G) E w) := by
  refine xq_met (by decide) (Nat.le_of_ble_eq_true rfl) hap ?_
  intro p e s m args below meth c X
  refine xq_eqv (L' := [(0, .ref (ad (4, k)))]) (st' := []) rfl rfl ?_
  refine xq_aload_n X d_D_forget_0 0 rfl rfl ?_
  refine xq_iconst (v := 0) X d_D_forget_1 (by decide) ?_
  refine kd_put X hk 1 (by decide) f_D_15 T_D_ok n_D_1 d_D_forget_2 ?_
  refine xq_aload_n X d_D_forget_5 0 rfl rfl ?_
  refine xq_iconst (v := 0) X d_D_forget_6 (by decide) ?_
  refine kd_put X hk 2 (by decide) f_D_19 T_D_ok n_D_2 d_D_forget_7 ?_
  have hh : (c_D_forget G) = (upd (upd G 1 0) 2 0) := by exact rfl
  exact xq_vret X rfl (by rw [hh]) d_D_forget_10
def c_D_keep (G : Nat → Int32) (E : Nat → Int32) (x : Int32) : (Nat → Int32) × (Nat → Int32) := (if (G 2) < 4 then (let z3 : Nat → Int32 := (if 4 ≤ (G 1) then (upd G 2 ((G 2) + 1)) else (upd (upd G 2 ((G 2) + 1)) 1 ((G 1) + 1))); (z3, (upd E ((G 2)).toNatClampNeg x))) else (let z5 : Nat → Int32 := (if 4 ≤ (G 1) then (upd (upd G 2 0) 2 1) else (upd (upd (upd G 2 0) 2 1) 1 ((G 1) + 1))); (z5, (upd E 0 x))))
set_option maxHeartbeats 4000000 in
set_option maxRecDepth 100000 in
theorem ct_D_keep {l : Launch} {D : va_G} {n : Nat} {ad : xq_I → Nat} {cI cZ cN : ClassId} (hap : xq_ap (kc_cs n) ad) {k : Nat} (hk : k < n) {B : kc_B} {F G E w : Nat → Int32} (x : Int32) (hnx : ¬ (G 2) < 0) :
    xq_M l D vcl (kc_tys cI cZ cN) (kc_cs n) ad (kc_en n ad cI cN) y_D_keep (Cond.code y_D_keep b_D_keep 2 none :: xw) 0 [.ref (ad (4, k)), .int x] (kc_ov B k F G E w) none (kc_ov B k F (c_D_keep G E x).1 (c_D_keep G E x).2 w) := by
  refine xq_met (by decide) (Nat.le_of_ble_eq_true rfl) hap ?_
  intro p e s m args below meth c X
  refine xq_sub [1, 0] [(1, .int x), (0, .ref (ad (4, k)))] rfl ?_
  refine xq_aload_n X d_D_keep_0 1 rfl rfl ?_
  refine kd_get (v := (G 2)) X hk 2 (by decide) f_D_19 d_D_keep_1 rfl ?_
  refine xq_iconst (v := 4) X d_D_keep_4 (by decide) ?_
  refine xq_icmp_lt X d_D_keep_5 13 (by decide) (fun h1 => ?_) (fun h1 => ?_)
  · skip
    refine xq_aload_n X d_D_keep_13 1 rfl rfl ?_
    refine kd_lat X hk f_D_9 d_D_keep_14 ?_
    refine xq_aload_n X d_D_keep_17 1 rfl rfl ?_
    refine kd_get (v := (G 2)) X hk 2 (by decide) f_D_19 d_D_keep_18 rfl ?_
    refine xq_iload_n X d_D_keep_21 0 rfl rfl ?_
    refine ke_ast X hk (ke_in hnx h1) d_D_keep_22 ?_
    refine xq_aload_n X d_D_keep_23 1 rfl rfl ?_
    refine xq_dup X d_D_keep_24 rfl ?_
    refine kd_get (v := (G 2)) X hk 2 (by decide) f_D_19 d_D_keep_25 rfl ?_
    refine xq_iconst (v := 1) X d_D_keep_28 (by decide) ?_
    refine xq_iadd X d_D_keep_29 ?_
    refine kd_put X hk 2 (by decide) f_D_19 T_D_ok n_D_2 d_D_keep_30 ?_
    refine xq_aload_n X d_D_keep_33 1 rfl rfl ?_
    refine kd_get (v := (G 1)) X hk 1 (by decide) f_D_15 d_D_keep_34 rfl ?_
    refine xq_iconst (v := 4) X d_D_keep_37 (by decide) ?_
    have J6 : ∀ (z3 : Nat → Int32), z3 = (if 4 ≤ (G 1) then (upd G 2 ((G 2) + 1)) else (upd (upd G 2 ((G 2) + 1)) 1 ((G 1) + 1))) → xq_W p l e (xq_r 0) s m args below meth c D vcl (kc_cs n) ad (kc_en n ad cI cN) 0 0 (MQ below (xq_Q D vcl (kc_cs n) ad (kc_en n ad cI cN) none (kc_ov B k F (c_D_keep G E x).1 (c_D_keep G E x).2 w)) args s 0 0 (xq_in (kc_cs n) ad)) 2 51 [(1, .int x), (0, .ref (ad (4, k)))] [] (kc_ov B k F z3 (upd E ((G 2)).toNatClampNeg x) w) := by
      intro z3 e7
      have hh : (c_D_keep G E x) = (z3, (upd E ((G 2)).toNatClampNeg x)) := by subst e7; exact (if_pos h1)
      exact xq_vret X rfl (by rw [hh]) d_D_keep_51
    refine xq_icmp_ge X d_D_keep_38 51 (by decide) (fun h2 => ?_) (fun h2 => ?_)
    · skip
      exact J6 _ (if_pos h2).symm
    · skip
      refine xq_aload_n X d_D_keep_41 1 rfl rfl ?_
      refine xq_dup X d_D_keep_42 rfl ?_
      refine kd_get (v := (G 1)) X hk 1 (by decide) f_D_15 d_D_keep_43 rfl ?_
      refine xq_iconst (v := 1) X d_D_keep_46 (by decide) ?_
      refine xq_iadd X d_D_keep_47 ?_
      refine kd_put X hk 1 (by decide) f_D_15 T_D_ok n_D_1 d_D_keep_48 ?_
      exact J6 _ (if_neg h2).symm
  · skip
    refine xq_aload_n X d_D_keep_8 1 rfl rfl ?_
    refine xq_iconst (v := 0) X d_D_keep_9 (by decide) ?_
    refine kd_put X hk 2 (by decide) f_D_19 T_D_ok n_D_2 d_D_keep_10 ?_
    refine xq_aload_n X d_D_keep_13 1 rfl rfl ?_
    refine kd_lat X hk f_D_9 d_D_keep_14 ?_
    refine xq_aload_n X d_D_keep_17 1 rfl rfl ?_
    refine kd_get (v := 0) X hk 2 (by decide) f_D_19 d_D_keep_18 rfl ?_
    refine xq_iload_n X d_D_keep_21 0 rfl rfl ?_
    refine ke_ast X hk (vp_in_nI (n := 0) (N := 4) (by decide) (by decide)) d_D_keep_22 ?_
    refine xq_aload_n X d_D_keep_23 1 rfl rfl ?_
    refine xq_dup X d_D_keep_24 rfl ?_
    refine kd_get (v := 0) X hk 2 (by decide) f_D_19 d_D_keep_25 rfl ?_
    refine xq_iconst (v := 1) X d_D_keep_28 (by decide) ?_
    refine xq_iadd X d_D_keep_29 ?_
    refine xq_top 1 (by decide) ?_
    refine kd_put X hk 2 (by decide) f_D_19 T_D_ok n_D_2 d_D_keep_30 ?_
    refine xq_aload_n X d_D_keep_33 1 rfl rfl ?_
    refine kd_get (v := (G 1)) X hk 1 (by decide) f_D_15 d_D_keep_34 rfl ?_
    refine xq_iconst (v := 4) X d_D_keep_37 (by decide) ?_
    have J8 : ∀ (z5 : Nat → Int32), z5 = (if 4 ≤ (G 1) then (upd (upd G 2 0) 2 1) else (upd (upd (upd G 2 0) 2 1) 1 ((G 1) + 1))) → xq_W p l e (xq_r 0) s m args below meth c D vcl (kc_cs n) ad (kc_en n ad cI cN) 0 0 (MQ below (xq_Q D vcl (kc_cs n) ad (kc_en n ad cI cN) none (kc_ov B k F (c_D_keep G E x).1 (c_D_keep G E x).2 w)) args s 0 0 (xq_in (kc_cs n) ad)) 2 51 [(1, .int x), (0, .ref (ad (4, k)))] [] (kc_ov B k F z5 (upd E 0 x) w) := by
      intro z5 e9
      have hh : (c_D_keep G E x) = (z5, (upd E 0 x)) := by subst e9; exact (if_neg h1)
      exact xq_vret X rfl (by rw [hh]) d_D_keep_51
    refine xq_icmp_ge X d_D_keep_38 51 (by decide) (fun h4 => ?_) (fun h4 => ?_)
    · skip
      exact J8 _ (if_pos h4).symm
    · skip
      refine xq_aload_n X d_D_keep_41 1 rfl rfl ?_
      refine xq_dup X d_D_keep_42 rfl ?_
      refine kd_get (v := (G 1)) X hk 1 (by decide) f_D_15 d_D_keep_43 rfl ?_
      refine xq_iconst (v := 1) X d_D_keep_46 (by decide) ?_
      refine xq_iadd X d_D_keep_47 ?_
      refine kd_put X hk 1 (by decide) f_D_15 T_D_ok n_D_1 d_D_keep_48 ?_
      exact J8 _ (if_neg h4).symm
def c_D_areComplete (G : Nat → Int32) : Int32 := (if (G 1) = 4 then 1 else 0)
set_option maxHeartbeats 4000000 in
set_option maxRecDepth 100000 in
theorem ct_D_areComplete {l : Launch} {D : va_G} {n : Nat} {ad : xq_I → Nat} {cI cZ cN : ClassId} (hap : xq_ap (kc_cs n) ad) {k : Nat} (hk : k < n) {B : kc_B} {F G E w : Nat → Int32}  :
    xq_M l D vcl (kc_tys cI cZ cN) (kc_cs n) ad (kc_en n ad cI cN) y_D_areComplete (Cond.code y_D_areComplete b_D_areComplete 1 (some .boolean) :: xw) 0 [.ref (ad (4, k))] (kc_ov B k F G E w) (some (.int (c_D_areComplete G))) (kc_ov B k F G E w) := by
  refine xq_met (by decide) (Nat.le_of_ble_eq_true rfl) hap ?_
  intro p e s m args below meth c X
  refine xq_eqv (L' := [(0, .ref (ad (4, k)))]) (st' := []) rfl rfl ?_
  refine xq_aload_n X d_D_areComplete_0 0 rfl rfl ?_
  refine kd_get (v := (G 1)) X hk 1 (by decide) f_D_15 d_D_areComplete_1 rfl ?_
  refine xq_iconst (v := 4) X d_D_areComplete_4 (by decide) ?_
  refine xq_icmp_ne X d_D_areComplete_5 12 (by decide) (fun h1 => ?_) (fun h1 => ?_)
  · skip
    refine xq_iconst (v := 0) X d_D_areComplete_12 (by decide) ?_
    have hh : (c_D_areComplete G) = 0 := by exact (if_neg h1)
    exact xq_iret X rfl (by decide) (by rw [hh]) rfl d_D_areComplete_13
  · skip
    refine xq_iconst (v := 1) X d_D_areComplete_8 (by decide) ?_
    refine xq_goto X d_D_areComplete_9 13 (by decide) ?_
    have hh : (c_D_areComplete G) = 1 := by exact (if_pos h1)
    exact xq_iret X rfl (by decide) (by rw [hh]) rfl d_D_areComplete_13
def c_D_middle (E : Nat → Int32) : Int32 := (((((((0 + (E 0)) + (E 1)) + (E 2)) + (E 3)) - (km_min (km_min (km_min (km_min (E 0) (E 0)) (E 1)) (E 2)) (E 3))) - (km_max (km_max (km_max (km_max (E 0) (E 0)) (E 1)) (E 2)) (E 3))) / 2)
set_option maxHeartbeats 4000000 in
set_option maxRecDepth 100000 in
theorem ct_D_middle {l : Launch} {D : va_G} {n : Nat} {ad : xq_I → Nat} {cI cZ cN : ClassId} (hap : xq_ap (kc_cs n) ad) {k : Nat} (hk : k < n) {B : kc_B} {F G E w : Nat → Int32}  :
    xq_M l D vcl (kc_tys cI cZ cN) (kc_cs n) ad (kc_en n ad cI cN) y_D_middle (Cond.code y_D_middle b_D_middle 8 (some .int) :: xw) 1 [.ref (ad (4, k))] (kc_ov B k F G E w) (some (.int (c_D_middle E))) (kc_ov B k F G E w) := by
  refine xq_met (by decide) (Nat.le_of_ble_eq_true rfl) hap ?_
  intro p e s m args below meth c X
  refine xq_eqv (L' := [(0, .ref (ad (4, k)))]) (st' := []) rfl rfl ?_
  refine xq_iconst (v := 0) X d_D_middle_0 (by decide) ?_
  refine xq_istore_n X d_D_middle_1 [(1, .int 0), (0, .ref (ad (4, k)))] rfl rfl (by decide) ?_
  refine xq_aload_n X d_D_middle_2 1 rfl rfl ?_
  refine kd_lat X hk f_D_9 d_D_middle_3 ?_
  refine xq_iconst (v := 0) X d_D_middle_6 (by decide) ?_
  refine ke_ald (v := (E 0)) X hk (vp_in_nI (n := 0) (N := 4) (by decide) (by decide)) d_D_middle_7 rfl ?_
  refine xq_istore_n X d_D_middle_8 [(2, .int (E 0)), (1, .int 0), (0, .ref (ad (4, k)))] rfl rfl (by decide) ?_
  refine xq_aload_n X d_D_middle_9 2 rfl rfl ?_
  refine kd_lat X hk f_D_9 d_D_middle_10 ?_
  refine xq_iconst (v := 0) X d_D_middle_13 (by decide) ?_
  refine ke_ald (v := (E 0)) X hk (vp_in_nI (n := 0) (N := 4) (by decide) (by decide)) d_D_middle_14 rfl ?_
  refine xq_istore_n X d_D_middle_15 [(3, .int (E 0)), (2, .int (E 0)), (1, .int 0), (0, .ref (ad (4, k)))] rfl rfl (by decide) ?_
  refine xq_aload_n X d_D_middle_16 3 rfl rfl ?_
  refine kd_lat X hk f_D_9 d_D_middle_17 ?_
  refine xq_astore X d_D_middle_20 [(4, .ref (ad (5, k))), (3, .int (E 0)), (2, .int (E 0)), (1, .int 0), (0, .ref (ad (4, k)))] rfl (by decide) ?_
  refine xq_aload X d_D_middle_22 0 rfl ?_
  refine ke_len X hk d_D_middle_24 ?_
  refine xq_istore X d_D_middle_25 [(5, .int 4), (4, .ref (ad (5, k))), (3, .int (E 0)), (2, .int (E 0)), (1, .int 0), (0, .ref (ad (4, k)))] rfl (by decide) ?_
  refine xq_iconst (v := 0) X d_D_middle_27 (by decide) ?_
  refine xq_istore X d_D_middle_28 [(6, .int 0), (5, .int 4), (4, .ref (ad (5, k))), (3, .int (E 0)), (2, .int (E 0)), (1, .int 0), (0, .ref (ad (4, k)))] rfl (by decide) ?_
  refine xq_iload X d_D_middle_30 0 rfl ?_
  refine xq_iload X d_D_middle_32 1 rfl ?_
  refine xq_icmp_ge X d_D_middle_34 69 (by decide) (fun h => absurd h (by decide)) (fun _ => ?_)
  refine xq_aload X d_D_middle_37 2 rfl ?_
  refine xq_iload X d_D_middle_39 0 rfl ?_
  refine ke_ald (v := (E 0)) X hk (vp_in_nI (n := 0) (N := 4) (by decide) (by decide)) d_D_middle_41 rfl ?_
  refine xq_istore X d_D_middle_42 [(7, .int (E 0)), (6, .int 0), (5, .int 4), (4, .ref (ad (5, k))), (3, .int (E 0)), (2, .int (E 0)), (1, .int 0), (0, .ref (ad (4, k)))] rfl (by decide) ?_
  refine xq_iload_n X d_D_middle_44 6 rfl rfl ?_
  refine xq_iload X d_D_middle_45 0 rfl ?_
  refine xq_iadd X d_D_middle_47 ?_
  refine xq_istore_n X d_D_middle_48 [(1, .int (0 + (E 0))), (7, .int (E 0)), (6, .int 0), (5, .int 4), (4, .ref (ad (5, k))), (3, .int (E 0)), (2, .int (E 0)), (0, .ref (ad (4, k)))] rfl rfl (by decide) ?_
  refine xq_sub [1, 2, 3, 4, 5, 6, 0, 7] [(7, .int (E 0)), (6, .int 0), (5, .int 4), (4, .ref (ad (5, k))), (3, .int (E 0)), (2, .int (E 0)), (1, .int (0 + (E 0))), (0, .ref (ad (4, k)))] rfl ?_
  refine xq_iload_n X d_D_middle_49 5 rfl rfl ?_
  refine xq_iload X d_D_middle_50 0 rfl ?_
  refine xq_min (v := (km_min (E 0) (E 0))) X m_D_22 m_min_s m_init m_min_c (by decide) (by decide) (Nat.le_of_ble_eq_true rfl) rfl d_D_middle_52 ?_
  refine xq_istore_n X d_D_middle_55 [(2, .int (km_min (E 0) (E 0))), (7, .int (E 0)), (6, .int 0), (5, .int 4), (4, .ref (ad (5, k))), (3, .int (E 0)), (1, .int (0 + (E 0))), (0, .ref (ad (4, k)))] rfl rfl (by decide) ?_
  refine xq_sub [1, 2, 3, 4, 5, 0, 6, 7] [(7, .int (E 0)), (6, .int 0), (5, .int 4), (4, .ref (ad (5, k))), (3, .int (E 0)), (2, .int (km_min (E 0) (E 0))), (1, .int (0 + (E 0))), (0, .ref (ad (4, k)))] rfl ?_
  refine xq_iload_n X d_D_middle_56 4 rfl rfl ?_
  refine xq_iload X d_D_middle_57 0 rfl ?_
  refine xq_max (v := (km_max (E 0) (E 0))) X m_D_28 m_max_s m_init m_max_c (by decide) (by decide) (Nat.le_of_ble_eq_true rfl) rfl d_D_middle_59 ?_
  refine xq_istore_n X d_D_middle_62 [(3, .int (km_max (E 0) (E 0))), (7, .int (E 0)), (6, .int 0), (5, .int 4), (4, .ref (ad (5, k))), (2, .int (km_min (E 0) (E 0))), (1, .int (0 + (E 0))), (0, .ref (ad (4, k)))] rfl rfl (by decide) ?_
  refine xq_sub [1, 2, 3, 4, 0, 5, 6, 7] [(7, .int (E 0)), (6, .int 0), (5, .int 4), (4, .ref (ad (5, k))), (3, .int (km_max (E 0) (E 0))), (2, .int (km_min (E 0) (E 0))), (1, .int (0 + (E 0))), (0, .ref (ad (4, k)))] rfl ?_
  refine xq_iinc X d_D_middle_63 1 rfl [(6, .int 1), (7, .int (E 0)), (5, .int 4), (4, .ref (ad (5, k))), (3, .int (km_max (E 0) (E 0))), (2, .int (km_min (E 0) (E 0))), (1, .int (0 + (E 0))), (0, .ref (ad (4, k)))] rfl (by decide) (by decide) ?_
  refine xq_sub [1, 0, 2, 3, 4, 5, 6, 7] [(7, .int (E 0)), (6, .int 1), (5, .int 4), (4, .ref (ad (5, k))), (3, .int (km_max (E 0) (E 0))), (2, .int (km_min (E 0) (E 0))), (1, .int (0 + (E 0))), (0, .ref (ad (4, k)))] rfl ?_
  refine xq_goto X d_D_middle_66 30 (by decide) ?_
  refine xq_iload X d_D_middle_30 1 rfl ?_
  refine xq_iload X d_D_middle_32 2 rfl ?_
  refine xq_icmp_ge X d_D_middle_34 69 (by decide) (fun h => absurd h (by decide)) (fun _ => ?_)
  refine xq_aload X d_D_middle_37 3 rfl ?_
  refine xq_iload X d_D_middle_39 1 rfl ?_
  refine ke_ald (v := (E 1)) X hk (vp_in_nI (n := 1) (N := 4) (by decide) (by decide)) d_D_middle_41 rfl ?_
  refine xq_istore X d_D_middle_42 [(7, .int (E 1)), (6, .int 1), (5, .int 4), (4, .ref (ad (5, k))), (3, .int (km_max (E 0) (E 0))), (2, .int (km_min (E 0) (E 0))), (1, .int (0 + (E 0))), (0, .ref (ad (4, k)))] rfl (by decide) ?_
  refine xq_iload_n X d_D_middle_44 6 rfl rfl ?_
  refine xq_iload X d_D_middle_45 0 rfl ?_
  refine xq_iadd X d_D_middle_47 ?_
  refine xq_istore_n X d_D_middle_48 [(1, .int ((0 + (E 0)) + (E 1))), (7, .int (E 1)), (6, .int 1), (5, .int 4), (4, .ref (ad (5, k))), (3, .int (km_max (E 0) (E 0))), (2, .int (km_min (E 0) (E 0))), (0, .ref (ad (4, k)))] rfl rfl (by decide) ?_
  refine xq_sub [1, 2, 3, 4, 5, 6, 0, 7] [(7, .int (E 1)), (6, .int 1), (5, .int 4), (4, .ref (ad (5, k))), (3, .int (km_max (E 0) (E 0))), (2, .int (km_min (E 0) (E 0))), (1, .int ((0 + (E 0)) + (E 1))), (0, .ref (ad (4, k)))] rfl ?_
  refine xq_iload_n X d_D_middle_49 5 rfl rfl ?_
  refine xq_iload X d_D_middle_50 0 rfl ?_
  refine xq_min (v := (km_min (km_min (E 0) (E 0)) (E 1))) X m_D_22 m_min_s m_init m_min_c (by decide) (by decide) (Nat.le_of_ble_eq_true rfl) rfl d_D_middle_52 ?_
  refine xq_istore_n X d_D_middle_55 [(2, .int (km_min (km_min (E 0) (E 0)) (E 1))), (7, .int (E 1)), (6, .int 1), (5, .int 4), (4, .ref (ad (5, k))), (3, .int (km_max (E 0) (E 0))), (1, .int ((0 + (E 0)) + (E 1))), (0, .ref (ad (4, k)))] rfl rfl (by decide) ?_
  refine xq_sub [1, 2, 3, 4, 5, 0, 6, 7] [(7, .int (E 1)), (6, .int 1), (5, .int 4), (4, .ref (ad (5, k))), (3, .int (km_max (E 0) (E 0))), (2, .int (km_min (km_min (E 0) (E 0)) (E 1))), (1, .int ((0 + (E 0)) + (E 1))), (0, .ref (ad (4, k)))] rfl ?_
  refine xq_iload_n X d_D_middle_56 4 rfl rfl ?_
  refine xq_iload X d_D_middle_57 0 rfl ?_
  refine xq_max (v := (km_max (km_max (E 0) (E 0)) (E 1))) X m_D_28 m_max_s m_init m_max_c (by decide) (by decide) (Nat.le_of_ble_eq_true rfl) rfl d_D_middle_59 ?_
  refine xq_istore_n X d_D_middle_62 [(3, .int (km_max (km_max (E 0) (E 0)) (E 1))), (7, .int (E 1)), (6, .int 1), (5, .int 4), (4, .ref (ad (5, k))), (2, .int (km_min (km_min (E 0) (E 0)) (E 1))), (1, .int ((0 + (E 0)) + (E 1))), (0, .ref (ad (4, k)))] rfl rfl (by decide) ?_
  refine xq_sub [1, 2, 3, 4, 0, 5, 6, 7] [(7, .int (E 1)), (6, .int 1), (5, .int 4), (4, .ref (ad (5, k))), (3, .int (km_max (km_max (E 0) (E 0)) (E 1))), (2, .int (km_min (km_min (E 0) (E 0)) (E 1))), (1, .int ((0 + (E 0)) + (E 1))), (0, .ref (ad (4, k)))] rfl ?_
  refine xq_iinc X d_D_middle_63 1 rfl [(6, .int 2), (7, .int (E 1)), (5, .int 4), (4, .ref (ad (5, k))), (3, .int (km_max (km_max (E 0) (E 0)) (E 1))), (2, .int (km_min (km_min (E 0) (E 0)) (E 1))), (1, .int ((0 + (E 0)) + (E 1))), (0, .ref (ad (4, k)))] rfl (by decide) (by decide) ?_
  refine xq_sub [1, 0, 2, 3, 4, 5, 6, 7] [(7, .int (E 1)), (6, .int 2), (5, .int 4), (4, .ref (ad (5, k))), (3, .int (km_max (km_max (E 0) (E 0)) (E 1))), (2, .int (km_min (km_min (E 0) (E 0)) (E 1))), (1, .int ((0 + (E 0)) + (E 1))), (0, .ref (ad (4, k)))] rfl ?_
  refine xq_goto X d_D_middle_66 30 (by decide) ?_
  refine xq_iload X d_D_middle_30 1 rfl ?_
  refine xq_iload X d_D_middle_32 2 rfl ?_
  refine xq_icmp_ge X d_D_middle_34 69 (by decide) (fun h => absurd h (by decide)) (fun _ => ?_)
  refine xq_aload X d_D_middle_37 3 rfl ?_
  refine xq_iload X d_D_middle_39 1 rfl ?_
  refine ke_ald (v := (E 2)) X hk (vp_in_nI (n := 2) (N := 4) (by decide) (by decide)) d_D_middle_41 rfl ?_
  refine xq_istore X d_D_middle_42 [(7, .int (E 2)), (6, .int 2), (5, .int 4), (4, .ref (ad (5, k))), (3, .int (km_max (km_max (E 0) (E 0)) (E 1))), (2, .int (km_min (km_min (E 0) (E 0)) (E 1))), (1, .int ((0 + (E 0)) + (E 1))), (0, .ref (ad (4, k)))] rfl (by decide) ?_
  refine xq_iload_n X d_D_middle_44 6 rfl rfl ?_
  refine xq_iload X d_D_middle_45 0 rfl ?_
  refine xq_iadd X d_D_middle_47 ?_
  refine xq_istore_n X d_D_middle_48 [(1, .int (((0 + (E 0)) + (E 1)) + (E 2))), (7, .int (E 2)), (6, .int 2), (5, .int 4), (4, .ref (ad (5, k))), (3, .int (km_max (km_max (E 0) (E 0)) (E 1))), (2, .int (km_min (km_min (E 0) (E 0)) (E 1))), (0, .ref (ad (4, k)))] rfl rfl (by decide) ?_
  refine xq_sub [1, 2, 3, 4, 5, 6, 0, 7] [(7, .int (E 2)), (6, .int 2), (5, .int 4), (4, .ref (ad (5, k))), (3, .int (km_max (km_max (E 0) (E 0)) (E 1))), (2, .int (km_min (km_min (E 0) (E 0)) (E 1))), (1, .int (((0 + (E 0)) + (E 1)) + (E 2))), (0, .ref (ad (4, k)))] rfl ?_
  refine xq_iload_n X d_D_middle_49 5 rfl rfl ?_
  refine xq_iload X d_D_middle_50 0 rfl ?_
  refine xq_min (v := (km_min (km_min (km_min (E 0) (E 0)) (E 1)) (E 2))) X m_D_22 m_min_s m_init m_min_c (by decide) (by decide) (Nat.le_of_ble_eq_true rfl) rfl d_D_middle_52 ?_
  refine xq_istore_n X d_D_middle_55 [(2, .int (km_min (km_min (km_min (E 0) (E 0)) (E 1)) (E 2))), (7, .int (E 2)), (6, .int 2), (5, .int 4), (4, .ref (ad (5, k))), (3, .int (km_max (km_max (E 0) (E 0)) (E 1))), (1, .int (((0 + (E 0)) + (E 1)) + (E 2))), (0, .ref (ad (4, k)))] rfl rfl (by decide) ?_
  refine xq_sub [1, 2, 3, 4, 5, 0, 6, 7] [(7, .int (E 2)), (6, .int 2), (5, .int 4), (4, .ref (ad (5, k))), (3, .int (km_max (km_max (E 0) (E 0)) (E 1))), (2, .int (km_min (km_min (km_min (E 0) (E 0)) (E 1)) (E 2))), (1, .int (((0 + (E 0)) + (E 1)) + (E 2))), (0, .ref (ad (4, k)))] rfl ?_
  refine xq_iload_n X d_D_middle_56 4 rfl rfl ?_
  refine xq_iload X d_D_middle_57 0 rfl ?_
  refine xq_max (v := (km_max (km_max (km_max (E 0) (E 0)) (E 1)) (E 2))) X m_D_28 m_max_s m_init m_max_c (by decide) (by decide) (Nat.le_of_ble_eq_true rfl) rfl d_D_middle_59 ?_
  refine xq_istore_n X d_D_middle_62 [(3, .int (km_max (km_max (km_max (E 0) (E 0)) (E 1)) (E 2))), (7, .int (E 2)), (6, .int 2), (5, .int 4), (4, .ref (ad (5, k))), (2, .int (km_min (km_min (km_min (E 0) (E 0)) (E 1)) (E 2))), (1, .int (((0 + (E 0)) + (E 1)) + (E 2))), (0, .ref (ad (4, k)))] rfl rfl (by decide) ?_
  refine xq_sub [1, 2, 3, 4, 0, 5, 6, 7] [(7, .int (E 2)), (6, .int 2), (5, .int 4), (4, .ref (ad (5, k))), (3, .int (km_max (km_max (km_max (E 0) (E 0)) (E 1)) (E 2))), (2, .int (km_min (km_min (km_min (E 0) (E 0)) (E 1)) (E 2))), (1, .int (((0 + (E 0)) + (E 1)) + (E 2))), (0, .ref (ad (4, k)))] rfl ?_
  refine xq_iinc X d_D_middle_63 1 rfl [(6, .int 3), (7, .int (E 2)), (5, .int 4), (4, .ref (ad (5, k))), (3, .int (km_max (km_max (km_max (E 0) (E 0)) (E 1)) (E 2))), (2, .int (km_min (km_min (km_min (E 0) (E 0)) (E 1)) (E 2))), (1, .int (((0 + (E 0)) + (E 1)) + (E 2))), (0, .ref (ad (4, k)))] rfl (by decide) (by decide) ?_
  refine xq_sub [1, 0, 2, 3, 4, 5, 6, 7] [(7, .int (E 2)), (6, .int 3), (5, .int 4), (4, .ref (ad (5, k))), (3, .int (km_max (km_max (km_max (E 0) (E 0)) (E 1)) (E 2))), (2, .int (km_min (km_min (km_min (E 0) (E 0)) (E 1)) (E 2))), (1, .int (((0 + (E 0)) + (E 1)) + (E 2))), (0, .ref (ad (4, k)))] rfl ?_
  refine xq_goto X d_D_middle_66 30 (by decide) ?_
  refine xq_iload X d_D_middle_30 1 rfl ?_
  refine xq_iload X d_D_middle_32 2 rfl ?_
  refine xq_icmp_ge X d_D_middle_34 69 (by decide) (fun h => absurd h (by decide)) (fun _ => ?_)
  refine xq_aload X d_D_middle_37 3 rfl ?_
  refine xq_iload X d_D_middle_39 1 rfl ?_
  refine ke_ald (v := (E 3)) X hk (vp_in_nI (n := 3) (N := 4) (by decide) (by decide)) d_D_middle_41 rfl ?_
  refine xq_istore X d_D_middle_42 [(7, .int (E 3)), (6, .int 3), (5, .int 4), (4, .ref (ad (5, k))), (3, .int (km_max (km_max (km_max (E 0) (E 0)) (E 1)) (E 2))), (2, .int (km_min (km_min (km_min (E 0) (E 0)) (E 1)) (E 2))), (1, .int (((0 + (E 0)) + (E 1)) + (E 2))), (0, .ref (ad (4, k)))] rfl (by decide) ?_
  refine xq_iload_n X d_D_middle_44 6 rfl rfl ?_
  refine xq_iload X d_D_middle_45 0 rfl ?_
  refine xq_iadd X d_D_middle_47 ?_
  refine xq_istore_n X d_D_middle_48 [(1, .int ((((0 + (E 0)) + (E 1)) + (E 2)) + (E 3))), (7, .int (E 3)), (6, .int 3), (5, .int 4), (4, .ref (ad (5, k))), (3, .int (km_max (km_max (km_max (E 0) (E 0)) (E 1)) (E 2))), (2, .int (km_min (km_min (km_min (E 0) (E 0)) (E 1)) (E 2))), (0, .ref (ad (4, k)))] rfl rfl (by decide) ?_
  refine xq_sub [1, 2, 3, 4, 5, 6, 0, 7] [(7, .int (E 3)), (6, .int 3), (5, .int 4), (4, .ref (ad (5, k))), (3, .int (km_max (km_max (km_max (E 0) (E 0)) (E 1)) (E 2))), (2, .int (km_min (km_min (km_min (E 0) (E 0)) (E 1)) (E 2))), (1, .int ((((0 + (E 0)) + (E 1)) + (E 2)) + (E 3))), (0, .ref (ad (4, k)))] rfl ?_
  refine xq_iload_n X d_D_middle_49 5 rfl rfl ?_
  refine xq_iload X d_D_middle_50 0 rfl ?_
  refine xq_min (v := (km_min (km_min (km_min (km_min (E 0) (E 0)) (E 1)) (E 2)) (E 3))) X m_D_22 m_min_s m_init m_min_c (by decide) (by decide) (Nat.le_of_ble_eq_true rfl) rfl d_D_middle_52 ?_
  refine xq_istore_n X d_D_middle_55 [(2, .int (km_min (km_min (km_min (km_min (E 0) (E 0)) (E 1)) (E 2)) (E 3))), (7, .int (E 3)), (6, .int 3), (5, .int 4), (4, .ref (ad (5, k))), (3, .int (km_max (km_max (km_max (E 0) (E 0)) (E 1)) (E 2))), (1, .int ((((0 + (E 0)) + (E 1)) + (E 2)) + (E 3))), (0, .ref (ad (4, k)))] rfl rfl (by decide) ?_
  refine xq_sub [1, 2, 3, 4, 5, 0, 6, 7] [(7, .int (E 3)), (6, .int 3), (5, .int 4), (4, .ref (ad (5, k))), (3, .int (km_max (km_max (km_max (E 0) (E 0)) (E 1)) (E 2))), (2, .int (km_min (km_min (km_min (km_min (E 0) (E 0)) (E 1)) (E 2)) (E 3))), (1, .int ((((0 + (E 0)) + (E 1)) + (E 2)) + (E 3))), (0, .ref (ad (4, k)))] rfl ?_
  refine xq_iload_n X d_D_middle_56 4 rfl rfl ?_
  refine xq_iload X d_D_middle_57 0 rfl ?_
  refine xq_max (v := (km_max (km_max (km_max (km_max (E 0) (E 0)) (E 1)) (E 2)) (E 3))) X m_D_28 m_max_s m_init m_max_c (by decide) (by decide) (Nat.le_of_ble_eq_true rfl) rfl d_D_middle_59 ?_
  refine xq_istore_n X d_D_middle_62 [(3, .int (km_max (km_max (km_max (km_max (E 0) (E 0)) (E 1)) (E 2)) (E 3))), (7, .int (E 3)), (6, .int 3), (5, .int 4), (4, .ref (ad (5, k))), (2, .int (km_min (km_min (km_min (km_min (E 0) (E 0)) (E 1)) (E 2)) (E 3))), (1, .int ((((0 + (E 0)) + (E 1)) + (E 2)) + (E 3))), (0, .ref (ad (4, k)))] rfl rfl (by decide) ?_
  refine xq_sub [1, 2, 3, 4, 0, 5, 6, 7] [(7, .int (E 3)), (6, .int 3), (5, .int 4), (4, .ref (ad (5, k))), (3, .int (km_max (km_max (km_max (km_max (E 0) (E 0)) (E 1)) (E 2)) (E 3))), (2, .int (km_min (km_min (km_min (km_min (E 0) (E 0)) (E 1)) (E 2)) (E 3))), (1, .int ((((0 + (E 0)) + (E 1)) + (E 2)) + (E 3))), (0, .ref (ad (4, k)))] rfl ?_
  refine xq_iinc X d_D_middle_63 1 rfl [(6, .int 4), (7, .int (E 3)), (5, .int 4), (4, .ref (ad (5, k))), (3, .int (km_max (km_max (km_max (km_max (E 0) (E 0)) (E 1)) (E 2)) (E 3))), (2, .int (km_min (km_min (km_min (km_min (E 0) (E 0)) (E 1)) (E 2)) (E 3))), (1, .int ((((0 + (E 0)) + (E 1)) + (E 2)) + (E 3))), (0, .ref (ad (4, k)))] rfl (by decide) (by decide) ?_
  refine xq_sub [1, 0, 2, 3, 4, 5, 6, 7] [(7, .int (E 3)), (6, .int 4), (5, .int 4), (4, .ref (ad (5, k))), (3, .int (km_max (km_max (km_max (km_max (E 0) (E 0)) (E 1)) (E 2)) (E 3))), (2, .int (km_min (km_min (km_min (km_min (E 0) (E 0)) (E 1)) (E 2)) (E 3))), (1, .int ((((0 + (E 0)) + (E 1)) + (E 2)) + (E 3))), (0, .ref (ad (4, k)))] rfl ?_
  refine xq_goto X d_D_middle_66 30 (by decide) ?_
  refine xq_iload X d_D_middle_30 1 rfl ?_
  refine xq_iload X d_D_middle_32 2 rfl ?_
  refine xq_icmp_ge X d_D_middle_34 69 (by decide) (fun _ => ?_) (fun h => absurd h (by decide))
  refine xq_iload_n X d_D_middle_69 6 rfl rfl ?_
  refine xq_iload_n X d_D_middle_70 5 rfl rfl ?_
  refine xq_isub X d_D_middle_71 ?_
  refine xq_iload_n X d_D_middle_72 4 rfl rfl ?_
  refine xq_isub X d_D_middle_73 ?_
  refine xq_iconst (v := 2) X d_D_middle_74 (by decide) ?_
  refine xq_idiv X d_D_middle_75 (by decide) ?_
  have hh : (c_D_middle E) = (((((((0 + (E 0)) + (E 1)) + (E 2)) + (E 3)) - (km_min (km_min (km_min (km_min (E 0) (E 0)) (E 1)) (E 2)) (E 3))) - (km_max (km_max (km_max (km_max (E 0) (E 0)) (E 1)) (E 2)) (E 3))) / 2) := by exact rfl
  exact xq_iret X rfl rfl (by rw [hh]) rfl d_D_middle_76
def c_N_isInside (F : Nat → Int32) : Int32 := (if (F 3) = 2 then 1 else (if (F 3) = 3 then 1 else (if (F 3) = 4 then 1 else 0)))
set_option maxHeartbeats 4000000 in
set_option maxRecDepth 100000 in
theorem ct_N_isInside {l : Launch} {D : va_G} {n : Nat} {ad : xq_I → Nat} {cI cZ cN : ClassId} (hap : xq_ap (kc_cs n) ad) {k : Nat} (hk : k < n) {B : kc_B} {F G E w : Nat → Int32}  :
    xq_M l D vcl (kc_tys cI cZ cN) (kc_cs n) ad (kc_en n ad cI cN) y_N_isInside (Cond.code y_N_isInside b_N_isInside 1 (some .boolean) :: xw) 0 [.ref (ad (3, k))] (kc_ov B k F G E w) (some (.int (c_N_isInside F))) (kc_ov B k F G E w) := by
  refine xq_met (by decide) (Nat.le_of_ble_eq_true rfl) hap ?_
  intro p e s m args below meth c X
  refine xq_eqv (L' := [(0, .ref (ad (3, k)))]) (st' := []) rfl rfl ?_
  refine xq_aload_n X d_N_isInside_0 0 rfl rfl ?_
  refine kn_get (v := (F 3)) X hk 3 (by decide) f_N_25 d_N_isInside_1 rfl ?_
  refine xq_iconst (v := 2) X d_N_isInside_4 (by decide) ?_
  refine xq_icmp_eq X d_N_isInside_5 24 (by decide) (fun h1 => ?_) (fun h1 => ?_)
  · skip
    refine xq_iconst (v := 1) X d_N_isInside_24 (by decide) ?_
    refine xq_goto X d_N_isInside_25 29 (by decide) ?_
    have hh : (c_N_isInside F) = 1 := by exact (if_pos h1)
    exact xq_iret X rfl (by decide) (by rw [hh]) rfl d_N_isInside_29
  · skip
    refine xq_aload_n X d_N_isInside_8 0 rfl rfl ?_
    refine kn_get (v := (F 3)) X hk 3 (by decide) f_N_25 d_N_isInside_9 rfl ?_
    refine xq_iconst (v := 3) X d_N_isInside_12 (by decide) ?_
    refine xq_icmp_eq X d_N_isInside_13 24 (by decide) (fun h2 => ?_) (fun h2 => ?_)
    · skip
      refine xq_iconst (v := 1) X d_N_isInside_24 (by decide) ?_
      refine xq_goto X d_N_isInside_25 29 (by decide) ?_
      have hh : (c_N_isInside F) = 1 := by exact ((if_neg h1).trans (if_pos h2))
      exact xq_iret X rfl (by decide) (by rw [hh]) rfl d_N_isInside_29
    · skip
      refine xq_aload_n X d_N_isInside_16 0 rfl rfl ?_
      refine kn_get (v := (F 3)) X hk 3 (by decide) f_N_25 d_N_isInside_17 rfl ?_
      refine xq_iconst (v := 4) X d_N_isInside_20 (by decide) ?_
      refine xq_icmp_ne X d_N_isInside_21 28 (by decide) (fun h3 => ?_) (fun h3 => ?_)
      · skip
        refine xq_iconst (v := 0) X d_N_isInside_28 (by decide) ?_
        have hh : (c_N_isInside F) = 0 := by exact ((if_neg h1).trans ((if_neg h2).trans (if_neg h3)))
        exact xq_iret X rfl (by decide) (by rw [hh]) rfl d_N_isInside_29
      · skip
        refine xq_iconst (v := 1) X d_N_isInside_24 (by decide) ?_
        refine xq_goto X d_N_isInside_25 29 (by decide) ?_
        have hh : (c_N_isInside F) = 1 := by exact ((if_neg h1).trans ((if_neg h2).trans (if_pos h3)))
        exact xq_iret X rfl (by decide) (by rw [hh]) rfl d_N_isInside_29
def c_N_listenLong (F : Nat → Int32) : (Nat → Int32) := (upd F 9 ((2 * (F 1)) + (F 0)))
set_option maxHeartbeats 4000000 in
set_option maxRecDepth 100000 in
theorem ct_N_listenLong {l : Launch} {D : va_G} {n : Nat} {ad : xq_I → Nat} {cI cZ cN : ClassId} (hap : xq_ap (kc_cs n) ad) {k : Nat} (hk : k < n) {B : kc_B} {F G E w : Nat → Int32}  :
    xq_M l D vcl (kc_tys cI cZ cN) (kc_cs n) ad (kc_en n ad cI cN) y_N_listenLong (Cond.code y_N_listenLong b_N_listenLong 1 none :: xw) 0 [.ref (ad (3, k))] (kc_ov B k F G E w) none (kc_ov B k (c_N_listenLong F) G E w) := by
  refine xq_met (by decide) (Nat.le_of_ble_eq_true rfl) hap ?_
  intro p e s m args below meth c X
  refine xq_eqv (L' := [(0, .ref (ad (3, k)))]) (st' := []) rfl rfl ?_
  refine xq_aload_n X d_N_listenLong_0 0 rfl rfl ?_
  refine xq_iconst (v := 2) X d_N_listenLong_1 (by decide) ?_
  refine xq_aload_n X d_N_listenLong_2 0 rfl rfl ?_
  refine kn_get (v := (F 1)) X hk 1 (by decide) f_N_15 d_N_listenLong_3 rfl ?_
  refine xq_imul X d_N_listenLong_6 ?_
  refine xq_aload_n X d_N_listenLong_7 0 rfl rfl ?_
  refine kn_get (v := (F 0)) X hk 0 (by decide) f_N_9 d_N_listenLong_8 rfl ?_
  refine xq_iadd X d_N_listenLong_11 ?_
  refine kn_put X hk 9 (by decide) (ty := .int) f_N_77 T_N_ok n_N_9 rfl rfl d_N_listenLong_12 ?_
  have hh : (c_N_listenLong F) = (upd F 9 ((2 * (F 1)) + (F 0))) := by exact rfl
  exact xq_vret X rfl (by rw [hh]) d_N_listenLong_15
def c_N_countAnew (F : Nat → Int32) (x : Int32) : (Nat → Int32) := (upd (upd (upd F 7 1) 8 0) 12 x)
set_option maxHeartbeats 4000000 in
set_option maxRecDepth 100000 in
theorem ct_N_countAnew {l : Launch} {D : va_G} {n : Nat} {ad : xq_I → Nat} {cI cZ cN : ClassId} (hap : xq_ap (kc_cs n) ad) {k : Nat} (hk : k < n) {B : kc_B} {F G E w : Nat → Int32} (x : Int32)  :
    xq_M l D vcl (kc_tys cI cZ cN) (kc_cs n) ad (kc_en n ad cI cN) y_N_countAnew (Cond.code y_N_countAnew b_N_countAnew 2 none :: xw) 0 [.ref (ad (3, k)), .int x] (kc_ov B k F G E w) none (kc_ov B k (c_N_countAnew F x) G E w) := by
  refine xq_met (by decide) (Nat.le_of_ble_eq_true rfl) hap ?_
  intro p e s m args below meth c X
  refine xq_sub [1, 0] [(1, .int x), (0, .ref (ad (3, k)))] rfl ?_
  refine xq_aload_n X d_N_countAnew_0 1 rfl rfl ?_
  refine xq_iconst (v := 1) X d_N_countAnew_1 (by decide) ?_
  refine kn_put X hk 7 (by decide) (ty := .int) f_N_55 T_N_ok n_N_7 rfl rfl d_N_countAnew_2 ?_
  refine xq_aload_n X d_N_countAnew_5 1 rfl rfl ?_
  refine xq_iconst (v := 0) X d_N_countAnew_6 (by decide) ?_
  refine kn_put X hk 8 (by decide) (ty := .int) f_N_58 T_N_ok n_N_8 rfl rfl d_N_countAnew_7 ?_
  refine xq_aload_n X d_N_countAnew_10 1 rfl rfl ?_
  refine xq_iload_n X d_N_countAnew_11 0 rfl rfl ?_
  refine kn_put X hk 12 (by decide) (ty := .int) f_N_28 T_N_ok n_N_12 rfl rfl d_N_countAnew_12 ?_
  have hh : (c_N_countAnew F x) = (upd (upd (upd F 7 1) 8 0) 12 x) := by exact rfl
  exact xq_vret X rfl (by rw [hh]) d_N_countAnew_15
def c_N_join (F : Nat → Int32) (x : Int32) : (Nat → Int32) := (upd F 6 ((F 6) ||| ((1 : Int32) <<< (x &&& 31))))
set_option maxHeartbeats 4000000 in
set_option maxRecDepth 100000 in
theorem ct_N_join {l : Launch} {D : va_G} {n : Nat} {ad : xq_I → Nat} {cI cZ cN : ClassId} (hap : xq_ap (kc_cs n) ad) {k : Nat} (hk : k < n) {B : kc_B} {F G E w : Nat → Int32} (x : Int32)  :
    xq_M l D vcl (kc_tys cI cZ cN) (kc_cs n) ad (kc_en n ad cI cN) y_N_join (Cond.code y_N_join b_N_join 2 none :: xw) 0 [.ref (ad (3, k)), .int x] (kc_ov B k F G E w) none (kc_ov B k (c_N_join F x) G E w) := by
  refine xq_met (by decide) (Nat.le_of_ble_eq_true rfl) hap ?_
  intro p e s m args below meth c X
  refine xq_sub [1, 0] [(1, .int x), (0, .ref (ad (3, k)))] rfl ?_
  refine xq_aload_n X d_N_join_0 1 rfl rfl ?_
  refine xq_dup X d_N_join_1 rfl ?_
  refine kn_get (v := (F 6)) X hk 6 (by decide) f_N_34 d_N_join_2 rfl ?_
  refine xq_iconst (v := 1) X d_N_join_5 (by decide) ?_
  refine xq_iload_n X d_N_join_6 0 rfl rfl ?_
  refine xq_ishl X d_N_join_7 ?_
  refine xq_ior X d_N_join_8 ?_
  refine kn_put X hk 6 (by decide) (ty := .int) f_N_34 T_N_ok n_N_6 rfl rfl d_N_join_9 ?_
  have hh : (c_N_join F x) = (upd F 6 ((F 6) ||| ((1 : Int32) <<< (x &&& 31)))) := by exact rfl
  exact xq_vret X rfl (by rw [hh]) d_N_join_12
def c_N_leave (F : Nat → Int32) (x : Int32) : (Nat → Int32) := (upd F 6 ((F 6) &&& (((1 : Int32) <<< (x &&& 31)) ^^^ (-1))))
set_option maxHeartbeats 4000000 in
set_option maxRecDepth 100000 in
theorem ct_N_leave {l : Launch} {D : va_G} {n : Nat} {ad : xq_I → Nat} {cI cZ cN : ClassId} (hap : xq_ap (kc_cs n) ad) {k : Nat} (hk : k < n) {B : kc_B} {F G E w : Nat → Int32} (x : Int32)  :
    xq_M l D vcl (kc_tys cI cZ cN) (kc_cs n) ad (kc_en n ad cI cN) y_N_leave (Cond.code y_N_leave b_N_leave 2 none :: xw) 0 [.ref (ad (3, k)), .int x] (kc_ov B k F G E w) none (kc_ov B k (c_N_leave F x) G E w) := by
  refine xq_met (by decide) (Nat.le_of_ble_eq_true rfl) hap ?_
  intro p e s m args below meth c X
  refine xq_sub [1, 0] [(1, .int x), (0, .ref (ad (3, k)))] rfl ?_
  refine xq_aload_n X d_N_leave_0 1 rfl rfl ?_
  refine xq_dup X d_N_leave_1 rfl ?_
  refine kn_get (v := (F 6)) X hk 6 (by decide) f_N_34 d_N_leave_2 rfl ?_
  refine xq_iconst (v := 1) X d_N_leave_5 (by decide) ?_
  refine xq_iload_n X d_N_leave_6 0 rfl rfl ?_
  refine xq_ishl X d_N_leave_7 ?_
  refine xq_iconst (v := (-1)) X d_N_leave_8 (by decide) ?_
  refine xq_ixor X d_N_leave_9 ?_
  refine xq_iand X d_N_leave_10 ?_
  refine kn_put X hk 6 (by decide) (ty := .int) f_N_34 T_N_ok n_N_6 rfl rfl d_N_leave_11 ?_
  have hh : (c_N_leave F x) = (upd F 6 ((F 6) &&& (((1 : Int32) <<< (x &&& 31)) ^^^ (-1)))) := by exact rfl
  exact xq_vret X rfl (by rw [hh]) d_N_leave_14
def c_N_without (x : Int32) (y : Int32) : Int32 := (x &&& (((1 : Int32) <<< (y &&& 31)) ^^^ (-1)))
set_option maxHeartbeats 4000000 in
set_option maxRecDepth 100000 in
theorem ct_N_without {l : Launch} {D : va_G} {n : Nat} {ad : xq_I → Nat} {cI cZ cN : ClassId} (hap : xq_ap (kc_cs n) ad) {k : Nat} (hk : k < n) {B : kc_B} {F G E w : Nat → Int32} (x : Int32) (y : Int32)  :
    xq_M l D vcl (kc_tys cI cZ cN) (kc_cs n) ad (kc_en n ad cI cN) y_N_without (Cond.code y_N_without b_N_without 2 (some .int) :: xw) 0 [.int x, .int y] (kc_ov B k F G E w) (some (.int (c_N_without x y))) (kc_ov B k F G E w) := by
  refine xq_met (by decide) (Nat.le_of_ble_eq_true rfl) hap ?_
  intro p e s m args below meth c X
  refine xq_sub [1, 0] [(1, .int y), (0, .int x)] rfl ?_
  refine xq_iload_n X d_N_without_0 1 rfl rfl ?_
  refine xq_iconst (v := 1) X d_N_without_1 (by decide) ?_
  refine xq_iload_n X d_N_without_2 0 rfl rfl ?_
  refine xq_ishl X d_N_without_3 ?_
  refine xq_iconst (v := (-1)) X d_N_without_4 (by decide) ?_
  refine xq_ixor X d_N_without_5 ?_
  refine xq_iand X d_N_without_6 ?_
  have hh : (c_N_without x y) = (x &&& (((1 : Int32) <<< (y &&& 31)) ^^^ (-1))) := by exact rfl
  exact xq_iret X rfl rfl (by rw [hh]) rfl d_N_without_7
def c_N_switchOff (F : Nat → Int32) : (Nat → Int32) := (upd (upd (upd F 3 0) 16 0) 17 0)
set_option maxHeartbeats 4000000 in
set_option maxRecDepth 100000 in
theorem ct_N_switchOff {l : Launch} {D : va_G} {n : Nat} {ad : xq_I → Nat} {cI cZ cN : ClassId} (hap : xq_ap (kc_cs n) ad) {k : Nat} (hk : k < n) {B : kc_B} {F G E w : Nat → Int32}  :
    xq_M l D vcl (kc_tys cI cZ cN) (kc_cs n) ad (kc_en n ad cI cN) y_N_switchOff (Cond.code y_N_switchOff b_N_switchOff 1 none :: xw) 0 [.ref (ad (3, k))] (kc_ov B k F G E w) none (kc_ov B k (c_N_switchOff F) G E w) := by
  refine xq_met (by decide) (Nat.le_of_ble_eq_true rfl) hap ?_
  intro p e s m args below meth c X
  refine xq_eqv (L' := [(0, .ref (ad (3, k)))]) (st' := []) rfl rfl ?_
  refine xq_aload_n X d_N_switchOff_0 0 rfl rfl ?_
  refine xq_iconst (v := 0) X d_N_switchOff_1 (by decide) ?_
  refine kn_put X hk 3 (by decide) (ty := .int) f_N_25 T_N_ok n_N_3 rfl rfl d_N_switchOff_2 ?_
  refine xq_aload_n X d_N_switchOff_5 0 rfl rfl ?_
  refine xq_iconst (v := 0) X d_N_switchOff_6 (by decide) ?_
  refine kn_put X hk 16 (by decide) (ty := .boolean) f_N_61 T_N_ok n_N_16 (by decide) (by decide) d_N_switchOff_7 ?_
  refine xq_aload_n X d_N_switchOff_10 0 rfl rfl ?_
  refine xq_iconst (v := 0) X d_N_switchOff_11 (by decide) ?_
  refine kn_put X hk 17 (by decide) (ty := .boolean) f_N_65 T_N_ok n_N_17 (by decide) (by decide) d_N_switchOff_12 ?_
  have hh : (c_N_switchOff F) = (upd (upd (upd F 3 0) 16 0) 17 0) := by exact rfl
  exact xq_vret X rfl (by rw [hh]) d_N_switchOff_15
def c_N_beginListening (F : Nat → Int32) (G : Nat → Int32) : (Nat → Int32) × (Nat → Int32) := ((upd (c_N_listenLong (upd F 3 1)) 10 0), (c_D_forget G))
set_option maxHeartbeats 4000000 in
set_option maxRecDepth 100000 in
theorem ct_N_beginListening {l : Launch} {D : va_G} {n : Nat} {ad : xq_I → Nat} {cI cZ cN : ClassId} (hap : xq_ap (kc_cs n) ad) {k : Nat} (hk : k < n) {B : kc_B} {F G E w : Nat → Int32}  :
    xq_M l D vcl (kc_tys cI cZ cN) (kc_cs n) ad (kc_en n ad cI cN) y_N_beginListening (Cond.code y_N_beginListening b_N_beginListening 1 none :: xw) 1 [.ref (ad (3, k))] (kc_ov B k F G E w) none (kc_ov B k (c_N_beginListening F G).1 (c_N_beginListening F G).2 E w) := by
  refine xq_met (by decide) (Nat.le_of_ble_eq_true rfl) hap ?_
  intro p e s m args below meth c X
  refine xq_eqv (L' := [(0, .ref (ad (3, k)))]) (st' := []) rfl rfl ?_
  refine xq_aload_n X d_N_beginListening_0 0 rfl rfl ?_
  refine xq_iconst (v := 1) X d_N_beginListening_1 (by decide) ?_
  refine kn_put X hk 3 (by decide) (ty := .int) f_N_25 T_N_ok n_N_3 rfl rfl d_N_beginListening_2 ?_
  refine xq_aload_n X d_N_beginListening_5 0 rfl rfl ?_
  refine kn_callV (As := []) (rest := []) X xw_g hk g_N_68 (ct_N_listenLong hap hk) rfl rfl (by decide) (Nat.le_of_ble_eq_true rfl) rfl d_N_beginListening_6 ?_
  refine xq_aload_n X d_N_beginListening_9 0 rfl rfl ?_
  refine xq_iconst (v := 0) X d_N_beginListening_10 (by decide) ?_
  refine kn_put X hk 10 (by decide) (ty := .boolean) f_N_71 T_N_ok n_N_10 (by decide) (by decide) d_N_beginListening_11 ?_
  refine xq_aload_n X d_N_beginListening_14 0 rfl rfl ?_
  refine kn_dev X hk f_N_21 d_N_beginListening_15 ?_
  refine kd_callV (As := []) (rest := []) X xw_g hk g_N_74 (ct_D_forget hap hk) rfl rfl (by decide) (Nat.le_of_ble_eq_true rfl) rfl d_N_beginListening_18 ?_
  have hh : (c_N_beginListening F G) = ((upd (c_N_listenLong (upd F 3 1)) 10 0), (c_D_forget G)) := by exact rfl
  exact xq_vret X rfl (by rw [hh]) d_N_beginListening_21
def c_N_switchOn (F : Nat → Int32) (G : Nat → Int32) (x : Int32) : (Nat → Int32) × (Nat → Int32) := ((upd (upd (upd (upd (upd (upd (upd (upd (upd (c_N_beginListening F G).1 15 x) 11 3) 14 0) 7 0) 8 0) 4 0) 5 0) 6 0) 12 0), (c_N_beginListening F G).2)
set_option maxHeartbeats 4000000 in
set_option maxRecDepth 100000 in
theorem ct_N_switchOn {l : Launch} {D : va_G} {n : Nat} {ad : xq_I → Nat} {cI cZ cN : ClassId} (hap : xq_ap (kc_cs n) ad) {k : Nat} (hk : k < n) {B : kc_B} {F G E w : Nat → Int32} (x : Int32)  :
    xq_M l D vcl (kc_tys cI cZ cN) (kc_cs n) ad (kc_en n ad cI cN) y_N_switchOn (Cond.code y_N_switchOn b_N_switchOn 2 none :: xw) 2 [.ref (ad (3, k)), .int x] (kc_ov B k F G E w) none (kc_ov B k (c_N_switchOn F G x).1 (c_N_switchOn F G x).2 E w) := by
  refine xq_met (by decide) (Nat.le_of_ble_eq_true rfl) hap ?_
  intro p e s m args below meth c X
  refine xq_sub [1, 0] [(1, .int x), (0, .ref (ad (3, k)))] rfl ?_
  refine xq_aload_n X d_N_switchOn_0 1 rfl rfl ?_
  refine kn_callV (As := []) (rest := []) X xw_g hk g_N_43 (ct_N_beginListening hap hk) rfl rfl (by decide) (Nat.le_of_ble_eq_true rfl) rfl d_N_switchOn_1 ?_
  refine xq_aload_n X d_N_switchOn_4 1 rfl rfl ?_
  refine xq_iload_n X d_N_switchOn_5 0 rfl rfl ?_
  refine kn_put X hk 15 (by decide) (ty := .int) f_N_46 T_N_ok n_N_15 rfl rfl d_N_switchOn_6 ?_
  refine xq_aload_n X d_N_switchOn_9 1 rfl rfl ?_
  refine xq_iconst (v := 3) X d_N_switchOn_10 (by decide) ?_
  refine kn_put X hk 11 (by decide) (ty := .int) f_N_49 T_N_ok n_N_11 rfl rfl d_N_switchOn_11 ?_
  refine xq_aload_n X d_N_switchOn_14 1 rfl rfl ?_
  refine xq_iconst (v := 0) X d_N_switchOn_15 (by decide) ?_
  refine kn_put X hk 14 (by decide) (ty := .int) f_N_52 T_N_ok n_N_14 rfl rfl d_N_switchOn_16 ?_
  refine xq_aload_n X d_N_switchOn_19 1 rfl rfl ?_
  refine xq_iconst (v := 0) X d_N_switchOn_20 (by decide) ?_
  refine kn_put X hk 7 (by decide) (ty := .int) f_N_55 T_N_ok n_N_7 rfl rfl d_N_switchOn_21 ?_
  refine xq_aload_n X d_N_switchOn_24 1 rfl rfl ?_
  refine xq_iconst (v := 0) X d_N_switchOn_25 (by decide) ?_
  refine kn_put X hk 8 (by decide) (ty := .int) f_N_58 T_N_ok n_N_8 rfl rfl d_N_switchOn_26 ?_
  refine xq_aload_n X d_N_switchOn_29 1 rfl rfl ?_
  refine xq_iconst (v := 0) X d_N_switchOn_30 (by decide) ?_
  refine kn_put X hk 4 (by decide) (ty := .int) f_N_37 T_N_ok n_N_4 rfl rfl d_N_switchOn_31 ?_
  refine xq_aload_n X d_N_switchOn_34 1 rfl rfl ?_
  refine xq_iconst (v := 0) X d_N_switchOn_35 (by decide) ?_
  refine kn_put X hk 5 (by decide) (ty := .int) f_N_40 T_N_ok n_N_5 rfl rfl d_N_switchOn_36 ?_
  refine xq_aload_n X d_N_switchOn_39 1 rfl rfl ?_
  refine xq_iconst (v := 0) X d_N_switchOn_40 (by decide) ?_
  refine kn_put X hk 6 (by decide) (ty := .int) f_N_34 T_N_ok n_N_6 rfl rfl d_N_switchOn_41 ?_
  refine xq_aload_n X d_N_switchOn_44 1 rfl rfl ?_
  refine xq_iconst (v := 0) X d_N_switchOn_45 (by decide) ?_
  refine kn_put X hk 12 (by decide) (ty := .int) f_N_28 T_N_ok n_N_12 rfl rfl d_N_switchOn_46 ?_
  have hh : (c_N_switchOn F G x) = ((upd (upd (upd (upd (upd (upd (upd (upd (upd (c_N_beginListening F G).1 15 x) 11 3) 14 0) 7 0) 8 0) 4 0) 5 0) 6 0) 12 0), (c_N_beginListening F G).2) := by exact rfl
  exact xq_vret X rfl (by rw [hh]) d_N_switchOn_49
def c_N_moveClock (F : Nat → Int32) : (Nat → Int32) := (if (F 3) = 0 then F else (let z5 : Nat → Int32 := (if (c_N_isInside (upd F 14 ((F 14) + (F 15)))) = 0 then (upd F 14 ((F 14) + (F 15))) else (upd (upd (upd F 14 ((F 14) + (F 15))) 4 (if (F 4) = ((F 1) - 1) then 0 else ((F 4) + 1))) 5 (if (F 5) = 65535 then 0 else ((F 5) + 1)))); z5))
set_option maxHeartbeats 4000000 in
set_option maxRecDepth 100000 in
theorem ct_N_moveClock {l : Launch} {D : va_G} {n : Nat} {ad : xq_I → Nat} {cI cZ cN : ClassId} (hap : xq_ap (kc_cs n) ad) {k : Nat} (hk : k < n) {B : kc_B} {F G E w : Nat → Int32}  :
    xq_M l D vcl (kc_tys cI cZ cN) (kc_cs n) ad (kc_en n ad cI cN) y_N_moveClock (Cond.code y_N_moveClock b_N_moveClock 1 none :: xw) 1 [.ref (ad (3, k))] (kc_ov B k F G E w) none (kc_ov B k (c_N_moveClock F) G E w) := by
  refine xq_met (by decide) (Nat.le_of_ble_eq_true rfl) hap ?_
  intro p e s m args below meth c X
  refine xq_eqv (L' := [(0, .ref (ad (3, k)))]) (st' := []) rfl rfl ?_
  refine xq_aload_n X d_N_moveClock_0 0 rfl rfl ?_
  refine kn_get (v := (F 3)) X hk 3 (by decide) f_N_25 d_N_moveClock_1 rfl ?_
  refine xq_if_ne X d_N_moveClock_4 8 (by decide) (fun h1 => ?_) (fun h1 => ?_)
  · skip
    refine xq_aload_n X d_N_moveClock_8 0 rfl rfl ?_
    refine xq_dup X d_N_moveClock_9 rfl ?_
    refine kn_get (v := (F 14)) X hk 14 (by decide) f_N_52 d_N_moveClock_10 rfl ?_
    refine xq_aload_n X d_N_moveClock_13 0 rfl rfl ?_
    refine kn_get (v := (F 15)) X hk 15 (by decide) f_N_46 d_N_moveClock_14 rfl ?_
    refine xq_iadd X d_N_moveClock_17 ?_
    refine kn_put X hk 14 (by decide) (ty := .int) f_N_52 T_N_ok n_N_14 rfl rfl d_N_moveClock_18 ?_
    refine xq_aload_n X d_N_moveClock_21 0 rfl rfl ?_
    refine kn_callI (As := []) (rest := []) X xw_g hk g_N_80 (ct_N_isInside hap hk) rfl rfl (by decide) (Nat.le_of_ble_eq_true rfl) rfl d_N_moveClock_22 ?_
    have J6 : ∀ (z5 : Nat → Int32), z5 = (if (c_N_isInside (upd F 14 ((F 14) + (F 15)))) = 0 then (upd F 14 ((F 14) + (F 15))) else (upd (upd (upd F 14 ((F 14) + (F 15))) 4 (if (F 4) = ((F 1) - 1) then 0 else ((F 4) + 1))) 5 (if (F 5) = 65535 then 0 else ((F 5) + 1)))) → xq_W p l e (xq_r 1) s m args below meth c D vcl (kc_cs n) ad (kc_en n ad cI cN) 0 0 (MQ below (xq_Q D vcl (kc_cs n) ad (kc_en n ad cI cN) none (kc_ov B k (c_N_moveClock F) G E w)) args s 0 0 (xq_in (kc_cs n) ad)) 1 78 [(0, .ref (ad (3, k)))] [] (kc_ov B k z5 G E w) := by
      intro z5 e7
      have hh : (c_N_moveClock F) = z5 := by subst e7; exact (if_neg h1)
      exact xq_vret X rfl (by rw [hh]) d_N_moveClock_78
    refine xq_if_eq X d_N_moveClock_25 78 (by decide) (fun h2 => ?_) (fun h2 => ?_)
    · skip
      exact J6 _ (if_pos h2).symm
    · skip
      refine xq_aload_n X d_N_moveClock_28 0 rfl rfl ?_
      refine xq_aload_n X d_N_moveClock_29 0 rfl rfl ?_
      refine kn_get (v := (F 4)) X hk 4 (by decide) f_N_37 d_N_moveClock_30 rfl ?_
      refine xq_aload_n X d_N_moveClock_33 0 rfl rfl ?_
      refine kn_get (v := (F 1)) X hk 1 (by decide) f_N_15 d_N_moveClock_34 rfl ?_
      refine xq_iconst (v := 1) X d_N_moveClock_37 (by decide) ?_
      refine xq_isub X d_N_moveClock_38 ?_
      have J8 : ∀ (y9 : Int32), y9 = (if (F 4) = ((F 1) - 1) then 0 else ((F 4) + 1)) → xq_W p l e (xq_r 1) s m args below meth c D vcl (kc_cs n) ad (kc_en n ad cI cN) 0 0 (MQ below (xq_Q D vcl (kc_cs n) ad (kc_en n ad cI cN) none (kc_ov B k (c_N_moveClock F) G E w)) args s 0 0 (xq_in (kc_cs n) ad)) 1 52 [(0, .ref (ad (3, k)))] [.int y9, .ref (ad (3, k))] (kc_ov B k (upd F 14 ((F 14) + (F 15))) G E w) := by
        intro y9 e10
        subst e10
        refine kn_put X hk 4 (by decide) (ty := .int) f_N_37 T_N_ok n_N_4 rfl rfl d_N_moveClock_52 ?_
        refine xq_aload_n X d_N_moveClock_55 0 rfl rfl ?_
        refine xq_aload_n X d_N_moveClock_56 0 rfl rfl ?_
        refine kn_get (v := (F 5)) X hk 5 (by decide) f_N_40 d_N_moveClock_57 rfl ?_
        refine xq_ldc (v := 65535) X k_N_84 d_N_moveClock_60 ?_
        have J11 : ∀ (y12 : Int32), y12 = (if (F 5) = 65535 then 0 else ((F 5) + 1)) → xq_W p l e (xq_r 1) s m args below meth c D vcl (kc_cs n) ad (kc_en n ad cI cN) 0 0 (MQ below (xq_Q D vcl (kc_cs n) ad (kc_en n ad cI cN) none (kc_ov B k (c_N_moveClock F) G E w)) args s 0 0 (xq_in (kc_cs n) ad)) 1 75 [(0, .ref (ad (3, k)))] [.int y12, .ref (ad (3, k))] (kc_ov B k (upd (upd F 14 ((F 14) + (F 15))) 4 (if (F 4) = ((F 1) - 1) then 0 else ((F 4) + 1))) G E w) := by
          intro y12 e13
          subst e13
          refine kn_put X hk 5 (by decide) (ty := .int) f_N_40 T_N_ok n_N_5 rfl rfl d_N_moveClock_75 ?_
          exact J6 _ (if_neg h2).symm
        refine xq_icmp_ne X d_N_moveClock_62 69 (by decide) (fun h4 => ?_) (fun h4 => ?_)
        · skip
          refine xq_aload_n X d_N_moveClock_69 0 rfl rfl ?_
          refine kn_get (v := (F 5)) X hk 5 (by decide) f_N_40 d_N_moveClock_70 rfl ?_
          refine xq_iconst (v := 1) X d_N_moveClock_73 (by decide) ?_
          refine xq_iadd X d_N_moveClock_74 ?_
          exact J11 _ (if_neg h4).symm
        · skip
          refine xq_iconst (v := 0) X d_N_moveClock_65 (by decide) ?_
          refine xq_goto X d_N_moveClock_66 75 (by decide) ?_
          exact J11 _ (if_pos h4).symm
      refine xq_icmp_ne X d_N_moveClock_39 46 (by decide) (fun h3 => ?_) (fun h3 => ?_)
      · skip
        refine xq_aload_n X d_N_moveClock_46 0 rfl rfl ?_
        refine kn_get (v := (F 4)) X hk 4 (by decide) f_N_37 d_N_moveClock_47 rfl ?_
        refine xq_iconst (v := 1) X d_N_moveClock_50 (by decide) ?_
        refine xq_iadd X d_N_moveClock_51 ?_
        exact J8 _ (if_neg h3).symm
      · skip
        refine xq_iconst (v := 0) X d_N_moveClock_42 (by decide) ?_
        refine xq_goto X d_N_moveClock_43 52 (by decide) ?_
        exact J8 _ (if_pos h3).symm
  · skip
    have hh : (c_N_moveClock F) = F := by exact (if_pos h1)
    exact xq_vret X rfl (by rw [hh]) d_N_moveClock_7
def c_N_listenOneSlot (F : Nat → Int32) : (Nat → Int32) := (if ((F 9) - 1) = 0 then (if (F 11) = 0 then (upd (upd F 9 ((F 9) - 1)) 3 5) else (upd (c_N_countAnew (upd (upd (upd (upd (upd (upd F 9 ((F 9) - 1)) 11 ((F 11) - 1)) 3 2) 4 (F 0)) 5 0) 6 ((1 : Int32) <<< ((F 0) &&& 31))) 0) 18 2)) else (upd F 9 ((F 9) - 1)))
set_option maxHeartbeats 4000000 in
set_option maxRecDepth 100000 in
theorem ct_N_listenOneSlot {l : Launch} {D : va_G} {n : Nat} {ad : xq_I → Nat} {cI cZ cN : ClassId} (hap : xq_ap (kc_cs n) ad) {k : Nat} (hk : k < n) {B : kc_B} {F G E w : Nat → Int32}  :
    xq_M l D vcl (kc_tys cI cZ cN) (kc_cs n) ad (kc_en n ad cI cN) y_N_listenOneSlot (Cond.code y_N_listenOneSlot b_N_listenOneSlot 1 none :: xw) 1 [.ref (ad (3, k))] (kc_ov B k F G E w) none (kc_ov B k (c_N_listenOneSlot F) G E w) := by
  refine xq_met (by decide) (Nat.le_of_ble_eq_true rfl) hap ?_
  intro p e s m args below meth c X
  refine xq_eqv (L' := [(0, .ref (ad (3, k)))]) (st' := []) rfl rfl ?_
  refine xq_aload_n X d_N_listenOneSlot_0 0 rfl rfl ?_
  refine xq_dup X d_N_listenOneSlot_1 rfl ?_
  refine kn_get (v := (F 9)) X hk 9 (by decide) f_N_77 d_N_listenOneSlot_2 rfl ?_
  refine xq_iconst (v := 1) X d_N_listenOneSlot_5 (by decide) ?_
  refine xq_isub X d_N_listenOneSlot_6 ?_
  refine kn_put X hk 9 (by decide) (ty := .int) f_N_77 T_N_ok n_N_9 rfl rfl d_N_listenOneSlot_7 ?_
  refine xq_aload_n X d_N_listenOneSlot_10 0 rfl rfl ?_
  refine kn_get (v := ((F 9) - 1)) X hk 9 (by decide) f_N_77 d_N_listenOneSlot_11 rfl ?_
  refine xq_if_eq X d_N_listenOneSlot_14 18 (by decide) (fun h1 => ?_) (fun h1 => ?_)
  · skip
    refine xq_aload_n X d_N_listenOneSlot_18 0 rfl rfl ?_
    refine kn_get (v := (F 11)) X hk 11 (by decide) f_N_49 d_N_listenOneSlot_19 rfl ?_
    refine xq_if_ne X d_N_listenOneSlot_22 31 (by decide) (fun h2 => ?_) (fun h2 => ?_)
    · skip
      refine xq_aload_n X d_N_listenOneSlot_31 0 rfl rfl ?_
      refine xq_dup X d_N_listenOneSlot_32 rfl ?_
      refine kn_get (v := (F 11)) X hk 11 (by decide) f_N_49 d_N_listenOneSlot_33 rfl ?_
      refine xq_iconst (v := 1) X d_N_listenOneSlot_36 (by decide) ?_
      refine xq_isub X d_N_listenOneSlot_37 ?_
      refine kn_put X hk 11 (by decide) (ty := .int) f_N_49 T_N_ok n_N_11 rfl rfl d_N_listenOneSlot_38 ?_
      refine xq_aload_n X d_N_listenOneSlot_41 0 rfl rfl ?_
      refine xq_iconst (v := 2) X d_N_listenOneSlot_42 (by decide) ?_
      refine kn_put X hk 3 (by decide) (ty := .int) f_N_25 T_N_ok n_N_3 rfl rfl d_N_listenOneSlot_43 ?_
      refine xq_aload_n X d_N_listenOneSlot_46 0 rfl rfl ?_
      refine xq_aload_n X d_N_listenOneSlot_47 0 rfl rfl ?_
      refine kn_get (v := (F 0)) X hk 0 (by decide) f_N_9 d_N_listenOneSlot_48 rfl ?_
      refine kn_put X hk 4 (by decide) (ty := .int) f_N_37 T_N_ok n_N_4 rfl rfl d_N_listenOneSlot_51 ?_
      refine xq_aload_n X d_N_listenOneSlot_54 0 rfl rfl ?_
      refine xq_iconst (v := 0) X d_N_listenOneSlot_55 (by decide) ?_
      refine kn_put X hk 5 (by decide) (ty := .int) f_N_40 T_N_ok n_N_5 rfl rfl d_N_listenOneSlot_56 ?_
      refine xq_aload_n X d_N_listenOneSlot_59 0 rfl rfl ?_
      refine xq_iconst (v := 1) X d_N_listenOneSlot_60 (by decide) ?_
      refine xq_aload_n X d_N_listenOneSlot_61 0 rfl rfl ?_
      refine kn_get (v := (F 0)) X hk 0 (by decide) f_N_9 d_N_listenOneSlot_62 rfl ?_
      refine xq_ishl X d_N_listenOneSlot_65 ?_
      refine kn_put X hk 6 (by decide) (ty := .int) f_N_34 T_N_ok n_N_6 rfl rfl d_N_listenOneSlot_66 ?_
      refine xq_aload_n X d_N_listenOneSlot_69 0 rfl rfl ?_
      refine xq_iconst (v := 0) X d_N_listenOneSlot_70 (by decide) ?_
      refine kn_callV (As := [.int 0]) (rest := []) X xw_g hk g_N_91 (ct_N_countAnew hap hk 0) rfl rfl (by decide) (Nat.le_of_ble_eq_true rfl) rfl d_N_listenOneSlot_71 ?_
      refine xq_aload_n X d_N_listenOneSlot_74 0 rfl rfl ?_
      refine xq_iconst (v := 2) X d_N_listenOneSlot_75 (by decide) ?_
      refine kn_put X hk 18 (by decide) (ty := .int) f_N_31 T_N_ok n_N_18 rfl rfl d_N_listenOneSlot_76 ?_
      have hh : (c_N_listenOneSlot F) = (upd (c_N_countAnew (upd (upd (upd (upd (upd (upd F 9 ((F 9) - 1)) 11 ((F 11) - 1)) 3 2) 4 (F 0)) 5 0) 6 ((1 : Int32) <<< ((F 0) &&& 31))) 0) 18 2) := by exact ((if_pos h1).trans (if_neg h2))
      exact xq_vret X rfl (by rw [hh]) d_N_listenOneSlot_79
    · skip
      refine xq_aload_n X d_N_listenOneSlot_25 0 rfl rfl ?_
      refine xq_iconst (v := 5) X d_N_listenOneSlot_26 (by decide) ?_
      refine kn_put X hk 3 (by decide) (ty := .int) f_N_25 T_N_ok n_N_3 rfl rfl d_N_listenOneSlot_27 ?_
      have hh : (c_N_listenOneSlot F) = (upd (upd F 9 ((F 9) - 1)) 3 5) := by exact ((if_pos h1).trans (if_pos h2))
      exact xq_vret X rfl (by rw [hh]) d_N_listenOneSlot_30
  · skip
    have hh : (c_N_listenOneSlot F) = (upd F 9 ((F 9) - 1)) := by exact (if_neg h1)
    exact xq_vret X rfl (by rw [hh]) d_N_listenOneSlot_17
def c_N_takeOwnTurn (F : Nat → Int32) (G : Nat → Int32) : (Nat → Int32) × (Nat → Int32) := (let z7 : Nat → Int32 := (if (F 3) = 2 then (if (F 7) = 1 then (if (F 8) = 0 then (c_N_beginListening F G).1 else (if (F 8) < (F 7) then (upd (c_N_countAnew (c_N_join (upd F 3 3) (F 0)) 1) 18 3) else (upd F 3 5))) else (if (F 8) < (F 7) then (upd (c_N_countAnew (c_N_join (upd F 3 3) (F 0)) 1) 18 3) else (upd F 3 5))) else (if (F 8) < (F 7) then (upd (c_N_countAnew (c_N_join (upd F 3 3) (F 0)) 1) 18 3) else (upd F 3 5))); let z8 : Nat → Int32 := (if (F 3) = 2 then (if (F 7) = 1 then (if (F 8) = 0 then (c_N_beginListening F G).2 else G) else G) else G); (z7, z8))
set_option maxHeartbeats 4000000 in
set_option maxRecDepth 100000 in
theorem ct_N_takeOwnTurn {l : Launch} {D : va_G} {n : Nat} {ad : xq_I → Nat} {cI cZ cN : ClassId} (hap : xq_ap (kc_cs n) ad) {k : Nat} (hk : k < n) {B : kc_B} {F G E w : Nat → Int32}  :
    xq_M l D vcl (kc_tys cI cZ cN) (kc_cs n) ad (kc_en n ad cI cN) y_N_takeOwnTurn (Cond.code y_N_takeOwnTurn b_N_takeOwnTurn 1 none :: xw) 2 [.ref (ad (3, k))] (kc_ov B k F G E w) none (kc_ov B k (c_N_takeOwnTurn F G).1 (c_N_takeOwnTurn F G).2 E w) := by
  refine xq_met (by decide) (Nat.le_of_ble_eq_true rfl) hap ?_
  intro p e s m args below meth c X
  refine xq_eqv (L' := [(0, .ref (ad (3, k)))]) (st' := []) rfl rfl ?_
  refine xq_aload_n X d_N_takeOwnTurn_0 0 rfl rfl ?_
  refine kn_get (v := (F 3)) X hk 3 (by decide) f_N_25 d_N_takeOwnTurn_1 rfl ?_
  refine xq_iconst (v := 2) X d_N_takeOwnTurn_4 (by decide) ?_
  have J9 : ∀ (z7 : Nat → Int32) (z8 : Nat → Int32), z7 = (if (F 3) = 2 then (if (F 7) = 1 then (if (F 8) = 0 then (c_N_beginListening F G).1 else (if (F 8) < (F 7) then (upd (c_N_countAnew (c_N_join (upd F 3 3) (F 0)) 1) 18 3) else (upd F 3 5))) else (if (F 8) < (F 7) then (upd (c_N_countAnew (c_N_join (upd F 3 3) (F 0)) 1) 18 3) else (upd F 3 5))) else (if (F 8) < (F 7) then (upd (c_N_countAnew (c_N_join (upd F 3 3) (F 0)) 1) 18 3) else (upd F 3 5))) → z8 = (if (F 3) = 2 then (if (F 7) = 1 then (if (F 8) = 0 then (c_N_beginListening F G).2 else G) else G) else G) → xq_W p l e (xq_r 2) s m args below meth c D vcl (kc_cs n) ad (kc_en n ad cI cN) 0 0 (MQ below (xq_Q D vcl (kc_cs n) ad (kc_en n ad cI cN) none (kc_ov B k (c_N_takeOwnTurn F G).1 (c_N_takeOwnTurn F G).2 E w)) args s 0 0 (xq_in (kc_cs n) ad)) 1 72 [(0, .ref (ad (3, k)))] [] (kc_ov B k z7 z8 E w) := by
    intro z7 z8 e10 e11
    have hh : (c_N_takeOwnTurn F G) = (z7, z8) := by subst e10; subst e11; exact rfl
    exact xq_vret X rfl (by rw [hh]) d_N_takeOwnTurn_72
  refine xq_icmp_ne X d_N_takeOwnTurn_5 30 (by decide) (fun h1 => ?_) (fun h1 => ?_)
  · skip
    refine xq_aload_n X d_N_takeOwnTurn_30 0 rfl rfl ?_
    refine kn_get (v := (F 7)) X hk 7 (by decide) f_N_55 d_N_takeOwnTurn_31 rfl ?_
    refine xq_aload_n X d_N_takeOwnTurn_34 0 rfl rfl ?_
    refine kn_get (v := (F 8)) X hk 8 (by decide) f_N_58 d_N_takeOwnTurn_35 rfl ?_
    refine xq_icmp_gt X d_N_takeOwnTurn_38 49 (by decide) (fun h2 => ?_) (fun h2 => ?_)
    · skip
      refine xq_aload_n X d_N_takeOwnTurn_49 0 rfl rfl ?_
      refine xq_iconst (v := 3) X d_N_takeOwnTurn_50 (by decide) ?_
      refine kn_put X hk 3 (by decide) (ty := .int) f_N_25 T_N_ok n_N_3 rfl rfl d_N_takeOwnTurn_51 ?_
      refine xq_aload_n X d_N_takeOwnTurn_54 0 rfl rfl ?_
      refine xq_aload_n X d_N_takeOwnTurn_55 0 rfl rfl ?_
      refine kn_get (v := (F 0)) X hk 0 (by decide) f_N_9 d_N_takeOwnTurn_56 rfl ?_
      refine kn_callV (As := [.int (F 0)]) (rest := []) X xw_g hk g_N_95 (ct_N_join hap hk (F 0)) rfl rfl (by decide) (Nat.le_of_ble_eq_true rfl) rfl d_N_takeOwnTurn_59 ?_
      refine xq_aload_n X d_N_takeOwnTurn_62 0 rfl rfl ?_
      refine xq_iconst (v := 1) X d_N_takeOwnTurn_63 (by decide) ?_
      refine kn_callV (As := [.int 1]) (rest := []) X xw_g hk g_N_91 (ct_N_countAnew hap hk 1) rfl rfl (by decide) (Nat.le_of_ble_eq_true rfl) rfl d_N_takeOwnTurn_64 ?_
      refine xq_aload_n X d_N_takeOwnTurn_67 0 rfl rfl ?_
      refine xq_iconst (v := 3) X d_N_takeOwnTurn_68 (by decide) ?_
      refine kn_put X hk 18 (by decide) (ty := .int) f_N_31 T_N_ok n_N_18 rfl rfl d_N_takeOwnTurn_69 ?_
      exact J9 _ _ ((if_neg h1).trans (if_pos h2)).symm (if_neg h1).symm
    · skip
      refine xq_aload_n X d_N_takeOwnTurn_41 0 rfl rfl ?_
      refine xq_iconst (v := 5) X d_N_takeOwnTurn_42 (by decide) ?_
      refine kn_put X hk 3 (by decide) (ty := .int) f_N_25 T_N_ok n_N_3 rfl rfl d_N_takeOwnTurn_43 ?_
      refine xq_goto X d_N_takeOwnTurn_46 72 (by decide) ?_
      exact J9 _ _ ((if_neg h1).trans (if_neg h2)).symm (if_neg h1).symm
  · skip
    refine xq_aload_n X d_N_takeOwnTurn_8 0 rfl rfl ?_
    refine kn_get (v := (F 7)) X hk 7 (by decide) f_N_55 d_N_takeOwnTurn_9 rfl ?_
    refine xq_iconst (v := 1) X d_N_takeOwnTurn_12 (by decide) ?_
    refine xq_icmp_ne X d_N_takeOwnTurn_13 30 (by decide) (fun h3 => ?_) (fun h3 => ?_)
    · skip
      refine xq_aload_n X d_N_takeOwnTurn_30 0 rfl rfl ?_
      refine kn_get (v := (F 7)) X hk 7 (by decide) f_N_55 d_N_takeOwnTurn_31 rfl ?_
      refine xq_aload_n X d_N_takeOwnTurn_34 0 rfl rfl ?_
      refine kn_get (v := (F 8)) X hk 8 (by decide) f_N_58 d_N_takeOwnTurn_35 rfl ?_
      refine xq_icmp_gt X d_N_takeOwnTurn_38 49 (by decide) (fun h4 => ?_) (fun h4 => ?_)
      · skip
        refine xq_aload_n X d_N_takeOwnTurn_49 0 rfl rfl ?_
        refine xq_iconst (v := 3) X d_N_takeOwnTurn_50 (by decide) ?_
        refine kn_put X hk 3 (by decide) (ty := .int) f_N_25 T_N_ok n_N_3 rfl rfl d_N_takeOwnTurn_51 ?_
        refine xq_aload_n X d_N_takeOwnTurn_54 0 rfl rfl ?_
        refine xq_aload_n X d_N_takeOwnTurn_55 0 rfl rfl ?_
        refine kn_get (v := (F 0)) X hk 0 (by decide) f_N_9 d_N_takeOwnTurn_56 rfl ?_
        refine kn_callV (As := [.int (F 0)]) (rest := []) X xw_g hk g_N_95 (ct_N_join hap hk (F 0)) rfl rfl (by decide) (Nat.le_of_ble_eq_true rfl) rfl d_N_takeOwnTurn_59 ?_
        refine xq_aload_n X d_N_takeOwnTurn_62 0 rfl rfl ?_
        refine xq_iconst (v := 1) X d_N_takeOwnTurn_63 (by decide) ?_
        refine kn_callV (As := [.int 1]) (rest := []) X xw_g hk g_N_91 (ct_N_countAnew hap hk 1) rfl rfl (by decide) (Nat.le_of_ble_eq_true rfl) rfl d_N_takeOwnTurn_64 ?_
        refine xq_aload_n X d_N_takeOwnTurn_67 0 rfl rfl ?_
        refine xq_iconst (v := 3) X d_N_takeOwnTurn_68 (by decide) ?_
        refine kn_put X hk 18 (by decide) (ty := .int) f_N_31 T_N_ok n_N_18 rfl rfl d_N_takeOwnTurn_69 ?_
        exact J9 _ _ ((if_pos h1).trans ((if_neg h3).trans (if_pos h4))).symm ((if_pos h1).trans (if_neg h3)).symm
      · skip
        refine xq_aload_n X d_N_takeOwnTurn_41 0 rfl rfl ?_
        refine xq_iconst (v := 5) X d_N_takeOwnTurn_42 (by decide) ?_
        refine kn_put X hk 3 (by decide) (ty := .int) f_N_25 T_N_ok n_N_3 rfl rfl d_N_takeOwnTurn_43 ?_
        refine xq_goto X d_N_takeOwnTurn_46 72 (by decide) ?_
        exact J9 _ _ ((if_pos h1).trans ((if_neg h3).trans (if_neg h4))).symm ((if_pos h1).trans (if_neg h3)).symm
    · skip
      refine xq_aload_n X d_N_takeOwnTurn_16 0 rfl rfl ?_
      refine kn_get (v := (F 8)) X hk 8 (by decide) f_N_58 d_N_takeOwnTurn_17 rfl ?_
      refine xq_if_ne X d_N_takeOwnTurn_20 30 (by decide) (fun h5 => ?_) (fun h5 => ?_)
      · skip
        refine xq_aload_n X d_N_takeOwnTurn_30 0 rfl rfl ?_
        refine kn_get (v := (F 7)) X hk 7 (by decide) f_N_55 d_N_takeOwnTurn_31 rfl ?_
        refine xq_aload_n X d_N_takeOwnTurn_34 0 rfl rfl ?_
        refine kn_get (v := (F 8)) X hk 8 (by decide) f_N_58 d_N_takeOwnTurn_35 rfl ?_
        refine xq_icmp_gt X d_N_takeOwnTurn_38 49 (by decide) (fun h6 => ?_) (fun h6 => ?_)
        · skip
          refine xq_aload_n X d_N_takeOwnTurn_49 0 rfl rfl ?_
          refine xq_iconst (v := 3) X d_N_takeOwnTurn_50 (by decide) ?_
          refine kn_put X hk 3 (by decide) (ty := .int) f_N_25 T_N_ok n_N_3 rfl rfl d_N_takeOwnTurn_51 ?_
          refine xq_aload_n X d_N_takeOwnTurn_54 0 rfl rfl ?_
          refine xq_aload_n X d_N_takeOwnTurn_55 0 rfl rfl ?_
          refine kn_get (v := (F 0)) X hk 0 (by decide) f_N_9 d_N_takeOwnTurn_56 rfl ?_
          refine kn_callV (As := [.int (F 0)]) (rest := []) X xw_g hk g_N_95 (ct_N_join hap hk (F 0)) rfl rfl (by decide) (Nat.le_of_ble_eq_true rfl) rfl d_N_takeOwnTurn_59 ?_
          refine xq_aload_n X d_N_takeOwnTurn_62 0 rfl rfl ?_
          refine xq_iconst (v := 1) X d_N_takeOwnTurn_63 (by decide) ?_
          refine kn_callV (As := [.int 1]) (rest := []) X xw_g hk g_N_91 (ct_N_countAnew hap hk 1) rfl rfl (by decide) (Nat.le_of_ble_eq_true rfl) rfl d_N_takeOwnTurn_64 ?_
          refine xq_aload_n X d_N_takeOwnTurn_67 0 rfl rfl ?_
          refine xq_iconst (v := 3) X d_N_takeOwnTurn_68 (by decide) ?_
          refine kn_put X hk 18 (by decide) (ty := .int) f_N_31 T_N_ok n_N_18 rfl rfl d_N_takeOwnTurn_69 ?_
          exact J9 _ _ ((if_pos h1).trans ((if_pos h3).trans ((if_neg h5).trans (if_pos h6)))).symm ((if_pos h1).trans ((if_pos h3).trans (if_neg h5))).symm
        · skip
          refine xq_aload_n X d_N_takeOwnTurn_41 0 rfl rfl ?_
          refine xq_iconst (v := 5) X d_N_takeOwnTurn_42 (by decide) ?_
          refine kn_put X hk 3 (by decide) (ty := .int) f_N_25 T_N_ok n_N_3 rfl rfl d_N_takeOwnTurn_43 ?_
          refine xq_goto X d_N_takeOwnTurn_46 72 (by decide) ?_
          exact J9 _ _ ((if_pos h1).trans ((if_pos h3).trans ((if_neg h5).trans (if_neg h6)))).symm ((if_pos h1).trans ((if_pos h3).trans (if_neg h5))).symm
      · skip
        refine xq_aload_n X d_N_takeOwnTurn_23 0 rfl rfl ?_
        refine kn_callV (As := []) (rest := []) X xw_g hk g_N_43 (ct_N_beginListening hap hk) rfl rfl (by decide) (Nat.le_of_ble_eq_true rfl) rfl d_N_takeOwnTurn_24 ?_
        refine xq_goto X d_N_takeOwnTurn_27 72 (by decide) ?_
        exact J9 _ _ ((if_pos h1).trans ((if_pos h3).trans (if_pos h5))).symm ((if_pos h1).trans ((if_pos h3).trans (if_pos h5))).symm
def c_N_chooseWhatToSend (F : Nat → Int32) (G : Nat → Int32) : (Nat → Int32) × (Nat → Int32) := (let z4 : Nat → Int32 := (if (F 3) = 1 then (c_N_listenOneSlot (upd F 18 0)) else (if (c_N_isInside (upd F 18 0)) = 0 then (upd F 18 0) else (if (F 4) = (F 0) then (c_N_takeOwnTurn (upd F 18 0) G).1 else (upd F 18 0)))); let z5 : Nat → Int32 := (if (F 3) = 1 then G else (if (c_N_isInside (upd F 18 0)) = 0 then G else (if (F 4) = (F 0) then (c_N_takeOwnTurn (upd F 18 0) G).2 else G))); (z4, z5))
set_option maxHeartbeats 4000000 in
set_option maxRecDepth 100000 in
theorem ct_N_chooseWhatToSend {l : Launch} {D : va_G} {n : Nat} {ad : xq_I → Nat} {cI cZ cN : ClassId} (hap : xq_ap (kc_cs n) ad) {k : Nat} (hk : k < n) {B : kc_B} {F G E w : Nat → Int32}  :
    xq_M l D vcl (kc_tys cI cZ cN) (kc_cs n) ad (kc_en n ad cI cN) y_N_chooseWhatToSend (Cond.code y_N_chooseWhatToSend b_N_chooseWhatToSend 1 none :: xw) 3 [.ref (ad (3, k))] (kc_ov B k F G E w) none (kc_ov B k (c_N_chooseWhatToSend F G).1 (c_N_chooseWhatToSend F G).2 E w) := by
  refine xq_met (by decide) (Nat.le_of_ble_eq_true rfl) hap ?_
  intro p e s m args below meth c X
  refine xq_eqv (L' := [(0, .ref (ad (3, k)))]) (st' := []) rfl rfl ?_
  refine xq_aload_n X d_N_chooseWhatToSend_0 0 rfl rfl ?_
  refine xq_iconst (v := 0) X d_N_chooseWhatToSend_1 (by decide) ?_
  refine kn_put X hk 18 (by decide) (ty := .int) f_N_31 T_N_ok n_N_18 rfl rfl d_N_chooseWhatToSend_2 ?_
  refine xq_aload_n X d_N_chooseWhatToSend_5 0 rfl rfl ?_
  refine kn_get (v := (F 3)) X hk 3 (by decide) f_N_25 d_N_chooseWhatToSend_6 rfl ?_
  refine xq_iconst (v := 1) X d_N_chooseWhatToSend_9 (by decide) ?_
  have J6 : ∀ (z4 : Nat → Int32) (z5 : Nat → Int32), z4 = (if (F 3) = 1 then (c_N_listenOneSlot (upd F 18 0)) else (if (c_N_isInside (upd F 18 0)) = 0 then (upd F 18 0) else (if (F 4) = (F 0) then (c_N_takeOwnTurn (upd F 18 0) G).1 else (upd F 18 0)))) → z5 = (if (F 3) = 1 then G else (if (c_N_isInside (upd F 18 0)) = 0 then G else (if (F 4) = (F 0) then (c_N_takeOwnTurn (upd F 18 0) G).2 else G))) → xq_W p l e (xq_r 3) s m args below meth c D vcl (kc_cs n) ad (kc_en n ad cI cN) 0 0 (MQ below (xq_Q D vcl (kc_cs n) ad (kc_en n ad cI cN) none (kc_ov B k (c_N_chooseWhatToSend F G).1 (c_N_chooseWhatToSend F G).2 E w)) args s 0 0 (xq_in (kc_cs n) ad)) 1 42 [(0, .ref (ad (3, k)))] [] (kc_ov B k z4 z5 E w) := by
    intro z4 z5 e7 e8
    have hh : (c_N_chooseWhatToSend F G) = (z4, z5) := by subst e7; subst e8; exact rfl
    exact xq_vret X rfl (by rw [hh]) d_N_chooseWhatToSend_42
  refine xq_icmp_ne X d_N_chooseWhatToSend_10 20 (by decide) (fun h1 => ?_) (fun h1 => ?_)
  · skip
    refine xq_aload_n X d_N_chooseWhatToSend_20 0 rfl rfl ?_
    refine kn_callI (As := []) (rest := []) X xw_g hk g_N_80 (ct_N_isInside hap hk) rfl rfl (by decide) (Nat.le_of_ble_eq_true rfl) rfl d_N_chooseWhatToSend_21 ?_
    refine xq_if_eq X d_N_chooseWhatToSend_24 42 (by decide) (fun h2 => ?_) (fun h2 => ?_)
    · skip
      exact J6 _ _ ((if_neg h1).trans (if_pos h2)).symm ((if_neg h1).trans (if_pos h2)).symm
    · skip
      refine xq_aload_n X d_N_chooseWhatToSend_27 0 rfl rfl ?_
      refine kn_get (v := (F 4)) X hk 4 (by decide) f_N_37 d_N_chooseWhatToSend_28 rfl ?_
      refine xq_aload_n X d_N_chooseWhatToSend_31 0 rfl rfl ?_
      refine kn_get (v := (F 0)) X hk 0 (by decide) f_N_9 d_N_chooseWhatToSend_32 rfl ?_
      refine xq_icmp_ne X d_N_chooseWhatToSend_35 42 (by decide) (fun h3 => ?_) (fun h3 => ?_)
      · skip
        exact J6 _ _ ((if_neg h1).trans ((if_neg h2).trans (if_neg h3))).symm ((if_neg h1).trans ((if_neg h2).trans (if_neg h3))).symm
      · skip
        refine xq_aload_n X d_N_chooseWhatToSend_38 0 rfl rfl ?_
        refine kn_callV (As := []) (rest := []) X xw_g hk g_N_88 (ct_N_takeOwnTurn hap hk) rfl rfl (by decide) (Nat.le_of_ble_eq_true rfl) rfl d_N_chooseWhatToSend_39 ?_
        exact J6 _ _ ((if_neg h1).trans ((if_neg h2).trans (if_pos h3))).symm ((if_neg h1).trans ((if_neg h2).trans (if_pos h3))).symm
  · skip
    refine xq_aload_n X d_N_chooseWhatToSend_13 0 rfl rfl ?_
    refine kn_callV (As := []) (rest := []) X xw_g hk g_N_85 (ct_N_listenOneSlot hap hk) rfl rfl (by decide) (Nat.le_of_ble_eq_true rfl) rfl d_N_chooseWhatToSend_14 ?_
    refine xq_goto X d_N_chooseWhatToSend_17 42 (by decide) ?_
    exact J6 _ _ (if_pos h1).symm (if_pos h1).symm
def c_N_kindHeard (F : Nat → Int32) (w : Nat → Int32) : (Nat → Int32) × Int32 := (if (F 17) = 0 then (F, (w 0)) else (if (w 0) = 0 then (F, (w 0)) else ((upd F 17 0), 1)))
set_option maxHeartbeats 4000000 in
set_option maxRecDepth 100000 in
theorem ct_N_kindHeard {l : Launch} {D : va_G} {n : Nat} {ad : xq_I → Nat} {cI cZ cN : ClassId} (hap : xq_ap (kc_cs n) ad) {k : Nat} (hk : k < n) {B : kc_B} {F G E w : Nat → Int32}  :
    xq_M l D vcl (kc_tys cI cZ cN) (kc_cs n) ad (kc_en n ad cI cN) y_N_kindHeard (Cond.code y_N_kindHeard b_N_kindHeard 2 (some .int) :: xw) 0 [.ref (ad (3, k)), .ref (ad (2, 0))] (kc_ov B k F G E w) (some (.int (c_N_kindHeard F w).2)) (kc_ov B k (c_N_kindHeard F w).1 G E w) := by
  refine xq_met (by decide) (Nat.le_of_ble_eq_true rfl) hap ?_
  intro p e s m args below meth c X
  refine xq_sub [1, 0] [(1, .ref (ad (2, 0))), (0, .ref (ad (3, k)))] rfl ?_
  refine xq_aload_n X d_N_kindHeard_0 1 rfl rfl ?_
  refine kn_get (v := (F 17)) X hk 17 (by decide) f_N_65 d_N_kindHeard_1 rfl ?_
  refine xq_if_eq X d_N_kindHeard_4 14 (by decide) (fun h1 => ?_) (fun h1 => ?_)
  · skip
    refine xq_aload_n X d_N_kindHeard_14 0 rfl rfl ?_
    refine kw_get (v := (w 0)) X 0 (by decide) f_N_98 d_N_kindHeard_15 rfl ?_
    have hh : (c_N_kindHeard F w) = (F, (w 0)) := by exact (if_pos h1)
    exact xq_iret X rfl rfl (by rw [hh]) (by rw [hh]) d_N_kindHeard_18
  · skip
    refine xq_aload_n X d_N_kindHeard_7 0 rfl rfl ?_
    refine kw_get (v := (w 0)) X 0 (by decide) f_N_98 d_N_kindHeard_8 rfl ?_
    refine xq_if_ne X d_N_kindHeard_11 19 (by decide) (fun h2 => ?_) (fun h2 => ?_)
    · skip
      refine xq_aload_n X d_N_kindHeard_19 1 rfl rfl ?_
      refine xq_iconst (v := 0) X d_N_kindHeard_20 (by decide) ?_
      refine kn_put X hk 17 (by decide) (ty := .boolean) f_N_65 T_N_ok n_N_17 (by decide) (by decide) d_N_kindHeard_21 ?_
      refine xq_iconst (v := 1) X d_N_kindHeard_24 (by decide) ?_
      have hh : (c_N_kindHeard F w) = ((upd F 17 0), 1) := by exact ((if_neg h1).trans (if_neg h2))
      exact xq_iret X rfl rfl (by rw [hh]) (by rw [hh]) d_N_kindHeard_25
    · skip
      refine xq_aload_n X d_N_kindHeard_14 0 rfl rfl ?_
      refine kw_get (v := (w 0)) X 0 (by decide) f_N_98 d_N_kindHeard_15 rfl ?_
      have hh : (c_N_kindHeard F w) = (F, (w 0)) := by exact ((if_neg h1).trans (if_pos h2))
      exact xq_iret X rfl rfl (by rw [hh]) (by rw [hh]) d_N_kindHeard_18
def c_N_comeIn (F : Nat → Int32) (w : Nat → Int32) : (Nat → Int32) := (c_N_countAnew (upd (upd (upd (upd (upd F 3 4) 4 (w 1)) 5 (w 2)) 6 (w 3)) 14 (w 4)) 0)
set_option maxHeartbeats 4000000 in
set_option maxRecDepth 100000 in
theorem ct_N_comeIn {l : Launch} {D : va_G} {n : Nat} {ad : xq_I → Nat} {cI cZ cN : ClassId} (hap : xq_ap (kc_cs n) ad) {k : Nat} (hk : k < n) {B : kc_B} {F G E w : Nat → Int32}  :
    xq_M l D vcl (kc_tys cI cZ cN) (kc_cs n) ad (kc_en n ad cI cN) y_N_comeIn (Cond.code y_N_comeIn b_N_comeIn 2 none :: xw) 1 [.ref (ad (3, k)), .ref (ad (2, 0))] (kc_ov B k F G E w) none (kc_ov B k (c_N_comeIn F w) G E w) := by
  refine xq_met (by decide) (Nat.le_of_ble_eq_true rfl) hap ?_
  intro p e s m args below meth c X
  refine xq_sub [1, 0] [(1, .ref (ad (2, 0))), (0, .ref (ad (3, k)))] rfl ?_
  refine xq_aload_n X d_N_comeIn_0 1 rfl rfl ?_
  refine xq_iconst (v := 4) X d_N_comeIn_1 (by decide) ?_
  refine kn_put X hk 3 (by decide) (ty := .int) f_N_25 T_N_ok n_N_3 rfl rfl d_N_comeIn_2 ?_
  refine xq_aload_n X d_N_comeIn_5 1 rfl rfl ?_
  refine xq_aload_n X d_N_comeIn_6 0 rfl rfl ?_
  refine kw_get (v := (w 1)) X 1 (by decide) f_N_107 d_N_comeIn_7 rfl ?_
  refine kn_put X hk 4 (by decide) (ty := .int) f_N_37 T_N_ok n_N_4 rfl rfl d_N_comeIn_10 ?_
  refine xq_aload_n X d_N_comeIn_13 1 rfl rfl ?_
  refine xq_aload_n X d_N_comeIn_14 0 rfl rfl ?_
  refine kw_get (v := (w 2)) X 2 (by decide) f_N_110 d_N_comeIn_15 rfl ?_
  refine kn_put X hk 5 (by decide) (ty := .int) f_N_40 T_N_ok n_N_5 rfl rfl d_N_comeIn_18 ?_
  refine xq_aload_n X d_N_comeIn_21 1 rfl rfl ?_
  refine xq_aload_n X d_N_comeIn_22 0 rfl rfl ?_
  refine kw_get (v := (w 3)) X 3 (by decide) f_N_111 d_N_comeIn_23 rfl ?_
  refine kn_put X hk 6 (by decide) (ty := .int) f_N_34 T_N_ok n_N_6 rfl rfl d_N_comeIn_26 ?_
  refine xq_aload_n X d_N_comeIn_29 1 rfl rfl ?_
  refine xq_aload_n X d_N_comeIn_30 0 rfl rfl ?_
  refine kw_get (v := (w 4)) X 4 (by decide) f_N_112 d_N_comeIn_31 rfl ?_
  refine kn_put X hk 14 (by decide) (ty := .int) f_N_52 T_N_ok n_N_14 rfl rfl d_N_comeIn_34 ?_
  refine xq_aload_n X d_N_comeIn_37 1 rfl rfl ?_
  refine xq_iconst (v := 0) X d_N_comeIn_38 (by decide) ?_
  refine kn_callV (As := [.int 0]) (rest := []) X xw_g hk g_N_91 (ct_N_countAnew hap hk 0) rfl rfl (by decide) (Nat.le_of_ble_eq_true rfl) rfl d_N_comeIn_39 ?_
  have hh : (c_N_comeIn F w) = (c_N_countAnew (upd (upd (upd (upd (upd F 3 4) 4 (w 1)) 5 (w 2)) 6 (w 3)) 14 (w 4)) 0) := by exact rfl
  exact xq_vret X rfl (by rw [hh]) d_N_comeIn_42
def c_N_hearListening (F : Nat → Int32) (w : Nat → Int32) (x : Int32) : (Nat → Int32) := (let z4 : Nat → Int32 := (if x = 3 then (c_N_comeIn F w) else (if x = 2 then (if (F 10) = 0 then (c_N_listenLong (upd F 10 1)) else (c_N_comeIn F w)) else F)); z4)
set_option maxHeartbeats 4000000 in
set_option maxRecDepth 100000 in
theorem ct_N_hearListening {l : Launch} {D : va_G} {n : Nat} {ad : xq_I → Nat} {cI cZ cN : ClassId} (hap : xq_ap (kc_cs n) ad) {k : Nat} (hk : k < n) {B : kc_B} {F G E w : Nat → Int32} (x : Int32)  :
    xq_M l D vcl (kc_tys cI cZ cN) (kc_cs n) ad (kc_en n ad cI cN) y_N_hearListening (Cond.code y_N_hearListening b_N_hearListening 3 none :: xw) 2 [.ref (ad (3, k)), .int x, .ref (ad (2, 0))] (kc_ov B k F G E w) none (kc_ov B k (c_N_hearListening F w x) G E w) := by
  refine xq_met (by decide) (Nat.le_of_ble_eq_true rfl) hap ?_
  intro p e s m args below meth c X
  refine xq_sub [2, 1, 0] [(2, .ref (ad (2, 0))), (1, .int x), (0, .ref (ad (3, k)))] rfl ?_
  refine xq_iload_n X d_N_hearListening_0 1 rfl rfl ?_
  refine xq_iconst (v := 3) X d_N_hearListening_1 (by decide) ?_
  have J5 : ∀ (z4 : Nat → Int32), z4 = (if x = 3 then (c_N_comeIn F w) else (if x = 2 then (if (F 10) = 0 then (c_N_listenLong (upd F 10 1)) else (c_N_comeIn F w)) else F)) → xq_W p l e (xq_r 2) s m args below meth c D vcl (kc_cs n) ad (kc_en n ad cI cN) 0 0 (MQ below (xq_Q D vcl (kc_cs n) ad (kc_en n ad cI cN) none (kc_ov B k (c_N_hearListening F w x) G E w)) args s 0 0 (xq_in (kc_cs n) ad)) 3 39 [(2, .ref (ad (2, 0))), (1, .int x), (0, .ref (ad (3, k)))] [] (kc_ov B k z4 G E w) := by
    intro z4 e6
    have hh : (c_N_hearListening F w x) = z4 := by subst e6; exact rfl
    exact xq_vret X rfl (by rw [hh]) d_N_hearListening_39
  refine xq_icmp_eq X d_N_hearListening_2 17 (by decide) (fun h1 => ?_) (fun h1 => ?_)
  · skip
    refine xq_aload_n X d_N_hearListening_17 2 rfl rfl ?_
    refine xq_aload_n X d_N_hearListening_18 0 rfl rfl ?_
    refine kn_callV (As := [.ref (ad (2, 0))]) (rest := []) X xw_g hk g_N_103 (ct_N_comeIn hap hk) rfl rfl (by decide) (Nat.le_of_ble_eq_true rfl) rfl d_N_hearListening_19 ?_
    refine xq_goto X d_N_hearListening_22 39 (by decide) ?_
    exact J5 _ (if_pos h1).symm
  · skip
    refine xq_iload_n X d_N_hearListening_5 1 rfl rfl ?_
    refine xq_iconst (v := 2) X d_N_hearListening_6 (by decide) ?_
    refine xq_icmp_ne X d_N_hearListening_7 25 (by decide) (fun h2 => ?_) (fun h2 => ?_)
    · skip
      refine xq_iload_n X d_N_hearListening_25 1 rfl rfl ?_
      refine xq_iconst (v := 2) X d_N_hearListening_26 (by decide) ?_
      refine xq_icmp_ne X d_N_hearListening_27 39 (by decide) (fun _ => ?_) (fun h => absurd h h2)
      exact J5 _ ((if_neg h1).trans (if_neg h2)).symm
    · skip
      refine xq_aload_n X d_N_hearListening_10 2 rfl rfl ?_
      refine kn_get (v := (F 10)) X hk 10 (by decide) f_N_71 d_N_hearListening_11 rfl ?_
      refine xq_if_eq X d_N_hearListening_14 25 (by decide) (fun h3 => ?_) (fun h3 => ?_)
      · skip
        refine xq_iload_n X d_N_hearListening_25 1 rfl rfl ?_
        refine xq_iconst (v := 2) X d_N_hearListening_26 (by decide) ?_
        refine xq_icmp_ne X d_N_hearListening_27 39 (by decide) (fun h => absurd h2 h) (fun _ => ?_)
        refine xq_aload_n X d_N_hearListening_30 2 rfl rfl ?_
        refine xq_iconst (v := 1) X d_N_hearListening_31 (by decide) ?_
        refine kn_put X hk 10 (by decide) (ty := .boolean) f_N_71 T_N_ok n_N_10 (by decide) (by decide) d_N_hearListening_32 ?_
        refine xq_aload_n X d_N_hearListening_35 2 rfl rfl ?_
        refine kn_callV (As := []) (rest := []) X xw_g hk g_N_68 (ct_N_listenLong hap hk) rfl rfl (by decide) (Nat.le_of_ble_eq_true rfl) rfl d_N_hearListening_36 ?_
        exact J5 _ ((if_neg h1).trans ((if_pos h2).trans (if_pos h3))).symm
      · skip
        refine xq_aload_n X d_N_hearListening_17 2 rfl rfl ?_
        refine xq_aload_n X d_N_hearListening_18 0 rfl rfl ?_
        refine kn_callV (As := [.ref (ad (2, 0))]) (rest := []) X xw_g hk g_N_103 (ct_N_comeIn hap hk) rfl rfl (by decide) (Nat.le_of_ble_eq_true rfl) rfl d_N_hearListening_19 ?_
        refine xq_goto X d_N_hearListening_22 39 (by decide) ?_
        exact J5 _ ((if_neg h1).trans ((if_pos h2).trans (if_neg h3))).symm
def c_N_isDue (F : Nat → Int32) (w : Nat → Int32) : Int32 := (if (w 1) = (F 4) then (if (w 2) = (F 5) then (if ((w 4) - (F 14)) < (-60) then 0 else (if 60 < ((w 4) - (F 14)) then 0 else 1)) else 0) else 0)
set_option maxHeartbeats 4000000 in
set_option maxRecDepth 100000 in
theorem ct_N_isDue {l : Launch} {D : va_G} {n : Nat} {ad : xq_I → Nat} {cI cZ cN : ClassId} (hap : xq_ap (kc_cs n) ad) {k : Nat} (hk : k < n) {B : kc_B} {F G E w : Nat → Int32}  :
    xq_M l D vcl (kc_tys cI cZ cN) (kc_cs n) ad (kc_en n ad cI cN) y_N_isDue (Cond.code y_N_isDue b_N_isDue 3 (some .boolean) :: xw) 0 [.ref (ad (3, k)), .ref (ad (2, 0))] (kc_ov B k F G E w) (some (.int (c_N_isDue F w))) (kc_ov B k F G E w) := by
  refine xq_met (by decide) (Nat.le_of_ble_eq_true rfl) hap ?_
  intro p e s m args below meth c X
  refine xq_sub [1, 0] [(1, .ref (ad (2, 0))), (0, .ref (ad (3, k)))] rfl ?_
  refine xq_aload_n X d_N_isDue_0 0 rfl rfl ?_
  refine kw_get (v := (w 4)) X 4 (by decide) f_N_112 d_N_isDue_1 rfl ?_
  refine xq_aload_n X d_N_isDue_4 1 rfl rfl ?_
  refine kn_get (v := (F 14)) X hk 14 (by decide) f_N_52 d_N_isDue_5 rfl ?_
  refine xq_isub X d_N_isDue_8 ?_
  refine xq_istore_n X d_N_isDue_9 [(2, .int ((w 4) - (F 14))), (1, .ref (ad (2, 0))), (0, .ref (ad (3, k)))] rfl rfl (by decide) ?_
  refine xq_aload_n X d_N_isDue_10 1 rfl rfl ?_
  refine kw_get (v := (w 1)) X 1 (by decide) f_N_107 d_N_isDue_11 rfl ?_
  refine xq_aload_n X d_N_isDue_14 2 rfl rfl ?_
  refine kn_get (v := (F 4)) X hk 4 (by decide) f_N_37 d_N_isDue_15 rfl ?_
  refine xq_icmp_ne X d_N_isDue_18 48 (by decide) (fun h1 => ?_) (fun h1 => ?_)
  · skip
    refine xq_iconst (v := 0) X d_N_isDue_48 (by decide) ?_
    have hh : (c_N_isDue F w) = 0 := by exact (if_neg h1)
    exact xq_iret X rfl (by decide) (by rw [hh]) rfl d_N_isDue_49
  · skip
    refine xq_aload_n X d_N_isDue_21 1 rfl rfl ?_
    refine kw_get (v := (w 2)) X 2 (by decide) f_N_110 d_N_isDue_22 rfl ?_
    refine xq_aload_n X d_N_isDue_25 2 rfl rfl ?_
    refine kn_get (v := (F 5)) X hk 5 (by decide) f_N_40 d_N_isDue_26 rfl ?_
    refine xq_icmp_ne X d_N_isDue_29 48 (by decide) (fun h2 => ?_) (fun h2 => ?_)
    · skip
      refine xq_iconst (v := 0) X d_N_isDue_48 (by decide) ?_
      have hh : (c_N_isDue F w) = 0 := by exact ((if_pos h1).trans (if_neg h2))
      exact xq_iret X rfl (by decide) (by rw [hh]) rfl d_N_isDue_49
    · skip
      refine xq_iload_n X d_N_isDue_32 0 rfl rfl ?_
      refine xq_bipush (v := (-60)) X d_N_isDue_33 (by decide) ?_
      refine xq_icmp_lt X d_N_isDue_35 48 (by decide) (fun h3 => ?_) (fun h3 => ?_)
      · skip
        refine xq_iconst (v := 0) X d_N_isDue_48 (by decide) ?_
        have hh : (c_N_isDue F w) = 0 := by exact ((if_pos h1).trans ((if_pos h2).trans (if_pos h3)))
        exact xq_iret X rfl (by decide) (by rw [hh]) rfl d_N_isDue_49
      · skip
        refine xq_iload_n X d_N_isDue_38 0 rfl rfl ?_
        refine xq_bipush (v := 60) X d_N_isDue_39 (by decide) ?_
        refine xq_icmp_gt X d_N_isDue_41 48 (by decide) (fun h4 => ?_) (fun h4 => ?_)
        · skip
          refine xq_iconst (v := 0) X d_N_isDue_48 (by decide) ?_
          have hh : (c_N_isDue F w) = 0 := by exact ((if_pos h1).trans ((if_pos h2).trans ((if_neg h3).trans (if_pos h4))))
          exact xq_iret X rfl (by decide) (by rw [hh]) rfl d_N_isDue_49
        · skip
          refine xq_iconst (v := 1) X d_N_isDue_44 (by decide) ?_
          refine xq_goto X d_N_isDue_45 49 (by decide) ?_
          have hh : (c_N_isDue F w) = 1 := by exact ((if_pos h1).trans ((if_pos h2).trans ((if_neg h3).trans (if_neg h4))))
          exact xq_iret X rfl (by decide) (by rw [hh]) rfl d_N_isDue_49
def c_N_settleDoubt (F : Nat → Int32) (x : Int32) (y : Int32) : (Nat → Int32) × Int32 := (if x = (c_N_without y (F 13)) then ((upd (upd (c_N_leave F (F 13)) 8 (((c_N_leave F (F 13)) 8) + 1)) 12 0), 0) else (if x = (c_N_without y (F 0)) then ((upd (upd (upd (c_N_leave F (F 0)) 3 4) 7 (((c_N_leave F (F 0)) 7) + 1)) 12 0), 0) else (F, 1)))
set_option maxHeartbeats 4000000 in
set_option maxRecDepth 100000 in
theorem ct_N_settleDoubt {l : Launch} {D : va_G} {n : Nat} {ad : xq_I → Nat} {cI cZ cN : ClassId} (hap : xq_ap (kc_cs n) ad) {k : Nat} (hk : k < n) {B : kc_B} {F G E w : Nat → Int32} (x : Int32) (y : Int32)  :
    xq_M l D vcl (kc_tys cI cZ cN) (kc_cs n) ad (kc_en n ad cI cN) y_N_settleDoubt (Cond.code y_N_settleDoubt b_N_settleDoubt 3 (some .int) :: xw) 1 [.ref (ad (3, k)), .int x, .int y] (kc_ov B k F G E w) (some (.int (c_N_settleDoubt F x y).2)) (kc_ov B k (c_N_settleDoubt F x y).1 G E w) := by
  refine xq_met (by decide) (Nat.le_of_ble_eq_true rfl) hap ?_
  intro p e s m args below meth c X
  refine xq_sub [2, 1, 0] [(2, .int y), (1, .int x), (0, .ref (ad (3, k)))] rfl ?_
  refine xq_iload_n X d_N_settleDoubt_0 1 rfl rfl ?_
  refine xq_iload_n X d_N_settleDoubt_1 0 rfl rfl ?_
  refine xq_aload_n X d_N_settleDoubt_2 2 rfl rfl ?_
  refine kn_get (v := (F 13)) X hk 13 (by decide) f_N_134 d_N_settleDoubt_3 rfl ?_
  refine ks_callI (As := [.int y, .int (F 13)]) (rest := [.int x]) X xw_g g_N_131 (ct_N_without hap hk y (F 13)) rfl (by decide) (Nat.le_of_ble_eq_true rfl) rfl d_N_settleDoubt_6 ?_
  refine xq_icmp_ne X d_N_settleDoubt_9 33 (by decide) (fun h1 => ?_) (fun h1 => ?_)
  · skip
    refine xq_iload_n X d_N_settleDoubt_33 1 rfl rfl ?_
    refine xq_iload_n X d_N_settleDoubt_34 0 rfl rfl ?_
    refine xq_aload_n X d_N_settleDoubt_35 2 rfl rfl ?_
    refine kn_get (v := (F 0)) X hk 0 (by decide) f_N_9 d_N_settleDoubt_36 rfl ?_
    refine ks_callI (As := [.int y, .int (F 0)]) (rest := [.int x]) X xw_g g_N_131 (ct_N_without hap hk y (F 0)) rfl (by decide) (Nat.le_of_ble_eq_true rfl) rfl d_N_settleDoubt_39 ?_
    refine xq_icmp_ne X d_N_settleDoubt_42 71 (by decide) (fun h2 => ?_) (fun h2 => ?_)
    · skip
      refine xq_iconst (v := 1) X d_N_settleDoubt_71 (by decide) ?_
      have hh : (c_N_settleDoubt F x y) = (F, 1) := by exact ((if_neg h1).trans (if_neg h2))
      exact xq_iret X rfl rfl (by rw [hh]) (by rw [hh]) d_N_settleDoubt_72
    · skip
      refine xq_aload_n X d_N_settleDoubt_45 2 rfl rfl ?_
      refine xq_aload_n X d_N_settleDoubt_46 2 rfl rfl ?_
      refine kn_get (v := (F 0)) X hk 0 (by decide) f_N_9 d_N_settleDoubt_47 rfl ?_
      refine kn_callV (As := [.int (F 0)]) (rest := []) X xw_g hk g_N_113 (ct_N_leave hap hk (F 0)) rfl rfl (by decide) (Nat.le_of_ble_eq_true rfl) rfl d_N_settleDoubt_50 ?_
      refine xq_aload_n X d_N_settleDoubt_53 2 rfl rfl ?_
      refine xq_iconst (v := 4) X d_N_settleDoubt_54 (by decide) ?_
      refine kn_put X hk 3 (by decide) (ty := .int) f_N_25 T_N_ok n_N_3 rfl rfl d_N_settleDoubt_55 ?_
      refine xq_aload_n X d_N_settleDoubt_58 2 rfl rfl ?_
      refine xq_dup X d_N_settleDoubt_59 rfl ?_
      refine kn_get (v := ((c_N_leave F (F 0)) 7)) X hk 7 (by decide) f_N_55 d_N_settleDoubt_60 rfl ?_
      refine xq_iconst (v := 1) X d_N_settleDoubt_63 (by decide) ?_
      refine xq_iadd X d_N_settleDoubt_64 ?_
      refine kn_put X hk 7 (by decide) (ty := .int) f_N_55 T_N_ok n_N_7 rfl rfl d_N_settleDoubt_65 ?_
      refine xq_goto X d_N_settleDoubt_68 73 (by decide) ?_
      refine xq_aload_n X d_N_settleDoubt_73 2 rfl rfl ?_
      refine xq_iconst (v := 0) X d_N_settleDoubt_74 (by decide) ?_
      refine kn_put X hk 12 (by decide) (ty := .int) f_N_28 T_N_ok n_N_12 rfl rfl d_N_settleDoubt_75 ?_
      refine xq_iconst (v := 0) X d_N_settleDoubt_78 (by decide) ?_
      have hh : (c_N_settleDoubt F x y) = ((upd (upd (upd (c_N_leave F (F 0)) 3 4) 7 (((c_N_leave F (F 0)) 7) + 1)) 12 0), 0) := by exact ((if_neg h1).trans (if_pos h2))
      exact xq_iret X rfl rfl (by rw [hh]) (by rw [hh]) d_N_settleDoubt_79
  · skip
    refine xq_aload_n X d_N_settleDoubt_12 2 rfl rfl ?_
    refine xq_aload_n X d_N_settleDoubt_13 2 rfl rfl ?_
    refine kn_get (v := (F 13)) X hk 13 (by decide) f_N_134 d_N_settleDoubt_14 rfl ?_
    refine kn_callV (As := [.int (F 13)]) (rest := []) X xw_g hk g_N_113 (ct_N_leave hap hk (F 13)) rfl rfl (by decide) (Nat.le_of_ble_eq_true rfl) rfl d_N_settleDoubt_17 ?_
    refine xq_aload_n X d_N_settleDoubt_20 2 rfl rfl ?_
    refine xq_dup X d_N_settleDoubt_21 rfl ?_
    refine kn_get (v := ((c_N_leave F (F 13)) 8)) X hk 8 (by decide) f_N_58 d_N_settleDoubt_22 rfl ?_
    refine xq_iconst (v := 1) X d_N_settleDoubt_25 (by decide) ?_
    refine xq_iadd X d_N_settleDoubt_26 ?_
    refine kn_put X hk 8 (by decide) (ty := .int) f_N_58 T_N_ok n_N_8 rfl rfl d_N_settleDoubt_27 ?_
    refine xq_goto X d_N_settleDoubt_30 73 (by decide) ?_
    refine xq_aload_n X d_N_settleDoubt_73 2 rfl rfl ?_
    refine xq_iconst (v := 0) X d_N_settleDoubt_74 (by decide) ?_
    refine kn_put X hk 12 (by decide) (ty := .int) f_N_28 T_N_ok n_N_12 rfl rfl d_N_settleDoubt_75 ?_
    refine xq_iconst (v := 0) X d_N_settleDoubt_78 (by decide) ?_
    have hh : (c_N_settleDoubt F x y) = ((upd (upd (c_N_leave F (F 13)) 8 (((c_N_leave F (F 13)) 8) + 1)) 12 0), 0) := by exact (if_pos h1)
    exact xq_iret X rfl rfl (by rw [hh]) (by rw [hh]) d_N_settleDoubt_79
def c_N_compareMembers (F : Nat → Int32) (x : Int32) : (Nat → Int32) × Int32 := (if (F 12) = 2 then ((c_N_settleDoubt F x ((F 6) ||| ((1 : Int32) <<< ((F 4) &&& 31)))).1, (c_N_settleDoubt F x ((F 6) ||| ((1 : Int32) <<< ((F 4) &&& 31)))).2) else (if x = ((F 6) ||| ((1 : Int32) <<< ((F 4) &&& 31))) then ((upd F 12 0), 0) else (if (F 12) = 1 then (if x = (c_N_without ((F 6) ||| ((1 : Int32) <<< ((F 4) &&& 31))) (F 0)) then ((upd (upd F 12 2) 13 (F 4)), 2) else (F, 1)) else (F, 1))))
set_option maxHeartbeats 4000000 in
set_option maxRecDepth 100000 in
theorem ct_N_compareMembers {l : Launch} {D : va_G} {n : Nat} {ad : xq_I → Nat} {cI cZ cN : ClassId} (hap : xq_ap (kc_cs n) ad) {k : Nat} (hk : k < n) {B : kc_B} {F G E w : Nat → Int32} (x : Int32)  :
    xq_M l D vcl (kc_tys cI cZ cN) (kc_cs n) ad (kc_en n ad cI cN) y_N_compareMembers (Cond.code y_N_compareMembers b_N_compareMembers 3 (some .int) :: xw) 2 [.ref (ad (3, k)), .int x] (kc_ov B k F G E w) (some (.int (c_N_compareMembers F x).2)) (kc_ov B k (c_N_compareMembers F x).1 G E w) := by
  refine xq_met (by decide) (Nat.le_of_ble_eq_true rfl) hap ?_
  intro p e s m args below meth c X
  refine xq_sub [1, 0] [(1, .int x), (0, .ref (ad (3, k)))] rfl ?_
  refine xq_aload_n X d_N_compareMembers_0 1 rfl rfl ?_
  refine kn_get (v := (F 6)) X hk 6 (by decide) f_N_34 d_N_compareMembers_1 rfl ?_
  refine xq_iconst (v := 1) X d_N_compareMembers_4 (by decide) ?_
  refine xq_aload_n X d_N_compareMembers_5 1 rfl rfl ?_
  refine kn_get (v := (F 4)) X hk 4 (by decide) f_N_37 d_N_compareMembers_6 rfl ?_
  refine xq_ishl X d_N_compareMembers_9 ?_
  refine xq_ior X d_N_compareMembers_10 ?_
  refine xq_istore_n X d_N_compareMembers_11 [(2, .int ((F 6) ||| ((1 : Int32) <<< ((F 4) &&& 31)))), (1, .int x), (0, .ref (ad (3, k)))] rfl rfl (by decide) ?_
  refine xq_aload_n X d_N_compareMembers_12 2 rfl rfl ?_
  refine kn_get (v := (F 12)) X hk 12 (by decide) f_N_28 d_N_compareMembers_13 rfl ?_
  refine xq_iconst (v := 2) X d_N_compareMembers_16 (by decide) ?_
  refine xq_icmp_ne X d_N_compareMembers_17 27 (by decide) (fun h1 => ?_) (fun h1 => ?_)
  · skip
    refine xq_iload_n X d_N_compareMembers_27 1 rfl rfl ?_
    refine xq_iload_n X d_N_compareMembers_28 0 rfl rfl ?_
    refine xq_icmp_ne X d_N_compareMembers_29 39 (by decide) (fun h2 => ?_) (fun h2 => ?_)
    · skip
      refine xq_aload_n X d_N_compareMembers_39 2 rfl rfl ?_
      refine kn_get (v := (F 12)) X hk 12 (by decide) f_N_28 d_N_compareMembers_40 rfl ?_
      refine xq_iconst (v := 1) X d_N_compareMembers_43 (by decide) ?_
      refine xq_icmp_ne X d_N_compareMembers_44 74 (by decide) (fun h3 => ?_) (fun h3 => ?_)
      · skip
        refine xq_iconst (v := 1) X d_N_compareMembers_74 (by decide) ?_
        have hh : (c_N_compareMembers F x) = (F, 1) := by exact ((if_neg h1).trans ((if_neg h2).trans (if_neg h3)))
        exact xq_iret X rfl rfl (by rw [hh]) (by rw [hh]) d_N_compareMembers_75
      · skip
        refine xq_iload_n X d_N_compareMembers_47 1 rfl rfl ?_
        refine xq_iload_n X d_N_compareMembers_48 0 rfl rfl ?_
        refine xq_aload_n X d_N_compareMembers_49 2 rfl rfl ?_
        refine kn_get (v := (F 0)) X hk 0 (by decide) f_N_9 d_N_compareMembers_50 rfl ?_
        refine ks_callI (As := [.int ((F 6) ||| ((1 : Int32) <<< ((F 4) &&& 31))), .int (F 0)]) (rest := [.int x]) X xw_g g_N_131 (ct_N_without hap hk ((F 6) ||| ((1 : Int32) <<< ((F 4) &&& 31))) (F 0)) rfl (by decide) (Nat.le_of_ble_eq_true rfl) rfl d_N_compareMembers_53 ?_
        refine xq_icmp_ne X d_N_compareMembers_56 74 (by decide) (fun h4 => ?_) (fun h4 => ?_)
        · skip
          refine xq_iconst (v := 1) X d_N_compareMembers_74 (by decide) ?_
          have hh : (c_N_compareMembers F x) = (F, 1) := by exact ((if_neg h1).trans ((if_neg h2).trans ((if_pos h3).trans (if_neg h4))))
          exact xq_iret X rfl rfl (by rw [hh]) (by rw [hh]) d_N_compareMembers_75
        · skip
          refine xq_aload_n X d_N_compareMembers_59 2 rfl rfl ?_
          refine xq_iconst (v := 2) X d_N_compareMembers_60 (by decide) ?_
          refine kn_put X hk 12 (by decide) (ty := .int) f_N_28 T_N_ok n_N_12 rfl rfl d_N_compareMembers_61 ?_
          refine xq_aload_n X d_N_compareMembers_64 2 rfl rfl ?_
          refine xq_aload_n X d_N_compareMembers_65 2 rfl rfl ?_
          refine kn_get (v := (F 4)) X hk 4 (by decide) f_N_37 d_N_compareMembers_66 rfl ?_
          refine kn_put X hk 13 (by decide) (ty := .int) f_N_134 T_N_ok n_N_13 rfl rfl d_N_compareMembers_69 ?_
          refine xq_iconst (v := 2) X d_N_compareMembers_72 (by decide) ?_
          have hh : (c_N_compareMembers F x) = ((upd (upd F 12 2) 13 (F 4)), 2) := by exact ((if_neg h1).trans ((if_neg h2).trans ((if_pos h3).trans (if_pos h4))))
          exact xq_iret X rfl rfl (by rw [hh]) (by rw [hh]) d_N_compareMembers_73
    · skip
      refine xq_aload_n X d_N_compareMembers_32 2 rfl rfl ?_
      refine xq_iconst (v := 0) X d_N_compareMembers_33 (by decide) ?_
      refine kn_put X hk 12 (by decide) (ty := .int) f_N_28 T_N_ok n_N_12 rfl rfl d_N_compareMembers_34 ?_
      refine xq_iconst (v := 0) X d_N_compareMembers_37 (by decide) ?_
      have hh : (c_N_compareMembers F x) = ((upd F 12 0), 0) := by exact ((if_neg h1).trans (if_pos h2))
      exact xq_iret X rfl rfl (by rw [hh]) (by rw [hh]) d_N_compareMembers_38
  · skip
    refine xq_aload_n X d_N_compareMembers_20 2 rfl rfl ?_
    refine xq_iload_n X d_N_compareMembers_21 1 rfl rfl ?_
    refine xq_iload_n X d_N_compareMembers_22 0 rfl rfl ?_
    refine kn_callI (As := [.int x, .int ((F 6) ||| ((1 : Int32) <<< ((F 4) &&& 31)))]) (rest := []) X xw_g hk g_N_127 (ct_N_settleDoubt hap hk x ((F 6) ||| ((1 : Int32) <<< ((F 4) &&& 31)))) rfl rfl (by decide) (Nat.le_of_ble_eq_true rfl) rfl d_N_compareMembers_23 ?_
    have hh : (c_N_compareMembers F x) = ((c_N_settleDoubt F x ((F 6) ||| ((1 : Int32) <<< ((F 4) &&& 31)))).1, (c_N_settleDoubt F x ((F 6) ||| ((1 : Int32) <<< ((F 4) &&& 31)))).2) := by exact (if_pos h1)
    exact xq_iret X rfl rfl (by rw [hh]) (by rw [hh]) d_N_compareMembers_26
def c_N_hearInside (F : Nat → Int32) (G : Nat → Int32) (E : Nat → Int32) (w : Nat → Int32) (x : Int32) : (Nat → Int32) × (Nat → Int32) × (Nat → Int32) := (if x = 0 then ((c_N_leave F (F 4)), G, E) else (let z4 : Int32 := (if x = 3 then (if (c_N_isDue F w) = 0 then 1 else (c_N_compareMembers F (w 3)).2) else 1); let z5 : Nat → Int32 := (if x = 3 then (if (c_N_isDue F w) = 0 then F else (c_N_compareMembers F (w 3)).1) else F); (if z4 = 1 then ((upd (c_N_leave z5 (z5 4)) 8 (((c_N_leave z5 (z5 4)) 8) + 1)), G, E) else (let z8 : Nat → Int32 := (if z4 = 0 then (upd (c_N_join z5 (z5 4)) 7 (((c_N_join z5 (z5 4)) 7) + 1)) else (c_N_join z5 (z5 4))); let z9 : Nat → Int32 := (if z4 = 0 then (c_D_keep G E ((w 4) - ((c_N_join z5 (z5 4)) 14))).1 else G); let z10 : Nat → Int32 := (if z4 = 0 then (c_D_keep G E ((w 4) - ((c_N_join z5 (z5 4)) 14))).2 else E); (z8, z9, z10)))))
set_option maxHeartbeats 4000000 in
set_option maxRecDepth 100000 in
theorem ct_N_hearInside {l : Launch} {D : va_G} {n : Nat} {ad : xq_I → Nat} {cI cZ cN : ClassId} (hap : xq_ap (kc_cs n) ad) {k : Nat} (hk : k < n) {B : kc_B} {F G E w : Nat → Int32} (x : Int32) (hnx : ¬ (G 2) < 0) :
    xq_M l D vcl (kc_tys cI cZ cN) (kc_cs n) ad (kc_en n ad cI cN) y_N_hearInside (Cond.code y_N_hearInside b_N_hearInside 4 none :: xw) 3 [.ref (ad (3, k)), .int x, .ref (ad (2, 0))] (kc_ov B k F G E w) none (kc_ov B k (c_N_hearInside F G E w x).1 (c_N_hearInside F G E w x).2.1 (c_N_hearInside F G E w x).2.2 w) := by
  refine xq_met (by decide) (Nat.le_of_ble_eq_true rfl) hap ?_
  intro p e s m args below meth c X
  refine xq_sub [2, 1, 0] [(2, .ref (ad (2, 0))), (1, .int x), (0, .ref (ad (3, k)))] rfl ?_
  refine xq_iload_n X d_N_hearInside_0 1 rfl rfl ?_
  refine xq_if_ne X d_N_hearInside_1 13 (by decide) (fun h1 => ?_) (fun h1 => ?_)
  · skip
    refine xq_iload_n X d_N_hearInside_13 1 rfl rfl ?_
    refine xq_iconst (v := 3) X d_N_hearInside_14 (by decide) ?_
    have J11 : ∀ (z4 : Int32) (z5 : Nat → Int32), z4 = (if x = 3 then (if (c_N_isDue F w) = 0 then 1 else (c_N_compareMembers F (w 3)).2) else 1) → z5 = (if x = 3 then (if (c_N_isDue F w) = 0 then F else (c_N_compareMembers F (w 3)).1) else F) → xq_W p l e (xq_r 3) s m args below meth c D vcl (kc_cs n) ad (kc_en n ad cI cN) 0 0 (MQ below (xq_Q D vcl (kc_cs n) ad (kc_en n ad cI cN) none (kc_ov B k (c_N_hearInside F G E w x).1 (c_N_hearInside F G E w x).2.1 (c_N_hearInside F G E w x).2.2 w)) args s 0 0 (xq_in (kc_cs n) ad)) 4 38 [(2, .ref (ad (2, 0))), (1, .int x), (0, .ref (ad (3, k)))] [.int z4] (kc_ov B k z5 G E w) := by
      intro z4 z5 e12 e13
      refine xq_istore_n X d_N_hearInside_38 [(3, .int z4), (2, .ref (ad (2, 0))), (1, .int x), (0, .ref (ad (3, k)))] rfl rfl (by decide) ?_
      refine xq_iload_n X d_N_hearInside_39 0 rfl rfl ?_
      refine xq_iconst (v := 1) X d_N_hearInside_40 (by decide) ?_
      refine xq_icmp_ne X d_N_hearInside_41 63 (by decide) (fun h6 => ?_) (fun h6 => ?_)
      · skip
        refine xq_aload_n X d_N_hearInside_63 3 rfl rfl ?_
        refine xq_aload_n X d_N_hearInside_64 3 rfl rfl ?_
        refine kn_get (v := (z5 4)) X hk 4 (by decide) f_N_37 d_N_hearInside_65 rfl ?_
        refine kn_callV (As := [.int (z5 4)]) (rest := []) X xw_g hk g_N_95 (ct_N_join hap hk (z5 4)) rfl rfl (by decide) (Nat.le_of_ble_eq_true rfl) rfl d_N_hearInside_68 ?_
        refine xq_iload_n X d_N_hearInside_71 0 rfl rfl ?_
        have J14 : ∀ (z8 : Nat → Int32) (z9 : Nat → Int32) (z10 : Nat → Int32), z8 = (if z4 = 0 then (upd (c_N_join z5 (z5 4)) 7 (((c_N_join z5 (z5 4)) 7) + 1)) else (c_N_join z5 (z5 4))) → z9 = (if z4 = 0 then (c_D_keep G E ((w 4) - ((c_N_join z5 (z5 4)) 14))).1 else G) → z10 = (if z4 = 0 then (c_D_keep G E ((w 4) - ((c_N_join z5 (z5 4)) 14))).2 else E) → xq_W p l e (xq_r 3) s m args below meth c D vcl (kc_cs n) ad (kc_en n ad cI cN) 0 0 (MQ below (xq_Q D vcl (kc_cs n) ad (kc_en n ad cI cN) none (kc_ov B k (c_N_hearInside F G E w x).1 (c_N_hearInside F G E w x).2.1 (c_N_hearInside F G E w x).2.2 w)) args s 0 0 (xq_in (kc_cs n) ad)) 4 101 [(3, .int z4), (2, .ref (ad (2, 0))), (1, .int x), (0, .ref (ad (3, k)))] [] (kc_ov B k z8 z9 z10 w) := by
          intro z8 z9 z10 e15 e16 e17
          have hh : (c_N_hearInside F G E w x) = (z8, z9, z10) := by subst e12; subst e13; subst e15; subst e16; subst e17; exact ((if_neg h1).trans (if_neg h6))
          exact xq_vret X rfl (by rw [hh]) d_N_hearInside_101
        refine xq_if_ne X d_N_hearInside_72 101 (by decide) (fun h7 => ?_) (fun h7 => ?_)
        · skip
          exact J14 _ _ _ (if_neg h7).symm (if_neg h7).symm (if_neg h7).symm
        · skip
          refine xq_aload_n X d_N_hearInside_75 3 rfl rfl ?_
          refine xq_dup X d_N_hearInside_76 rfl ?_
          refine kn_get (v := ((c_N_join z5 (z5 4)) 7)) X hk 7 (by decide) f_N_55 d_N_hearInside_77 rfl ?_
          refine xq_iconst (v := 1) X d_N_hearInside_80 (by decide) ?_
          refine xq_iadd X d_N_hearInside_81 ?_
          refine kn_put X hk 7 (by decide) (ty := .int) f_N_55 T_N_ok n_N_7 rfl rfl d_N_hearInside_82 ?_
          refine xq_aload_n X d_N_hearInside_85 3 rfl rfl ?_
          refine kn_dev X hk f_N_21 d_N_hearInside_86 ?_
          refine xq_aload_n X d_N_hearInside_89 1 rfl rfl ?_
          refine kw_get (v := (w 4)) X 4 (by decide) f_N_112 d_N_hearInside_90 rfl ?_
          refine xq_aload_n X d_N_hearInside_93 3 rfl rfl ?_
          refine kn_get (v := ((c_N_join z5 (z5 4)) 14)) X hk 14 (by decide) f_N_52 d_N_hearInside_94 rfl ?_
          refine xq_isub X d_N_hearInside_97 ?_
          refine kd_callV (As := [.int ((w 4) - ((c_N_join z5 (z5 4)) 14))]) (rest := []) X xw_g hk g_N_124 (ct_D_keep hap hk ((w 4) - ((c_N_join z5 (z5 4)) 14)) hnx) rfl rfl (by decide) (Nat.le_of_ble_eq_true rfl) rfl d_N_hearInside_98 ?_
          exact J14 _ _ _ (if_pos h7).symm (if_pos h7).symm (if_pos h7).symm
      · skip
        refine xq_aload_n X d_N_hearInside_44 3 rfl rfl ?_
        refine xq_aload_n X d_N_hearInside_45 3 rfl rfl ?_
        refine kn_get (v := (z5 4)) X hk 4 (by decide) f_N_37 d_N_hearInside_46 rfl ?_
        refine kn_callV (As := [.int (z5 4)]) (rest := []) X xw_g hk g_N_113 (ct_N_leave hap hk (z5 4)) rfl rfl (by decide) (Nat.le_of_ble_eq_true rfl) rfl d_N_hearInside_49 ?_
        refine xq_aload_n X d_N_hearInside_52 3 rfl rfl ?_
        refine xq_dup X d_N_hearInside_53 rfl ?_
        refine kn_get (v := ((c_N_leave z5 (z5 4)) 8)) X hk 8 (by decide) f_N_58 d_N_hearInside_54 rfl ?_
        refine xq_iconst (v := 1) X d_N_hearInside_57 (by decide) ?_
        refine xq_iadd X d_N_hearInside_58 ?_
        refine kn_put X hk 8 (by decide) (ty := .int) f_N_58 T_N_ok n_N_8 rfl rfl d_N_hearInside_59 ?_
        have hh : (c_N_hearInside F G E w x) = ((upd (c_N_leave z5 (z5 4)) 8 (((c_N_leave z5 (z5 4)) 8) + 1)), G, E) := by subst e12; subst e13; exact ((if_neg h1).trans (if_pos h6))
        exact xq_vret X rfl (by rw [hh]) d_N_hearInside_62
    refine xq_icmp_ne X d_N_hearInside_15 37 (by decide) (fun h2 => ?_) (fun h2 => ?_)
    · skip
      refine xq_iconst (v := 1) X d_N_hearInside_37 (by decide) ?_
      exact J11 _ _ (if_neg h2).symm (if_neg h2).symm
    · skip
      refine xq_aload_n X d_N_hearInside_18 2 rfl rfl ?_
      refine xq_aload_n X d_N_hearInside_19 0 rfl rfl ?_
      refine kn_callI (As := [.ref (ad (2, 0))]) (rest := []) X xw_g hk g_N_116 (ct_N_isDue hap hk) rfl rfl (by decide) (Nat.le_of_ble_eq_true rfl) rfl d_N_hearInside_20 ?_
      refine xq_if_eq X d_N_hearInside_23 37 (by decide) (fun h3 => ?_) (fun h3 => ?_)
      · skip
        refine xq_iconst (v := 1) X d_N_hearInside_37 (by decide) ?_
        exact J11 _ _ ((if_pos h2).trans (if_pos h3)).symm ((if_pos h2).trans (if_pos h3)).symm
      · skip
        refine xq_aload_n X d_N_hearInside_26 2 rfl rfl ?_
        refine xq_aload_n X d_N_hearInside_27 0 rfl rfl ?_
        refine kw_get (v := (w 3)) X 3 (by decide) f_N_111 d_N_hearInside_28 rfl ?_
        refine kn_callI (As := [.int (w 3)]) (rest := []) X xw_g hk g_N_120 (ct_N_compareMembers hap hk (w 3)) rfl rfl (by decide) (Nat.le_of_ble_eq_true rfl) rfl d_N_hearInside_31 ?_
        refine xq_goto X d_N_hearInside_34 38 (by decide) ?_
        exact J11 _ _ ((if_pos h2).trans (if_neg h3)).symm ((if_pos h2).trans (if_neg h3)).symm
  · skip
    refine xq_aload_n X d_N_hearInside_4 2 rfl rfl ?_
    refine xq_aload_n X d_N_hearInside_5 2 rfl rfl ?_
    refine kn_get (v := (F 4)) X hk 4 (by decide) f_N_37 d_N_hearInside_6 rfl ?_
    refine kn_callV (As := [.int (F 4)]) (rest := []) X xw_g hk g_N_113 (ct_N_leave hap hk (F 4)) rfl rfl (by decide) (Nat.le_of_ble_eq_true rfl) rfl d_N_hearInside_9 ?_
    have hh : (c_N_hearInside F G E w x) = ((c_N_leave F (F 4)), G, E) := by exact (if_pos h1)
    exact xq_vret X rfl (by rw [hh]) d_N_hearInside_12
def c_N_correctClock (F : Nat → Int32) (G : Nat → Int32) (E : Nat → Int32) : (Nat → Int32) := (let z4 : Nat → Int32 := (if (c_N_isInside F) = 0 then F else (if (F 4) = ((F 1) - 1) then (if (c_D_areComplete G) = 0 then F else (upd F 14 ((F 14) + (c_D_middle E)))) else F)); z4)
set_option maxHeartbeats 4000000 in
set_option maxRecDepth 100000 in
theorem ct_N_correctClock {l : Launch} {D : va_G} {n : Nat} {ad : xq_I → Nat} {cI cZ cN : ClassId} (hap : xq_ap (kc_cs n) ad) {k : Nat} (hk : k < n) {B : kc_B} {F G E w : Nat → Int32}  :
    xq_M l D vcl (kc_tys cI cZ cN) (kc_cs n) ad (kc_en n ad cI cN) y_N_correctClock (Cond.code y_N_correctClock b_N_correctClock 1 none :: xw) 2 [.ref (ad (3, k))] (kc_ov B k F G E w) none (kc_ov B k (c_N_correctClock F G E) G E w) := by
  refine xq_met (by decide) (Nat.le_of_ble_eq_true rfl) hap ?_
  intro p e s m args below meth c X
  refine xq_eqv (L' := [(0, .ref (ad (3, k)))]) (st' := []) rfl rfl ?_
  refine xq_aload_n X d_N_correctClock_0 0 rfl rfl ?_
  refine kn_callI (As := []) (rest := []) X xw_g hk g_N_80 (ct_N_isInside hap hk) rfl rfl (by decide) (Nat.le_of_ble_eq_true rfl) rfl d_N_correctClock_1 ?_
  have J5 : ∀ (z4 : Nat → Int32), z4 = (if (c_N_isInside F) = 0 then F else (if (F 4) = ((F 1) - 1) then (if (c_D_areComplete G) = 0 then F else (upd F 14 ((F 14) + (c_D_middle E)))) else F)) → xq_W p l e (xq_r 2) s m args below meth c D vcl (kc_cs n) ad (kc_en n ad cI cN) 0 0 (MQ below (xq_Q D vcl (kc_cs n) ad (kc_en n ad cI cN) none (kc_ov B k (c_N_correctClock F G E) G E w)) args s 0 0 (xq_in (kc_cs n) ad)) 1 46 [(0, .ref (ad (3, k)))] [] (kc_ov B k z4 G E w) := by
    intro z4 e6
    have hh : (c_N_correctClock F G E) = z4 := by subst e6; exact rfl
    exact xq_vret X rfl (by rw [hh]) d_N_correctClock_46
  refine xq_if_eq X d_N_correctClock_4 46 (by decide) (fun h1 => ?_) (fun h1 => ?_)
  · skip
    exact J5 _ (if_pos h1).symm
  · skip
    refine xq_aload_n X d_N_correctClock_7 0 rfl rfl ?_
    refine kn_get (v := (F 4)) X hk 4 (by decide) f_N_37 d_N_correctClock_8 rfl ?_
    refine xq_aload_n X d_N_correctClock_11 0 rfl rfl ?_
    refine kn_get (v := (F 1)) X hk 1 (by decide) f_N_15 d_N_correctClock_12 rfl ?_
    refine xq_iconst (v := 1) X d_N_correctClock_15 (by decide) ?_
    refine xq_isub X d_N_correctClock_16 ?_
    refine xq_icmp_ne X d_N_correctClock_17 46 (by decide) (fun h2 => ?_) (fun h2 => ?_)
    · skip
      exact J5 _ ((if_neg h1).trans (if_neg h2)).symm
    · skip
      refine xq_aload_n X d_N_correctClock_20 0 rfl rfl ?_
      refine kn_dev X hk f_N_21 d_N_correctClock_21 ?_
      refine kd_callI (As := []) (rest := []) X xw_g hk g_N_137 (ct_D_areComplete hap hk) rfl rfl (by decide) (Nat.le_of_ble_eq_true rfl) rfl d_N_correctClock_24 ?_
      refine xq_if_eq X d_N_correctClock_27 46 (by decide) (fun h3 => ?_) (fun h3 => ?_)
      · skip
        exact J5 _ ((if_neg h1).trans ((if_pos h2).trans (if_pos h3))).symm
      · skip
        refine xq_aload_n X d_N_correctClock_30 0 rfl rfl ?_
        refine xq_dup X d_N_correctClock_31 rfl ?_
        refine kn_get (v := (F 14)) X hk 14 (by decide) f_N_52 d_N_correctClock_32 rfl ?_
        refine xq_aload_n X d_N_correctClock_35 0 rfl rfl ?_
        refine kn_dev X hk f_N_21 d_N_correctClock_36 ?_
        refine kd_callI (As := []) (rest := [.int (F 14), .ref (ad (3, k))]) X xw_g hk g_N_140 (ct_D_middle hap hk) rfl rfl (by decide) (Nat.le_of_ble_eq_true rfl) rfl d_N_correctClock_39 ?_
        refine xq_iadd X d_N_correctClock_42 ?_
        refine kn_put X hk 14 (by decide) (ty := .int) f_N_52 T_N_ok n_N_14 rfl rfl d_N_correctClock_43 ?_
        exact J5 _ ((if_neg h1).trans ((if_pos h2).trans (if_neg h3))).symm
