def r_M_members4 (k : Nat) (F : Nat → Int32) (E : Nat → Int32) (g : Nat → Int32) : Int32 := (if (r_M_isNode g (nI k)) = 0 then (-1) else (if (r_M_inside F) = 0 then (-1) else (let z4 : Int32 := (if (E 3) = 0 then 0 else 1); (let z6 : Int32 := (if (E 2) = 0 then 0 else 1); (let z8 : Int32 := (if (E 1) = 0 then 0 else 1); (let z10 : Int32 := (if (E 0) = 0 then 0 else 1); ((2 * ((2 * ((2 * (0 + z4)) + z6)) + z8)) + z10)))))))
set_option maxHeartbeats 4000000 in
set_option maxRecDepth 100000 in
theorem rt_M_members4 {l : Launch} {D : va_G} {ad : xq_I → Nat} {cI cZ cN : ClassId} (hap : xq_ap rc_cs ad) {k : Nat} (hk : k < 6) {A : rc_A} {F E T g f : Nat → Int32} (hg : (g 0) = 4) :
    xq_M l D vcl (kc_tys cI cZ cN) rc_cs ad (rc_en ad cI cZ) y_M_members (Cond.code y_M_members b_M_members 4 (some .int) :: xw) 1 [.ref (ad (6, 0)), .int (nI k)] (rc_ov A k F E T g f) (some (.int (r_M_members4 k F E g))) (rc_ov A k F E T g f) := by
  refine xq_met (by decide) (Nat.le_of_ble_eq_true rfl) hap ?_
  intro p e s m args below meth c X
  refine xq_sub [1, 0] [(1, .int (nI k)), (0, .ref (ad (6, 0)))] rfl ?_
  refine xq_aload_n X d_M_members_0 1 rfl rfl ?_
  refine xq_iload_n X d_M_members_1 0 rfl rfl ?_
  refine rk_callI (As := [.int (nI k)]) (rest := []) X xw_g g_M_75 (rt_M_isNode hap hk (nI k)) rfl rfl (by decide) (Nat.le_of_ble_eq_true rfl) rfl d_M_members_2 ?_
  refine xq_if_eq X d_M_members_5 16 (by decide) (fun h1 => ?_) (fun h1 => ?_)
  · skip
    refine xq_iconst (v := (-1)) X d_M_members_16 (by decide) ?_
    have hh : (r_M_members4 k F E g) = (-1) := by exact (if_pos h1)
    exact xq_iret X rfl rfl (by rw [hh]) rfl d_M_members_17
  · skip
    refine xq_aload_n X d_M_members_8 1 rfl rfl ?_
    refine xq_iload_n X d_M_members_9 0 rfl rfl ?_
    refine rk_callI (As := [.int (nI k)]) (rest := []) X xw_g g_M_86 (rt_M_inside hap hk) rfl rfl (by decide) (Nat.le_of_ble_eq_true rfl) rfl d_M_members_10 ?_
    refine xq_if_ne X d_M_members_13 18 (by decide) (fun h2 => ?_) (fun h2 => ?_)
    · skip
      refine xq_iconst (v := 0) X d_M_members_18 (by decide) ?_
      refine xq_istore_n X d_M_members_19 [(2, .int 0), (1, .int (nI k)), (0, .ref (ad (6, 0)))] rfl rfl (by decide) ?_
      refine xq_aload_n X d_M_members_20 2 rfl rfl ?_
      refine rg_get (v := 4) X 0 (by decide) f_M_72 d_M_members_21 hg ?_
      refine xq_iconst (v := 1) X d_M_members_24 (by decide) ?_
      refine xq_isub X d_M_members_25 ?_
      refine xq_top 3 (by decide) ?_
      refine xq_istore_n X d_M_members_26 [(3, .int 3), (2, .int 0), (1, .int (nI k)), (0, .ref (ad (6, 0)))] rfl rfl (by decide) ?_
      refine xq_iload_n X d_M_members_27 0 rfl rfl ?_
      refine xq_if_lt X d_M_members_28 61 (by decide) (fun h => absurd h (by decide)) (fun _ => ?_)
      refine xq_iconst (v := 2) X d_M_members_31 (by decide) ?_
      refine xq_iload_n X d_M_members_32 1 rfl rfl ?_
      refine xq_imul X d_M_members_33 ?_
      refine xq_top 0 (by decide) ?_
      refine xq_aload_n X d_M_members_34 3 rfl rfl ?_
      refine rg_row X 15 (by decide) f_M_53 d_M_members_35 ?_
      refine xq_bipush (v := 6) X d_M_members_38 (by decide) ?_
      refine xq_iload_n X d_M_members_40 2 rfl rfl ?_
      refine xq_imul X d_M_members_41 ?_
      refine xq_iload_n X d_M_members_42 0 rfl rfl ?_
      refine xq_iadd X d_M_members_43 ?_
      refine re_ald (v := (E 3)) X 3 (by decide) hk (ri_6 rfl) d_M_members_44 rfl ?_
      have J11 : ∀ (z4 : Int32), z4 = (if (E 3) = 0 then 0 else 1) → xq_W p l e (xq_r 1) s m args below meth c D vcl rc_cs ad (rc_en ad cI cZ) 0 0 (MQ below (xq_Q D vcl rc_cs ad (rc_en ad cI cZ) (some (.int (r_M_members4 k F E g))) (rc_ov A k F E T g f)) args s 0 0 (xq_in rc_cs ad)) 4 53 [(3, .int 3), (2, .int 0), (1, .int (nI k)), (0, .ref (ad (6, 0)))] [.int z4, .int 0] (rc_ov A k F E T g f) := by
        intro z4 e12
        refine xq_iadd X d_M_members_53 ?_
        refine xq_istore_n X d_M_members_54 [(2, .int (0 + z4)), (3, .int 3), (1, .int (nI k)), (0, .ref (ad (6, 0)))] rfl rfl (by decide) ?_
        refine xq_sub [1, 0, 2, 3] [(3, .int 3), (2, .int (0 + z4)), (1, .int (nI k)), (0, .ref (ad (6, 0)))] rfl ?_
        refine xq_iinc X d_M_members_55 0 rfl [(3, .int 2), (2, .int (0 + z4)), (1, .int (nI k)), (0, .ref (ad (6, 0)))] rfl (by decide) (by decide) ?_
        refine xq_goto X d_M_members_58 27 (by decide) ?_
        refine xq_iload_n X d_M_members_27 0 rfl rfl ?_
        refine xq_if_lt X d_M_members_28 61 (by decide) (fun h => absurd h (by decide)) (fun _ => ?_)
        refine xq_iconst (v := 2) X d_M_members_31 (by decide) ?_
        refine xq_iload_n X d_M_members_32 1 rfl rfl ?_
        refine xq_imul X d_M_members_33 ?_
        refine xq_aload_n X d_M_members_34 3 rfl rfl ?_
        refine rg_row X 15 (by decide) f_M_53 d_M_members_35 ?_
        refine xq_bipush (v := 6) X d_M_members_38 (by decide) ?_
        refine xq_iload_n X d_M_members_40 2 rfl rfl ?_
        refine xq_imul X d_M_members_41 ?_
        refine xq_iload_n X d_M_members_42 0 rfl rfl ?_
        refine xq_iadd X d_M_members_43 ?_
        refine re_ald (v := (E 2)) X 2 (by decide) hk (ri_6 rfl) d_M_members_44 rfl ?_
        have J13 : ∀ (z6 : Int32), z6 = (if (E 2) = 0 then 0 else 1) → xq_W p l e (xq_r 1) s m args below meth c D vcl rc_cs ad (rc_en ad cI cZ) 0 0 (MQ below (xq_Q D vcl rc_cs ad (rc_en ad cI cZ) (some (.int (r_M_members4 k F E g))) (rc_ov A k F E T g f)) args s 0 0 (xq_in rc_cs ad)) 4 53 [(3, .int 2), (2, .int (0 + z4)), (1, .int (nI k)), (0, .ref (ad (6, 0)))] [.int z6, .int (2 * (0 + z4))] (rc_ov A k F E T g f) := by
          intro z6 e14
          refine xq_iadd X d_M_members_53 ?_
          refine xq_istore_n X d_M_members_54 [(2, .int ((2 * (0 + z4)) + z6)), (3, .int 2), (1, .int (nI k)), (0, .ref (ad (6, 0)))] rfl rfl (by decide) ?_
          refine xq_sub [1, 0, 2, 3] [(3, .int 2), (2, .int ((2 * (0 + z4)) + z6)), (1, .int (nI k)), (0, .ref (ad (6, 0)))] rfl ?_
          refine xq_iinc X d_M_members_55 0 rfl [(3, .int 1), (2, .int ((2 * (0 + z4)) + z6)), (1, .int (nI k)), (0, .ref (ad (6, 0)))] rfl (by decide) (by decide) ?_
          refine xq_goto X d_M_members_58 27 (by decide) ?_
          refine xq_iload_n X d_M_members_27 0 rfl rfl ?_
          refine xq_if_lt X d_M_members_28 61 (by decide) (fun h => absurd h (by decide)) (fun _ => ?_)
          refine xq_iconst (v := 2) X d_M_members_31 (by decide) ?_
          refine xq_iload_n X d_M_members_32 1 rfl rfl ?_
          refine xq_imul X d_M_members_33 ?_
          refine xq_aload_n X d_M_members_34 3 rfl rfl ?_
          refine rg_row X 15 (by decide) f_M_53 d_M_members_35 ?_
          refine xq_bipush (v := 6) X d_M_members_38 (by decide) ?_
          refine xq_iload_n X d_M_members_40 2 rfl rfl ?_
          refine xq_imul X d_M_members_41 ?_
          refine xq_iload_n X d_M_members_42 0 rfl rfl ?_
          refine xq_iadd X d_M_members_43 ?_
          refine re_ald (v := (E 1)) X 1 (by decide) hk (ri_6 rfl) d_M_members_44 rfl ?_
          have J15 : ∀ (z8 : Int32), z8 = (if (E 1) = 0 then 0 else 1) → xq_W p l e (xq_r 1) s m args below meth c D vcl rc_cs ad (rc_en ad cI cZ) 0 0 (MQ below (xq_Q D vcl rc_cs ad (rc_en ad cI cZ) (some (.int (r_M_members4 k F E g))) (rc_ov A k F E T g f)) args s 0 0 (xq_in rc_cs ad)) 4 53 [(3, .int 1), (2, .int ((2 * (0 + z4)) + z6)), (1, .int (nI k)), (0, .ref (ad (6, 0)))] [.int z8, .int (2 * ((2 * (0 + z4)) + z6))] (rc_ov A k F E T g f) := by
            intro z8 e16
            refine xq_iadd X d_M_members_53 ?_
            refine xq_istore_n X d_M_members_54 [(2, .int ((2 * ((2 * (0 + z4)) + z6)) + z8)), (3, .int 1), (1, .int (nI k)), (0, .ref (ad (6, 0)))] rfl rfl (by decide) ?_
            refine xq_sub [1, 0, 2, 3] [(3, .int 1), (2, .int ((2 * ((2 * (0 + z4)) + z6)) + z8)), (1, .int (nI k)), (0, .ref (ad (6, 0)))] rfl ?_
            refine xq_iinc X d_M_members_55 0 rfl [(3, .int 0), (2, .int ((2 * ((2 * (0 + z4)) + z6)) + z8)), (1, .int (nI k)), (0, .ref (ad (6, 0)))] rfl (by decide) (by decide) ?_
            refine xq_goto X d_M_members_58 27 (by decide) ?_
            refine xq_iload_n X d_M_members_27 0 rfl rfl ?_
            refine xq_if_lt X d_M_members_28 61 (by decide) (fun h => absurd h (by decide)) (fun _ => ?_)
            refine xq_iconst (v := 2) X d_M_members_31 (by decide) ?_
            refine xq_iload_n X d_M_members_32 1 rfl rfl ?_
            refine xq_imul X d_M_members_33 ?_
            refine xq_aload_n X d_M_members_34 3 rfl rfl ?_
            refine rg_row X 15 (by decide) f_M_53 d_M_members_35 ?_
            refine xq_bipush (v := 6) X d_M_members_38 (by decide) ?_
            refine xq_iload_n X d_M_members_40 2 rfl rfl ?_
            refine xq_imul X d_M_members_41 ?_
            refine xq_iload_n X d_M_members_42 0 rfl rfl ?_
            refine xq_iadd X d_M_members_43 ?_
            refine re_ald (v := (E 0)) X 0 (by decide) hk (ri_6 rfl) d_M_members_44 rfl ?_
            have J17 : ∀ (z10 : Int32), z10 = (if (E 0) = 0 then 0 else 1) → xq_W p l e (xq_r 1) s m args below meth c D vcl rc_cs ad (rc_en ad cI cZ) 0 0 (MQ below (xq_Q D vcl rc_cs ad (rc_en ad cI cZ) (some (.int (r_M_members4 k F E g))) (rc_ov A k F E T g f)) args s 0 0 (xq_in rc_cs ad)) 4 53 [(3, .int 0), (2, .int ((2 * ((2 * (0 + z4)) + z6)) + z8)), (1, .int (nI k)), (0, .ref (ad (6, 0)))] [.int z10, .int (2 * ((2 * ((2 * (0 + z4)) + z6)) + z8))] (rc_ov A k F E T g f) := by
              intro z10 e18
              refine xq_iadd X d_M_members_53 ?_
              refine xq_istore_n X d_M_members_54 [(2, .int ((2 * ((2 * ((2 * (0 + z4)) + z6)) + z8)) + z10)), (3, .int 0), (1, .int (nI k)), (0, .ref (ad (6, 0)))] rfl rfl (by decide) ?_
              refine xq_sub [1, 0, 2, 3] [(3, .int 0), (2, .int ((2 * ((2 * ((2 * (0 + z4)) + z6)) + z8)) + z10)), (1, .int (nI k)), (0, .ref (ad (6, 0)))] rfl ?_
              refine xq_iinc X d_M_members_55 0 rfl [(3, .int (-1)), (2, .int ((2 * ((2 * ((2 * (0 + z4)) + z6)) + z8)) + z10)), (1, .int (nI k)), (0, .ref (ad (6, 0)))] rfl (by decide) (by decide) ?_
              refine xq_goto X d_M_members_58 27 (by decide) ?_
              refine xq_iload_n X d_M_members_27 0 rfl rfl ?_
              refine xq_if_lt X d_M_members_28 61 (by decide) (fun _ => ?_) (fun h => absurd h (by decide))
              refine xq_iload_n X d_M_members_61 1 rfl rfl ?_
              have hh : (r_M_members4 k F E g) = ((2 * ((2 * ((2 * (0 + z4)) + z6)) + z8)) + z10) := by subst e12; subst e14; subst e16; subst e18; exact ((if_neg h1).trans (if_neg h2))
              exact xq_iret X rfl rfl (by rw [hh]) rfl d_M_members_62
            refine xq_if_eq X d_M_members_45 52 (by decide) (fun h9 => ?_) (fun h9 => ?_)
            · skip
              refine xq_iconst (v := 0) X d_M_members_52 (by decide) ?_
              exact J17 _ (if_pos h9).symm
            · skip
              refine xq_iconst (v := 1) X d_M_members_48 (by decide) ?_
              refine xq_goto X d_M_members_49 53 (by decide) ?_
              exact J17 _ (if_neg h9).symm
          refine xq_if_eq X d_M_members_45 52 (by decide) (fun h7 => ?_) (fun h7 => ?_)
          · skip
            refine xq_iconst (v := 0) X d_M_members_52 (by decide) ?_
            exact J15 _ (if_pos h7).symm
          · skip
            refine xq_iconst (v := 1) X d_M_members_48 (by decide) ?_
            refine xq_goto X d_M_members_49 53 (by decide) ?_
            exact J15 _ (if_neg h7).symm
        refine xq_if_eq X d_M_members_45 52 (by decide) (fun h5 => ?_) (fun h5 => ?_)
        · skip
          refine xq_iconst (v := 0) X d_M_members_52 (by decide) ?_
          exact J13 _ (if_pos h5).symm
        · skip
          refine xq_iconst (v := 1) X d_M_members_48 (by decide) ?_
          refine xq_goto X d_M_members_49 53 (by decide) ?_
          exact J13 _ (if_neg h5).symm
      refine xq_if_eq X d_M_members_45 52 (by decide) (fun h3 => ?_) (fun h3 => ?_)
      · skip
        refine xq_iconst (v := 0) X d_M_members_52 (by decide) ?_
        exact J11 _ (if_pos h3).symm
      · skip
        refine xq_iconst (v := 1) X d_M_members_48 (by decide) ?_
        refine xq_goto X d_M_members_49 53 (by decide) ?_
        exact J11 _ (if_neg h3).symm
    · skip
      refine xq_iconst (v := (-1)) X d_M_members_16 (by decide) ?_
      have hh : (r_M_members4 k F E g) = (-1) := by exact ((if_neg h1).trans (if_pos h2))
      exact xq_iret X rfl rfl (by rw [hh]) rfl d_M_members_17
def r_M_members5 (k : Nat) (F : Nat → Int32) (E : Nat → Int32) (g : Nat → Int32) : Int32 := (if (r_M_isNode g (nI k)) = 0 then (-1) else (if (r_M_inside F) = 0 then (-1) else (let z4 : Int32 := (if (E 4) = 0 then 0 else 1); (let z6 : Int32 := (if (E 3) = 0 then 0 else 1); (let z8 : Int32 := (if (E 2) = 0 then 0 else 1); (let z10 : Int32 := (if (E 1) = 0 then 0 else 1); (let z12 : Int32 := (if (E 0) = 0 then 0 else 1); ((2 * ((2 * ((2 * ((2 * (0 + z4)) + z6)) + z8)) + z10)) + z12))))))))
set_option maxHeartbeats 4000000 in
set_option maxRecDepth 100000 in
theorem rt_M_members5 {l : Launch} {D : va_G} {ad : xq_I → Nat} {cI cZ cN : ClassId} (hap : xq_ap rc_cs ad) {k : Nat} (hk : k < 6) {A : rc_A} {F E T g f : Nat → Int32} (hg : (g 0) = 5) :
    xq_M l D vcl (kc_tys cI cZ cN) rc_cs ad (rc_en ad cI cZ) y_M_members (Cond.code y_M_members b_M_members 4 (some .int) :: xw) 1 [.ref (ad (6, 0)), .int (nI k)] (rc_ov A k F E T g f) (some (.int (r_M_members5 k F E g))) (rc_ov A k F E T g f) := by
  refine xq_met (by decide) (Nat.le_of_ble_eq_true rfl) hap ?_
  intro p e s m args below meth c X
  refine xq_sub [1, 0] [(1, .int (nI k)), (0, .ref (ad (6, 0)))] rfl ?_
  refine xq_aload_n X d_M_members_0 1 rfl rfl ?_
  refine xq_iload_n X d_M_members_1 0 rfl rfl ?_
  refine rk_callI (As := [.int (nI k)]) (rest := []) X xw_g g_M_75 (rt_M_isNode hap hk (nI k)) rfl rfl (by decide) (Nat.le_of_ble_eq_true rfl) rfl d_M_members_2 ?_
  refine xq_if_eq X d_M_members_5 16 (by decide) (fun h1 => ?_) (fun h1 => ?_)
  · skip
    refine xq_iconst (v := (-1)) X d_M_members_16 (by decide) ?_
    have hh : (r_M_members5 k F E g) = (-1) := by exact (if_pos h1)
    exact xq_iret X rfl rfl (by rw [hh]) rfl d_M_members_17
  · skip
    refine xq_aload_n X d_M_members_8 1 rfl rfl ?_
    refine xq_iload_n X d_M_members_9 0 rfl rfl ?_
    refine rk_callI (As := [.int (nI k)]) (rest := []) X xw_g g_M_86 (rt_M_inside hap hk) rfl rfl (by decide) (Nat.le_of_ble_eq_true rfl) rfl d_M_members_10 ?_
    refine xq_if_ne X d_M_members_13 18 (by decide) (fun h2 => ?_) (fun h2 => ?_)
    · skip
      refine xq_iconst (v := 0) X d_M_members_18 (by decide) ?_
      refine xq_istore_n X d_M_members_19 [(2, .int 0), (1, .int (nI k)), (0, .ref (ad (6, 0)))] rfl rfl (by decide) ?_
      refine xq_aload_n X d_M_members_20 2 rfl rfl ?_
      refine rg_get (v := 5) X 0 (by decide) f_M_72 d_M_members_21 hg ?_
      refine xq_iconst (v := 1) X d_M_members_24 (by decide) ?_
      refine xq_isub X d_M_members_25 ?_
      refine xq_top 4 (by decide) ?_
      refine xq_istore_n X d_M_members_26 [(3, .int 4), (2, .int 0), (1, .int (nI k)), (0, .ref (ad (6, 0)))] rfl rfl (by decide) ?_
      refine xq_iload_n X d_M_members_27 0 rfl rfl ?_
      refine xq_if_lt X d_M_members_28 61 (by decide) (fun h => absurd h (by decide)) (fun _ => ?_)
      refine xq_iconst (v := 2) X d_M_members_31 (by decide) ?_
      refine xq_iload_n X d_M_members_32 1 rfl rfl ?_
      refine xq_imul X d_M_members_33 ?_
      refine xq_top 0 (by decide) ?_
      refine xq_aload_n X d_M_members_34 3 rfl rfl ?_
      refine rg_row X 15 (by decide) f_M_53 d_M_members_35 ?_
      refine xq_bipush (v := 6) X d_M_members_38 (by decide) ?_
      refine xq_iload_n X d_M_members_40 2 rfl rfl ?_
      refine xq_imul X d_M_members_41 ?_
      refine xq_iload_n X d_M_members_42 0 rfl rfl ?_
      refine xq_iadd X d_M_members_43 ?_
      refine re_ald (v := (E 4)) X 4 (by decide) hk (ri_6 rfl) d_M_members_44 rfl ?_
      have J13 : ∀ (z4 : Int32), z4 = (if (E 4) = 0 then 0 else 1) → xq_W p l e (xq_r 1) s m args below meth c D vcl rc_cs ad (rc_en ad cI cZ) 0 0 (MQ below (xq_Q D vcl rc_cs ad (rc_en ad cI cZ) (some (.int (r_M_members5 k F E g))) (rc_ov A k F E T g f)) args s 0 0 (xq_in rc_cs ad)) 4 53 [(3, .int 4), (2, .int 0), (1, .int (nI k)), (0, .ref (ad (6, 0)))] [.int z4, .int 0] (rc_ov A k F E T g f) := by
        intro z4 e14
        refine xq_iadd X d_M_members_53 ?_
        refine xq_istore_n X d_M_members_54 [(2, .int (0 + z4)), (3, .int 4), (1, .int (nI k)), (0, .ref (ad (6, 0)))] rfl rfl (by decide) ?_
        refine xq_sub [1, 0, 2, 3] [(3, .int 4), (2, .int (0 + z4)), (1, .int (nI k)), (0, .ref (ad (6, 0)))] rfl ?_
        refine xq_iinc X d_M_members_55 0 rfl [(3, .int 3), (2, .int (0 + z4)), (1, .int (nI k)), (0, .ref (ad (6, 0)))] rfl (by decide) (by decide) ?_
        refine xq_goto X d_M_members_58 27 (by decide) ?_
        refine xq_iload_n X d_M_members_27 0 rfl rfl ?_
        refine xq_if_lt X d_M_members_28 61 (by decide) (fun h => absurd h (by decide)) (fun _ => ?_)
        refine xq_iconst (v := 2) X d_M_members_31 (by decide) ?_
        refine xq_iload_n X d_M_members_32 1 rfl rfl ?_
        refine xq_imul X d_M_members_33 ?_
        refine xq_aload_n X d_M_members_34 3 rfl rfl ?_
        refine rg_row X 15 (by decide) f_M_53 d_M_members_35 ?_
        refine xq_bipush (v := 6) X d_M_members_38 (by decide) ?_
        refine xq_iload_n X d_M_members_40 2 rfl rfl ?_
        refine xq_imul X d_M_members_41 ?_
        refine xq_iload_n X d_M_members_42 0 rfl rfl ?_
        refine xq_iadd X d_M_members_43 ?_
        refine re_ald (v := (E 3)) X 3 (by decide) hk (ri_6 rfl) d_M_members_44 rfl ?_
        have J15 : ∀ (z6 : Int32), z6 = (if (E 3) = 0 then 0 else 1) → xq_W p l e (xq_r 1) s m args below meth c D vcl rc_cs ad (rc_en ad cI cZ) 0 0 (MQ below (xq_Q D vcl rc_cs ad (rc_en ad cI cZ) (some (.int (r_M_members5 k F E g))) (rc_ov A k F E T g f)) args s 0 0 (xq_in rc_cs ad)) 4 53 [(3, .int 3), (2, .int (0 + z4)), (1, .int (nI k)), (0, .ref (ad (6, 0)))] [.int z6, .int (2 * (0 + z4))] (rc_ov A k F E T g f) := by
          intro z6 e16
          refine xq_iadd X d_M_members_53 ?_
          refine xq_istore_n X d_M_members_54 [(2, .int ((2 * (0 + z4)) + z6)), (3, .int 3), (1, .int (nI k)), (0, .ref (ad (6, 0)))] rfl rfl (by decide) ?_
          refine xq_sub [1, 0, 2, 3] [(3, .int 3), (2, .int ((2 * (0 + z4)) + z6)), (1, .int (nI k)), (0, .ref (ad (6, 0)))] rfl ?_
          refine xq_iinc X d_M_members_55 0 rfl [(3, .int 2), (2, .int ((2 * (0 + z4)) + z6)), (1, .int (nI k)), (0, .ref (ad (6, 0)))] rfl (by decide) (by decide) ?_
          refine xq_goto X d_M_members_58 27 (by decide) ?_
          refine xq_iload_n X d_M_members_27 0 rfl rfl ?_
          refine xq_if_lt X d_M_members_28 61 (by decide) (fun h => absurd h (by decide)) (fun _ => ?_)
          refine xq_iconst (v := 2) X d_M_members_31 (by decide) ?_
          refine xq_iload_n X d_M_members_32 1 rfl rfl ?_
          refine xq_imul X d_M_members_33 ?_
          refine xq_aload_n X d_M_members_34 3 rfl rfl ?_
          refine rg_row X 15 (by decide) f_M_53 d_M_members_35 ?_
          refine xq_bipush (v := 6) X d_M_members_38 (by decide) ?_
          refine xq_iload_n X d_M_members_40 2 rfl rfl ?_
          refine xq_imul X d_M_members_41 ?_
          refine xq_iload_n X d_M_members_42 0 rfl rfl ?_
          refine xq_iadd X d_M_members_43 ?_
          refine re_ald (v := (E 2)) X 2 (by decide) hk (ri_6 rfl) d_M_members_44 rfl ?_
          have J17 : ∀ (z8 : Int32), z8 = (if (E 2) = 0 then 0 else 1) → xq_W p l e (xq_r 1) s m args below meth c D vcl rc_cs ad (rc_en ad cI cZ) 0 0 (MQ below (xq_Q D vcl rc_cs ad (rc_en ad cI cZ) (some (.int (r_M_members5 k F E g))) (rc_ov A k F E T g f)) args s 0 0 (xq_in rc_cs ad)) 4 53 [(3, .int 2), (2, .int ((2 * (0 + z4)) + z6)), (1, .int (nI k)), (0, .ref (ad (6, 0)))] [.int z8, .int (2 * ((2 * (0 + z4)) + z6))] (rc_ov A k F E T g f) := by
            intro z8 e18
            refine xq_iadd X d_M_members_53 ?_
            refine xq_istore_n X d_M_members_54 [(2, .int ((2 * ((2 * (0 + z4)) + z6)) + z8)), (3, .int 2), (1, .int (nI k)), (0, .ref (ad (6, 0)))] rfl rfl (by decide) ?_
            refine xq_sub [1, 0, 2, 3] [(3, .int 2), (2, .int ((2 * ((2 * (0 + z4)) + z6)) + z8)), (1, .int (nI k)), (0, .ref (ad (6, 0)))] rfl ?_
            refine xq_iinc X d_M_members_55 0 rfl [(3, .int 1), (2, .int ((2 * ((2 * (0 + z4)) + z6)) + z8)), (1, .int (nI k)), (0, .ref (ad (6, 0)))] rfl (by decide) (by decide) ?_
            refine xq_goto X d_M_members_58 27 (by decide) ?_
            refine xq_iload_n X d_M_members_27 0 rfl rfl ?_
            refine xq_if_lt X d_M_members_28 61 (by decide) (fun h => absurd h (by decide)) (fun _ => ?_)
            refine xq_iconst (v := 2) X d_M_members_31 (by decide) ?_
            refine xq_iload_n X d_M_members_32 1 rfl rfl ?_
            refine xq_imul X d_M_members_33 ?_
            refine xq_aload_n X d_M_members_34 3 rfl rfl ?_
            refine rg_row X 15 (by decide) f_M_53 d_M_members_35 ?_
            refine xq_bipush (v := 6) X d_M_members_38 (by decide) ?_
            refine xq_iload_n X d_M_members_40 2 rfl rfl ?_
            refine xq_imul X d_M_members_41 ?_
            refine xq_iload_n X d_M_members_42 0 rfl rfl ?_
            refine xq_iadd X d_M_members_43 ?_
            refine re_ald (v := (E 1)) X 1 (by decide) hk (ri_6 rfl) d_M_members_44 rfl ?_
            have J19 : ∀ (z10 : Int32), z10 = (if (E 1) = 0 then 0 else 1) → xq_W p l e (xq_r 1) s m args below meth c D vcl rc_cs ad (rc_en ad cI cZ) 0 0 (MQ below (xq_Q D vcl rc_cs ad (rc_en ad cI cZ) (some (.int (r_M_members5 k F E g))) (rc_ov A k F E T g f)) args s 0 0 (xq_in rc_cs ad)) 4 53 [(3, .int 1), (2, .int ((2 * ((2 * (0 + z4)) + z6)) + z8)), (1, .int (nI k)), (0, .ref (ad (6, 0)))] [.int z10, .int (2 * ((2 * ((2 * (0 + z4)) + z6)) + z8))] (rc_ov A k F E T g f) := by
              intro z10 e20
              refine xq_iadd X d_M_members_53 ?_
              refine xq_istore_n X d_M_members_54 [(2, .int ((2 * ((2 * ((2 * (0 + z4)) + z6)) + z8)) + z10)), (3, .int 1), (1, .int (nI k)), (0, .ref (ad (6, 0)))] rfl rfl (by decide) ?_
              refine xq_sub [1, 0, 2, 3] [(3, .int 1), (2, .int ((2 * ((2 * ((2 * (0 + z4)) + z6)) + z8)) + z10)), (1, .int (nI k)), (0, .ref (ad (6, 0)))] rfl ?_
              refine xq_iinc X d_M_members_55 0 rfl [(3, .int 0), (2, .int ((2 * ((2 * ((2 * (0 + z4)) + z6)) + z8)) + z10)), (1, .int (nI k)), (0, .ref (ad (6, 0)))] rfl (by decide) (by decide) ?_
              refine xq_goto X d_M_members_58 27 (by decide) ?_
              refine xq_iload_n X d_M_members_27 0 rfl rfl ?_
              refine xq_if_lt X d_M_members_28 61 (by decide) (fun h => absurd h (by decide)) (fun _ => ?_)
              refine xq_iconst (v := 2) X d_M_members_31 (by decide) ?_
              refine xq_iload_n X d_M_members_32 1 rfl rfl ?_
              refine xq_imul X d_M_members_33 ?_
              refine xq_aload_n X d_M_members_34 3 rfl rfl ?_
              refine rg_row X 15 (by decide) f_M_53 d_M_members_35 ?_
              refine xq_bipush (v := 6) X d_M_members_38 (by decide) ?_
              refine xq_iload_n X d_M_members_40 2 rfl rfl ?_
              refine xq_imul X d_M_members_41 ?_
              refine xq_iload_n X d_M_members_42 0 rfl rfl ?_
              refine xq_iadd X d_M_members_43 ?_
              refine re_ald (v := (E 0)) X 0 (by decide) hk (ri_6 rfl) d_M_members_44 rfl ?_
              have J21 : ∀ (z12 : Int32), z12 = (if (E 0) = 0 then 0 else 1) → xq_W p l e (xq_r 1) s m args below meth c D vcl rc_cs ad (rc_en ad cI cZ) 0 0 (MQ below (xq_Q D vcl rc_cs ad (rc_en ad cI cZ) (some (.int (r_M_members5 k F E g))) (rc_ov A k F E T g f)) args s 0 0 (xq_in rc_cs ad)) 4 53 [(3, .int 0), (2, .int ((2 * ((2 * ((2 * (0 + z4)) + z6)) + z8)) + z10)), (1, .int (nI k)), (0, .ref (ad (6, 0)))] [.int z12, .int (2 * ((2 * ((2 * ((2 * (0 + z4)) + z6)) + z8)) + z10))] (rc_ov A k F E T g f) := by
                intro z12 e22
                refine xq_iadd X d_M_members_53 ?_
                refine xq_istore_n X d_M_members_54 [(2, .int ((2 * ((2 * ((2 * ((2 * (0 + z4)) + z6)) + z8)) + z10)) + z12)), (3, .int 0), (1, .int (nI k)), (0, .ref (ad (6, 0)))] rfl rfl (by decide) ?_
                refine xq_sub [1, 0, 2, 3] [(3, .int 0), (2, .int ((2 * ((2 * ((2 * ((2 * (0 + z4)) + z6)) + z8)) + z10)) + z12)), (1, .int (nI k)), (0, .ref (ad (6, 0)))] rfl ?_
                refine xq_iinc X d_M_members_55 0 rfl [(3, .int (-1)), (2, .int ((2 * ((2 * ((2 * ((2 * (0 + z4)) + z6)) + z8)) + z10)) + z12)), (1, .int (nI k)), (0, .ref (ad (6, 0)))] rfl (by decide) (by decide) ?_
                refine xq_goto X d_M_members_58 27 (by decide) ?_
                refine xq_iload_n X d_M_members_27 0 rfl rfl ?_
                refine xq_if_lt X d_M_members_28 61 (by decide) (fun _ => ?_) (fun h => absurd h (by decide))
                refine xq_iload_n X d_M_members_61 1 rfl rfl ?_
                have hh : (r_M_members5 k F E g) = ((2 * ((2 * ((2 * ((2 * (0 + z4)) + z6)) + z8)) + z10)) + z12) := by subst e14; subst e16; subst e18; subst e20; subst e22; exact ((if_neg h1).trans (if_neg h2))
                exact xq_iret X rfl rfl (by rw [hh]) rfl d_M_members_62
              refine xq_if_eq X d_M_members_45 52 (by decide) (fun h11 => ?_) (fun h11 => ?_)
              · skip
                refine xq_iconst (v := 0) X d_M_members_52 (by decide) ?_
                exact J21 _ (if_pos h11).symm
              · skip
                refine xq_iconst (v := 1) X d_M_members_48 (by decide) ?_
                refine xq_goto X d_M_members_49 53 (by decide) ?_
                exact J21 _ (if_neg h11).symm
            refine xq_if_eq X d_M_members_45 52 (by decide) (fun h9 => ?_) (fun h9 => ?_)
            · skip
              refine xq_iconst (v := 0) X d_M_members_52 (by decide) ?_
              exact J19 _ (if_pos h9).symm
            · skip
              refine xq_iconst (v := 1) X d_M_members_48 (by decide) ?_
              refine xq_goto X d_M_members_49 53 (by decide) ?_
              exact J19 _ (if_neg h9).symm
          refine xq_if_eq X d_M_members_45 52 (by decide) (fun h7 => ?_) (fun h7 => ?_)
          · skip
            refine xq_iconst (v := 0) X d_M_members_52 (by decide) ?_
            exact J17 _ (if_pos h7).symm
          · skip
            refine xq_iconst (v := 1) X d_M_members_48 (by decide) ?_
            refine xq_goto X d_M_members_49 53 (by decide) ?_
            exact J17 _ (if_neg h7).symm
        refine xq_if_eq X d_M_members_45 52 (by decide) (fun h5 => ?_) (fun h5 => ?_)
        · skip
          refine xq_iconst (v := 0) X d_M_members_52 (by decide) ?_
          exact J15 _ (if_pos h5).symm
        · skip
          refine xq_iconst (v := 1) X d_M_members_48 (by decide) ?_
          refine xq_goto X d_M_members_49 53 (by decide) ?_
          exact J15 _ (if_neg h5).symm
      refine xq_if_eq X d_M_members_45 52 (by decide) (fun h3 => ?_) (fun h3 => ?_)
      · skip
        refine xq_iconst (v := 0) X d_M_members_52 (by decide) ?_
        exact J13 _ (if_pos h3).symm
      · skip
        refine xq_iconst (v := 1) X d_M_members_48 (by decide) ?_
        refine xq_goto X d_M_members_49 53 (by decide) ?_
        exact J13 _ (if_neg h3).symm
    · skip
      refine xq_iconst (v := (-1)) X d_M_members_16 (by decide) ?_
      have hh : (r_M_members5 k F E g) = (-1) := by exact ((if_neg h1).trans (if_pos h2))
      exact xq_iret X rfl rfl (by rw [hh]) rfl d_M_members_17
def r_M_members6 (k : Nat) (F : Nat → Int32) (E : Nat → Int32) (g : Nat → Int32) : Int32 := (if (r_M_isNode g (nI k)) = 0 then (-1) else (if (r_M_inside F) = 0 then (-1) else (let z4 : Int32 := (if (E 5) = 0 then 0 else 1); (let z6 : Int32 := (if (E 4) = 0 then 0 else 1); (let z8 : Int32 := (if (E 3) = 0 then 0 else 1); (let z10 : Int32 := (if (E 2) = 0 then 0 else 1); (let z12 : Int32 := (if (E 1) = 0 then 0 else 1); (let z14 : Int32 := (if (E 0) = 0 then 0 else 1); ((2 * ((2 * ((2 * ((2 * ((2 * (0 + z4)) + z6)) + z8)) + z10)) + z12)) + z14)))))))))
set_option maxHeartbeats 4000000 in
set_option maxRecDepth 100000 in
theorem rt_M_members6 {l : Launch} {D : va_G} {ad : xq_I → Nat} {cI cZ cN : ClassId} (hap : xq_ap rc_cs ad) {k : Nat} (hk : k < 6) {A : rc_A} {F E T g f : Nat → Int32} (hg : (g 0) = 6) :
    xq_M l D vcl (kc_tys cI cZ cN) rc_cs ad (rc_en ad cI cZ) y_M_members (Cond.code y_M_members b_M_members 4 (some .int) :: xw) 1 [.ref (ad (6, 0)), .int (nI k)] (rc_ov A k F E T g f) (some (.int (r_M_members6 k F E g))) (rc_ov A k F E T g f) := by
  refine xq_met (by decide) (Nat.le_of_ble_eq_true rfl) hap ?_
  intro p e s m args below meth c X
  refine xq_sub [1, 0] [(1, .int (nI k)), (0, .ref (ad (6, 0)))] rfl ?_
  refine xq_aload_n X d_M_members_0 1 rfl rfl ?_
  refine xq_iload_n X d_M_members_1 0 rfl rfl ?_
  refine rk_callI (As := [.int (nI k)]) (rest := []) X xw_g g_M_75 (rt_M_isNode hap hk (nI k)) rfl rfl (by decide) (Nat.le_of_ble_eq_true rfl) rfl d_M_members_2 ?_
  refine xq_if_eq X d_M_members_5 16 (by decide) (fun h1 => ?_) (fun h1 => ?_)
  · skip
    refine xq_iconst (v := (-1)) X d_M_members_16 (by decide) ?_
    have hh : (r_M_members6 k F E g) = (-1) := by exact (if_pos h1)
    exact xq_iret X rfl rfl (by rw [hh]) rfl d_M_members_17
  · skip
    refine xq_aload_n X d_M_members_8 1 rfl rfl ?_
    refine xq_iload_n X d_M_members_9 0 rfl rfl ?_
    refine rk_callI (As := [.int (nI k)]) (rest := []) X xw_g g_M_86 (rt_M_inside hap hk) rfl rfl (by decide) (Nat.le_of_ble_eq_true rfl) rfl d_M_members_10 ?_
    refine xq_if_ne X d_M_members_13 18 (by decide) (fun h2 => ?_) (fun h2 => ?_)
    · skip
      refine xq_iconst (v := 0) X d_M_members_18 (by decide) ?_
      refine xq_istore_n X d_M_members_19 [(2, .int 0), (1, .int (nI k)), (0, .ref (ad (6, 0)))] rfl rfl (by decide) ?_
      refine xq_aload_n X d_M_members_20 2 rfl rfl ?_
      refine rg_get (v := 6) X 0 (by decide) f_M_72 d_M_members_21 hg ?_
      refine xq_iconst (v := 1) X d_M_members_24 (by decide) ?_
      refine xq_isub X d_M_members_25 ?_
      refine xq_top 5 (by decide) ?_
      refine xq_istore_n X d_M_members_26 [(3, .int 5), (2, .int 0), (1, .int (nI k)), (0, .ref (ad (6, 0)))] rfl rfl (by decide) ?_
      refine xq_iload_n X d_M_members_27 0 rfl rfl ?_
      refine xq_if_lt X d_M_members_28 61 (by decide) (fun h => absurd h (by decide)) (fun _ => ?_)
      refine xq_iconst (v := 2) X d_M_members_31 (by decide) ?_
      refine xq_iload_n X d_M_members_32 1 rfl rfl ?_
      refine xq_imul X d_M_members_33 ?_
      refine xq_top 0 (by decide) ?_
      refine xq_aload_n X d_M_members_34 3 rfl rfl ?_
      refine rg_row X 15 (by decide) f_M_53 d_M_members_35 ?_
      refine xq_bipush (v := 6) X d_M_members_38 (by decide) ?_
      refine xq_iload_n X d_M_members_40 2 rfl rfl ?_
      refine xq_imul X d_M_members_41 ?_
      refine xq_iload_n X d_M_members_42 0 rfl rfl ?_
      refine xq_iadd X d_M_members_43 ?_
      refine re_ald (v := (E 5)) X 5 (by decide) hk (ri_6 rfl) d_M_members_44 rfl ?_
      have J15 : ∀ (z4 : Int32), z4 = (if (E 5) = 0 then 0 else 1) → xq_W p l e (xq_r 1) s m args below meth c D vcl rc_cs ad (rc_en ad cI cZ) 0 0 (MQ below (xq_Q D vcl rc_cs ad (rc_en ad cI cZ) (some (.int (r_M_members6 k F E g))) (rc_ov A k F E T g f)) args s 0 0 (xq_in rc_cs ad)) 4 53 [(3, .int 5), (2, .int 0), (1, .int (nI k)), (0, .ref (ad (6, 0)))] [.int z4, .int 0] (rc_ov A k F E T g f) := by
        intro z4 e16
        refine xq_iadd X d_M_members_53 ?_
        refine xq_istore_n X d_M_members_54 [(2, .int (0 + z4)), (3, .int 5), (1, .int (nI k)), (0, .ref (ad (6, 0)))] rfl rfl (by decide) ?_
        refine xq_sub [1, 0, 2, 3] [(3, .int 5), (2, .int (0 + z4)), (1, .int (nI k)), (0, .ref (ad (6, 0)))] rfl ?_
        refine xq_iinc X d_M_members_55 0 rfl [(3, .int 4), (2, .int (0 + z4)), (1, .int (nI k)), (0, .ref (ad (6, 0)))] rfl (by decide) (by decide) ?_
        refine xq_goto X d_M_members_58 27 (by decide) ?_
        refine xq_iload_n X d_M_members_27 0 rfl rfl ?_
        refine xq_if_lt X d_M_members_28 61 (by decide) (fun h => absurd h (by decide)) (fun _ => ?_)
        refine xq_iconst (v := 2) X d_M_members_31 (by decide) ?_
        refine xq_iload_n X d_M_members_32 1 rfl rfl ?_
        refine xq_imul X d_M_members_33 ?_
        refine xq_aload_n X d_M_members_34 3 rfl rfl ?_
        refine rg_row X 15 (by decide) f_M_53 d_M_members_35 ?_
        refine xq_bipush (v := 6) X d_M_members_38 (by decide) ?_
        refine xq_iload_n X d_M_members_40 2 rfl rfl ?_
        refine xq_imul X d_M_members_41 ?_
        refine xq_iload_n X d_M_members_42 0 rfl rfl ?_
        refine xq_iadd X d_M_members_43 ?_
        refine re_ald (v := (E 4)) X 4 (by decide) hk (ri_6 rfl) d_M_members_44 rfl ?_
        have J17 : ∀ (z6 : Int32), z6 = (if (E 4) = 0 then 0 else 1) → xq_W p l e (xq_r 1) s m args below meth c D vcl rc_cs ad (rc_en ad cI cZ) 0 0 (MQ below (xq_Q D vcl rc_cs ad (rc_en ad cI cZ) (some (.int (r_M_members6 k F E g))) (rc_ov A k F E T g f)) args s 0 0 (xq_in rc_cs ad)) 4 53 [(3, .int 4), (2, .int (0 + z4)), (1, .int (nI k)), (0, .ref (ad (6, 0)))] [.int z6, .int (2 * (0 + z4))] (rc_ov A k F E T g f) := by
          intro z6 e18
          refine xq_iadd X d_M_members_53 ?_
          refine xq_istore_n X d_M_members_54 [(2, .int ((2 * (0 + z4)) + z6)), (3, .int 4), (1, .int (nI k)), (0, .ref (ad (6, 0)))] rfl rfl (by decide) ?_
          refine xq_sub [1, 0, 2, 3] [(3, .int 4), (2, .int ((2 * (0 + z4)) + z6)), (1, .int (nI k)), (0, .ref (ad (6, 0)))] rfl ?_
          refine xq_iinc X d_M_members_55 0 rfl [(3, .int 3), (2, .int ((2 * (0 + z4)) + z6)), (1, .int (nI k)), (0, .ref (ad (6, 0)))] rfl (by decide) (by decide) ?_
          refine xq_goto X d_M_members_58 27 (by decide) ?_
          refine xq_iload_n X d_M_members_27 0 rfl rfl ?_
          refine xq_if_lt X d_M_members_28 61 (by decide) (fun h => absurd h (by decide)) (fun _ => ?_)
          refine xq_iconst (v := 2) X d_M_members_31 (by decide) ?_
          refine xq_iload_n X d_M_members_32 1 rfl rfl ?_
          refine xq_imul X d_M_members_33 ?_
          refine xq_aload_n X d_M_members_34 3 rfl rfl ?_
          refine rg_row X 15 (by decide) f_M_53 d_M_members_35 ?_
          refine xq_bipush (v := 6) X d_M_members_38 (by decide) ?_
          refine xq_iload_n X d_M_members_40 2 rfl rfl ?_
          refine xq_imul X d_M_members_41 ?_
          refine xq_iload_n X d_M_members_42 0 rfl rfl ?_
          refine xq_iadd X d_M_members_43 ?_
          refine re_ald (v := (E 3)) X 3 (by decide) hk (ri_6 rfl) d_M_members_44 rfl ?_
          have J19 : ∀ (z8 : Int32), z8 = (if (E 3) = 0 then 0 else 1) → xq_W p l e (xq_r 1) s m args below meth c D vcl rc_cs ad (rc_en ad cI cZ) 0 0 (MQ below (xq_Q D vcl rc_cs ad (rc_en ad cI cZ) (some (.int (r_M_members6 k F E g))) (rc_ov A k F E T g f)) args s 0 0 (xq_in rc_cs ad)) 4 53 [(3, .int 3), (2, .int ((2 * (0 + z4)) + z6)), (1, .int (nI k)), (0, .ref (ad (6, 0)))] [.int z8, .int (2 * ((2 * (0 + z4)) + z6))] (rc_ov A k F E T g f) := by
            intro z8 e20
            refine xq_iadd X d_M_members_53 ?_
            refine xq_istore_n X d_M_members_54 [(2, .int ((2 * ((2 * (0 + z4)) + z6)) + z8)), (3, .int 3), (1, .int (nI k)), (0, .ref (ad (6, 0)))] rfl rfl (by decide) ?_
            refine xq_sub [1, 0, 2, 3] [(3, .int 3), (2, .int ((2 * ((2 * (0 + z4)) + z6)) + z8)), (1, .int (nI k)), (0, .ref (ad (6, 0)))] rfl ?_
            refine xq_iinc X d_M_members_55 0 rfl [(3, .int 2), (2, .int ((2 * ((2 * (0 + z4)) + z6)) + z8)), (1, .int (nI k)), (0, .ref (ad (6, 0)))] rfl (by decide) (by decide) ?_
            refine xq_goto X d_M_members_58 27 (by decide) ?_
            refine xq_iload_n X d_M_members_27 0 rfl rfl ?_
            refine xq_if_lt X d_M_members_28 61 (by decide) (fun h => absurd h (by decide)) (fun _ => ?_)
            refine xq_iconst (v := 2) X d_M_members_31 (by decide) ?_
            refine xq_iload_n X d_M_members_32 1 rfl rfl ?_
            refine xq_imul X d_M_members_33 ?_
            refine xq_aload_n X d_M_members_34 3 rfl rfl ?_
            refine rg_row X 15 (by decide) f_M_53 d_M_members_35 ?_
            refine xq_bipush (v := 6) X d_M_members_38 (by decide) ?_
            refine xq_iload_n X d_M_members_40 2 rfl rfl ?_
            refine xq_imul X d_M_members_41 ?_
            refine xq_iload_n X d_M_members_42 0 rfl rfl ?_
            refine xq_iadd X d_M_members_43 ?_
            refine re_ald (v := (E 2)) X 2 (by decide) hk (ri_6 rfl) d_M_members_44 rfl ?_
            have J21 : ∀ (z10 : Int32), z10 = (if (E 2) = 0 then 0 else 1) → xq_W p l e (xq_r 1) s m args below meth c D vcl rc_cs ad (rc_en ad cI cZ) 0 0 (MQ below (xq_Q D vcl rc_cs ad (rc_en ad cI cZ) (some (.int (r_M_members6 k F E g))) (rc_ov A k F E T g f)) args s 0 0 (xq_in rc_cs ad)) 4 53 [(3, .int 2), (2, .int ((2 * ((2 * (0 + z4)) + z6)) + z8)), (1, .int (nI k)), (0, .ref (ad (6, 0)))] [.int z10, .int (2 * ((2 * ((2 * (0 + z4)) + z6)) + z8))] (rc_ov A k F E T g f) := by
              intro z10 e22
              refine xq_iadd X d_M_members_53 ?_
              refine xq_istore_n X d_M_members_54 [(2, .int ((2 * ((2 * ((2 * (0 + z4)) + z6)) + z8)) + z10)), (3, .int 2), (1, .int (nI k)), (0, .ref (ad (6, 0)))] rfl rfl (by decide) ?_
              refine xq_sub [1, 0, 2, 3] [(3, .int 2), (2, .int ((2 * ((2 * ((2 * (0 + z4)) + z6)) + z8)) + z10)), (1, .int (nI k)), (0, .ref (ad (6, 0)))] rfl ?_
              refine xq_iinc X d_M_members_55 0 rfl [(3, .int 1), (2, .int ((2 * ((2 * ((2 * (0 + z4)) + z6)) + z8)) + z10)), (1, .int (nI k)), (0, .ref (ad (6, 0)))] rfl (by decide) (by decide) ?_
              refine xq_goto X d_M_members_58 27 (by decide) ?_
              refine xq_iload_n X d_M_members_27 0 rfl rfl ?_
              refine xq_if_lt X d_M_members_28 61 (by decide) (fun h => absurd h (by decide)) (fun _ => ?_)
              refine xq_iconst (v := 2) X d_M_members_31 (by decide) ?_
              refine xq_iload_n X d_M_members_32 1 rfl rfl ?_
              refine xq_imul X d_M_members_33 ?_
              refine xq_aload_n X d_M_members_34 3 rfl rfl ?_
              refine rg_row X 15 (by decide) f_M_53 d_M_members_35 ?_
              refine xq_bipush (v := 6) X d_M_members_38 (by decide) ?_
              refine xq_iload_n X d_M_members_40 2 rfl rfl ?_
              refine xq_imul X d_M_members_41 ?_
              refine xq_iload_n X d_M_members_42 0 rfl rfl ?_
              refine xq_iadd X d_M_members_43 ?_
              refine re_ald (v := (E 1)) X 1 (by decide) hk (ri_6 rfl) d_M_members_44 rfl ?_
              have J23 : ∀ (z12 : Int32), z12 = (if (E 1) = 0 then 0 else 1) → xq_W p l e (xq_r 1) s m args below meth c D vcl rc_cs ad (rc_en ad cI cZ) 0 0 (MQ below (xq_Q D vcl rc_cs ad (rc_en ad cI cZ) (some (.int (r_M_members6 k F E g))) (rc_ov A k F E T g f)) args s 0 0 (xq_in rc_cs ad)) 4 53 [(3, .int 1), (2, .int ((2 * ((2 * ((2 * (0 + z4)) + z6)) + z8)) + z10)), (1, .int (nI k)), (0, .ref (ad (6, 0)))] [.int z12, .int (2 * ((2 * ((2 * ((2 * (0 + z4)) + z6)) + z8)) + z10))] (rc_ov A k F E T g f) := by
                intro z12 e24
                refine xq_iadd X d_M_members_53 ?_
                refine xq_istore_n X d_M_members_54 [(2, .int ((2 * ((2 * ((2 * ((2 * (0 + z4)) + z6)) + z8)) + z10)) + z12)), (3, .int 1), (1, .int (nI k)), (0, .ref (ad (6, 0)))] rfl rfl (by decide) ?_
                refine xq_sub [1, 0, 2, 3] [(3, .int 1), (2, .int ((2 * ((2 * ((2 * ((2 * (0 + z4)) + z6)) + z8)) + z10)) + z12)), (1, .int (nI k)), (0, .ref (ad (6, 0)))] rfl ?_
                refine xq_iinc X d_M_members_55 0 rfl [(3, .int 0), (2, .int ((2 * ((2 * ((2 * ((2 * (0 + z4)) + z6)) + z8)) + z10)) + z12)), (1, .int (nI k)), (0, .ref (ad (6, 0)))] rfl (by decide) (by decide) ?_
                refine xq_goto X d_M_members_58 27 (by decide) ?_
                refine xq_iload_n X d_M_members_27 0 rfl rfl ?_
                refine xq_if_lt X d_M_members_28 61 (by decide) (fun h => absurd h (by decide)) (fun _ => ?_)
                refine xq_iconst (v := 2) X d_M_members_31 (by decide) ?_
                refine xq_iload_n X d_M_members_32 1 rfl rfl ?_
                refine xq_imul X d_M_members_33 ?_
                refine xq_aload_n X d_M_members_34 3 rfl rfl ?_
                refine rg_row X 15 (by decide) f_M_53 d_M_members_35 ?_
                refine xq_bipush (v := 6) X d_M_members_38 (by decide) ?_
                refine xq_iload_n X d_M_members_40 2 rfl rfl ?_
                refine xq_imul X d_M_members_41 ?_
                refine xq_iload_n X d_M_members_42 0 rfl rfl ?_
                refine xq_iadd X d_M_members_43 ?_
                refine re_ald (v := (E 0)) X 0 (by decide) hk (ri_6 rfl) d_M_members_44 rfl ?_
                have J25 : ∀ (z14 : Int32), z14 = (if (E 0) = 0 then 0 else 1) → xq_W p l e (xq_r 1) s m args below meth c D vcl rc_cs ad (rc_en ad cI cZ) 0 0 (MQ below (xq_Q D vcl rc_cs ad (rc_en ad cI cZ) (some (.int (r_M_members6 k F E g))) (rc_ov A k F E T g f)) args s 0 0 (xq_in rc_cs ad)) 4 53 [(3, .int 0), (2, .int ((2 * ((2 * ((2 * ((2 * (0 + z4)) + z6)) + z8)) + z10)) + z12)), (1, .int (nI k)), (0, .ref (ad (6, 0)))] [.int z14, .int (2 * ((2 * ((2 * ((2 * ((2 * (0 + z4)) + z6)) + z8)) + z10)) + z12))] (rc_ov A k F E T g f) := by
                  intro z14 e26
                  refine xq_iadd X d_M_members_53 ?_
                  refine xq_istore_n X d_M_members_54 [(2, .int ((2 * ((2 * ((2 * ((2 * ((2 * (0 + z4)) + z6)) + z8)) + z10)) + z12)) + z14)), (3, .int 0), (1, .int (nI k)), (0, .ref (ad (6, 0)))] rfl rfl (by decide) ?_
                  refine xq_sub [1, 0, 2, 3] [(3, .int 0), (2, .int ((2 * ((2 * ((2 * ((2 * ((2 * (0 + z4)) + z6)) + z8)) + z10)) + z12)) + z14)), (1, .int (nI k)), (0, .ref (ad (6, 0)))] rfl ?_
                  refine xq_iinc X d_M_members_55 0 rfl [(3, .int (-1)), (2, .int ((2 * ((2 * ((2 * ((2 * ((2 * (0 + z4)) + z6)) + z8)) + z10)) + z12)) + z14)), (1, .int (nI k)), (0, .ref (ad (6, 0)))] rfl (by decide) (by decide) ?_
                  refine xq_goto X d_M_members_58 27 (by decide) ?_
                  refine xq_iload_n X d_M_members_27 0 rfl rfl ?_
                  refine xq_if_lt X d_M_members_28 61 (by decide) (fun _ => ?_) (fun h => absurd h (by decide))
                  refine xq_iload_n X d_M_members_61 1 rfl rfl ?_
                  have hh : (r_M_members6 k F E g) = ((2 * ((2 * ((2 * ((2 * ((2 * (0 + z4)) + z6)) + z8)) + z10)) + z12)) + z14) := by subst e16; subst e18; subst e20; subst e22; subst e24; subst e26; exact ((if_neg h1).trans (if_neg h2))
                  exact xq_iret X rfl rfl (by rw [hh]) rfl d_M_members_62
                refine xq_if_eq X d_M_members_45 52 (by decide) (fun h13 => ?_) (fun h13 => ?_)
                · skip
                  refine xq_iconst (v := 0) X d_M_members_52 (by decide) ?_
                  exact J25 _ (if_pos h13).symm
                · skip
                  refine xq_iconst (v := 1) X d_M_members_48 (by decide) ?_
                  refine xq_goto X d_M_members_49 53 (by decide) ?_
                  exact J25 _ (if_neg h13).symm
              refine xq_if_eq X d_M_members_45 52 (by decide) (fun h11 => ?_) (fun h11 => ?_)
              · skip
                refine xq_iconst (v := 0) X d_M_members_52 (by decide) ?_
                exact J23 _ (if_pos h11).symm
              · skip
                refine xq_iconst (v := 1) X d_M_members_48 (by decide) ?_
                refine xq_goto X d_M_members_49 53 (by decide) ?_
                exact J23 _ (if_neg h11).symm
            refine xq_if_eq X d_M_members_45 52 (by decide) (fun h9 => ?_) (fun h9 => ?_)
            · skip
              refine xq_iconst (v := 0) X d_M_members_52 (by decide) ?_
              exact J21 _ (if_pos h9).symm
            · skip
              refine xq_iconst (v := 1) X d_M_members_48 (by decide) ?_
              refine xq_goto X d_M_members_49 53 (by decide) ?_
              exact J21 _ (if_neg h9).symm
          refine xq_if_eq X d_M_members_45 52 (by decide) (fun h7 => ?_) (fun h7 => ?_)
          · skip
            refine xq_iconst (v := 0) X d_M_members_52 (by decide) ?_
            exact J19 _ (if_pos h7).symm
          · skip
            refine xq_iconst (v := 1) X d_M_members_48 (by decide) ?_
            refine xq_goto X d_M_members_49 53 (by decide) ?_
            exact J19 _ (if_neg h7).symm
        refine xq_if_eq X d_M_members_45 52 (by decide) (fun h5 => ?_) (fun h5 => ?_)
        · skip
          refine xq_iconst (v := 0) X d_M_members_52 (by decide) ?_
          exact J17 _ (if_pos h5).symm
        · skip
          refine xq_iconst (v := 1) X d_M_members_48 (by decide) ?_
          refine xq_goto X d_M_members_49 53 (by decide) ?_
          exact J17 _ (if_neg h5).symm
      refine xq_if_eq X d_M_members_45 52 (by decide) (fun h3 => ?_) (fun h3 => ?_)
      · skip
        refine xq_iconst (v := 0) X d_M_members_52 (by decide) ?_
        exact J15 _ (if_pos h3).symm
      · skip
        refine xq_iconst (v := 1) X d_M_members_48 (by decide) ?_
        refine xq_goto X d_M_members_49 53 (by decide) ?_
        exact J15 _ (if_neg h3).symm
    · skip
      refine xq_iconst (v := (-1)) X d_M_members_16 (by decide) ?_
      have hh : (r_M_members6 k F E g) = (-1) := by exact ((if_neg h1).trans (if_pos h2))
      exact xq_iret X rfl rfl (by rw [hh]) rfl d_M_members_17
def r_M_members (n : Nat) (k : Nat) (F E g : Nat → Int32)  : Int32 := if n = 4 then r_M_members4 k F E g  else if n = 5 then r_M_members5 k F E g  else r_M_members6 k F E g 
theorem rt_M_members {l : Launch} {D : va_G} {ad : xq_I → Nat} {cI cZ cN : ClassId} (hap : xq_ap rc_cs ad) {k : Nat} (hk : k < 6) {A : rc_A} {F E T g f : Nat → Int32}  (n : Nat) (hn : n = 4 ∨ n = 5 ∨ n = 6) (hg : (g 0) = nI n) :
    xq_M l D vcl (kc_tys cI cZ cN) rc_cs ad (rc_en ad cI cZ) y_M_members (Cond.code y_M_members b_M_members 4 (some .int) :: xw) 1 [.ref (ad (6, 0)), .int (nI k)] (rc_ov A k F E T g f) (some (.int (r_M_members n k F E g ))) (rc_ov A k F E T g f) := by
  rcases hn with rfl | rfl | rfl
  · exact rt_M_members4 hap hk  hg
  · exact rt_M_members5 hap hk  hg
  · exact rt_M_members6 hap hk  hg
