def r_M_insides (k : Nat) (n : Nat) (t : Nat) (cn : Nat) (u : Nat) (F : Nat → Int32) (E : Nat → Int32) (T : Nat → Int32) (g : Nat → Int32) (f : Nat → Int32) (y : Int32) : (Nat → Int32) × (Nat → Int32) × (Nat → Int32) := (let z7 : Nat → Int32 := (if y = 0 then F else (if y < 3 then (r_M_bad t F E).1 else (if (g 21) = (F 2) then (if (g 22) = (F 3) then (if ((g 23) - (F 11)) < (-60) then (r_M_bad t F E).1 else (if ((g 23) - (F 11)) ≤ 60 then (r_M_compared k n t cn u F E T g f).1 else (r_M_bad t F E).1)) else (r_M_bad t F E).1) else (r_M_bad t F E).1))); let z8 : Nat → Int32 := (if y = 0 then (upd E t 0) else (if y < 3 then (r_M_bad t F E).2 else (if (g 21) = (F 2) then (if (g 22) = (F 3) then (if ((g 23) - (F 11)) < (-60) then (r_M_bad t F E).2 else (if ((g 23) - (F 11)) ≤ 60 then (r_M_compared k n t cn u F E T g f).2.1 else (r_M_bad t F E).2)) else (r_M_bad t F E).2) else (r_M_bad t F E).2))); let z9 : Nat → Int32 := (if y = 0 then T else (if y < 3 then T else (if (g 21) = (F 2) then (if (g 22) = (F 3) then (if ((g 23) - (F 11)) < (-60) then T else (if ((g 23) - (F 11)) ≤ 60 then (r_M_compared k n t cn u F E T g f).2.2 else T)) else T) else T))); (z7, z8, z9))
set_option maxHeartbeats 4000000 in
set_option maxRecDepth 100000 in
theorem rt_M_insides {l : Launch} {D : va_G} {ad : xq_I → Nat} {cI cZ cN : ClassId} (hap : xq_ap rc_cs ad) {k : Nat} (hk : k < 6) {A : rc_A} {F E T g f : Nat → Int32} (y : Int32) (n : Nat) (hn : n = 4 ∨ n = 5 ∨ n = 6) (hg : (g 0) = nI n) (t : Nat) (htl : t < 6) (ht : (F 2) = nI t) (cn : Nat) (hcl : cn ≤ 4) (hc : (F 17) = nI cn) (u : Nat) (hul : u < 6) (hu : (F 10) = nI u) :
    xq_M l D vcl (kc_tys cI cZ cN) rc_cs ad (rc_en ad cI cZ) y_M_insides (Cond.code y_M_insides b_M_insides 4 none :: xw) 2 [.ref (ad (6, 0)), .int (nI k), .int y] (rc_ov A k F E T g f) none (rc_ov A k (r_M_insides k n t cn u F E T g f y).1 (r_M_insides k n t cn u F E T g f y).2.1 (r_M_insides k n t cn u F E T g f y).2.2 g f) := by
  refine xq_met (by decide) (Nat.le_of_ble_eq_true rfl) hap ?_
  intro p e s m args below meth c X
  refine xq_sub [2, 1, 0] [(2, .int y), (1, .int (nI k)), (0, .ref (ad (6, 0)))] rfl ?_
  refine xq_aload_n X d_M_insides_0 2 rfl rfl ?_
  refine rg_get (v := (g 23)) X 23 (by decide) f_M_105 d_M_insides_1 rfl ?_
  refine xq_aload_n X d_M_insides_4 2 rfl rfl ?_
  refine rg_row X 11 (by decide) f_M_41 d_M_insides_5 ?_
  refine xq_iload_n X d_M_insides_8 1 rfl rfl ?_
  refine rn_ald (v := (F 11)) X 11 (by decide) hk rfl d_M_insides_9 rfl ?_
  refine xq_isub X d_M_insides_10 ?_
  refine xq_istore_n X d_M_insides_11 [(3, .int ((g 23) - (F 11))), (2, .int y), (1, .int (nI k)), (0, .ref (ad (6, 0)))] rfl rfl (by decide) ?_
  refine xq_iload_n X d_M_insides_12 1 rfl rfl ?_
  have J10 : ∀ (z7 : Nat → Int32) (z8 : Nat → Int32) (z9 : Nat → Int32), z7 = (if y = 0 then F else (if y < 3 then (r_M_bad t F E).1 else (if (g 21) = (F 2) then (if (g 22) = (F 3) then (if ((g 23) - (F 11)) < (-60) then (r_M_bad t F E).1 else (if ((g 23) - (F 11)) ≤ 60 then (r_M_compared k n t cn u F E T g f).1 else (r_M_bad t F E).1)) else (r_M_bad t F E).1) else (r_M_bad t F E).1))) → z8 = (if y = 0 then (upd E t 0) else (if y < 3 then (r_M_bad t F E).2 else (if (g 21) = (F 2) then (if (g 22) = (F 3) then (if ((g 23) - (F 11)) < (-60) then (r_M_bad t F E).2 else (if ((g 23) - (F 11)) ≤ 60 then (r_M_compared k n t cn u F E T g f).2.1 else (r_M_bad t F E).2)) else (r_M_bad t F E).2) else (r_M_bad t F E).2))) → z9 = (if y = 0 then T else (if y < 3 then T else (if (g 21) = (F 2) then (if (g 22) = (F 3) then (if ((g 23) - (F 11)) < (-60) then T else (if ((g 23) - (F 11)) ≤ 60 then (r_M_compared k n t cn u F E T g f).2.2 else T)) else T) else T))) → xq_W p l e (xq_r 2) s m args below meth c D vcl rc_cs ad (rc_en ad cI cZ) 0 0 (MQ below (xq_Q D vcl rc_cs ad (rc_en ad cI cZ) none (rc_ov A k (r_M_insides k n t cn u F E T g f y).1 (r_M_insides k n t cn u F E T g f y).2.1 (r_M_insides k n t cn u F E T g f y).2.2 g f)) args s 0 0 (xq_in rc_cs ad)) 4 92 [(3, .int ((g 23) - (F 11))), (2, .int y), (1, .int (nI k)), (0, .ref (ad (6, 0)))] [] (rc_ov A k z7 z8 z9 g f) := by
    intro z7 z8 z9 e11 e12 e13
    have hh : (r_M_insides k n t cn u F E T g f y) = (z7, z8, z9) := by subst e11; subst e12; subst e13; exact rfl
    exact xq_vret X rfl (by rw [hh]) d_M_insides_92
  refine xq_if_ne X d_M_insides_13 36 (by decide) (fun h1 => ?_) (fun h1 => ?_)
  · skip
    refine xq_iload_n X d_M_insides_36 1 rfl rfl ?_
    refine xq_iconst (v := 3) X d_M_insides_37 (by decide) ?_
    refine xq_icmp_lt X d_M_insides_38 79 (by decide) (fun h2 => ?_) (fun h2 => ?_)
    · skip
      refine xq_aload_n X d_M_insides_79 3 rfl rfl ?_
      refine xq_iload_n X d_M_insides_80 2 rfl rfl ?_
      refine rk_callV (As := [.int (nI k)]) (rest := []) X xw_g g_M_118 (rt_M_bad hap hk (F := F) (E := E) (T := T) (g := g) (f := f) t htl ht) rfl rfl (by decide) (Nat.le_of_ble_eq_true rfl) rfl d_M_insides_81 ?_
      refine xq_goto X d_M_insides_84 92 (by decide) ?_
      exact J10 _ _ _ ((if_neg h1).trans (if_pos h2)).symm ((if_neg h1).trans (if_pos h2)).symm ((if_neg h1).trans (if_pos h2)).symm
    · skip
      refine xq_aload_n X d_M_insides_41 3 rfl rfl ?_
      refine rg_get (v := (g 21)) X 21 (by decide) f_M_96 d_M_insides_42 rfl ?_
      refine xq_aload_n X d_M_insides_45 3 rfl rfl ?_
      refine rg_row X 2 (by decide) f_M_13 d_M_insides_46 ?_
      refine xq_iload_n X d_M_insides_49 2 rfl rfl ?_
      refine rn_ald (v := (F 2)) X 2 (by decide) hk rfl d_M_insides_50 rfl ?_
      refine xq_icmp_ne X d_M_insides_51 79 (by decide) (fun h3 => ?_) (fun h3 => ?_)
      · skip
        refine xq_aload_n X d_M_insides_79 3 rfl rfl ?_
        refine xq_iload_n X d_M_insides_80 2 rfl rfl ?_
        refine rk_callV (As := [.int (nI k)]) (rest := []) X xw_g g_M_118 (rt_M_bad hap hk (F := F) (E := E) (T := T) (g := g) (f := f) t htl ht) rfl rfl (by decide) (Nat.le_of_ble_eq_true rfl) rfl d_M_insides_81 ?_
        refine xq_goto X d_M_insides_84 92 (by decide) ?_
        exact J10 _ _ _ ((if_neg h1).trans ((if_neg h2).trans (if_neg h3))).symm ((if_neg h1).trans ((if_neg h2).trans (if_neg h3))).symm ((if_neg h1).trans ((if_neg h2).trans (if_neg h3))).symm
      · skip
        refine xq_aload_n X d_M_insides_54 3 rfl rfl ?_
        refine rg_get (v := (g 22)) X 22 (by decide) f_M_102 d_M_insides_55 rfl ?_
        refine xq_aload_n X d_M_insides_58 3 rfl rfl ?_
        refine rg_row X 3 (by decide) f_M_16 d_M_insides_59 ?_
        refine xq_iload_n X d_M_insides_62 2 rfl rfl ?_
        refine rn_ald (v := (F 3)) X 3 (by decide) hk rfl d_M_insides_63 rfl ?_
        refine xq_icmp_ne X d_M_insides_64 79 (by decide) (fun h4 => ?_) (fun h4 => ?_)
        · skip
          refine xq_aload_n X d_M_insides_79 3 rfl rfl ?_
          refine xq_iload_n X d_M_insides_80 2 rfl rfl ?_
          refine rk_callV (As := [.int (nI k)]) (rest := []) X xw_g g_M_118 (rt_M_bad hap hk (F := F) (E := E) (T := T) (g := g) (f := f) t htl ht) rfl rfl (by decide) (Nat.le_of_ble_eq_true rfl) rfl d_M_insides_81 ?_
          refine xq_goto X d_M_insides_84 92 (by decide) ?_
          exact J10 _ _ _ ((if_neg h1).trans ((if_neg h2).trans ((if_pos h3).trans (if_neg h4)))).symm ((if_neg h1).trans ((if_neg h2).trans ((if_pos h3).trans (if_neg h4)))).symm ((if_neg h1).trans ((if_neg h2).trans ((if_pos h3).trans (if_neg h4)))).symm
        · skip
          refine xq_iload_n X d_M_insides_67 0 rfl rfl ?_
          refine xq_bipush (v := (-60)) X d_M_insides_68 (by decide) ?_
          refine xq_icmp_lt X d_M_insides_70 79 (by decide) (fun h5 => ?_) (fun h5 => ?_)
          · skip
            refine xq_aload_n X d_M_insides_79 3 rfl rfl ?_
            refine xq_iload_n X d_M_insides_80 2 rfl rfl ?_
            refine rk_callV (As := [.int (nI k)]) (rest := []) X xw_g g_M_118 (rt_M_bad hap hk (F := F) (E := E) (T := T) (g := g) (f := f) t htl ht) rfl rfl (by decide) (Nat.le_of_ble_eq_true rfl) rfl d_M_insides_81 ?_
            refine xq_goto X d_M_insides_84 92 (by decide) ?_
            exact J10 _ _ _ ((if_neg h1).trans ((if_neg h2).trans ((if_pos h3).trans ((if_pos h4).trans (if_pos h5))))).symm ((if_neg h1).trans ((if_neg h2).trans ((if_pos h3).trans ((if_pos h4).trans (if_pos h5))))).symm ((if_neg h1).trans ((if_neg h2).trans ((if_pos h3).trans ((if_pos h4).trans (if_pos h5))))).symm
          · skip
            refine xq_iload_n X d_M_insides_73 0 rfl rfl ?_
            refine xq_bipush (v := 60) X d_M_insides_74 (by decide) ?_
            refine xq_icmp_le X d_M_insides_76 87 (by decide) (fun h6 => ?_) (fun h6 => ?_)
            · skip
              refine xq_aload_n X d_M_insides_87 3 rfl rfl ?_
              refine xq_iload_n X d_M_insides_88 2 rfl rfl ?_
              refine rk_callV (As := [.int (nI k)]) (rest := []) X xw_g g_M_121 (rt_M_compared hap hk (F := F) (E := E) (T := T) (g := g) (f := f) n hn hg t htl ht cn hcl hc u hul hu) rfl rfl (by decide) (Nat.le_of_ble_eq_true rfl) rfl d_M_insides_89 ?_
              exact J10 _ _ _ ((if_neg h1).trans ((if_neg h2).trans ((if_pos h3).trans ((if_pos h4).trans ((if_neg h5).trans (if_pos h6)))))).symm ((if_neg h1).trans ((if_neg h2).trans ((if_pos h3).trans ((if_pos h4).trans ((if_neg h5).trans (if_pos h6)))))).symm ((if_neg h1).trans ((if_neg h2).trans ((if_pos h3).trans ((if_pos h4).trans ((if_neg h5).trans (if_pos h6)))))).symm
            · skip
              refine xq_aload_n X d_M_insides_79 3 rfl rfl ?_
              refine xq_iload_n X d_M_insides_80 2 rfl rfl ?_
              refine rk_callV (As := [.int (nI k)]) (rest := []) X xw_g g_M_118 (rt_M_bad hap hk (F := F) (E := E) (T := T) (g := g) (f := f) t htl ht) rfl rfl (by decide) (Nat.le_of_ble_eq_true rfl) rfl d_M_insides_81 ?_
              refine xq_goto X d_M_insides_84 92 (by decide) ?_
              exact J10 _ _ _ ((if_neg h1).trans ((if_neg h2).trans ((if_pos h3).trans ((if_pos h4).trans ((if_neg h5).trans (if_neg h6)))))).symm ((if_neg h1).trans ((if_neg h2).trans ((if_pos h3).trans ((if_pos h4).trans ((if_neg h5).trans (if_neg h6)))))).symm ((if_neg h1).trans ((if_neg h2).trans ((if_pos h3).trans ((if_pos h4).trans ((if_neg h5).trans (if_neg h6)))))).symm
  · skip
    refine xq_aload_n X d_M_insides_16 3 rfl rfl ?_
    refine rg_row X 15 (by decide) f_M_53 d_M_insides_17 ?_
    refine xq_bipush (v := 6) X d_M_insides_20 (by decide) ?_
    refine xq_iload_n X d_M_insides_22 2 rfl rfl ?_
    refine xq_imul X d_M_insides_23 ?_
    refine xq_aload_n X d_M_insides_24 3 rfl rfl ?_
    refine rg_row X 2 (by decide) f_M_13 d_M_insides_25 ?_
    refine xq_iload_n X d_M_insides_28 2 rfl rfl ?_
    refine rn_ald (v := (F 2)) X 2 (by decide) hk rfl d_M_insides_29 rfl ?_
    refine xq_iadd X d_M_insides_30 ?_
    refine xq_iconst (v := 0) X d_M_insides_31 (by decide) ?_
    refine re_ast (v' := 0) X t htl hk (ri_6 ht) (by decide) d_M_insides_32 ?_
    refine xq_goto X d_M_insides_33 92 (by decide) ?_
    exact J10 _ _ _ (if_pos h1).symm (if_pos h1).symm (if_pos h1).symm
