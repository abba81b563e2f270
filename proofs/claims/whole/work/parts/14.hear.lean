def r_M_hear (k : Nat) (n : Nat) (t : Nat) (cn : Nat) (u : Nat) (F : Nat → Int32) (E : Nat → Int32) (T : Nat → Int32) (g : Nat → Int32) (f : Nat → Int32) : (Nat → Int32) × (Nat → Int32) × (Nat → Int32) := (if (F 25) = 0 then (if (F 1) = 1 then (if (g 19) = 0 then ((r_M_listens k F E g f (g 19)).1, (r_M_listens k F E g f (g 19)).2, T) else (if (F 14) = 0 then ((r_M_listens k F E g f (g 19)).1, (r_M_listens k F E g f (g 19)).2, T) else ((r_M_listens k (upd F 14 0) E g f 1).1, (r_M_listens k (upd F 14 0) E g f 1).2, T))) else (if (r_M_inside F) = 0 then (F, E, T) else (if (g 19) = 0 then ((r_M_insides k n t cn u F E T g f (g 19)).1, (r_M_insides k n t cn u F E T g f (g 19)).2.1, (r_M_insides k n t cn u F E T g f (g 19)).2.2) else (if (F 14) = 0 then ((r_M_insides k n t cn u F E T g f (g 19)).1, (r_M_insides k n t cn u F E T g f (g 19)).2.1, (r_M_insides k n t cn u F E T g f (g 19)).2.2) else ((r_M_insides k n t cn u (upd F 14 0) E T g f 1).1, (r_M_insides k n t cn u (upd F 14 0) E T g f 1).2.1, (r_M_insides k n t cn u (upd F 14 0) E T g f 1).2.2))))) else (F, E, T))
set_option maxHeartbeats 4000000 in
set_option maxRecDepth 100000 in
theorem rt_M_hear {l : Launch} {D : va_G} {ad : xq_I → Nat} {cI cZ cN : ClassId} (hap : xq_ap rc_cs ad) {k : Nat} (hk : k < 6) {A : rc_A} {F E T g f : Nat → Int32} (n : Nat) (hn : n = 4 ∨ n = 5 ∨ n = 6) (hg : (g 0) = nI n) (t : Nat) (htl : t < 6) (ht : (F 2) = nI t) (cn : Nat) (hcl : cn ≤ 4) (hc : (F 17) = nI cn) (u : Nat) (hul : u < 6) (hu : (F 10) = nI u) :
    xq_M l D vcl (kc_tys cI cZ cN) rc_cs ad (rc_en ad cI cZ) y_M_hear (Cond.code y_M_hear b_M_hear 3 none :: xw) 3 [.ref (ad (6, 0)), .int (nI k)] (rc_ov A k F E T g f) none (rc_ov A k (r_M_hear k n t cn u F E T g f).1 (r_M_hear k n t cn u F E T g f).2.1 (r_M_hear k n t cn u F E T g f).2.2 g f) := by
  refine xq_met (by decide) (Nat.le_of_ble_eq_true rfl) hap ?_
  intro p e s m args below meth c X
  refine xq_sub [1, 0] [(1, .int (nI k)), (0, .ref (ad (6, 0)))] rfl ?_
  refine xq_aload_n X d_M_hear_0 1 rfl rfl ?_
  refine rg_row X 25 (by decide) f_M_69 d_M_hear_1 ?_
  refine xq_iload_n X d_M_hear_4 0 rfl rfl ?_
  refine rz_ald (v := (F 25)) X 25 (by decide) hk rfl d_M_hear_5 rfl ?_
  refine xq_if_ne X d_M_hear_6 27 (by decide) (fun h1 => ?_) (fun h1 => ?_)
  · skip
    have hh : (r_M_hear k n t cn u F E T g f) = (F, E, T) := by exact (if_neg h1)
    exact xq_vret X rfl (by rw [hh]) d_M_hear_27
  · skip
    refine xq_aload_n X d_M_hear_9 1 rfl rfl ?_
    refine rg_row X 1 (by decide) f_M_7 d_M_hear_10 ?_
    refine xq_iload_n X d_M_hear_13 0 rfl rfl ?_
    refine rn_ald (v := (F 1)) X 1 (by decide) hk rfl d_M_hear_14 rfl ?_
    refine xq_iconst (v := 1) X d_M_hear_15 (by decide) ?_
    refine xq_icmp_eq X d_M_hear_16 28 (by decide) (fun h2 => ?_) (fun h2 => ?_)
    · skip
      refine xq_aload_n X d_M_hear_28 1 rfl rfl ?_
      refine rg_get (v := (g 19)) X 19 (by decide) f_M_99 d_M_hear_29 rfl ?_
      refine xq_istore_n X d_M_hear_32 [(2, .int (g 19)), (1, .int (nI k)), (0, .ref (ad (6, 0)))] rfl rfl (by decide) ?_
      refine xq_aload_n X d_M_hear_33 2 rfl rfl ?_
      refine rg_get (v := (g 19)) X 19 (by decide) f_M_99 d_M_hear_34 rfl ?_
      refine xq_if_eq X d_M_hear_37 58 (by decide) (fun h3 => ?_) (fun h3 => ?_)
      · skip
        refine xq_aload_n X d_M_hear_58 2 rfl rfl ?_
        refine rg_row X 1 (by decide) f_M_7 d_M_hear_59 ?_
        refine xq_iload_n X d_M_hear_62 1 rfl rfl ?_
        refine rn_ald (v := (F 1)) X 1 (by decide) hk rfl d_M_hear_63 rfl ?_
        refine xq_iconst (v := 1) X d_M_hear_64 (by decide) ?_
        refine xq_icmp_ne X d_M_hear_65 77 (by decide) (fun h => absurd h2 h) (fun _ => ?_)
        refine xq_aload_n X d_M_hear_68 2 rfl rfl ?_
        refine xq_iload_n X d_M_hear_69 1 rfl rfl ?_
        refine xq_iload_n X d_M_hear_70 0 rfl rfl ?_
        refine rk_callV (As := [.int (nI k), .int (g 19)]) (rest := []) X xw_g g_M_124 (rt_M_listens hap hk (g 19)) rfl rfl (by decide) (Nat.le_of_ble_eq_true rfl) rfl d_M_hear_71 ?_
        refine xq_goto X d_M_hear_74 83 (by decide) ?_
        have hh : (r_M_hear k n t cn u F E T g f) = ((r_M_listens k F E g f (g 19)).1, (r_M_listens k F E g f (g 19)).2, T) := by exact ((if_pos h1).trans ((if_pos h2).trans (if_pos h3)))
        exact xq_vret X rfl (by rw [hh]) d_M_hear_83
      · skip
        refine xq_aload_n X d_M_hear_40 2 rfl rfl ?_
        refine rg_row X 14 (by decide) f_M_50 d_M_hear_41 ?_
        refine xq_iload_n X d_M_hear_44 1 rfl rfl ?_
        refine rz_ald (v := (F 14)) X 14 (by decide) hk rfl d_M_hear_45 rfl ?_
        refine xq_if_eq X d_M_hear_46 58 (by decide) (fun h4 => ?_) (fun h4 => ?_)
        · skip
          refine xq_aload_n X d_M_hear_58 2 rfl rfl ?_
          refine rg_row X 1 (by decide) f_M_7 d_M_hear_59 ?_
          refine xq_iload_n X d_M_hear_62 1 rfl rfl ?_
          refine rn_ald (v := (F 1)) X 1 (by decide) hk rfl d_M_hear_63 rfl ?_
          refine xq_iconst (v := 1) X d_M_hear_64 (by decide) ?_
          refine xq_icmp_ne X d_M_hear_65 77 (by decide) (fun h => absurd h2 h) (fun _ => ?_)
          refine xq_aload_n X d_M_hear_68 2 rfl rfl ?_
          refine xq_iload_n X d_M_hear_69 1 rfl rfl ?_
          refine xq_iload_n X d_M_hear_70 0 rfl rfl ?_
          refine rk_callV (As := [.int (nI k), .int (g 19)]) (rest := []) X xw_g g_M_124 (rt_M_listens hap hk (g 19)) rfl rfl (by decide) (Nat.le_of_ble_eq_true rfl) rfl d_M_hear_71 ?_
          refine xq_goto X d_M_hear_74 83 (by decide) ?_
          have hh : (r_M_hear k n t cn u F E T g f) = ((r_M_listens k F E g f (g 19)).1, (r_M_listens k F E g f (g 19)).2, T) := by exact ((if_pos h1).trans ((if_pos h2).trans ((if_neg h3).trans (if_pos h4))))
          exact xq_vret X rfl (by rw [hh]) d_M_hear_83
        · skip
          refine xq_aload_n X d_M_hear_49 2 rfl rfl ?_
          refine rg_row X 14 (by decide) f_M_50 d_M_hear_50 ?_
          refine xq_iload_n X d_M_hear_53 1 rfl rfl ?_
          refine xq_iconst (v := 0) X d_M_hear_54 (by decide) ?_
          refine rz_ast (v' := 0) X 14 (by decide) hk rfl (by decide) d_M_hear_55 ?_
          refine xq_iconst (v := 1) X d_M_hear_56 (by decide) ?_
          refine xq_istore_n X d_M_hear_57 [(2, .int 1), (1, .int (nI k)), (0, .ref (ad (6, 0)))] rfl rfl (by decide) ?_
          refine xq_aload_n X d_M_hear_58 2 rfl rfl ?_
          refine rg_row X 1 (by decide) f_M_7 d_M_hear_59 ?_
          refine xq_iload_n X d_M_hear_62 1 rfl rfl ?_
          refine rn_ald (v := (F 1)) X 1 (by decide) hk rfl d_M_hear_63 rfl ?_
          refine xq_iconst (v := 1) X d_M_hear_64 (by decide) ?_
          refine xq_icmp_ne X d_M_hear_65 77 (by decide) (fun h => absurd h2 h) (fun _ => ?_)
          refine xq_aload_n X d_M_hear_68 2 rfl rfl ?_
          refine xq_iload_n X d_M_hear_69 1 rfl rfl ?_
          refine xq_iload_n X d_M_hear_70 0 rfl rfl ?_
          refine rk_callV (As := [.int (nI k), .int 1]) (rest := []) X xw_g g_M_124 (rt_M_listens hap hk 1) rfl rfl (by decide) (Nat.le_of_ble_eq_true rfl) rfl d_M_hear_71 ?_
          refine xq_goto X d_M_hear_74 83 (by decide) ?_
          have hh : (r_M_hear k n t cn u F E T g f) = ((r_M_listens k (upd F 14 0) E g f 1).1, (r_M_listens k (upd F 14 0) E g f 1).2, T) := by exact ((if_pos h1).trans ((if_pos h2).trans ((if_neg h3).trans (if_neg h4))))
          exact xq_vret X rfl (by rw [hh]) d_M_hear_83
    · skip
      refine xq_aload_n X d_M_hear_19 1 rfl rfl ?_
      refine xq_iload_n X d_M_hear_20 0 rfl rfl ?_
      refine rk_callI (As := [.int (nI k)]) (rest := []) X xw_g g_M_86 (rt_M_inside hap hk) rfl rfl (by decide) (Nat.le_of_ble_eq_true rfl) rfl d_M_hear_21 ?_
      refine xq_if_ne X d_M_hear_24 28 (by decide) (fun h5 => ?_) (fun h5 => ?_)
      · skip
        refine xq_aload_n X d_M_hear_28 1 rfl rfl ?_
        refine rg_get (v := (g 19)) X 19 (by decide) f_M_99 d_M_hear_29 rfl ?_
        refine xq_istore_n X d_M_hear_32 [(2, .int (g 19)), (1, .int (nI k)), (0, .ref (ad (6, 0)))] rfl rfl (by decide) ?_
        refine xq_aload_n X d_M_hear_33 2 rfl rfl ?_
        refine rg_get (v := (g 19)) X 19 (by decide) f_M_99 d_M_hear_34 rfl ?_
        refine xq_if_eq X d_M_hear_37 58 (by decide) (fun h6 => ?_) (fun h6 => ?_)
        · skip
          refine xq_aload_n X d_M_hear_58 2 rfl rfl ?_
          refine rg_row X 1 (by decide) f_M_7 d_M_hear_59 ?_
          refine xq_iload_n X d_M_hear_62 1 rfl rfl ?_
          refine rn_ald (v := (F 1)) X 1 (by decide) hk rfl d_M_hear_63 rfl ?_
          refine xq_iconst (v := 1) X d_M_hear_64 (by decide) ?_
          refine xq_icmp_ne X d_M_hear_65 77 (by decide) (fun _ => ?_) (fun h => absurd h h2)
          refine xq_aload_n X d_M_hear_77 2 rfl rfl ?_
          refine xq_iload_n X d_M_hear_78 1 rfl rfl ?_
          refine xq_iload_n X d_M_hear_79 0 rfl rfl ?_
          refine rk_callV (As := [.int (nI k), .int (g 19)]) (rest := []) X xw_g g_M_128 (rt_M_insides hap hk (F := F) (E := E) (T := T) (g := g) (f := f) (g 19) n hn hg t htl ht cn hcl hc u hul hu) rfl rfl (by decide) (Nat.le_of_ble_eq_true rfl) rfl d_M_hear_80 ?_
          have hh : (r_M_hear k n t cn u F E T g f) = ((r_M_insides k n t cn u F E T g f (g 19)).1, (r_M_insides k n t cn u F E T g f (g 19)).2.1, (r_M_insides k n t cn u F E T g f (g 19)).2.2) := by exact ((if_pos h1).trans ((if_neg h2).trans ((if_neg h5).trans (if_pos h6))))
          exact xq_vret X rfl (by rw [hh]) d_M_hear_83
        · skip
          refine xq_aload_n X d_M_hear_40 2 rfl rfl ?_
          refine rg_row X 14 (by decide) f_M_50 d_M_hear_41 ?_
          refine xq_iload_n X d_M_hear_44 1 rfl rfl ?_
          refine rz_ald (v := (F 14)) X 14 (by decide) hk rfl d_M_hear_45 rfl ?_
          refine xq_if_eq X d_M_hear_46 58 (by decide) (fun h7 => ?_) (fun h7 => ?_)
          · skip
            refine xq_aload_n X d_M_hear_58 2 rfl rfl ?_
            refine rg_row X 1 (by decide) f_M_7 d_M_hear_59 ?_
            refine xq_iload_n X d_M_hear_62 1 rfl rfl ?_
            refine rn_ald (v := (F 1)) X 1 (by decide) hk rfl d_M_hear_63 rfl ?_
            refine xq_iconst (v := 1) X d_M_hear_64 (by decide) ?_
            refine xq_icmp_ne X d_M_hear_65 77 (by decide) (fun _ => ?_) (fun h => absurd h h2)
            refine xq_aload_n X d_M_hear_77 2 rfl rfl ?_
            refine xq_iload_n X d_M_hear_78 1 rfl rfl ?_
            refine xq_iload_n X d_M_hear_79 0 rfl rfl ?_
            refine rk_callV (As := [.int (nI k), .int (g 19)]) (rest := []) X xw_g g_M_128 (rt_M_insides hap hk (F := F) (E := E) (T := T) (g := g) (f := f) (g 19) n hn hg t htl ht cn hcl hc u hul hu) rfl rfl (by decide) (Nat.le_of_ble_eq_true rfl) rfl d_M_hear_80 ?_
            have hh : (r_M_hear k n t cn u F E T g f) = ((r_M_insides k n t cn u F E T g f (g 19)).1, (r_M_insides k n t cn u F E T g f (g 19)).2.1, (r_M_insides k n t cn u F E T g f (g 19)).2.2) := by exact ((if_pos h1).trans ((if_neg h2).trans ((if_neg h5).trans ((if_neg h6).trans (if_pos h7)))))
            exact xq_vret X rfl (by rw [hh]) d_M_hear_83
          · skip
            refine xq_aload_n X d_M_hear_49 2 rfl rfl ?_
            refine rg_row X 14 (by decide) f_M_50 d_M_hear_50 ?_
            refine xq_iload_n X d_M_hear_53 1 rfl rfl ?_
            refine xq_iconst (v := 0) X d_M_hear_54 (by decide) ?_
            refine rz_ast (v' := 0) X 14 (by decide) hk rfl (by decide) d_M_hear_55 ?_
            refine xq_iconst (v := 1) X d_M_hear_56 (by decide) ?_
            refine xq_istore_n X d_M_hear_57 [(2, .int 1), (1, .int (nI k)), (0, .ref (ad (6, 0)))] rfl rfl (by decide) ?_
            refine xq_aload_n X d_M_hear_58 2 rfl rfl ?_
            refine rg_row X 1 (by decide) f_M_7 d_M_hear_59 ?_
            refine xq_iload_n X d_M_hear_62 1 rfl rfl ?_
            refine rn_ald (v := (F 1)) X 1 (by decide) hk rfl d_M_hear_63 rfl ?_
            refine xq_iconst (v := 1) X d_M_hear_64 (by decide) ?_
            refine xq_icmp_ne X d_M_hear_65 77 (by decide) (fun _ => ?_) (fun h => absurd h h2)
            refine xq_aload_n X d_M_hear_77 2 rfl rfl ?_
            refine xq_iload_n X d_M_hear_78 1 rfl rfl ?_
            refine xq_iload_n X d_M_hear_79 0 rfl rfl ?_
            refine rk_callV (As := [.int (nI k), .int 1]) (rest := []) X xw_g g_M_128 (rt_M_insides hap hk (F := (upd F 14 0)) (E := E) (T := T) (g := g) (f := f) 1 n hn hg t htl ht cn hcl hc u hul hu) rfl rfl (by decide) (Nat.le_of_ble_eq_true rfl) rfl d_M_hear_80 ?_
            have hh : (r_M_hear k n t cn u F E T g f) = ((r_M_insides k n t cn u (upd F 14 0) E T g f 1).1, (r_M_insides k n t cn u (upd F 14 0) E T g f 1).2.1, (r_M_insides k n t cn u (upd F 14 0) E T g f 1).2.2) := by exact ((if_pos h1).trans ((if_neg h2).trans ((if_neg h5).trans ((if_neg h6).trans (if_neg h7)))))
            exact xq_vret X rfl (by rw [hh]) d_M_hear_83
      · skip
        have hh : (r_M_hear k n t cn u F E T g f) = (F, E, T) := by exact ((if_pos h1).trans ((if_neg h2).trans (if_pos h5)))
        exact xq_vret X rfl (by rw [hh]) d_M_hear_27
