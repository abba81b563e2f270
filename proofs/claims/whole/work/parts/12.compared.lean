def r_M_compared (k : Nat) (n : Nat) (t : Nat) (cn : Nat) (u : Nat) (F : Nat → Int32) (E : Nat → Int32) (T : Nat → Int32) (g : Nat → Int32) (f : Nat → Int32) : (Nat → Int32) × (Nat → Int32) × (Nat → Int32) := (let z7 : Nat → Int32 := (if (F 9) = 2 then (if (r_M_matches n F E f (F 10)) = 0 then (if (r_M_matches n F E f (nI k)) = 0 then (r_M_bad t F E).1 else (r_M_good t cn (upd (upd (upd F 1 4) 4 ((F 4) + 1)) 9 0) (upd E k 0) T g).1) else (r_M_good t cn (upd (upd F 5 ((F 5) + 1)) 9 0) (upd E u 0) T g).1) else (if (r_M_matches n F E f (-1)) = 0 then (if (F 9) = 1 then (if (r_M_matches n F E f (nI k)) = 0 then (r_M_bad t F E).1 else (upd (upd F 9 2) 10 (F 2))) else (r_M_bad t F E).1) else (r_M_good t cn (upd F 9 0) E T g).1)); let z8 : Nat → Int32 := (if (F 9) = 2 then (if (r_M_matches n F E f (F 10)) = 0 then (if (r_M_matches n F E f (nI k)) = 0 then (r_M_bad t F E).2 else (r_M_good t cn (upd (upd (upd F 1 4) 4 ((F 4) + 1)) 9 0) (upd E k 0) T g).2.1) else (r_M_good t cn (upd (upd F 5 ((F 5) + 1)) 9 0) (upd E u 0) T g).2.1) else (if (r_M_matches n F E f (-1)) = 0 then (if (F 9) = 1 then (if (r_M_matches n F E f (nI k)) = 0 then (r_M_bad t F E).2 else (upd E t 1)) else (r_M_bad t F E).2) else (r_M_good t cn (upd F 9 0) E T g).2.1)); let z9 : Nat → Int32 := (if (F 9) = 2 then (if (r_M_matches n F E f (F 10)) = 0 then (if (r_M_matches n F E f (nI k)) = 0 then T else (r_M_good t cn (upd (upd (upd F 1 4) 4 ((F 4) + 1)) 9 0) (upd E k 0) T g).2.2) else (r_M_good t cn (upd (upd F 5 ((F 5) + 1)) 9 0) (upd E u 0) T g).2.2) else (if (r_M_matches n F E f (-1)) = 0 then T else (r_M_good t cn (upd F 9 0) E T g).2.2)); (z7, z8, z9))
set_option maxHeartbeats 4000000 in
set_option maxRecDepth 100000 in
theorem rt_M_compared {l : Launch} {D : va_G} {ad : xq_I → Nat} {cI cZ cN : ClassId} (hap : xq_ap rc_cs ad) {k : Nat} (hk : k < 6) {A : rc_A} {F E T g f : Nat → Int32} (n : Nat) (hn : n = 4 ∨ n = 5 ∨ n = 6) (hg : (g 0) = nI n) (t : Nat) (htl : t < 6) (ht : (F 2) = nI t) (cn : Nat) (hcl : cn ≤ 4) (hc : (F 17) = nI cn) (u : Nat) (hul : u < 6) (hu : (F 10) = nI u) :
    xq_M l D vcl (kc_tys cI cZ cN) rc_cs ad (rc_en ad cI cZ) y_M_compared (Cond.code y_M_compared b_M_compared 3 none :: xw) 1 [.ref (ad (6, 0)), .int (nI k)] (rc_ov A k F E T g f) none (rc_ov A k (r_M_compared k n t cn u F E T g f).1 (r_M_compared k n t cn u F E T g f).2.1 (r_M_compared k n t cn u F E T g f).2.2 g f) := by
  refine xq_met (by decide) (Nat.le_of_ble_eq_true rfl) hap ?_
  intro p e s m args below meth c X
  refine xq_sub [1, 0] [(1, .int (nI k)), (0, .ref (ad (6, 0)))] rfl ?_
  refine xq_aload_n X d_M_compared_0 1 rfl rfl ?_
  refine rg_row X 9 (by decide) f_M_35 d_M_compared_1 ?_
  refine xq_iload_n X d_M_compared_4 0 rfl rfl ?_
  refine rn_ald (v := (F 9)) X 9 (by decide) hk rfl d_M_compared_5 rfl ?_
  refine xq_istore_n X d_M_compared_6 [(2, .int (F 9)), (1, .int (nI k)), (0, .ref (ad (6, 0)))] rfl rfl (by decide) ?_
  refine xq_iload_n X d_M_compared_7 0 rfl rfl ?_
  refine xq_iconst (v := 2) X d_M_compared_8 (by decide) ?_
  have J10 : ∀ (z7 : Nat → Int32) (z8 : Nat → Int32) (z9 : Nat → Int32), z7 = (if (F 9) = 2 then (if (r_M_matches n F E f (F 10)) = 0 then (if (r_M_matches n F E f (nI k)) = 0 then (r_M_bad t F E).1 else (r_M_good t cn (upd (upd (upd F 1 4) 4 ((F 4) + 1)) 9 0) (upd E k 0) T g).1) else (r_M_good t cn (upd (upd F 5 ((F 5) + 1)) 9 0) (upd E u 0) T g).1) else (if (r_M_matches n F E f (-1)) = 0 then (if (F 9) = 1 then (if (r_M_matches n F E f (nI k)) = 0 then (r_M_bad t F E).1 else (upd (upd F 9 2) 10 (F 2))) else (r_M_bad t F E).1) else (r_M_good t cn (upd F 9 0) E T g).1)) → z8 = (if (F 9) = 2 then (if (r_M_matches n F E f (F 10)) = 0 then (if (r_M_matches n F E f (nI k)) = 0 then (r_M_bad t F E).2 else (r_M_good t cn (upd (upd (upd F 1 4) 4 ((F 4) + 1)) 9 0) (upd E k 0) T g).2.1) else (r_M_good t cn (upd (upd F 5 ((F 5) + 1)) 9 0) (upd E u 0) T g).2.1) else (if (r_M_matches n F E f (-1)) = 0 then (if (F 9) = 1 then (if (r_M_matches n F E f (nI k)) = 0 then (r_M_bad t F E).2 else (upd E t 1)) else (r_M_bad t F E).2) else (r_M_good t cn (upd F 9 0) E T g).2.1)) → z9 = (if (F 9) = 2 then (if (r_M_matches n F E f (F 10)) = 0 then (if (r_M_matches n F E f (nI k)) = 0 then T else (r_M_good t cn (upd (upd (upd F 1 4) 4 ((F 4) + 1)) 9 0) (upd E k 0) T g).2.2) else (r_M_good t cn (upd (upd F 5 ((F 5) + 1)) 9 0) (upd E u 0) T g).2.2) else (if (r_M_matches n F E f (-1)) = 0 then T else (r_M_good t cn (upd F 9 0) E T g).2.2)) → xq_W p l e (xq_r 1) s m args below meth c D vcl rc_cs ad (rc_en ad cI cZ) 0 0 (MQ below (xq_Q D vcl rc_cs ad (rc_en ad cI cZ) none (rc_ov A k (r_M_compared k n t cn u F E T g f).1 (r_M_compared k n t cn u F E T g f).2.1 (r_M_compared k n t cn u F E T g f).2.2 g f)) args s 0 0 (xq_in rc_cs ad)) 3 219 [(2, .int (F 9)), (1, .int (nI k)), (0, .ref (ad (6, 0)))] [] (rc_ov A k z7 z8 z9 g f) := by
    intro z7 z8 z9 e11 e12 e13
    have hh : (r_M_compared k n t cn u F E T g f) = (z7, z8, z9) := by subst e11; subst e12; subst e13; exact rfl
    exact xq_vret X rfl (by rw [hh]) d_M_compared_219
  refine xq_icmp_ne X d_M_compared_9 137 (by decide) (fun h1 => ?_) (fun h1 => ?_)
  · skip
    refine xq_aload_n X d_M_compared_137 2 rfl rfl ?_
    refine xq_iload_n X d_M_compared_138 1 rfl rfl ?_
    refine xq_iconst (v := (-1)) X d_M_compared_139 (by decide) ?_
    refine rk_callI (As := [.int (nI k), .int (-1)]) (rest := []) X xw_g g_M_111 (rt_M_matches hap hk (F := F) (E := E) (T := T) (g := g) (f := f) (-1) n hn hg) rfl rfl (by decide) (Nat.le_of_ble_eq_true rfl) rfl d_M_compared_140 ?_
    refine xq_if_eq X d_M_compared_143 161 (by decide) (fun h2 => ?_) (fun h2 => ?_)
    · skip
      refine xq_iload_n X d_M_compared_161 0 rfl rfl ?_
      refine xq_iconst (v := 1) X d_M_compared_162 (by decide) ?_
      refine xq_icmp_ne X d_M_compared_163 214 (by decide) (fun h3 => ?_) (fun h3 => ?_)
      · skip
        refine xq_aload_n X d_M_compared_214 2 rfl rfl ?_
        refine xq_iload_n X d_M_compared_215 1 rfl rfl ?_
        refine rk_callV (As := [.int (nI k)]) (rest := []) X xw_g g_M_118 (rt_M_bad hap hk (F := F) (E := E) (T := T) (g := g) (f := f) t htl ht) rfl rfl (by decide) (Nat.le_of_ble_eq_true rfl) rfl d_M_compared_216 ?_
        exact J10 _ _ _ ((if_neg h1).trans ((if_pos h2).trans (if_neg h3))).symm ((if_neg h1).trans ((if_pos h2).trans (if_neg h3))).symm ((if_neg h1).trans (if_pos h2)).symm
      · skip
        refine xq_aload_n X d_M_compared_166 2 rfl rfl ?_
        refine xq_iload_n X d_M_compared_167 1 rfl rfl ?_
        refine xq_iload_n X d_M_compared_168 1 rfl rfl ?_
        refine rk_callI (As := [.int (nI k), .int (nI k)]) (rest := []) X xw_g g_M_111 (rt_M_matches hap hk (F := F) (E := E) (T := T) (g := g) (f := f) (nI k) n hn hg) rfl rfl (by decide) (Nat.le_of_ble_eq_true rfl) rfl d_M_compared_169 ?_
        refine xq_if_eq X d_M_compared_172 214 (by decide) (fun h4 => ?_) (fun h4 => ?_)
        · skip
          refine xq_aload_n X d_M_compared_214 2 rfl rfl ?_
          refine xq_iload_n X d_M_compared_215 1 rfl rfl ?_
          refine rk_callV (As := [.int (nI k)]) (rest := []) X xw_g g_M_118 (rt_M_bad hap hk (F := F) (E := E) (T := T) (g := g) (f := f) t htl ht) rfl rfl (by decide) (Nat.le_of_ble_eq_true rfl) rfl d_M_compared_216 ?_
          exact J10 _ _ _ ((if_neg h1).trans ((if_pos h2).trans ((if_pos h3).trans (if_pos h4)))).symm ((if_neg h1).trans ((if_pos h2).trans ((if_pos h3).trans (if_pos h4)))).symm ((if_neg h1).trans (if_pos h2)).symm
        · skip
          refine xq_aload_n X d_M_compared_175 2 rfl rfl ?_
          refine rg_row X 9 (by decide) f_M_35 d_M_compared_176 ?_
          refine xq_iload_n X d_M_compared_179 1 rfl rfl ?_
          refine xq_iconst (v := 2) X d_M_compared_180 (by decide) ?_
          refine rn_ast X 9 (by decide) hk rfl d_M_compared_181 ?_
          refine xq_aload_n X d_M_compared_182 2 rfl rfl ?_
          refine rg_row X 10 (by decide) f_M_38 d_M_compared_183 ?_
          refine xq_iload_n X d_M_compared_186 1 rfl rfl ?_
          refine xq_aload_n X d_M_compared_187 2 rfl rfl ?_
          refine rg_row X 2 (by decide) f_M_13 d_M_compared_188 ?_
          refine xq_iload_n X d_M_compared_191 1 rfl rfl ?_
          refine rn_ald (v := (F 2)) X 2 (by decide) hk rfl d_M_compared_192 rfl ?_
          refine rn_ast X 10 (by decide) hk rfl d_M_compared_193 ?_
          refine xq_aload_n X d_M_compared_194 2 rfl rfl ?_
          refine rg_row X 15 (by decide) f_M_53 d_M_compared_195 ?_
          refine xq_bipush (v := 6) X d_M_compared_198 (by decide) ?_
          refine xq_iload_n X d_M_compared_200 1 rfl rfl ?_
          refine xq_imul X d_M_compared_201 ?_
          refine xq_aload_n X d_M_compared_202 2 rfl rfl ?_
          refine rg_row X 2 (by decide) f_M_13 d_M_compared_203 ?_
          refine xq_iload_n X d_M_compared_206 1 rfl rfl ?_
          refine rn_ald (v := (F 2)) X 2 (by decide) hk rfl d_M_compared_207 rfl ?_
          refine xq_iadd X d_M_compared_208 ?_
          refine xq_iconst (v := 1) X d_M_compared_209 (by decide) ?_
          refine re_ast (v' := 1) X t htl hk (ri_6 ht) (by decide) d_M_compared_210 ?_
          refine xq_goto X d_M_compared_211 219 (by decide) ?_
          exact J10 _ _ _ ((if_neg h1).trans ((if_pos h2).trans ((if_pos h3).trans (if_neg h4)))).symm ((if_neg h1).trans ((if_pos h2).trans ((if_pos h3).trans (if_neg h4)))).symm ((if_neg h1).trans (if_pos h2)).symm
    · skip
      refine xq_aload_n X d_M_compared_146 2 rfl rfl ?_
      refine rg_row X 9 (by decide) f_M_35 d_M_compared_147 ?_
      refine xq_iload_n X d_M_compared_150 1 rfl rfl ?_
      refine xq_iconst (v := 0) X d_M_compared_151 (by decide) ?_
      refine rn_ast X 9 (by decide) hk rfl d_M_compared_152 ?_
      refine xq_aload_n X d_M_compared_153 2 rfl rfl ?_
      refine xq_iload_n X d_M_compared_154 1 rfl rfl ?_
      refine rk_callV (As := [.int (nI k)]) (rest := []) X xw_g g_M_115 (rt_M_good hap hk (F := (upd F 9 0)) (E := E) (T := T) (g := g) (f := f) t htl ht cn hcl hc) rfl rfl (by decide) (Nat.le_of_ble_eq_true rfl) rfl d_M_compared_155 ?_
      refine xq_goto X d_M_compared_158 219 (by decide) ?_
      exact J10 _ _ _ ((if_neg h1).trans (if_neg h2)).symm ((if_neg h1).trans (if_neg h2)).symm ((if_neg h1).trans (if_neg h2)).symm
  · skip
    refine xq_aload_n X d_M_compared_12 2 rfl rfl ?_
    refine xq_iload_n X d_M_compared_13 1 rfl rfl ?_
    refine xq_aload_n X d_M_compared_14 2 rfl rfl ?_
    refine rg_row X 10 (by decide) f_M_38 d_M_compared_15 ?_
    refine xq_iload_n X d_M_compared_18 1 rfl rfl ?_
    refine rn_ald (v := (F 10)) X 10 (by decide) hk rfl d_M_compared_19 rfl ?_
    refine rk_callI (As := [.int (nI k), .int (F 10)]) (rest := []) X xw_g g_M_111 (rt_M_matches hap hk (F := F) (E := E) (T := T) (g := g) (f := f) (F 10) n hn hg) rfl rfl (by decide) (Nat.le_of_ble_eq_true rfl) rfl d_M_compared_20 ?_
    refine xq_if_eq X d_M_compared_23 72 (by decide) (fun h5 => ?_) (fun h5 => ?_)
    · skip
      refine xq_aload_n X d_M_compared_72 2 rfl rfl ?_
      refine xq_iload_n X d_M_compared_73 1 rfl rfl ?_
      refine xq_iload_n X d_M_compared_74 1 rfl rfl ?_
      refine rk_callI (As := [.int (nI k), .int (nI k)]) (rest := []) X xw_g g_M_111 (rt_M_matches hap hk (F := F) (E := E) (T := T) (g := g) (f := f) (nI k) n hn hg) rfl rfl (by decide) (Nat.le_of_ble_eq_true rfl) rfl d_M_compared_75 ?_
      refine xq_if_eq X d_M_compared_78 129 (by decide) (fun h6 => ?_) (fun h6 => ?_)
      · skip
        refine xq_aload_n X d_M_compared_129 2 rfl rfl ?_
        refine xq_iload_n X d_M_compared_130 1 rfl rfl ?_
        refine rk_callV (As := [.int (nI k)]) (rest := []) X xw_g g_M_118 (rt_M_bad hap hk (F := F) (E := E) (T := T) (g := g) (f := f) t htl ht) rfl rfl (by decide) (Nat.le_of_ble_eq_true rfl) rfl d_M_compared_131 ?_
        refine xq_goto X d_M_compared_134 219 (by decide) ?_
        exact J10 _ _ _ ((if_pos h1).trans ((if_pos h5).trans (if_pos h6))).symm ((if_pos h1).trans ((if_pos h5).trans (if_pos h6))).symm ((if_pos h1).trans ((if_pos h5).trans (if_pos h6))).symm
      · skip
        refine xq_aload_n X d_M_compared_81 2 rfl rfl ?_
        refine rg_row X 15 (by decide) f_M_53 d_M_compared_82 ?_
        refine xq_bipush (v := 6) X d_M_compared_85 (by decide) ?_
        refine xq_iload_n X d_M_compared_87 1 rfl rfl ?_
        refine xq_imul X d_M_compared_88 ?_
        refine xq_iload_n X d_M_compared_89 1 rfl rfl ?_
        refine xq_iadd X d_M_compared_90 ?_
        refine xq_iconst (v := 0) X d_M_compared_91 (by decide) ?_
        refine re_ast (v' := 0) X k hk hk (ri_6 rfl) (by decide) d_M_compared_92 ?_
        refine xq_aload_n X d_M_compared_93 2 rfl rfl ?_
        refine rg_row X 1 (by decide) f_M_7 d_M_compared_94 ?_
        refine xq_iload_n X d_M_compared_97 1 rfl rfl ?_
        refine xq_iconst (v := 4) X d_M_compared_98 (by decide) ?_
        refine rn_ast X 1 (by decide) hk rfl d_M_compared_99 ?_
        refine xq_aload_n X d_M_compared_100 2 rfl rfl ?_
        refine rg_row X 4 (by decide) f_M_19 d_M_compared_101 ?_
        refine xq_iload_n X d_M_compared_104 1 rfl rfl ?_
        refine xq_aload_n X d_M_compared_105 2 rfl rfl ?_
        refine rg_row X 4 (by decide) f_M_19 d_M_compared_106 ?_
        refine xq_iload_n X d_M_compared_109 1 rfl rfl ?_
        refine rn_ald (v := (F 4)) X 4 (by decide) hk rfl d_M_compared_110 rfl ?_
        refine xq_iconst (v := 1) X d_M_compared_111 (by decide) ?_
        refine xq_iadd X d_M_compared_112 ?_
        refine rn_ast X 4 (by decide) hk rfl d_M_compared_113 ?_
        refine xq_aload_n X d_M_compared_114 2 rfl rfl ?_
        refine rg_row X 9 (by decide) f_M_35 d_M_compared_115 ?_
        refine xq_iload_n X d_M_compared_118 1 rfl rfl ?_
        refine xq_iconst (v := 0) X d_M_compared_119 (by decide) ?_
        refine rn_ast X 9 (by decide) hk rfl d_M_compared_120 ?_
        refine xq_aload_n X d_M_compared_121 2 rfl rfl ?_
        refine xq_iload_n X d_M_compared_122 1 rfl rfl ?_
        refine rk_callV (As := [.int (nI k)]) (rest := []) X xw_g g_M_115 (rt_M_good hap hk (F := (upd (upd (upd F 1 4) 4 ((F 4) + 1)) 9 0)) (E := (upd E k 0)) (T := T) (g := g) (f := f) t htl ht cn hcl hc) rfl rfl (by decide) (Nat.le_of_ble_eq_true rfl) rfl d_M_compared_123 ?_
        refine xq_goto X d_M_compared_126 219 (by decide) ?_
        exact J10 _ _ _ ((if_pos h1).trans ((if_pos h5).trans (if_neg h6))).symm ((if_pos h1).trans ((if_pos h5).trans (if_neg h6))).symm ((if_pos h1).trans ((if_pos h5).trans (if_neg h6))).symm
    · skip
      refine xq_aload_n X d_M_compared_26 2 rfl rfl ?_
      refine rg_row X 15 (by decide) f_M_53 d_M_compared_27 ?_
      refine xq_bipush (v := 6) X d_M_compared_30 (by decide) ?_
      refine xq_iload_n X d_M_compared_32 1 rfl rfl ?_
      refine xq_imul X d_M_compared_33 ?_
      refine xq_aload_n X d_M_compared_34 2 rfl rfl ?_
      refine rg_row X 10 (by decide) f_M_38 d_M_compared_35 ?_
      refine xq_iload_n X d_M_compared_38 1 rfl rfl ?_
      refine rn_ald (v := (F 10)) X 10 (by decide) hk rfl d_M_compared_39 rfl ?_
      refine xq_iadd X d_M_compared_40 ?_
      refine xq_iconst (v := 0) X d_M_compared_41 (by decide) ?_
      refine re_ast (v' := 0) X u hul hk (ri_6 hu) (by decide) d_M_compared_42 ?_
      refine xq_aload_n X d_M_compared_43 2 rfl rfl ?_
      refine rg_row X 5 (by decide) f_M_22 d_M_compared_44 ?_
      refine xq_iload_n X d_M_compared_47 1 rfl rfl ?_
      refine xq_aload_n X d_M_compared_48 2 rfl rfl ?_
      refine rg_row X 5 (by decide) f_M_22 d_M_compared_49 ?_
      refine xq_iload_n X d_M_compared_52 1 rfl rfl ?_
      refine rn_ald (v := (F 5)) X 5 (by decide) hk rfl d_M_compared_53 rfl ?_
      refine xq_iconst (v := 1) X d_M_compared_54 (by decide) ?_
      refine xq_iadd X d_M_compared_55 ?_
      refine rn_ast X 5 (by decide) hk rfl d_M_compared_56 ?_
      refine xq_aload_n X d_M_compared_57 2 rfl rfl ?_
      refine rg_row X 9 (by decide) f_M_35 d_M_compared_58 ?_
      refine xq_iload_n X d_M_compared_61 1 rfl rfl ?_
      refine xq_iconst (v := 0) X d_M_compared_62 (by decide) ?_
      refine rn_ast X 9 (by decide) hk rfl d_M_compared_63 ?_
      refine xq_aload_n X d_M_compared_64 2 rfl rfl ?_
      refine xq_iload_n X d_M_compared_65 1 rfl rfl ?_
      refine rk_callV (As := [.int (nI k)]) (rest := []) X xw_g g_M_115 (rt_M_good hap hk (F := (upd (upd F 5 ((F 5) + 1)) 9 0)) (E := (upd E u 0)) (T := T) (g := g) (f := f) t htl ht cn hcl hc) rfl rfl (by decide) (Nat.le_of_ble_eq_true rfl) rfl d_M_compared_66 ?_
      refine xq_goto X d_M_compared_69 219 (by decide) ?_
      exact J10 _ _ _ ((if_pos h1).trans (if_neg h5)).symm ((if_pos h1).trans (if_neg h5)).symm ((if_pos h1).trans (if_neg h5)).symm
