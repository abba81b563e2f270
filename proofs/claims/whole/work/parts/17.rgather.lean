def r_M_gat0 (g : Nat → Int32) : (Nat → Int32) := (upd (upd g 19 0) 20 (-1))
set_option maxHeartbeats 4000000 in
set_option maxRecDepth 100000 in
theorem rw_M_gat0 {p : Program} {l : Launch} {e : Env} {s : State} {m : MethodId} {args : Array Value} {below : List Frame} {meth : Method} {c : Code} {D : va_G} {ad : xq_I → Nat} {cI cZ cN : ClassId} (hap : xq_ap rc_cs ad) (X : xq_C p s m args meth c D vcl (kc_tys cI cZ cN) rc_cs ad xw y_M_gather.cls b_M_gather 3 none) {k : Nat} (hk : k < 6) {A : rc_A} {F E T g f : Nat → Int32}  :
    xq_W p l e (xq_r 0) s m args below meth c D vcl rc_cs ad (rc_en ad cI cZ) 0 0 (MQ below (xq_Q D vcl rc_cs ad (rc_en ad cI cZ) none (rc_ov A k F E T (r_M_gat0 g) f)) args s 0 0 (xq_in rc_cs ad)) 3 35 [(1, .int 0), (0, .ref (ad (6, 0)))] [] (rc_ov A k F E T g f) := by

  refine xq_aload_n X d_M_gather_35 1 rfl rfl ?_
  refine xq_iload_n X d_M_gather_36 0 rfl rfl ?_
  refine xq_if_ne X d_M_gather_37 44 (by decide) (fun h => absurd h (by decide)) (fun _ => ?_)
  refine xq_iconst (v := 0) X d_M_gather_40 (by decide) ?_
  refine xq_goto X d_M_gather_41 71 (by decide) ?_
  refine rg_put X 19 (by decide) f_M_99 T_M_ok n_M_19 d_M_gather_71 ?_
  refine xq_iload_n X d_M_gather_74 0 rfl rfl ?_
  refine xq_iconst (v := 1) X d_M_gather_75 (by decide) ?_
  refine xq_icmp_ne X d_M_gather_76 106 (by decide) (fun _ => ?_) (fun h => absurd h (by decide))
  refine xq_iload_n X d_M_gather_106 0 rfl rfl ?_
  refine xq_iconst (v := 1) X d_M_gather_107 (by decide) ?_
  refine xq_icmp_ne X d_M_gather_108 171 (by decide) (fun _ => ?_) (fun h => absurd h (by decide))
  refine xq_aload_n X d_M_gather_171 1 rfl rfl ?_
  refine xq_aload_n X d_M_gather_172 1 rfl rfl ?_
  refine rg_get (v := 0) X 19 (by decide) f_M_99 d_M_gather_173 rfl ?_
  refine xq_if_ne X d_M_gather_176 183 (by decide) (fun h => absurd h (by decide)) (fun _ => ?_)
  refine xq_iconst (v := (-1)) X d_M_gather_179 (by decide) ?_
  refine xq_goto X d_M_gather_180 218 (by decide) ?_
  refine rg_put X 20 (by decide) f_M_62 T_M_ok n_M_20 d_M_gather_218 ?_
  have hh : (r_M_gat0 g) = (upd (upd g 19 0) 20 (-1)) := by exact rfl
  exact xq_vret X rfl (by rw [hh]) d_M_gather_221
def r_M_gat1 (k : Nat) (F : Nat → Int32) (E : Nat → Int32) (g : Nat → Int32) (f : Nat → Int32) : (Nat → Int32) × (Nat → Int32) × (Nat → Int32) := (let z2 : Int32 := (if (F 1) = 2 then 2 else 3); (if (F 13) = 0 then (let z7 : Int32 := (if z2 = 0 then (-1) else (if z2 = 1 then (-2) else (if z2 = 2 then (nI k) else ((nI k) + 8)))); (F, (upd (upd (upd (upd g 19 z2) 22 (F 3)) 23 (F 11)) 20 z7), (upd (upd (upd (upd (upd (upd f 0 ((E 0) &&& 1)) 1 ((E 1) &&& 1)) 2 ((E 2) &&& 1)) 3 ((E 3) &&& 1)) 4 ((E 4) &&& 1)) 5 ((E 5) &&& 1)))) else ((upd F 13 0), (upd (upd (upd (upd (upd g 19 z2) 19 0) 22 (F 3)) 23 (F 11)) 20 (-1)), (upd (upd (upd (upd (upd (upd f 0 ((E 0) &&& 1)) 1 ((E 1) &&& 1)) 2 ((E 2) &&& 1)) 3 ((E 3) &&& 1)) 4 ((E 4) &&& 1)) 5 ((E 5) &&& 1)))))
set_option maxHeartbeats 4000000 in
set_option maxRecDepth 100000 in
theorem rw_M_gat1 {p : Program} {l : Launch} {e : Env} {s : State} {m : MethodId} {args : Array Value} {below : List Frame} {meth : Method} {c : Code} {D : va_G} {ad : xq_I → Nat} {cI cZ cN : ClassId} (hap : xq_ap rc_cs ad) (X : xq_C p s m args meth c D vcl (kc_tys cI cZ cN) rc_cs ad xw y_M_gather.cls b_M_gather 3 none) {k : Nat} (hk : k < 6) {A : rc_A} {F E T g f : Nat → Int32} (hs : (g 21) = nI k) :
    xq_W p l e (xq_r 0) s m args below meth c D vcl rc_cs ad (rc_en ad cI cZ) 0 0 (MQ below (xq_Q D vcl rc_cs ad (rc_en ad cI cZ) none (rc_ov A k (r_M_gat1 k F E g f).1 E T (r_M_gat1 k F E g f).2.1 (r_M_gat1 k F E g f).2.2)) args s 0 0 (xq_in rc_cs ad)) 3 35 [(1, .int 1), (0, .ref (ad (6, 0)))] [] (rc_ov A k F E T g f) := by

  refine xq_aload_n X d_M_gather_35 1 rfl rfl ?_
  refine xq_iload_n X d_M_gather_36 0 rfl rfl ?_
  refine xq_if_ne X d_M_gather_37 44 (by decide) (fun _ => ?_) (fun h => absurd h (by decide))
  refine xq_iload_n X d_M_gather_44 0 rfl rfl ?_
  refine xq_iconst (v := 1) X d_M_gather_45 (by decide) ?_
  refine xq_icmp_le X d_M_gather_46 53 (by decide) (fun _ => ?_) (fun h => absurd h (by decide))
  refine xq_aload_n X d_M_gather_53 1 rfl rfl ?_
  refine rg_row X 1 (by decide) f_M_7 d_M_gather_54 ?_
  refine xq_aload_n X d_M_gather_57 1 rfl rfl ?_
  refine rg_get (v := (nI k)) X 21 (by decide) f_M_96 d_M_gather_58 hs ?_
  refine rn_ald (v := (F 1)) X 1 (by decide) hk rfl d_M_gather_61 rfl ?_
  refine xq_iconst (v := 2) X d_M_gather_62 (by decide) ?_
  have J8 : ∀ (z2 : Int32), z2 = (if (F 1) = 2 then 2 else 3) → xq_W p l e (xq_r 0) s m args below meth c D vcl rc_cs ad (rc_en ad cI cZ) 0 0 (MQ below (xq_Q D vcl rc_cs ad (rc_en ad cI cZ) none (rc_ov A k (r_M_gat1 k F E g f).1 E T (r_M_gat1 k F E g f).2.1 (r_M_gat1 k F E g f).2.2)) args s 0 0 (xq_in rc_cs ad)) 3 71 [(1, .int 1), (0, .ref (ad (6, 0)))] [.int z2, .ref (ad (6, 0))] (rc_ov A k F E T g f) := by
    intro z2 e9
    refine rg_put X 19 (by decide) f_M_99 T_M_ok n_M_19 d_M_gather_71 ?_
    refine xq_iload_n X d_M_gather_74 0 rfl rfl ?_
    refine xq_iconst (v := 1) X d_M_gather_75 (by decide) ?_
    refine xq_icmp_ne X d_M_gather_76 106 (by decide) (fun h => absurd h (by decide)) (fun _ => ?_)
    refine xq_aload_n X d_M_gather_79 1 rfl rfl ?_
    refine rg_row X 13 (by decide) f_M_47 d_M_gather_80 ?_
    refine xq_aload_n X d_M_gather_83 1 rfl rfl ?_
    refine rg_get (v := (nI k)) X 21 (by decide) f_M_96 d_M_gather_84 hs ?_
    refine rz_ald (v := (F 13)) X 13 (by decide) hk rfl d_M_gather_87 rfl ?_
    refine xq_if_eq X d_M_gather_88 106 (by decide) (fun h3 => ?_) (fun h3 => ?_)
    · skip
      refine xq_iload_n X d_M_gather_106 0 rfl rfl ?_
      refine xq_iconst (v := 1) X d_M_gather_107 (by decide) ?_
      refine xq_icmp_ne X d_M_gather_108 171 (by decide) (fun h => absurd h (by decide)) (fun _ => ?_)
      refine xq_aload_n X d_M_gather_111 1 rfl rfl ?_
      refine xq_aload_n X d_M_gather_112 1 rfl rfl ?_
      refine rg_row X 3 (by decide) f_M_16 d_M_gather_113 ?_
      refine xq_aload_n X d_M_gather_116 1 rfl rfl ?_
      refine rg_get (v := (nI k)) X 21 (by decide) f_M_96 d_M_gather_117 hs ?_
      refine rn_ald (v := (F 3)) X 3 (by decide) hk rfl d_M_gather_120 rfl ?_
      refine rg_put X 22 (by decide) f_M_102 T_M_ok n_M_22 d_M_gather_121 ?_
      refine xq_aload_n X d_M_gather_124 1 rfl rfl ?_
      refine xq_aload_n X d_M_gather_125 1 rfl rfl ?_
      refine rg_row X 11 (by decide) f_M_41 d_M_gather_126 ?_
      refine xq_aload_n X d_M_gather_129 1 rfl rfl ?_
      refine rg_get (v := (nI k)) X 21 (by decide) f_M_96 d_M_gather_130 hs ?_
      refine rn_ald (v := (F 11)) X 11 (by decide) hk rfl d_M_gather_133 rfl ?_
      refine rg_put X 23 (by decide) f_M_105 T_M_ok n_M_23 d_M_gather_134 ?_
      refine xq_iconst (v := 0) X d_M_gather_137 (by decide) ?_
      refine xq_istore_n X d_M_gather_138 [(2, .int 0), (1, .int 1), (0, .ref (ad (6, 0)))] rfl rfl (by decide) ?_
      refine xq_iload_n X d_M_gather_139 0 rfl rfl ?_
      refine xq_bipush (v := 6) X d_M_gather_140 (by decide) ?_
      refine xq_icmp_ge X d_M_gather_142 171 (by decide) (fun h => absurd h (by decide)) (fun _ => ?_)
      refine xq_aload_n X d_M_gather_145 2 rfl rfl ?_
      refine rg_row X 24 (by decide) f_M_66 d_M_gather_146 ?_
      refine xq_iload_n X d_M_gather_149 0 rfl rfl ?_
      refine xq_aload_n X d_M_gather_150 2 rfl rfl ?_
      refine rg_row X 15 (by decide) f_M_53 d_M_gather_151 ?_
      refine xq_bipush (v := 6) X d_M_gather_154 (by decide) ?_
      refine xq_aload_n X d_M_gather_156 2 rfl rfl ?_
      refine rg_get (v := (nI k)) X 21 (by decide) f_M_96 d_M_gather_157 hs ?_
      refine xq_imul X d_M_gather_160 ?_
      refine xq_iload_n X d_M_gather_161 0 rfl rfl ?_
      refine xq_iadd X d_M_gather_162 ?_
      refine re_ald (v := (E 0)) X 0 (by decide) hk (ri_6 rfl) d_M_gather_163 rfl ?_
      refine rf_ast (v' := ((E 0) &&& 1)) X 0 (by decide) rfl rfl d_M_gather_164 ?_
      refine xq_iinc X d_M_gather_165 0 rfl [(2, .int 1), (1, .int 1), (0, .ref (ad (6, 0)))] rfl (by decide) (by decide) ?_
      refine xq_goto X d_M_gather_168 139 (by decide) ?_
      refine xq_iload_n X d_M_gather_139 0 rfl rfl ?_
      refine xq_bipush (v := 6) X d_M_gather_140 (by decide) ?_
      refine xq_icmp_ge X d_M_gather_142 171 (by decide) (fun h => absurd h (by decide)) (fun _ => ?_)
      refine xq_aload_n X d_M_gather_145 2 rfl rfl ?_
      refine rg_row X 24 (by decide) f_M_66 d_M_gather_146 ?_
      refine xq_iload_n X d_M_gather_149 0 rfl rfl ?_
      refine xq_aload_n X d_M_gather_150 2 rfl rfl ?_
      refine rg_row X 15 (by decide) f_M_53 d_M_gather_151 ?_
      refine xq_bipush (v := 6) X d_M_gather_154 (by decide) ?_
      refine xq_aload_n X d_M_gather_156 2 rfl rfl ?_
      refine rg_get (v := (nI k)) X 21 (by decide) f_M_96 d_M_gather_157 hs ?_
      refine xq_imul X d_M_gather_160 ?_
      refine xq_iload_n X d_M_gather_161 0 rfl rfl ?_
      refine xq_iadd X d_M_gather_162 ?_
      refine re_ald (v := (E 1)) X 1 (by decide) hk (ri_6 rfl) d_M_gather_163 rfl ?_
      refine rf_ast (v' := ((E 1) &&& 1)) X 1 (by decide) rfl rfl d_M_gather_164 ?_
      refine xq_iinc X d_M_gather_165 0 rfl [(2, .int 2), (1, .int 1), (0, .ref (ad (6, 0)))] rfl (by decide) (by decide) ?_
      refine xq_goto X d_M_gather_168 139 (by decide) ?_
      refine xq_iload_n X d_M_gather_139 0 rfl rfl ?_
      refine xq_bipush (v := 6) X d_M_gather_140 (by decide) ?_
      refine xq_icmp_ge X d_M_gather_142 171 (by decide) (fun h => absurd h (by decide)) (fun _ => ?_)
      refine xq_aload_n X d_M_gather_145 2 rfl rfl ?_
      refine rg_row X 24 (by decide) f_M_66 d_M_gather_146 ?_
      refine xq_iload_n X d_M_gather_149 0 rfl rfl ?_
      refine xq_aload_n X d_M_gather_150 2 rfl rfl ?_
      refine rg_row X 15 (by decide) f_M_53 d_M_gather_151 ?_
      refine xq_bipush (v := 6) X d_M_gather_154 (by decide) ?_
      refine xq_aload_n X d_M_gather_156 2 rfl rfl ?_
      refine rg_get (v := (nI k)) X 21 (by decide) f_M_96 d_M_gather_157 hs ?_
      refine xq_imul X d_M_gather_160 ?_
      refine xq_iload_n X d_M_gather_161 0 rfl rfl ?_
      refine xq_iadd X d_M_gather_162 ?_
      refine re_ald (v := (E 2)) X 2 (by decide) hk (ri_6 rfl) d_M_gather_163 rfl ?_
      refine rf_ast (v' := ((E 2) &&& 1)) X 2 (by decide) rfl rfl d_M_gather_164 ?_
      refine xq_iinc X d_M_gather_165 0 rfl [(2, .int 3), (1, .int 1), (0, .ref (ad (6, 0)))] rfl (by decide) (by decide) ?_
      refine xq_goto X d_M_gather_168 139 (by decide) ?_
      refine xq_iload_n X d_M_gather_139 0 rfl rfl ?_
      refine xq_bipush (v := 6) X d_M_gather_140 (by decide) ?_
      refine xq_icmp_ge X d_M_gather_142 171 (by decide) (fun h => absurd h (by decide)) (fun _ => ?_)
      refine xq_aload_n X d_M_gather_145 2 rfl rfl ?_
      refine rg_row X 24 (by decide) f_M_66 d_M_gather_146 ?_
      refine xq_iload_n X d_M_gather_149 0 rfl rfl ?_
      refine xq_aload_n X d_M_gather_150 2 rfl rfl ?_
      refine rg_row X 15 (by decide) f_M_53 d_M_gather_151 ?_
      refine xq_bipush (v := 6) X d_M_gather_154 (by decide) ?_
      refine xq_aload_n X d_M_gather_156 2 rfl rfl ?_
      refine rg_get (v := (nI k)) X 21 (by decide) f_M_96 d_M_gather_157 hs ?_
      refine xq_imul X d_M_gather_160 ?_
      refine xq_iload_n X d_M_gather_161 0 rfl rfl ?_
      refine xq_iadd X d_M_gather_162 ?_
      refine re_ald (v := (E 3)) X 3 (by decide) hk (ri_6 rfl) d_M_gather_163 rfl ?_
      refine rf_ast (v' := ((E 3) &&& 1)) X 3 (by decide) rfl rfl d_M_gather_164 ?_
      refine xq_iinc X d_M_gather_165 0 rfl [(2, .int 4), (1, .int 1), (0, .ref (ad (6, 0)))] rfl (by decide) (by decide) ?_
      refine xq_goto X d_M_gather_168 139 (by decide) ?_
      refine xq_iload_n X d_M_gather_139 0 rfl rfl ?_
      refine xq_bipush (v := 6) X d_M_gather_140 (by decide) ?_
      refine xq_icmp_ge X d_M_gather_142 171 (by decide) (fun h => absurd h (by decide)) (fun _ => ?_)
      refine xq_aload_n X d_M_gather_145 2 rfl rfl ?_
      refine rg_row X 24 (by decide) f_M_66 d_M_gather_146 ?_
      refine xq_iload_n X d_M_gather_149 0 rfl rfl ?_
      refine xq_aload_n X d_M_gather_150 2 rfl rfl ?_
      refine rg_row X 15 (by decide) f_M_53 d_M_gather_151 ?_
      refine xq_bipush (v := 6) X d_M_gather_154 (by decide) ?_
      refine xq_aload_n X d_M_gather_156 2 rfl rfl ?_
      refine rg_get (v := (nI k)) X 21 (by decide) f_M_96 d_M_gather_157 hs ?_
      refine xq_imul X d_M_gather_160 ?_
      refine xq_iload_n X d_M_gather_161 0 rfl rfl ?_
      refine xq_iadd X d_M_gather_162 ?_
      refine re_ald (v := (E 4)) X 4 (by decide) hk (ri_6 rfl) d_M_gather_163 rfl ?_
      refine rf_ast (v' := ((E 4) &&& 1)) X 4 (by decide) rfl rfl d_M_gather_164 ?_
      refine xq_iinc X d_M_gather_165 0 rfl [(2, .int 5), (1, .int 1), (0, .ref (ad (6, 0)))] rfl (by decide) (by decide) ?_
      refine xq_goto X d_M_gather_168 139 (by decide) ?_
      refine xq_iload_n X d_M_gather_139 0 rfl rfl ?_
      refine xq_bipush (v := 6) X d_M_gather_140 (by decide) ?_
      refine xq_icmp_ge X d_M_gather_142 171 (by decide) (fun h => absurd h (by decide)) (fun _ => ?_)
      refine xq_aload_n X d_M_gather_145 2 rfl rfl ?_
      refine rg_row X 24 (by decide) f_M_66 d_M_gather_146 ?_
      refine xq_iload_n X d_M_gather_149 0 rfl rfl ?_
      refine xq_aload_n X d_M_gather_150 2 rfl rfl ?_
      refine rg_row X 15 (by decide) f_M_53 d_M_gather_151 ?_
      refine xq_bipush (v := 6) X d_M_gather_154 (by decide) ?_
      refine xq_aload_n X d_M_gather_156 2 rfl rfl ?_
      refine rg_get (v := (nI k)) X 21 (by decide) f_M_96 d_M_gather_157 hs ?_
      refine xq_imul X d_M_gather_160 ?_
      refine xq_iload_n X d_M_gather_161 0 rfl rfl ?_
      refine xq_iadd X d_M_gather_162 ?_
      refine re_ald (v := (E 5)) X 5 (by decide) hk (ri_6 rfl) d_M_gather_163 rfl ?_
      refine rf_ast (v' := ((E 5) &&& 1)) X 5 (by decide) rfl rfl d_M_gather_164 ?_
      refine xq_iinc X d_M_gather_165 0 rfl [(2, .int 6), (1, .int 1), (0, .ref (ad (6, 0)))] rfl (by decide) (by decide) ?_
      refine xq_goto X d_M_gather_168 139 (by decide) ?_
      refine xq_iload_n X d_M_gather_139 0 rfl rfl ?_
      refine xq_bipush (v := 6) X d_M_gather_140 (by decide) ?_
      refine xq_icmp_ge X d_M_gather_142 171 (by decide) (fun _ => ?_) (fun h => absurd h (by decide))
      refine xq_aload_n X d_M_gather_171 2 rfl rfl ?_
      refine xq_aload_n X d_M_gather_172 2 rfl rfl ?_
      refine rg_get (v := z2) X 19 (by decide) f_M_99 d_M_gather_173 rfl ?_
      have J10 : ∀ (z7 : Int32), z7 = (if z2 = 0 then (-1) else (if z2 = 1 then (-2) else (if z2 = 2 then (nI k) else ((nI k) + 8)))) → xq_W p l e (xq_r 0) s m args below meth c D vcl rc_cs ad (rc_en ad cI cZ) 0 0 (MQ below (xq_Q D vcl rc_cs ad (rc_en ad cI cZ) none (rc_ov A k (r_M_gat1 k F E g f).1 E T (r_M_gat1 k F E g f).2.1 (r_M_gat1 k F E g f).2.2)) args s 0 0 (xq_in rc_cs ad)) 3 218 [(2, .int 6), (1, .int 1), (0, .ref (ad (6, 0)))] [.int z7, .ref (ad (6, 0))] (rc_ov A k F E T (upd (upd (upd g 19 z2) 22 (F 3)) 23 (F 11)) (upd (upd (upd (upd (upd (upd f 0 ((E 0) &&& 1)) 1 ((E 1) &&& 1)) 2 ((E 2) &&& 1)) 3 ((E 3) &&& 1)) 4 ((E 4) &&& 1)) 5 ((E 5) &&& 1))) := by
        intro z7 e11
        refine rg_put X 20 (by decide) f_M_62 T_M_ok n_M_20 d_M_gather_218 ?_
        have hh : (r_M_gat1 k F E g f) = (F, (upd (upd (upd (upd g 19 z2) 22 (F 3)) 23 (F 11)) 20 z7), (upd (upd (upd (upd (upd (upd f 0 ((E 0) &&& 1)) 1 ((E 1) &&& 1)) 2 ((E 2) &&& 1)) 3 ((E 3) &&& 1)) 4 ((E 4) &&& 1)) 5 ((E 5) &&& 1))) := by subst e9; subst e11; exact (if_pos h3)
        exact xq_vret X rfl (by rw [hh]) d_M_gather_221
      refine xq_if_ne X d_M_gather_176 183 (by decide) (fun h4 => ?_) (fun h4 => ?_)
      · skip
        refine xq_aload_n X d_M_gather_183 2 rfl rfl ?_
        refine rg_get (v := z2) X 19 (by decide) f_M_99 d_M_gather_184 rfl ?_
        refine xq_iconst (v := 1) X d_M_gather_187 (by decide) ?_
        refine xq_icmp_ne X d_M_gather_188 196 (by decide) (fun h5 => ?_) (fun h5 => ?_)
        · skip
          refine xq_aload_n X d_M_gather_196 2 rfl rfl ?_
          refine rg_get (v := z2) X 19 (by decide) f_M_99 d_M_gather_197 rfl ?_
          refine xq_iconst (v := 2) X d_M_gather_200 (by decide) ?_
          refine xq_icmp_ne X d_M_gather_201 211 (by decide) (fun h6 => ?_) (fun h6 => ?_)
          · skip
            refine xq_aload_n X d_M_gather_211 2 rfl rfl ?_
            refine rg_get (v := (nI k)) X 21 (by decide) f_M_96 d_M_gather_212 hs ?_
            refine xq_bipush (v := 8) X d_M_gather_215 (by decide) ?_
            refine xq_iadd X d_M_gather_217 ?_
            exact J10 _ ((if_neg h4).trans ((if_neg h5).trans (if_neg h6))).symm
          · skip
            refine xq_aload_n X d_M_gather_204 2 rfl rfl ?_
            refine rg_get (v := (nI k)) X 21 (by decide) f_M_96 d_M_gather_205 hs ?_
            refine xq_goto X d_M_gather_208 218 (by decide) ?_
            exact J10 _ ((if_neg h4).trans ((if_neg h5).trans (if_pos h6))).symm
        · skip
          refine xq_bipush (v := (-2)) X d_M_gather_191 (by decide) ?_
          refine xq_goto X d_M_gather_193 218 (by decide) ?_
          exact J10 _ ((if_neg h4).trans (if_pos h5)).symm
      · skip
        refine xq_iconst (v := (-1)) X d_M_gather_179 (by decide) ?_
        refine xq_goto X d_M_gather_180 218 (by decide) ?_
        exact J10 _ (if_pos h4).symm
    · skip
      refine xq_aload_n X d_M_gather_91 1 rfl rfl ?_
      refine rg_row X 13 (by decide) f_M_47 d_M_gather_92 ?_
      refine xq_aload_n X d_M_gather_95 1 rfl rfl ?_
      refine rg_get (v := (nI k)) X 21 (by decide) f_M_96 d_M_gather_96 hs ?_
      refine xq_iconst (v := 0) X d_M_gather_99 (by decide) ?_
      refine rz_ast (v' := 0) X 13 (by decide) hk rfl (by decide) d_M_gather_100 ?_
      refine xq_aload_n X d_M_gather_101 1 rfl rfl ?_
      refine xq_iconst (v := 0) X d_M_gather_102 (by decide) ?_
      refine rg_put X 19 (by decide) f_M_99 T_M_ok n_M_19 d_M_gather_103 ?_
      refine xq_iload_n X d_M_gather_106 0 rfl rfl ?_
      refine xq_iconst (v := 1) X d_M_gather_107 (by decide) ?_
      refine xq_icmp_ne X d_M_gather_108 171 (by decide) (fun h => absurd h (by decide)) (fun _ => ?_)
      refine xq_aload_n X d_M_gather_111 1 rfl rfl ?_
      refine xq_aload_n X d_M_gather_112 1 rfl rfl ?_
      refine rg_row X 3 (by decide) f_M_16 d_M_gather_113 ?_
      refine xq_aload_n X d_M_gather_116 1 rfl rfl ?_
      refine rg_get (v := (nI k)) X 21 (by decide) f_M_96 d_M_gather_117 hs ?_
      refine rn_ald (v := (F 3)) X 3 (by decide) hk rfl d_M_gather_120 rfl ?_
      refine rg_put X 22 (by decide) f_M_102 T_M_ok n_M_22 d_M_gather_121 ?_
      refine xq_aload_n X d_M_gather_124 1 rfl rfl ?_
      refine xq_aload_n X d_M_gather_125 1 rfl rfl ?_
      refine rg_row X 11 (by decide) f_M_41 d_M_gather_126 ?_
      refine xq_aload_n X d_M_gather_129 1 rfl rfl ?_
      refine rg_get (v := (nI k)) X 21 (by decide) f_M_96 d_M_gather_130 hs ?_
      refine rn_ald (v := (F 11)) X 11 (by decide) hk rfl d_M_gather_133 rfl ?_
      refine rg_put X 23 (by decide) f_M_105 T_M_ok n_M_23 d_M_gather_134 ?_
      refine xq_iconst (v := 0) X d_M_gather_137 (by decide) ?_
      refine xq_istore_n X d_M_gather_138 [(2, .int 0), (1, .int 1), (0, .ref (ad (6, 0)))] rfl rfl (by decide) ?_
      refine xq_iload_n X d_M_gather_139 0 rfl rfl ?_
      refine xq_bipush (v := 6) X d_M_gather_140 (by decide) ?_
      refine xq_icmp_ge X d_M_gather_142 171 (by decide) (fun h => absurd h (by decide)) (fun _ => ?_)
      refine xq_aload_n X d_M_gather_145 2 rfl rfl ?_
      refine rg_row X 24 (by decide) f_M_66 d_M_gather_146 ?_
      refine xq_iload_n X d_M_gather_149 0 rfl rfl ?_
      refine xq_aload_n X d_M_gather_150 2 rfl rfl ?_
      refine rg_row X 15 (by decide) f_M_53 d_M_gather_151 ?_
      refine xq_bipush (v := 6) X d_M_gather_154 (by decide) ?_
      refine xq_aload_n X d_M_gather_156 2 rfl rfl ?_
      refine rg_get (v := (nI k)) X 21 (by decide) f_M_96 d_M_gather_157 hs ?_
      refine xq_imul X d_M_gather_160 ?_
      refine xq_iload_n X d_M_gather_161 0 rfl rfl ?_
      refine xq_iadd X d_M_gather_162 ?_
      refine re_ald (v := (E 0)) X 0 (by decide) hk (ri_6 rfl) d_M_gather_163 rfl ?_
      refine rf_ast (v' := ((E 0) &&& 1)) X 0 (by decide) rfl rfl d_M_gather_164 ?_
      refine xq_iinc X d_M_gather_165 0 rfl [(2, .int 1), (1, .int 1), (0, .ref (ad (6, 0)))] rfl (by decide) (by decide) ?_
      refine xq_goto X d_M_gather_168 139 (by decide) ?_
      refine xq_iload_n X d_M_gather_139 0 rfl rfl ?_
      refine xq_bipush (v := 6) X d_M_gather_140 (by decide) ?_
      refine xq_icmp_ge X d_M_gather_142 171 (by decide) (fun h => absurd h (by decide)) (fun _ => ?_)
      refine xq_aload_n X d_M_gather_145 2 rfl rfl ?_
      refine rg_row X 24 (by decide) f_M_66 d_M_gather_146 ?_
      refine xq_iload_n X d_M_gather_149 0 rfl rfl ?_
      refine xq_aload_n X d_M_gather_150 2 rfl rfl ?_
      refine rg_row X 15 (by decide) f_M_53 d_M_gather_151 ?_
      refine xq_bipush (v := 6) X d_M_gather_154 (by decide) ?_
      refine xq_aload_n X d_M_gather_156 2 rfl rfl ?_
      refine rg_get (v := (nI k)) X 21 (by decide) f_M_96 d_M_gather_157 hs ?_
      refine xq_imul X d_M_gather_160 ?_
      refine xq_iload_n X d_M_gather_161 0 rfl rfl ?_
      refine xq_iadd X d_M_gather_162 ?_
      refine re_ald (v := (E 1)) X 1 (by decide) hk (ri_6 rfl) d_M_gather_163 rfl ?_
      refine rf_ast (v' := ((E 1) &&& 1)) X 1 (by decide) rfl rfl d_M_gather_164 ?_
      refine xq_iinc X d_M_gather_165 0 rfl [(2, .int 2), (1, .int 1), (0, .ref (ad (6, 0)))] rfl (by decide) (by decide) ?_
      refine xq_goto X d_M_gather_168 139 (by decide) ?_
      refine xq_iload_n X d_M_gather_139 0 rfl rfl ?_
      refine xq_bipush (v := 6) X d_M_gather_140 (by decide) ?_
      refine xq_icmp_ge X d_M_gather_142 171 (by decide) (fun h => absurd h (by decide)) (fun _ => ?_)
      refine xq_aload_n X d_M_gather_145 2 rfl rfl ?_
      refine rg_row X 24 (by decide) f_M_66 d_M_gather_146 ?_
      refine xq_iload_n X d_M_gather_149 0 rfl rfl ?_
      refine xq_aload_n X d_M_gather_150 2 rfl rfl ?_
      refine rg_row X 15 (by decide) f_M_53 d_M_gather_151 ?_
      refine xq_bipush (v := 6) X d_M_gather_154 (by decide) ?_
      refine xq_aload_n X d_M_gather_156 2 rfl rfl ?_
      refine rg_get (v := (nI k)) X 21 (by decide) f_M_96 d_M_gather_157 hs ?_
      refine xq_imul X d_M_gather_160 ?_
      refine xq_iload_n X d_M_gather_161 0 rfl rfl ?_
      refine xq_iadd X d_M_gather_162 ?_
      refine re_ald (v := (E 2)) X 2 (by decide) hk (ri_6 rfl) d_M_gather_163 rfl ?_
      refine rf_ast (v' := ((E 2) &&& 1)) X 2 (by decide) rfl rfl d_M_gather_164 ?_
      refine xq_iinc X d_M_gather_165 0 rfl [(2, .int 3), (1, .int 1), (0, .ref (ad (6, 0)))] rfl (by decide) (by decide) ?_
      refine xq_goto X d_M_gather_168 139 (by decide) ?_
      refine xq_iload_n X d_M_gather_139 0 rfl rfl ?_
      refine xq_bipush (v := 6) X d_M_gather_140 (by decide) ?_
      refine xq_icmp_ge X d_M_gather_142 171 (by decide) (fun h => absurd h (by decide)) (fun _ => ?_)
      refine xq_aload_n X d_M_gather_145 2 rfl rfl ?_
      refine rg_row X 24 (by decide) f_M_66 d_M_gather_146 ?_
      refine xq_iload_n X d_M_gather_149 0 rfl rfl ?_
      refine xq_aload_n X d_M_gather_150 2 rfl rfl ?_
      refine rg_row X 15 (by decide) f_M_53 d_M_gather_151 ?_
      refine xq_bipush (v := 6) X d_M_gather_154 (by decide) ?_
      refine xq_aload_n X d_M_gather_156 2 rfl rfl ?_
      refine rg_get (v := (nI k)) X 21 (by decide) f_M_96 d_M_gather_157 hs ?_
      refine xq_imul X d_M_gather_160 ?_
      refine xq_iload_n X d_M_gather_161 0 rfl rfl ?_
      refine xq_iadd X d_M_gather_162 ?_
      refine re_ald (v := (E 3)) X 3 (by decide) hk (ri_6 rfl) d_M_gather_163 rfl ?_
      refine rf_ast (v' := ((E 3) &&& 1)) X 3 (by decide) rfl rfl d_M_gather_164 ?_
      refine xq_iinc X d_M_gather_165 0 rfl [(2, .int 4), (1, .int 1), (0, .ref (ad (6, 0)))] rfl (by decide) (by decide) ?_
      refine xq_goto X d_M_gather_168 139 (by decide) ?_
      refine xq_iload_n X d_M_gather_139 0 rfl rfl ?_
      refine xq_bipush (v := 6) X d_M_gather_140 (by decide) ?_
      refine xq_icmp_ge X d_M_gather_142 171 (by decide) (fun h => absurd h (by decide)) (fun _ => ?_)
      refine xq_aload_n X d_M_gather_145 2 rfl rfl ?_
      refine rg_row X 24 (by decide) f_M_66 d_M_gather_146 ?_
      refine xq_iload_n X d_M_gather_149 0 rfl rfl ?_
      refine xq_aload_n X d_M_gather_150 2 rfl rfl ?_
      refine rg_row X 15 (by decide) f_M_53 d_M_gather_151 ?_
      refine xq_bipush (v := 6) X d_M_gather_154 (by decide) ?_
      refine xq_aload_n X d_M_gather_156 2 rfl rfl ?_
      refine rg_get (v := (nI k)) X 21 (by decide) f_M_96 d_M_gather_157 hs ?_
      refine xq_imul X d_M_gather_160 ?_
      refine xq_iload_n X d_M_gather_161 0 rfl rfl ?_
      refine xq_iadd X d_M_gather_162 ?_
      refine re_ald (v := (E 4)) X 4 (by decide) hk (ri_6 rfl) d_M_gather_163 rfl ?_
      refine rf_ast (v' := ((E 4) &&& 1)) X 4 (by decide) rfl rfl d_M_gather_164 ?_
      refine xq_iinc X d_M_gather_165 0 rfl [(2, .int 5), (1, .int 1), (0, .ref (ad (6, 0)))] rfl (by decide) (by decide) ?_
      refine xq_goto X d_M_gather_168 139 (by decide) ?_
      refine xq_iload_n X d_M_gather_139 0 rfl rfl ?_
      refine xq_bipush (v := 6) X d_M_gather_140 (by decide) ?_
      refine xq_icmp_ge X d_M_gather_142 171 (by decide) (fun h => absurd h (by decide)) (fun _ => ?_)
      refine xq_aload_n X d_M_gather_145 2 rfl rfl ?_
      refine rg_row X 24 (by decide) f_M_66 d_M_gather_146 ?_
      refine xq_iload_n X d_M_gather_149 0 rfl rfl ?_
      refine xq_aload_n X d_M_gather_150 2 rfl rfl ?_
      refine rg_row X 15 (by decide) f_M_53 d_M_gather_151 ?_
      refine xq_bipush (v := 6) X d_M_gather_154 (by decide) ?_
      refine xq_aload_n X d_M_gather_156 2 rfl rfl ?_
      refine rg_get (v := (nI k)) X 21 (by decide) f_M_96 d_M_gather_157 hs ?_
      refine xq_imul X d_M_gather_160 ?_
      refine xq_iload_n X d_M_gather_161 0 rfl rfl ?_
      refine xq_iadd X d_M_gather_162 ?_
      refine re_ald (v := (E 5)) X 5 (by decide) hk (ri_6 rfl) d_M_gather_163 rfl ?_
      refine rf_ast (v' := ((E 5) &&& 1)) X 5 (by decide) rfl rfl d_M_gather_164 ?_
      refine xq_iinc X d_M_gather_165 0 rfl [(2, .int 6), (1, .int 1), (0, .ref (ad (6, 0)))] rfl (by decide) (by decide) ?_
      refine xq_goto X d_M_gather_168 139 (by decide) ?_
      refine xq_iload_n X d_M_gather_139 0 rfl rfl ?_
      refine xq_bipush (v := 6) X d_M_gather_140 (by decide) ?_
      refine xq_icmp_ge X d_M_gather_142 171 (by decide) (fun _ => ?_) (fun h => absurd h (by decide))
      refine xq_aload_n X d_M_gather_171 2 rfl rfl ?_
      refine xq_aload_n X d_M_gather_172 2 rfl rfl ?_
      refine rg_get (v := 0) X 19 (by decide) f_M_99 d_M_gather_173 rfl ?_
      refine xq_if_ne X d_M_gather_176 183 (by decide) (fun h => absurd h (by decide)) (fun _ => ?_)
      refine xq_iconst (v := (-1)) X d_M_gather_179 (by decide) ?_
      refine xq_goto X d_M_gather_180 218 (by decide) ?_
      refine rg_put X 20 (by decide) f_M_62 T_M_ok n_M_20 d_M_gather_218 ?_
      have hh : (r_M_gat1 k F E g f) = ((upd F 13 0), (upd (upd (upd (upd (upd g 19 z2) 19 0) 22 (F 3)) 23 (F 11)) 20 (-1)), (upd (upd (upd (upd (upd (upd f 0 ((E 0) &&& 1)) 1 ((E 1) &&& 1)) 2 ((E 2) &&& 1)) 3 ((E 3) &&& 1)) 4 ((E 4) &&& 1)) 5 ((E 5) &&& 1))) := by subst e9; exact (if_neg h3)
      exact xq_vret X rfl (by rw [hh]) d_M_gather_221
  refine xq_icmp_ne X d_M_gather_63 70 (by decide) (fun h1 => ?_) (fun h1 => ?_)
  · skip
    refine xq_iconst (v := 3) X d_M_gather_70 (by decide) ?_
    exact J8 _ (if_neg h1).symm
  · skip
    refine xq_iconst (v := 2) X d_M_gather_66 (by decide) ?_
    refine xq_goto X d_M_gather_67 71 (by decide) ?_
    exact J8 _ (if_pos h1).symm
def r_M_gat2 (g : Nat → Int32) (x : Int32) : (Nat → Int32) := (upd (upd g 19 1) 20 (-2))
set_option maxHeartbeats 4000000 in
set_option maxRecDepth 100000 in
theorem rw_M_gat2 {p : Program} {l : Launch} {e : Env} {s : State} {m : MethodId} {args : Array Value} {below : List Frame} {meth : Method} {c : Code} {D : va_G} {ad : xq_I → Nat} {cI cZ cN : ClassId} (hap : xq_ap rc_cs ad) (X : xq_C p s m args meth c D vcl (kc_tys cI cZ cN) rc_cs ad xw y_M_gather.cls b_M_gather 3 none) {k : Nat} (hk : k < 6) {A : rc_A} {F E T g f : Nat → Int32} (x : Int32) (hx0 : ¬ x = 0) (hx1 : ¬ x ≤ 1) (hx2 : ¬ x = 1) :
    xq_W p l e (xq_r 0) s m args below meth c D vcl rc_cs ad (rc_en ad cI cZ) 0 0 (MQ below (xq_Q D vcl rc_cs ad (rc_en ad cI cZ) none (rc_ov A k F E T (r_M_gat2 g x) f)) args s 0 0 (xq_in rc_cs ad)) 3 35 [(1, .int x), (0, .ref (ad (6, 0)))] [] (rc_ov A k F E T g f) := by

  refine xq_aload_n X d_M_gather_35 1 rfl rfl ?_
  refine xq_iload_n X d_M_gather_36 0 rfl rfl ?_
  refine xq_if_ne X d_M_gather_37 44 (by decide) (fun _ => ?_) (fun h => absurd h hx0)
  refine xq_iload_n X d_M_gather_44 0 rfl rfl ?_
  refine xq_iconst (v := 1) X d_M_gather_45 (by decide) ?_
  refine xq_icmp_le X d_M_gather_46 53 (by decide) (fun h => absurd h hx1) (fun _ => ?_)
  refine xq_iconst (v := 1) X d_M_gather_49 (by decide) ?_
  refine xq_goto X d_M_gather_50 71 (by decide) ?_
  refine rg_put X 19 (by decide) f_M_99 T_M_ok n_M_19 d_M_gather_71 ?_
  refine xq_iload_n X d_M_gather_74 0 rfl rfl ?_
  refine xq_iconst (v := 1) X d_M_gather_75 (by decide) ?_
  refine xq_icmp_ne X d_M_gather_76 106 (by decide) (fun _ => ?_) (fun h => absurd h hx2)
  refine xq_iload_n X d_M_gather_106 0 rfl rfl ?_
  refine xq_iconst (v := 1) X d_M_gather_107 (by decide) ?_
  refine xq_icmp_ne X d_M_gather_108 171 (by decide) (fun _ => ?_) (fun h => absurd h hx2)
  refine xq_aload_n X d_M_gather_171 1 rfl rfl ?_
  refine xq_aload_n X d_M_gather_172 1 rfl rfl ?_
  refine rg_get (v := 1) X 19 (by decide) f_M_99 d_M_gather_173 rfl ?_
  refine xq_if_ne X d_M_gather_176 183 (by decide) (fun _ => ?_) (fun h => absurd h (by decide))
  refine xq_aload_n X d_M_gather_183 1 rfl rfl ?_
  refine rg_get (v := 1) X 19 (by decide) f_M_99 d_M_gather_184 rfl ?_
  refine xq_iconst (v := 1) X d_M_gather_187 (by decide) ?_
  refine xq_icmp_ne X d_M_gather_188 196 (by decide) (fun h => absurd h (by decide)) (fun _ => ?_)
  refine xq_bipush (v := (-2)) X d_M_gather_191 (by decide) ?_
  refine xq_goto X d_M_gather_193 218 (by decide) ?_
  refine rg_put X 20 (by decide) f_M_62 T_M_ok n_M_20 d_M_gather_218 ?_
  have hh : (r_M_gat2 g x) = (upd (upd g 19 1) 20 (-2)) := by exact rfl
  exact xq_vret X rfl (by rw [hh]) d_M_gather_221
/-- gather: how many send, and who sends last -/
def rq_c (A : rc_A) : Nat → Int32
  | 0 => 0
  | j + 1 => if A 25 j = 0 then rq_c A j else rq_c A j + 1
def rq_d (A : rc_A) : Nat → Int32
  | 0 => A 0 21
  | j + 1 => if A 25 j = 0 then rq_d A j else nI j
theorem rq_cd (A : rc_A) : ∀ n, ∃ c, c ≤ n ∧ rq_c A n = nI c ∧ (c ≠ 0 → ∃ k, k < n ∧ rq_d A n = nI k ∧ A 25 k ≠ 0)
  | 0 => ⟨0, Nat.le_refl _, rfl, fun h => absurd rfl h⟩
  | n + 1 => by
    obtain ⟨c, h1, h2, h3⟩ := rq_cd A n
    by_cases hq : A 25 n = 0
    · refine ⟨c, by omega, ?_, fun h => ?_⟩
      · show (if A 25 n = 0 then rq_c A n else rq_c A n + 1) = nI c
        rw [if_pos hq]; exact h2
      · obtain ⟨k, k1, k2, k3⟩ := h3 h
        refine ⟨k, by omega, ?_, k3⟩
        show (if A 25 n = 0 then rq_d A n else nI n) = nI k
        rw [if_pos hq]; exact k2
    · refine ⟨c + 1, by omega, ?_, fun _ => ⟨n, by omega, ?_, hq⟩⟩
      · show (if A 25 n = 0 then rq_c A n else rq_c A n + 1) = nI (c + 1)
        rw [if_neg hq, h2, nI_1]
      · show (if A 25 n = 0 then rq_d A n else nI n) = nI n
        rw [if_neg hq]
set_option maxHeartbeats 4000000 in
set_option maxRecDepth 100000 in
theorem rl_gather {p : Program} {l : Launch} {e : Env} {s : State} {m : MethodId} {args : Array Value} {below : List Frame} {meth : Method} {c : Code} {Q : State → Prop} {D : va_G} {ad : xq_I → Nat} {cI cZ cN : ClassId} (hap : xq_ap rc_cs ad) (X : xq_C p s m args meth c D vcl (kc_tys cI cZ cN) rc_cs ad xw y_M_gather.cls b_M_gather 3 none) (n : Nat) (hn : n = 4 ∨ n = 5 ∨ n = 6) (A : rc_A) (hg : A 0 0 = nI n)
    (H : xq_W p l e (xq_r 0) s m args below meth c D vcl rc_cs ad (rc_en ad cI cZ) 0 0 Q 3 35 [(2, .int (nI n)), (1, .int (rq_c A n)), (0, .ref (ad (6, 0)))] [] (rq_gf A (upd (A 0) 21 (rq_d A n)) (A 24))) :
    ∀ r k, k + r = n → xq_W p l e (xq_r 0) s m args below meth c D vcl rc_cs ad (rc_en ad cI cZ) 0 0 Q 3 4 [(2, .int (nI k)), (1, .int (rq_c A k)), (0, .ref (ad (6, 0)))] [] (rq_gf A (upd (A 0) 21 (rq_d A k)) (A 24)) := by
  intro r
  induction r with
  | zero =>
    intro k hk
    have hk : k = n := by omega
    subst hk
    have hge : nI k ≤ nI k := nI_le (Nat.le_refl _) (by omega)
    refine xq_mem (rq_at_eq A k _ _).symm ?_
    unfold rq_at
    refine xq_iload_n X d_M_gather_4 0 rfl rfl ?_
    refine xq_aload_n X d_M_gather_5 2 rfl rfl ?_
    refine rg_get (v := (nI k)) X 0 (by decide) f_M_72 d_M_gather_6 hg ?_
    refine xq_icmp_ge X d_M_gather_9 35 (by decide) (fun _ => ?_) (fun h => absurd hge h)
    refine xq_mem (rq_at_eq A k _ _) ?_
    exact H
  | succ r ih =>
    intro k hk
    have hkn : k < n := by omega
    have hk : k < 6 := by omega
    have hlt : ¬ nI n ≤ nI k := nI_ge (by omega) (by omega)
    refine xq_mem (rq_at_eq A k _ _).symm ?_
    unfold rq_at
    refine xq_iload_n X d_M_gather_4 0 rfl rfl ?_
    refine xq_aload_n X d_M_gather_5 2 rfl rfl ?_
    refine rg_get (v := (nI n)) X 0 (by decide) f_M_72 d_M_gather_6 hg ?_
    refine xq_icmp_ge X d_M_gather_9 35 (by decide) (fun h => absurd h hlt) (fun _ => ?_)
    refine xq_aload_n X d_M_gather_12 2 rfl rfl ?_
    refine rg_row X 25 (by decide) f_M_69 d_M_gather_13 ?_
    refine xq_iload_n X d_M_gather_16 0 rfl rfl ?_
    refine rz_ald (v := ((rq_F A k) 25)) X 25 (by decide) hk rfl d_M_gather_17 rfl ?_
    have J4 : ∀ (z2 : Int32) (z3 : Nat → Int32), z2 = (if ((rq_F A k) 25) = 0 then (rq_c A k) else ((rq_c A k) + 1)) → z3 = (if ((rq_F A k) 25) = 0 then (upd (A 0) 21 (rq_d A k)) else (upd (upd (A 0) 21 (rq_d A k)) 21 (nI k))) → xq_W p l e (xq_r 0) s m args below meth c D vcl rc_cs ad (rc_en ad cI cZ) 0 0 Q 3 29 [(2, .int (nI k)), (1, .int z2), (0, .ref (ad (6, 0)))] [] (rc_ov A k (rq_F A k) (rq_E A k) (rq_T A k) z3 (A 24)) := by
      intro z2 z3 e5 e6
      refine xq_iinc X d_M_gather_29 0 rfl [(2, .int (nI (k + 1))), (1, .int z2), (0, .ref (ad (6, 0)))] rfl (nI_1 k) (by decide) ?_
      refine xq_goto X d_M_gather_32 4 (by decide) ?_
      have hz1 : z2 = rq_c A (k + 1) := by rw [e5]; rfl
      have hz2 : z3 = upd (A 0) 21 (rq_d A (k + 1)) := by
        rw [e6]
        show (if A 25 k = 0 then upd (A 0) 21 (rq_d A k) else upd (upd (A 0) 21 (rq_d A k)) 21 (nI k)) = upd (A 0) 21 (if A 25 k = 0 then rq_d A k else nI k)
        by_cases hq : A 25 k = 0
        · rw [if_pos hq, if_pos hq]
        · rw [if_neg hq, if_neg hq, rq_uu]
      rw [hz1, hz2]
      refine xq_mem (rq_at_eq A k _ _) ?_
      exact ih (k + 1) (by omega)
    refine xq_if_eq X d_M_gather_18 29 (by decide) (fun h1 => ?_) (fun h1 => ?_)
    · skip
      exact J4 _ _ (if_pos h1).symm (if_pos h1).symm
    · skip
      refine xq_iinc X d_M_gather_21 1 rfl [(1, .int ((rq_c A k) + 1)), (2, .int (nI k)), (0, .ref (ad (6, 0)))] rfl rfl (by decide) ?_
      refine xq_sub [1, 0, 2] [(2, .int (nI k)), (1, .int ((rq_c A k) + 1)), (0, .ref (ad (6, 0)))] rfl ?_
      refine xq_aload_n X d_M_gather_24 2 rfl rfl ?_
      refine xq_iload_n X d_M_gather_25 0 rfl rfl ?_
      refine rg_put X 21 (by decide) f_M_96 T_M_ok n_M_21 d_M_gather_26 ?_
      exact J4 _ _ (if_neg h1).symm (if_neg h1).symm
/-- what gather leaves -/
def rq_gat (n : Nat) (A : rc_A) : rc_A :=
  if rq_c A n = 0 then rq_gf A (r_M_gat0 (upd (A 0) 21 (rq_d A n))) (A 24)
  else if rq_c A n = 1 then rc_ov A (rq_d A n).toNatClampNeg (r_M_gat1 (rq_d A n).toNatClampNeg (rq_F A (rq_d A n).toNatClampNeg) (rq_E A (rq_d A n).toNatClampNeg) (upd (A 0) 21 (rq_d A n)) (A 24)).1 (rq_E A (rq_d A n).toNatClampNeg) (rq_T A (rq_d A n).toNatClampNeg)
    (r_M_gat1 (rq_d A n).toNatClampNeg (rq_F A (rq_d A n).toNatClampNeg) (rq_E A (rq_d A n).toNatClampNeg) (upd (A 0) 21 (rq_d A n)) (A 24)).2.1 (r_M_gat1 (rq_d A n).toNatClampNeg (rq_F A (rq_d A n).toNatClampNeg) (rq_E A (rq_d A n).toNatClampNeg) (upd (A 0) 21 (rq_d A n)) (A 24)).2.2
  else rq_gf A (r_M_gat2 (upd (A 0) 21 (rq_d A n)) (rq_c A n)) (A 24)
set_option maxHeartbeats 4000000 in
set_option maxRecDepth 100000 in
theorem rt_M_gather {l : Launch} {D : va_G} {ad : xq_I → Nat} {cI cZ cN : ClassId} (hap : xq_ap rc_cs ad) (n : Nat) (hn : n = 4 ∨ n = 5 ∨ n = 6) (A : rc_A) (hg : A 0 0 = nI n) :
    xq_M l D vcl (kc_tys cI cZ cN) rc_cs ad (rc_en ad cI cZ) y_M_gather (Cond.code y_M_gather b_M_gather 3 none :: xw) 0 [.ref (ad (6, 0))] A none (rq_gat n A) := by
  refine xq_met (by decide) (Nat.le_of_ble_eq_true rfl) hap ?_
  intro p e s m args below meth c X
  refine xq_eqv (L' := [(0, .ref (ad (6, 0)))]) (st' := []) rfl rfl ?_
  refine xq_iconst (v := 0) X d_M_gather_0 (by decide) ?_
  refine xq_istore_n X d_M_gather_1 [(1, .int 0), (0, .ref (ad (6, 0)))] rfl rfl (by decide) ?_
  refine xq_iconst (v := 0) X d_M_gather_2 (by decide) ?_
  refine xq_istore_n X d_M_gather_3 [(2, .int 0), (1, .int 0), (0, .ref (ad (6, 0)))] rfl rfl (by decide) ?_
  refine xq_mem (M' := rq_gf A (upd (A 0) 21 (rq_d A 0)) (A 24)) (by rw [show upd (A 0) 21 (rq_d A 0) = A 0 from rq_us (A 0) 21, rq_gf_self]) ?_
  refine rl_gather hap X n hn A hg ?_ n 0 (by omega)
  refine xq_sub [1, 2] [(1, .int (rq_c A n)), (0, .ref (ad (6, 0)))] rfl ?_
  obtain ⟨cn, c1, c2, c3⟩ := rq_cd A n
  by_cases h0 : rq_c A n = 0
  · have hM : rq_gat n A = rq_gf A (r_M_gat0 (upd (A 0) 21 (rq_d A n))) (A 24) := if_pos h0
    rw [hM, h0]
    refine xq_mem (rq_at_eq A 0 _ _).symm ?_
    have := rq_at_eq A 0 (r_M_gat0 (upd (A 0) 21 (rq_d A n))) (A 24)
    rw [← this]
    unfold rq_at
    exact rw_M_gat0 hap X (by decide)
  · have hc0 : cn ≠ 0 := fun q => h0 (by rw [c2, q]; rfl)
    obtain ⟨k, k1, k2, k3⟩ := c3 hc0
    have hkc : (rq_d A n).toNatClampNeg = k := by rw [k2, nI_clamp (by omega)]
    by_cases h1 : rq_c A n = 1
    · have hM : rq_gat n A = _ := (if_neg h0).trans (if_pos h1)
      rw [hM, h1, hkc]
      refine xq_mem (rq_at_eq A k _ _).symm ?_
      unfold rq_at
      exact rw_M_gat1 hap X (by omega) k2
    · have hM : rq_gat n A = rq_gf A (r_M_gat2 (upd (A 0) 21 (rq_d A n)) (rq_c A n)) (A 24) := (if_neg h0).trans (if_neg h1)
      rw [hM]
      refine xq_mem (rq_at_eq A 0 _ _).symm ?_
      have := rq_at_eq A 0 (r_M_gat2 (upd (A 0) 21 (rq_d A n)) (rq_c A n)) (A 24)
      rw [← this]
      unfold rq_at
      refine rw_M_gat2 hap X (by decide) (rq_c A n) h0 ?_ h1
      rw [c2]
      have hc1 : cn ≠ 1 := fun q => h1 (by rw [c2, q]; rfl)
      exact fun q => absurd ((nI_leI (b := 1) (by omega) (by decide)).mp q) (by omega)
/-- a slot of the reference -/
def rq_slot (n : Nat) (A : rc_A) : rc_A :=
  (fun B : rc_A => rq_gf B (upd (B 0) 18 (B 0 18 + 1)) (B 24)) (xq_it (rq_st ps_set) n (xq_it (rq_st (ps_hear n)) n (rq_gat n (xq_it (rq_st ps_decide) n (xq_it (rq_st ps_goOn) n A)))))
def rq_pre (n : Nat) (A0 : rc_A) : Prop := ∀ k, k < n → (∃ t, t < 6 ∧ rq_F A0 k 2 = nI t) ∧ (∃ cn, cn ≤ 4 ∧ rq_F A0 k 17 = nI cn) ∧ ∃ u, u < 6 ∧ rq_F A0 k 10 = nI u
theorem rq_gat0 (n : Nat) (A : rc_A) : rq_gat n A 0 0 = A 0 0 := by
  unfold rq_gat
  split
  · rfl
  · split
    · show (r_M_gat1 _ _ _ _ _).2.1 0 = A 0 0
      unfold r_M_gat1
      dsimp only
      split <;> rfl
    · rfl
abbrev rq_s1 (n : Nat) (A : rc_A) : rc_A := xq_it (rq_st ps_goOn) n A
abbrev rq_s2 (n : Nat) (A : rc_A) : rc_A := xq_it (rq_st ps_decide) n (rq_s1 n A)
abbrev rq_s3 (n : Nat) (A : rc_A) : rc_A := rq_gat n (rq_s2 n A)
abbrev rq_s4 (n : Nat) (A : rc_A) : rc_A := xq_it (rq_st (ps_hear n)) n (rq_s3 n A)
abbrev rq_s5 (n : Nat) (A : rc_A) : rc_A := xq_it (rq_st ps_set) n (rq_s4 n A)
theorem rq_many {n : Nat} {A : rc_A} (hg : A 0 0 = nI n) : rq_s1 n A 0 0 = nI n ∧ rq_s2 n A 0 0 = nI n ∧ rq_s3 n A 0 0 = nI n ∧ rq_s4 n A 0 0 = nI n ∧ rq_s5 n A 0 0 = nI n := by
  have h1 : rq_s1 n A 0 0 = nI n := (congrFun (rq_itg ps_goOn A n).1 0).trans hg
  have h2 : rq_s2 n A 0 0 = nI n := (congrFun (rq_itg ps_decide _ n).1 0).trans h1
  have h3 : rq_s3 n A 0 0 = nI n := (rq_gat0 n _).trans h2
  have h4 : rq_s4 n A 0 0 = nI n := (congrFun (rq_itg (ps_hear n) _ n).1 0).trans h3
  have h5 : rq_s5 n A 0 0 = nI n := (congrFun (rq_itg ps_set _ n).1 0).trans h4
  exact ⟨h1, h2, h3, h4, h5⟩
set_option maxHeartbeats 4000000 in
set_option maxRecDepth 100000 in
theorem rt_M_slot {l : Launch} {D : va_G} {ad : xq_I → Nat} {cI cZ cN : ClassId} (hap : xq_ap rc_cs ad) (n : Nat) (hn : n = 4 ∨ n = 5 ∨ n = 6) (A : rc_A) (hg : A 0 0 = nI n) (hp : rq_pre n (rq_s3 n A)) :
    xq_M l D vcl (kc_tys cI cZ cN) rc_cs ad (rc_en ad cI cZ) y_M_slot (Cond.code y_M_slot b_M_slot 2 none :: xw) 4 [.ref (ad (6, 0))] A none (rq_slot n A) := by
  obtain ⟨g1, g2, g3, g4, g5⟩ := rq_many hg
  refine xq_met (by decide) (Nat.le_of_ble_eq_true rfl) hap ?_
  intro p e s m args below meth c X
  refine xq_eqv (L' := [(0, .ref (ad (6, 0)))]) (st' := []) rfl rfl ?_
  refine xq_iconst (v := 0) X d_M_slot_0 (by decide) ?_
  refine xq_istore_n X d_M_slot_1 [(1, .int 0), (0, .ref (ad (6, 0)))] rfl rfl (by decide) ?_
  refine rl_slot1 hap X n hn A hg ?_ n 0 (by omega)
  refine xq_sub [1] [(0, .ref (ad (6, 0)))] rfl ?_
  refine xq_iconst (v := 0) X d_M_slot_21 (by decide) ?_
  refine xq_istore_n X d_M_slot_22 [(1, .int 0), (0, .ref (ad (6, 0)))] rfl rfl (by decide) ?_
  refine rl_slot2 hap X n hn _ g1 ?_ n 0 (by omega)
  refine xq_sub [1] [(0, .ref (ad (6, 0)))] rfl ?_
  refine xq_aload_n X d_M_slot_42 0 rfl rfl ?_
  refine rk_callV (As := []) (rest := []) X xw_g g_M_137 (rt_M_gather hap n hn _ g2) rfl rfl (by decide) (Nat.le_of_ble_eq_true rfl) rfl d_M_slot_43 ?_
  refine xq_iconst (v := 0) X d_M_slot_46 (by decide) ?_
  refine xq_istore_n X d_M_slot_47 [(1, .int 0), (0, .ref (ad (6, 0)))] rfl rfl (by decide) ?_
  refine rl_slot3 hap X n hn _ g3 hp ?_ n 0 (by omega)
  refine xq_sub [1] [(0, .ref (ad (6, 0)))] rfl ?_
  refine xq_iconst (v := 0) X d_M_slot_67 (by decide) ?_
  refine xq_istore_n X d_M_slot_68 [(1, .int 0), (0, .ref (ad (6, 0)))] rfl rfl (by decide) ?_
  refine rl_slot4 hap X n hn _ g4 ?_ n 0 (by omega)
  refine xq_sub [1] [(0, .ref (ad (6, 0)))] rfl ?_
  have hM : rq_slot n A = rq_at (rq_s5 n A) 0 (upd (rq_s5 n A 0) 18 (rq_s5 n A 0 18 + 1)) (rq_s5 n A 24) := (rq_at_eq _ _ _ _).symm
  obtain ⟨B, hB⟩ : ∃ B, B = rq_s5 n A := ⟨_, rfl⟩
  rw [hM, ← hB]
  refine xq_mem (M' := B) hB.symm ?_
  refine xq_mem (rq_self B 0) ?_
  unfold rq_at
  refine xq_aload_n X d_M_slot_88 0 rfl rfl ?_
  refine xq_dup X d_M_slot_89 rfl ?_
  refine rg_get (v := (B 0 18)) X 18 (by decide) f_M_146 d_M_slot_90 rfl ?_
  refine xq_iconst (v := 1) X d_M_slot_93 (by decide) ?_
  refine xq_iadd X d_M_slot_94 ?_
  refine rg_put X 18 (by decide) f_M_146 T_M_ok n_M_18 d_M_slot_95 ?_
  exact xq_vret X rfl rfl d_M_slot_98
/-- a run of the reference -/
def rq_run (n k : Nat) (A : rc_A) : rc_A := xq_it (fun _ => rq_slot n) k A
def rq_fr (n : Nat) (A : rc_A) : Nat → Int32
  | 0 => 0
  | k + 1 => if rq_run n (k + 1) A 0 19 ≤ 1 then rq_fr n A k else rq_fr n A k + 1
set_option maxHeartbeats 4000000 in
set_option maxRecDepth 100000 in
theorem rl_run {p : Program} {l : Launch} {e : Env} {s : State} {m : MethodId} {args : Array Value} {below : List Frame} {meth : Method} {c : Code} {Q : State → Prop} {D : va_G} {ad : xq_I → Nat} {cI cZ cN : ClassId} (hap : xq_ap rc_cs ad) (X : xq_C p s m args meth c D vcl (kc_tys cI cZ cN) rc_cs ad xw y_M_run.cls b_M_run 4 (some .int)) (n : Nat) (hn : n = 4 ∨ n = 5 ∨ n = 6) (A : rc_A) (q : Nat) (hq : q ≤ 40) (hp : ∀ k, k < q → rq_run n k A 0 0 = nI n ∧ rq_pre n (rq_s3 n (rq_run n k A)))
    (H : xq_W p l e (xq_r 5) s m args below meth c D vcl rc_cs ad (rc_en ad cI cZ) 0 0 Q 4 47 [(3, .int (nI q)), (2, .int (rq_fr n A q)), (1, .int (nI q)), (0, .ref (ad (6, 0)))] [] (rq_run n q A)) :
    ∀ r k, k + r = q → xq_W p l e (xq_r 5) s m args below meth c D vcl rc_cs ad (rc_en ad cI cZ) 0 0 Q 4 16 [(3, .int (nI k)), (2, .int (rq_fr n A k)), (1, .int (nI q)), (0, .ref (ad (6, 0)))] [] (rq_run n k A) := by
  intro r
  induction r with
  | zero =>
    intro k hk
    have hk : k = q := by omega
    subst hk
    have hge : nI k ≤ nI k := nI_le (Nat.le_refl _) (by omega)
    refine xq_iload_n X d_M_run_16 0 rfl rfl ?_
    refine xq_iload_n X d_M_run_17 2 rfl rfl ?_
    refine xq_icmp_ge X d_M_run_18 47 (by decide) (fun _ => ?_) (fun h => absurd hge h)
    exact H
  | succ r ih =>
    intro k hk
    have hkq : k < q := by omega
    have hlt : ¬ nI q ≤ nI k := nI_ge (by omega) (by omega)
    obtain ⟨p1, p2⟩ := hp k hkq
    refine xq_iload_n X d_M_run_16 0 rfl rfl ?_
    refine xq_iload_n X d_M_run_17 2 rfl rfl ?_
    refine xq_icmp_ge X d_M_run_18 47 (by decide) (fun h => absurd h hlt) (fun _ => ?_)
    refine xq_aload_n X d_M_run_21 3 rfl rfl ?_
    refine rk_callV (As := []) (rest := []) X xw_g g_M_149 (rt_M_slot hap n hn _ p1 p2) rfl rfl (by decide) (Nat.le_of_ble_eq_true rfl) rfl d_M_run_22 ?_
    have hJ : ∀ z : Int32, z = rq_fr n A (k + 1) → xq_W p l e (xq_r 5) s m args below meth c D vcl rc_cs ad (rc_en ad cI cZ) 0 0 Q 4 40 [(3, .int (nI k)), (2, .int (rq_fr n A k)), (1, .int (nI q)), (0, .ref (ad (6, 0)))] [.int z] (rq_slot n (rq_run n k A)) := by
      intro z hz
      subst hz
      refine xq_istore_n X d_M_run_40 [(2, .int (rq_fr n A (k + 1))), (3, .int (nI k)), (1, .int (nI q)), (0, .ref (ad (6, 0)))] rfl rfl (by decide) ?_
      refine xq_iinc X d_M_run_41 1 rfl [(3, .int (nI (k + 1))), (2, .int (rq_fr n A (k + 1))), (1, .int (nI q)), (0, .ref (ad (6, 0)))] rfl (nI_1 k) (by decide) ?_
      refine xq_goto X d_M_run_44 16 (by decide) ?_
      exact ih (k + 1) (by omega)
    refine xq_mem (rq_self _ 0) ?_
    unfold rq_at
    refine xq_aload_n X d_M_run_25 3 rfl rfl ?_
    refine rg_get (v := (rq_run n (k + 1) A 0 19)) X 19 (by decide) f_M_99 d_M_run_26 rfl ?_
    refine xq_iconst (v := 1) X d_M_run_29 (by decide) ?_
    refine xq_icmp_le X d_M_run_30 39 (by decide) (fun h => ?_) (fun h => ?_)
    · refine xq_iload_n X d_M_run_39 1 rfl rfl ?_
      refine xq_mem (rq_self _ 0).symm ?_
      exact hJ _ (if_pos h).symm
    · refine xq_iload_n X d_M_run_33 1 rfl rfl ?_
      refine xq_iconst (v := 1) X d_M_run_34 (by decide) ?_
      refine xq_iadd X d_M_run_35 ?_
      refine xq_goto X d_M_run_36 40 (by decide) ?_
      refine xq_mem (rq_self _ 0).symm ?_
      exact hJ _ (if_neg h).symm
set_option maxHeartbeats 4000000 in
set_option maxRecDepth 100000 in
theorem rt_M_run {l : Launch} {D : va_G} {ad : xq_I → Nat} {cI cZ cN : ClassId} (hap : xq_ap rc_cs ad) (n : Nat) (hn : n = 4 ∨ n = 5 ∨ n = 6) (A : rc_A) (q : Nat) (hq : q ≤ 40) (hp : ∀ k, k < q → rq_run n k A 0 0 = nI n ∧ rq_pre n (rq_s3 n (rq_run n k A))) :
    xq_M l D vcl (kc_tys cI cZ cN) rc_cs ad (rc_en ad cI cZ) y_M_run (Cond.code y_M_run b_M_run 4 (some .int) :: xw) 5 [.ref (ad (6, 0)), .int (nI q)] A (some (.int (rq_fr n A q))) (rq_run n q A) := by
  refine xq_met (by decide) (Nat.le_of_ble_eq_true rfl) hap ?_
  intro p e s m args below meth c X
  refine xq_sub [1, 0] [(1, .int (nI q)), (0, .ref (ad (6, 0)))] rfl ?_
  refine xq_iload_n X d_M_run_0 0 rfl rfl ?_
  refine xq_if_lt X d_M_run_1 10 (by decide) (fun h => absurd h (nI_pos (by omega))) (fun _ => ?_)
  refine xq_iload_n X d_M_run_4 0 rfl rfl ?_
  refine xq_bipush (v := 40) X d_M_run_5 (by decide) ?_
  refine xq_icmp_le X d_M_run_7 12 (by decide) (fun _ => ?_) (fun h => absurd (nI_le (b := 40) hq (by decide)) h)
  refine xq_iconst (v := 0) X d_M_run_12 (by decide) ?_
  refine xq_istore_n X d_M_run_13 [(2, .int 0), (1, .int (nI q)), (0, .ref (ad (6, 0)))] rfl rfl (by decide) ?_
  refine xq_iconst (v := 0) X d_M_run_14 (by decide) ?_
  refine xq_istore_n X d_M_run_15 [(3, .int 0), (2, .int 0), (1, .int (nI q)), (0, .ref (ad (6, 0)))] rfl rfl (by decide) ?_
  refine rl_run hap X n hn A q hq hp ?_ q 0 (by omega)
  refine xq_iload_n X d_M_run_47 1 rfl rfl ?_
  exact xq_iret X rfl rfl rfl rfl d_M_run_48
set_option maxHeartbeats 4000000 in
set_option maxRecDepth 100000 in
theorem rt_M_run_bad {l : Launch} {D : va_G} {ad : xq_I → Nat} {cI cZ cN : ClassId} (hap : xq_ap rc_cs ad) (A : rc_A) (x : Int32) (hx : x < 0 ∨ ¬ x ≤ 40) :
    xq_M l D vcl (kc_tys cI cZ cN) rc_cs ad (rc_en ad cI cZ) y_M_run (Cond.code y_M_run b_M_run 4 (some .int) :: xw) 5 [.ref (ad (6, 0)), .int x] A (some (.int (-1))) A := by
  refine xq_met (by decide) (Nat.le_of_ble_eq_true rfl) hap ?_
  intro p e s m args below meth c X
  refine xq_sub [1, 0] [(1, .int x), (0, .ref (ad (6, 0)))] rfl ?_
  have hJ : xq_W p l e (xq_r 5) s m args below meth c D vcl rc_cs ad (rc_en ad cI cZ) 0 0 (MQ below (xq_Q D vcl rc_cs ad (rc_en ad cI cZ) (some (.int (-1))) A) args s 0 0 (xq_in rc_cs ad)) 4 10 [(1, .int x), (0, .ref (ad (6, 0)))] [] A := by
    refine xq_iconst (v := (-1)) X d_M_run_10 (by decide) ?_
    exact xq_iret X rfl rfl rfl rfl d_M_run_11
  refine xq_iload_n X d_M_run_0 0 rfl rfl ?_
  refine xq_if_lt X d_M_run_1 10 (by decide) (fun _ => hJ) (fun h => ?_)
  refine xq_iload_n X d_M_run_4 0 rfl rfl ?_
  refine xq_bipush (v := 40) X d_M_run_5 (by decide) ?_
  refine xq_icmp_le X d_M_run_7 12 (by decide) (fun h2 => ?_) (fun _ => hJ)
  rcases hx with q | q
  · exact absurd q h
  · exact absurd h2 q
