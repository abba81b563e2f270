theorem rq_lt {c : Nat} {x : Int32} (hcl : c ≤ 4) (hc : x = nI c) (h : ¬ x = 4) : c < 4 := by
  rcases Nat.lt_or_ge c 4 with q | q
  · exact q
  · exfalso
    have : c = 4 := by omega
    subst this
    exact h hc
theorem rq_b {z : Int32} (h : z = 0 ∨ z = 1) : narrow .boolean (.int z) = .int z := by
  rcases h with rfl | rfl <;> decide
def r_M_good (t : Nat) (cn : Nat) (F : Nat → Int32) (E : Nat → Int32) (T : Nat → Int32) (g : Nat → Int32) : (Nat → Int32) × (Nat → Int32) × (Nat → Int32) := (if (F 17) = 4 then ((upd (upd (upd F 4 ((F 4) + 1)) 17 3) 17 4), (upd E t 1), (upd (upd (upd (upd T 0 (T 1)) 1 (T 2)) 2 (T 3)) 3 ((g 23) - (F 11)))) else ((upd (upd F 4 ((F 4) + 1)) 17 ((F 17) + 1)), (upd E t 1), (upd T cn ((g 23) - (F 11)))))
set_option maxHeartbeats 4000000 in
set_option maxRecDepth 100000 in
theorem rt_M_good {l : Launch} {D : va_G} {ad : xq_I → Nat} {cI cZ cN : ClassId} (hap : xq_ap rc_cs ad) {k : Nat} (hk : k < 6) {A : rc_A} {F E T g f : Nat → Int32} (t : Nat) (htl : t < 6) (ht : (F 2) = nI t) (cn : Nat) (hcl : cn ≤ 4) (hc : (F 17) = nI cn) :
    xq_M l D vcl (kc_tys cI cZ cN) rc_cs ad (rc_en ad cI cZ) y_M_good (Cond.code y_M_good b_M_good 3 none :: xw) 0 [.ref (ad (6, 0)), .int (nI k)] (rc_ov A k F E T g f) none (rc_ov A k (r_M_good t cn F E T g).1 (r_M_good t cn F E T g).2.1 (r_M_good t cn F E T g).2.2 g f) := by
  refine xq_met (by decide) (Nat.le_of_ble_eq_true rfl) hap ?_
  intro p e s m args below meth c X
  refine xq_sub [1, 0] [(1, .int (nI k)), (0, .ref (ad (6, 0)))] rfl ?_
  refine xq_aload_n X d_M_good_0 1 rfl rfl ?_
  refine rg_row X 15 (by decide) f_M_53 d_M_good_1 ?_
  refine xq_bipush (v := 6) X d_M_good_4 (by decide) ?_
  refine xq_iload_n X d_M_good_6 0 rfl rfl ?_
  refine xq_imul X d_M_good_7 ?_
  refine xq_aload_n X d_M_good_8 1 rfl rfl ?_
  refine rg_row X 2 (by decide) f_M_13 d_M_good_9 ?_
  refine xq_iload_n X d_M_good_12 0 rfl rfl ?_
  refine rn_ald (v := (F 2)) X 2 (by decide) hk rfl d_M_good_13 rfl ?_
  refine xq_iadd X d_M_good_14 ?_
  refine xq_iconst (v := 1) X d_M_good_15 (by decide) ?_
  refine re_ast (v' := 1) X t htl hk (ri_6 ht) (by decide) d_M_good_16 ?_
  refine xq_aload_n X d_M_good_17 1 rfl rfl ?_
  refine rg_row X 4 (by decide) f_M_19 d_M_good_18 ?_
  refine xq_iload_n X d_M_good_21 0 rfl rfl ?_
  refine xq_aload_n X d_M_good_22 1 rfl rfl ?_
  refine rg_row X 4 (by decide) f_M_19 d_M_good_23 ?_
  refine xq_iload_n X d_M_good_26 0 rfl rfl ?_
  refine rn_ald (v := (F 4)) X 4 (by decide) hk rfl d_M_good_27 rfl ?_
  refine xq_iconst (v := 1) X d_M_good_28 (by decide) ?_
  refine xq_iadd X d_M_good_29 ?_
  refine rn_ast X 4 (by decide) hk rfl d_M_good_30 ?_
  refine xq_aload_n X d_M_good_31 1 rfl rfl ?_
  refine rg_row X 17 (by decide) f_M_59 d_M_good_32 ?_
  refine xq_iload_n X d_M_good_35 0 rfl rfl ?_
  refine rn_ald (v := (F 17)) X 17 (by decide) hk rfl d_M_good_36 rfl ?_
  refine xq_iconst (v := 4) X d_M_good_37 (by decide) ?_
  refine xq_icmp_ne X d_M_good_38 83 (by decide) (fun h1 => ?_) (fun h1 => ?_)
  · skip
    refine xq_aload_n X d_M_good_83 1 rfl rfl ?_
    refine rg_row X 16 (by decide) f_M_56 d_M_good_84 ?_
    refine xq_iconst (v := 4) X d_M_good_87 (by decide) ?_
    refine xq_iload_n X d_M_good_88 0 rfl rfl ?_
    refine xq_imul X d_M_good_89 ?_
    refine xq_aload_n X d_M_good_90 1 rfl rfl ?_
    refine rg_row X 17 (by decide) f_M_59 d_M_good_91 ?_
    refine xq_iload_n X d_M_good_94 0 rfl rfl ?_
    refine rn_ald (v := (F 17)) X 17 (by decide) hk rfl d_M_good_95 rfl ?_
    refine xq_iadd X d_M_good_96 ?_
    refine xq_aload_n X d_M_good_97 1 rfl rfl ?_
    refine rg_get (v := (g 23)) X 23 (by decide) f_M_105 d_M_good_98 rfl ?_
    refine xq_aload_n X d_M_good_101 1 rfl rfl ?_
    refine rg_row X 11 (by decide) f_M_41 d_M_good_102 ?_
    refine xq_iload_n X d_M_good_105 0 rfl rfl ?_
    refine rn_ald (v := (F 11)) X 11 (by decide) hk rfl d_M_good_106 rfl ?_
    refine xq_isub X d_M_good_107 ?_
    refine rt_ast X cn (rq_lt hcl hc h1) hk (ri_4 hc) d_M_good_108 ?_
    refine xq_aload_n X d_M_good_109 1 rfl rfl ?_
    refine rg_row X 17 (by decide) f_M_59 d_M_good_110 ?_
    refine xq_iload_n X d_M_good_113 0 rfl rfl ?_
    refine xq_aload_n X d_M_good_114 1 rfl rfl ?_
    refine rg_row X 17 (by decide) f_M_59 d_M_good_115 ?_
    refine xq_iload_n X d_M_good_118 0 rfl rfl ?_
    refine rn_ald (v := (F 17)) X 17 (by decide) hk rfl d_M_good_119 rfl ?_
    refine xq_iconst (v := 1) X d_M_good_120 (by decide) ?_
    refine xq_iadd X d_M_good_121 ?_
    refine rn_ast X 17 (by decide) hk rfl d_M_good_122 ?_
    have hh : (r_M_good t cn F E T g) = ((upd (upd F 4 ((F 4) + 1)) 17 ((F 17) + 1)), (upd E t 1), (upd T cn ((g 23) - (F 11)))) := by exact (if_neg h1)
    exact xq_vret X rfl (by rw [hh]) d_M_good_123
  · skip
    refine xq_iconst (v := 0) X d_M_good_41 (by decide) ?_
    refine xq_istore_n X d_M_good_42 [(2, .int 0), (1, .int (nI k)), (0, .ref (ad (6, 0)))] rfl rfl (by decide) ?_
    refine xq_iload_n X d_M_good_43 0 rfl rfl ?_
    refine xq_iconst (v := 3) X d_M_good_44 (by decide) ?_
    refine xq_icmp_ge X d_M_good_45 76 (by decide) (fun h => absurd h (by decide)) (fun _ => ?_)
    refine xq_aload_n X d_M_good_48 2 rfl rfl ?_
    refine rg_row X 16 (by decide) f_M_56 d_M_good_49 ?_
    refine xq_iconst (v := 4) X d_M_good_52 (by decide) ?_
    refine xq_iload_n X d_M_good_53 1 rfl rfl ?_
    refine xq_imul X d_M_good_54 ?_
    refine xq_iload_n X d_M_good_55 0 rfl rfl ?_
    refine xq_iadd X d_M_good_56 ?_
    refine xq_aload_n X d_M_good_57 2 rfl rfl ?_
    refine rg_row X 16 (by decide) f_M_56 d_M_good_58 ?_
    refine xq_iconst (v := 4) X d_M_good_61 (by decide) ?_
    refine xq_iload_n X d_M_good_62 1 rfl rfl ?_
    refine xq_imul X d_M_good_63 ?_
    refine xq_iload_n X d_M_good_64 0 rfl rfl ?_
    refine xq_iadd X d_M_good_65 ?_
    refine xq_iconst (v := 1) X d_M_good_66 (by decide) ?_
    refine xq_iadd X d_M_good_67 ?_
    refine rt_ald (v := (T 1)) X 1 (by decide) hk (ri_4b k 0 1) d_M_good_68 rfl ?_
    refine rt_ast X 0 (by decide) hk (ri_4 rfl) d_M_good_69 ?_
    refine xq_iinc X d_M_good_70 0 rfl [(2, .int 1), (1, .int (nI k)), (0, .ref (ad (6, 0)))] rfl (by decide) (by decide) ?_
    refine xq_goto X d_M_good_73 43 (by decide) ?_
    refine xq_iload_n X d_M_good_43 0 rfl rfl ?_
    refine xq_iconst (v := 3) X d_M_good_44 (by decide) ?_
    refine xq_icmp_ge X d_M_good_45 76 (by decide) (fun h => absurd h (by decide)) (fun _ => ?_)
    refine xq_aload_n X d_M_good_48 2 rfl rfl ?_
    refine rg_row X 16 (by decide) f_M_56 d_M_good_49 ?_
    refine xq_iconst (v := 4) X d_M_good_52 (by decide) ?_
    refine xq_iload_n X d_M_good_53 1 rfl rfl ?_
    refine xq_imul X d_M_good_54 ?_
    refine xq_iload_n X d_M_good_55 0 rfl rfl ?_
    refine xq_iadd X d_M_good_56 ?_
    refine xq_aload_n X d_M_good_57 2 rfl rfl ?_
    refine rg_row X 16 (by decide) f_M_56 d_M_good_58 ?_
    refine xq_iconst (v := 4) X d_M_good_61 (by decide) ?_
    refine xq_iload_n X d_M_good_62 1 rfl rfl ?_
    refine xq_imul X d_M_good_63 ?_
    refine xq_iload_n X d_M_good_64 0 rfl rfl ?_
    refine xq_iadd X d_M_good_65 ?_
    refine xq_iconst (v := 1) X d_M_good_66 (by decide) ?_
    refine xq_iadd X d_M_good_67 ?_
    refine rt_ald (v := (T 2)) X 2 (by decide) hk (ri_4b k 1 1) d_M_good_68 rfl ?_
    refine rt_ast X 1 (by decide) hk (ri_4 rfl) d_M_good_69 ?_
    refine xq_iinc X d_M_good_70 0 rfl [(2, .int 2), (1, .int (nI k)), (0, .ref (ad (6, 0)))] rfl (by decide) (by decide) ?_
    refine xq_goto X d_M_good_73 43 (by decide) ?_
    refine xq_iload_n X d_M_good_43 0 rfl rfl ?_
    refine xq_iconst (v := 3) X d_M_good_44 (by decide) ?_
    refine xq_icmp_ge X d_M_good_45 76 (by decide) (fun h => absurd h (by decide)) (fun _ => ?_)
    refine xq_aload_n X d_M_good_48 2 rfl rfl ?_
    refine rg_row X 16 (by decide) f_M_56 d_M_good_49 ?_
    refine xq_iconst (v := 4) X d_M_good_52 (by decide) ?_
    refine xq_iload_n X d_M_good_53 1 rfl rfl ?_
    refine xq_imul X d_M_good_54 ?_
    refine xq_iload_n X d_M_good_55 0 rfl rfl ?_
    refine xq_iadd X d_M_good_56 ?_
    refine xq_aload_n X d_M_good_57 2 rfl rfl ?_
    refine rg_row X 16 (by decide) f_M_56 d_M_good_58 ?_
    refine xq_iconst (v := 4) X d_M_good_61 (by decide) ?_
    refine xq_iload_n X d_M_good_62 1 rfl rfl ?_
    refine xq_imul X d_M_good_63 ?_
    refine xq_iload_n X d_M_good_64 0 rfl rfl ?_
    refine xq_iadd X d_M_good_65 ?_
    refine xq_iconst (v := 1) X d_M_good_66 (by decide) ?_
    refine xq_iadd X d_M_good_67 ?_
    refine rt_ald (v := (T 3)) X 3 (by decide) hk (ri_4b k 2 1) d_M_good_68 rfl ?_
    refine rt_ast X 2 (by decide) hk (ri_4 rfl) d_M_good_69 ?_
    refine xq_iinc X d_M_good_70 0 rfl [(2, .int 3), (1, .int (nI k)), (0, .ref (ad (6, 0)))] rfl (by decide) (by decide) ?_
    refine xq_goto X d_M_good_73 43 (by decide) ?_
    refine xq_iload_n X d_M_good_43 0 rfl rfl ?_
    refine xq_iconst (v := 3) X d_M_good_44 (by decide) ?_
    refine xq_icmp_ge X d_M_good_45 76 (by decide) (fun _ => ?_) (fun h => absurd h (by decide))
    refine xq_aload_n X d_M_good_76 2 rfl rfl ?_
    refine rg_row X 17 (by decide) f_M_59 d_M_good_77 ?_
    refine xq_iload_n X d_M_good_80 1 rfl rfl ?_
    refine xq_iconst (v := 3) X d_M_good_81 (by decide) ?_
    refine rn_ast X 17 (by decide) hk rfl d_M_good_82 ?_
    refine xq_aload_n X d_M_good_83 2 rfl rfl ?_
    refine rg_row X 16 (by decide) f_M_56 d_M_good_84 ?_
    refine xq_iconst (v := 4) X d_M_good_87 (by decide) ?_
    refine xq_iload_n X d_M_good_88 1 rfl rfl ?_
    refine xq_imul X d_M_good_89 ?_
    refine xq_aload_n X d_M_good_90 2 rfl rfl ?_
    refine rg_row X 17 (by decide) f_M_59 d_M_good_91 ?_
    refine xq_iload_n X d_M_good_94 1 rfl rfl ?_
    refine rn_ald (v := 3) X 17 (by decide) hk rfl d_M_good_95 rfl ?_
    refine xq_iadd X d_M_good_96 ?_
    refine xq_aload_n X d_M_good_97 2 rfl rfl ?_
    refine rg_get (v := (g 23)) X 23 (by decide) f_M_105 d_M_good_98 rfl ?_
    refine xq_aload_n X d_M_good_101 2 rfl rfl ?_
    refine rg_row X 11 (by decide) f_M_41 d_M_good_102 ?_
    refine xq_iload_n X d_M_good_105 1 rfl rfl ?_
    refine rn_ald (v := (F 11)) X 11 (by decide) hk rfl d_M_good_106 rfl ?_
    refine xq_isub X d_M_good_107 ?_
    refine rt_ast X 3 (by decide) hk (ri_4 rfl) d_M_good_108 ?_
    refine xq_aload_n X d_M_good_109 2 rfl rfl ?_
    refine rg_row X 17 (by decide) f_M_59 d_M_good_110 ?_
    refine xq_iload_n X d_M_good_113 1 rfl rfl ?_
    refine xq_aload_n X d_M_good_114 2 rfl rfl ?_
    refine rg_row X 17 (by decide) f_M_59 d_M_good_115 ?_
    refine xq_iload_n X d_M_good_118 1 rfl rfl ?_
    refine rn_ald (v := 3) X 17 (by decide) hk rfl d_M_good_119 rfl ?_
    refine xq_iconst (v := 1) X d_M_good_120 (by decide) ?_
    refine xq_iadd X d_M_good_121 ?_
    refine xq_top 4 (by decide) ?_
    refine rn_ast X 17 (by decide) hk rfl d_M_good_122 ?_
    have hh : (r_M_good t cn F E T g) = ((upd (upd (upd F 4 ((F 4) + 1)) 17 3) 17 4), (upd E t 1), (upd (upd (upd (upd T 0 (T 1)) 1 (T 2)) 2 (T 3)) 3 ((g 23) - (F 11)))) := by exact (if_pos h1)
    exact xq_vret X rfl (by rw [hh]) d_M_good_123
def rq_m (F E : Nat → Int32) (y : Int32) (j : Nat) : Int32 := if E j = 0 then (if nI j = F 2 then (if nI j = y then 0 else 1) else 0) else (if nI j = y then 0 else 1)
def rq_s (F E f : Nat → Int32) (y : Int32) : Nat → Int32
  | 0 => 1
  | j + 1 => if rq_s F E f y j = 0 then 0 else if rq_m F E y j = f j then 1 else 0
theorem rq_s01 (F E f : Nat → Int32) (y : Int32) : ∀ j, rq_s F E f y j = 0 ∨ rq_s F E f y j = 1
  | 0 => Or.inr rfl
  | j + 1 => by
    unfold rq_s
    split
    · exact Or.inl rfl
    · split
      · exact Or.inr rfl
      · exact Or.inl rfl
set_option maxHeartbeats 4000000 in
set_option maxRecDepth 100000 in
theorem rl_matches {p : Program} {l : Launch} {e : Env} {s : State} {m : MethodId} {args : Array Value} {below : List Frame} {meth : Method} {c : Code} {Q : State → Prop} {D : va_G} {ad : xq_I → Nat} {cI cZ cN : ClassId} (hap : xq_ap rc_cs ad) (X : xq_C p s m args meth c D vcl (kc_tys cI cZ cN) rc_cs ad xw y_M_matches.cls b_M_matches 6 (some .boolean)) {k : Nat} (hk : k < 6) {A : rc_A} {F E T g f : Nat → Int32} (y : Int32) (n : Nat) (hn : n ≤ 6) (hg : (g 0) = nI n)
    (H : xq_W p l e (xq_r 0) s m args below meth c D vcl rc_cs ad (rc_en ad cI cZ) 0 0 Q 6 81 [(4, .int (nI n)), (3, .int (rq_s F E f y n)), (2, .int y), (1, .int (nI k)), (0, .ref (ad (6, 0)))] [] (rc_ov A k F E T g f)) :
    ∀ r j, j + r = n → xq_W p l e (xq_r 0) s m args below meth c D vcl rc_cs ad (rc_en ad cI cZ) 0 0 Q 6 5 [(4, .int (nI j)), (3, .int (rq_s F E f y j)), (2, .int y), (1, .int (nI k)), (0, .ref (ad (6, 0)))] [] (rc_ov A k F E T g f) := by
  intro r
  induction r with
  | zero =>
    intro j hj
    have hj : j = n := by omega
    subst hj
    have hge : nI j ≤ nI j := nI_le (Nat.le_refl _) (by omega)
    refine xq_iload X d_M_matches_5 0 rfl ?_
    refine xq_aload_n X d_M_matches_7 4 rfl rfl ?_
    refine rg_get (v := (nI j)) X 0 (by decide) f_M_72 d_M_matches_8 hg ?_
    refine xq_icmp_ge X d_M_matches_11 81 (by decide) (fun _ => ?_) (fun h => absurd hge h)
    exact H
  | succ r ih =>
    intro j hj
    have hj6 : j < 6 := by omega
    have hlt : ¬ nI n ≤ nI j := nI_ge (by omega) (by omega)
    refine xq_iload X d_M_matches_5 0 rfl ?_
    refine xq_aload_n X d_M_matches_7 4 rfl rfl ?_
    refine rg_get (v := (nI n)) X 0 (by decide) f_M_72 d_M_matches_8 hg ?_
    refine xq_icmp_ge X d_M_matches_11 81 (by decide) (fun h => absurd h hlt) (fun _ => ?_)
    refine xq_aload_n X d_M_matches_14 4 rfl rfl ?_
    refine rg_row X 15 (by decide) f_M_53 d_M_matches_15 ?_
    refine xq_bipush (v := 6) X d_M_matches_18 (by decide) ?_
    refine xq_iload_n X d_M_matches_20 3 rfl rfl ?_
    refine xq_imul X d_M_matches_21 ?_
    refine xq_iload X d_M_matches_22 0 rfl ?_
    refine xq_iadd X d_M_matches_24 ?_
    refine re_ald (v := (E j)) X j hj6 hk (ri_6 rfl) d_M_matches_25 rfl ?_
    have J9 : ∀ (z5 : Int32), z5 = (if (E j) = 0 then (if (nI j) = (F 2) then (if (nI j) = y then 0 else 1) else 0) else (if (nI j) = y then 0 else 1)) → xq_W p l e (xq_r 0) s m args below meth c D vcl rc_cs ad (rc_en ad cI cZ) 0 0 Q 6 51 [(4, .int (nI j)), (3, .int (rq_s F E f y j)), (2, .int y), (1, .int (nI k)), (0, .ref (ad (6, 0)))] [.int z5] (rc_ov A k F E T g f) := by
      intro z5 e10
      refine xq_istore X d_M_matches_51 [(5, .int z5), (4, .int (nI j)), (3, .int (rq_s F E f y j)), (2, .int y), (1, .int (nI k)), (0, .ref (ad (6, 0)))] rfl (by decide) ?_
      refine xq_iload_n X d_M_matches_53 2 rfl rfl ?_
      have J11 : ∀ (z8 : Int32), z8 = (if (rq_s F E f y j) = 0 then 0 else (if z5 = (f j) then 1 else 0)) → xq_W p l e (xq_r 0) s m args below meth c D vcl rc_cs ad (rc_en ad cI cZ) 0 0 Q 6 74 [(5, .int z5), (4, .int (nI j)), (3, .int (rq_s F E f y j)), (2, .int y), (1, .int (nI k)), (0, .ref (ad (6, 0)))] [.int z8] (rc_ov A k F E T g f) := by
        intro z8 e12
        refine xq_istore_n X d_M_matches_74 [(3, .int z8), (5, .int z5), (4, .int (nI j)), (2, .int y), (1, .int (nI k)), (0, .ref (ad (6, 0)))] rfl rfl (by decide) ?_
        refine xq_sub [1, 2, 0, 3, 4, 5] [(5, .int z5), (4, .int (nI j)), (3, .int z8), (2, .int y), (1, .int (nI k)), (0, .ref (ad (6, 0)))] rfl ?_
        refine xq_iinc X d_M_matches_75 1 rfl [(4, .int (nI (j + 1))), (5, .int z5), (3, .int z8), (2, .int y), (1, .int (nI k)), (0, .ref (ad (6, 0)))] rfl (nI_1 j) (by decide) ?_
        refine xq_sub [1, 0, 2, 3, 4, 5] [(5, .int z5), (4, .int (nI (j + 1))), (3, .int z8), (2, .int y), (1, .int (nI k)), (0, .ref (ad (6, 0)))] rfl ?_
        refine xq_goto X d_M_matches_78 5 (by decide) ?_
        refine xq_sub [1, 2, 3, 4, 5] [(4, .int (nI (j + 1))), (3, .int z8), (2, .int y), (1, .int (nI k)), (0, .ref (ad (6, 0)))] rfl ?_
        have hz : z8 = rq_s F E f y (j + 1) := by
          rw [e12, e10]
          rfl
        rw [hz]
        exact ih (j + 1) (by omega)
      refine xq_if_eq X d_M_matches_54 73 (by decide) (fun h6 => ?_) (fun h6 => ?_)
      · skip
        refine xq_iconst (v := 0) X d_M_matches_73 (by decide) ?_
        exact J11 _ (if_pos h6).symm
      · skip
        refine xq_iload X d_M_matches_57 0 rfl ?_
        refine xq_aload_n X d_M_matches_59 5 rfl rfl ?_
        refine rg_row X 24 (by decide) f_M_66 d_M_matches_60 ?_
        refine xq_iload X d_M_matches_63 1 rfl ?_
        refine rf_ald (v := (f j)) X j hj6 rfl d_M_matches_65 rfl ?_
        refine xq_icmp_ne X d_M_matches_66 73 (by decide) (fun h7 => ?_) (fun h7 => ?_)
        · skip
          refine xq_iconst (v := 0) X d_M_matches_73 (by decide) ?_
          exact J11 _ ((if_neg h6).trans (if_neg h7)).symm
        · skip
          refine xq_iconst (v := 1) X d_M_matches_69 (by decide) ?_
          refine xq_goto X d_M_matches_70 74 (by decide) ?_
          exact J11 _ ((if_neg h6).trans (if_pos h7)).symm
    refine xq_if_ne X d_M_matches_26 40 (by decide) (fun h1 => ?_) (fun h1 => ?_)
    · skip
      refine xq_iload X d_M_matches_40 0 rfl ?_
      refine xq_iload_n X d_M_matches_42 2 rfl rfl ?_
      refine xq_icmp_eq X d_M_matches_43 50 (by decide) (fun h2 => ?_) (fun h2 => ?_)
      · skip
        refine xq_iconst (v := 0) X d_M_matches_50 (by decide) ?_
        exact J9 _ ((if_neg h1).trans (if_pos h2)).symm
      · skip
        refine xq_iconst (v := 1) X d_M_matches_46 (by decide) ?_
        refine xq_goto X d_M_matches_47 51 (by decide) ?_
        exact J9 _ ((if_neg h1).trans (if_neg h2)).symm
    · skip
      refine xq_iload X d_M_matches_29 0 rfl ?_
      refine xq_aload_n X d_M_matches_31 4 rfl rfl ?_
      refine rg_row X 2 (by decide) f_M_13 d_M_matches_32 ?_
      refine xq_iload_n X d_M_matches_35 3 rfl rfl ?_
      refine rn_ald (v := (F 2)) X 2 (by decide) hk rfl d_M_matches_36 rfl ?_
      refine xq_icmp_ne X d_M_matches_37 50 (by decide) (fun h3 => ?_) (fun h3 => ?_)
      · skip
        refine xq_iconst (v := 0) X d_M_matches_50 (by decide) ?_
        exact J9 _ ((if_pos h1).trans (if_neg h3)).symm
      · skip
        refine xq_iload X d_M_matches_40 0 rfl ?_
        refine xq_iload_n X d_M_matches_42 2 rfl rfl ?_
        refine xq_icmp_eq X d_M_matches_43 50 (by decide) (fun h4 => ?_) (fun h4 => ?_)
        · skip
          refine xq_iconst (v := 0) X d_M_matches_50 (by decide) ?_
          exact J9 _ ((if_pos h1).trans ((if_pos h3).trans (if_pos h4))).symm
        · skip
          refine xq_iconst (v := 1) X d_M_matches_46 (by decide) ?_
          refine xq_goto X d_M_matches_47 51 (by decide) ?_
          exact J9 _ ((if_pos h1).trans ((if_pos h3).trans (if_neg h4))).symm
def r_M_matches (n : Nat) (F E f : Nat → Int32) (y : Int32) : Int32 := rq_s F E f y n
set_option maxHeartbeats 4000000 in
set_option maxRecDepth 100000 in
theorem rt_M_matches {l : Launch} {D : va_G} {ad : xq_I → Nat} {cI cZ cN : ClassId} (hap : xq_ap rc_cs ad) {k : Nat} (hk : k < 6) {A : rc_A} {F E T g f : Nat → Int32} (y : Int32) (n : Nat) (hn : n = 4 ∨ n = 5 ∨ n = 6) (hg : (g 0) = nI n) :
    xq_M l D vcl (kc_tys cI cZ cN) rc_cs ad (rc_en ad cI cZ) y_M_matches (Cond.code y_M_matches b_M_matches 6 (some .boolean) :: xw) 0 [.ref (ad (6, 0)), .int (nI k), .int y] (rc_ov A k F E T g f) (some (.int (r_M_matches n F E f y))) (rc_ov A k F E T g f) := by
  refine xq_met (by decide) (Nat.le_of_ble_eq_true rfl) hap ?_
  intro p e s m args below meth c X
  refine xq_sub [2, 1, 0] [(2, .int y), (1, .int (nI k)), (0, .ref (ad (6, 0)))] rfl ?_
  refine xq_iconst (v := 1) X d_M_matches_0 (by decide) ?_
  refine xq_istore_n X d_M_matches_1 [(3, .int 1), (2, .int y), (1, .int (nI k)), (0, .ref (ad (6, 0)))] rfl rfl (by decide) ?_
  refine xq_iconst (v := 0) X d_M_matches_2 (by decide) ?_
  refine xq_istore X d_M_matches_3 [(4, .int 0), (3, .int 1), (2, .int y), (1, .int (nI k)), (0, .ref (ad (6, 0)))] rfl (by decide) ?_
  refine rl_matches hap X hk y n (by omega) hg ?_ n 0 (by omega)
  refine xq_iload_n X d_M_matches_81 1 rfl rfl ?_
  exact xq_iret X rfl (rq_b (rq_s01 F E f y n)) rfl rfl d_M_matches_82
