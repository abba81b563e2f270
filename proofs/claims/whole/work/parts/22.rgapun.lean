theorem rp_isOn {l : Launch} {D : va_G} {ad : xq_I → Nat} {cI cZ cN : ClassId} (hap : xq_ap rc_cs ad) (A : rc_A) (k : Nat) (hk : k < 6) : xq_M l D vcl (kc_tys cI cZ cN) rc_cs ad (rc_en ad cI cZ) y_M_isOn (Cond.code y_M_isOn b_M_isOn 2 (some .boolean) :: xw) 1 [.ref (ad (6, 0)), .int (nI k)] A (some (.int (r_M_isOn k (rq_F A k) (A 0)))) A := by
  have h := rt_M_isOn (l := l) (D := D) (cI := cI) (cZ := cZ) (cN := cN) hap hk (A := A) (F := rq_F A k) (E := rq_E A k) (T := rq_T A k) (g := A 0) (f := A 24)
  have hs := (rq_self A k).symm
  unfold rq_at at hs
  rw [hs] at h
  exact h
theorem rp_time {l : Launch} {D : va_G} {ad : xq_I → Nat} {cI cZ cN : ClassId} (hap : xq_ap rc_cs ad) (A : rc_A) (k : Nat) (hk : k < 6) : xq_M l D vcl (kc_tys cI cZ cN) rc_cs ad (rc_en ad cI cZ) y_M_time (Cond.code y_M_time b_M_time 2 (some .int) :: xw) 1 [.ref (ad (6, 0)), .int (nI k)] A (some (.int (r_M_time k (rq_F A k) (A 0)))) A := by
  have h := rt_M_time (l := l) (D := D) (cI := cI) (cZ := cZ) (cN := cN) hap hk (A := A) (F := rq_F A k) (E := rq_E A k) (T := rq_T A k) (g := A 0) (f := A 24)
  have hs := (rq_self A k).symm
  unfold rq_at at hs
  rw [hs] at h
  exact h
theorem rp_members {l : Launch} {D : va_G} {ad : xq_I → Nat} {cI cZ cN : ClassId} (hap : xq_ap rc_cs ad) (A : rc_A) (k : Nat) (hk : k < 6) (n : Nat) (hn : n = 4 ∨ n = 5 ∨ n = 6) (hg : A 0 0 = nI n) : xq_M l D vcl (kc_tys cI cZ cN) rc_cs ad (rc_en ad cI cZ) y_M_members (Cond.code y_M_members b_M_members 4 (some .int) :: xw) 1 [.ref (ad (6, 0)), .int (nI k)] A (some (.int (r_M_members n k (rq_F A k) (rq_E A k) (A 0)))) A := by
  have h := rt_M_members (l := l) (D := D) (cI := cI) (cZ := cZ) (cN := cN) hap hk (A := A) (F := rq_F A k) (E := rq_E A k) (T := rq_T A k) (g := A 0) (f := A 24) n hn hg
  have hs := (rq_self A k).symm
  unfold rq_at at hs
  rw [hs] at h
  exact h
theorem rp_isOn_bad {l : Launch} {D : va_G} {ad : xq_I → Nat} {cI cZ cN : ClassId} (hap : xq_ap rc_cs ad) (A : rc_A) (x : Int32) (hb : r_M_isNode (A 0) x = 0) : xq_M l D vcl (kc_tys cI cZ cN) rc_cs ad (rc_en ad cI cZ) y_M_isOn (Cond.code y_M_isOn b_M_isOn 2 (some .boolean) :: xw) 1 [.ref (ad (6, 0)), .int x] A (some (.int 0)) A := by
  have h := rt_M_isOn_bad (l := l) (D := D) (cI := cI) (cZ := cZ) (cN := cN) hap (show 0 < 6 by decide) (A := A) (F := rq_F A 0) (E := rq_E A 0) (T := rq_T A 0) (g := A 0) (f := A 24) x hb
  have hs := (rq_self A 0).symm
  unfold rq_at at hs
  rw [hs] at h
  exact h
section RG
variable {p : Program} {l : Launch} {e : Env} {R : Room} {s : State} {m : MethodId} {args : Array Value} {below : List Frame} {meth : Method} {c : Code} {Q : State → Prop}
variable {D : va_G} {ad : xq_I → Nat} {Ts : List Cond} {own : String} {cc : ByteArray} {nL : Nat} {ret : Option FieldType} {k : Nat} {cI cZ cN : ClassId} {A : rc_A}
variable {qc qs pc index : Nat} {L : List (Nat × Value)} {st : List Value} {v : Int32}
theorem rp_row (X : xq_C p s m args meth c D vcl (kc_tys cI cZ cN) rc_cs ad Ts own cc nL ret) (j : Nat) (hj : j = 1 ∨ j = 11) (hF : xq_F Ts own index vcl 4 j) (hd : decode cc pc = .ok (.getfield index, 3))
    (K : xq_W p l e R s m args below meth c D vcl rc_cs ad (rc_en ad cI cZ) qc qs Q nL (pc + 3) L (.ref (ad (7, j)) :: st) A) : xq_W p l e R s m args below meth c D vcl rc_cs ad (rc_en ad cI cZ) qc qs Q nL pc L (.ref (ad (6, 0)) :: st) A := by
  have hs := rq_self A 0
  unfold rq_at at hs
  refine xq_mem hs ?_
  refine rg_row X j (by omega) hF hd ?_
  exact xq_mem hs.symm K
theorem rp_many (X : xq_C p s m args meth c D vcl (kc_tys cI cZ cN) rc_cs ad Ts own cc nL ret) (hF : xq_F Ts own index vcl 4 0) (hd : decode cc pc = .ok (.getfield index, 3)) (hv : A 0 0 = v)
    (K : xq_W p l e R s m args below meth c D vcl rc_cs ad (rc_en ad cI cZ) qc qs Q nL (pc + 3) L (.int v :: st) A) : xq_W p l e R s m args below meth c D vcl rc_cs ad (rc_en ad cI cZ) qc qs Q nL pc L (.ref (ad (6, 0)) :: st) A := by
  have hs := rq_self A 0
  unfold rq_at at hs
  refine xq_mem hs ?_
  refine rg_get X 0 (by decide) hF hd hv ?_
  exact xq_mem hs.symm K
theorem rp_ald (X : xq_C p s m args meth c D vcl (kc_tys cI cZ cN) rc_cs ad Ts own cc nL ret) (j : Nat) (hj : j = 1 ∨ j = 11) (hk : k < 6) (hd : decode cc pc = .ok (.iaload, 1)) (hv : A j k = v)
    (K : xq_W p l e R s m args below meth c D vcl rc_cs ad (rc_en ad cI cZ) qc qs Q nL (pc + 1) L (.int v :: st) A) : xq_W p l e R s m args below meth c D vcl rc_cs ad (rc_en ad cI cZ) qc qs Q nL pc L (.int (nI k) :: .ref (ad (7, j)) :: st) A := by
  have hs := rq_self A k
  unfold rq_at at hs
  refine xq_mem hs ?_
  refine rn_ald X j (by rcases hj with rfl | rfl <;> decide) hk rfl hd (by rcases hj with rfl | rfl <;> exact hv) ?_
  exact xq_mem hs.symm K
end RG
set_option maxHeartbeats 4000000 in
set_option maxRecDepth 100000 in
theorem rt_gap_a {l : Launch} {D : va_G} {ad : xq_I → Nat} {cI cZ cN : ClassId} (hap : xq_ap rc_cs ad) (A : rc_A) (x y : Int32) (ha : xq_M l D vcl (kc_tys cI cZ cN) rc_cs ad (rc_en ad cI cZ) y_M_isOn (Cond.code y_M_isOn b_M_isOn 2 (some .boolean) :: xw) 1 [.ref (ad (6, 0)), .int x] A (some (.int 0)) A) : xq_M l D vcl (kc_tys cI cZ cN) rc_cs ad (rc_en ad cI cZ) y_M_gap (Cond.code y_M_gap b_M_gap 3 (some .int) :: xw) 2 [.ref (ad (6, 0)), .int x, .int y] A (some (.int 0)) A := by
  refine xq_met (by decide) (Nat.le_of_ble_eq_true rfl) hap ?_
  intro p e s m args below meth c X
  refine xq_sub [2, 1, 0] [(2, .int y), (1, .int x), (0, .ref (ad (6, 0)))] rfl ?_
  refine xq_aload_n X d_M_gap_0 2 rfl rfl ?_
  refine xq_iload_n X d_M_gap_1 1 rfl rfl ?_
  refine rk_callI (As := [.int x]) (rest := []) X xw_g g_M_83 ha rfl rfl (by decide) (Nat.le_of_ble_eq_true rfl) rfl d_M_gap_2 ?_
  refine xq_if_eq X d_M_gap_5 32 (by decide) (fun _ => ?_) (fun h => absurd rfl h)
  refine xq_iconst (v := 0) X d_M_gap_32 (by decide) ?_
  exact xq_iret X rfl rfl rfl rfl d_M_gap_33
set_option maxHeartbeats 4000000 in
set_option maxRecDepth 100000 in
theorem rt_gap_b {l : Launch} {D : va_G} {ad : xq_I → Nat} {cI cZ cN : ClassId} (hap : xq_ap rc_cs ad) (A : rc_A) (x y z : Int32) (hz : ¬ z = 0) (ha : xq_M l D vcl (kc_tys cI cZ cN) rc_cs ad (rc_en ad cI cZ) y_M_isOn (Cond.code y_M_isOn b_M_isOn 2 (some .boolean) :: xw) 1 [.ref (ad (6, 0)), .int x] A (some (.int z)) A) (hb : xq_M l D vcl (kc_tys cI cZ cN) rc_cs ad (rc_en ad cI cZ) y_M_isOn (Cond.code y_M_isOn b_M_isOn 2 (some .boolean) :: xw) 1 [.ref (ad (6, 0)), .int y] A (some (.int 0)) A) : xq_M l D vcl (kc_tys cI cZ cN) rc_cs ad (rc_en ad cI cZ) y_M_gap (Cond.code y_M_gap b_M_gap 3 (some .int) :: xw) 2 [.ref (ad (6, 0)), .int x, .int y] A (some (.int 0)) A := by
  refine xq_met (by decide) (Nat.le_of_ble_eq_true rfl) hap ?_
  intro p e s m args below meth c X
  refine xq_sub [2, 1, 0] [(2, .int y), (1, .int x), (0, .ref (ad (6, 0)))] rfl ?_
  refine xq_aload_n X d_M_gap_0 2 rfl rfl ?_
  refine xq_iload_n X d_M_gap_1 1 rfl rfl ?_
  refine rk_callI (As := [.int x]) (rest := []) X xw_g g_M_83 ha rfl rfl (by decide) (Nat.le_of_ble_eq_true rfl) rfl d_M_gap_2 ?_
  refine xq_if_eq X d_M_gap_5 32 (by decide) (fun h => absurd h hz) (fun _ => ?_)
  refine xq_aload_n X d_M_gap_8 2 rfl rfl ?_
  refine xq_iload_n X d_M_gap_9 0 rfl rfl ?_
  refine rk_callI (As := [.int y]) (rest := []) X xw_g g_M_83 hb rfl rfl (by decide) (Nat.le_of_ble_eq_true rfl) rfl d_M_gap_10 ?_
  refine xq_if_eq X d_M_gap_13 32 (by decide) (fun _ => ?_) (fun h => absurd rfl h)
  refine xq_iconst (v := 0) X d_M_gap_32 (by decide) ?_
  exact xq_iret X rfl rfl rfl rfl d_M_gap_33
set_option maxHeartbeats 4000000 in
set_option maxRecDepth 100000 in
theorem rt_gap_kk {l : Launch} {D : va_G} {ad : xq_I → Nat} {cI cZ cN : ClassId} (hap : xq_ap rc_cs ad) (A : rc_A) (k j : Nat) (hk : k < 6) (hj : j < 6) (z z2 : Int32) (hz : ¬ z = 0) (hz2 : ¬ z2 = 0) (ha : xq_M l D vcl (kc_tys cI cZ cN) rc_cs ad (rc_en ad cI cZ) y_M_isOn (Cond.code y_M_isOn b_M_isOn 2 (some .boolean) :: xw) 1 [.ref (ad (6, 0)), .int (nI k)] A (some (.int z)) A) (hb : xq_M l D vcl (kc_tys cI cZ cN) rc_cs ad (rc_en ad cI cZ) y_M_isOn (Cond.code y_M_isOn b_M_isOn 2 (some .boolean) :: xw) 1 [.ref (ad (6, 0)), .int (nI j)] A (some (.int z2)) A) :
    xq_M l D vcl (kc_tys cI cZ cN) rc_cs ad (rc_en ad cI cZ) y_M_gap (Cond.code y_M_gap b_M_gap 3 (some .int) :: xw) 2 [.ref (ad (6, 0)), .int (nI k), .int (nI j)] A (some (.int (A 11 k - A 11 j))) A := by
  refine xq_met (by decide) (Nat.le_of_ble_eq_true rfl) hap ?_
  intro p e s m args below meth c X
  refine xq_sub [2, 1, 0] [(2, .int (nI j)), (1, .int (nI k)), (0, .ref (ad (6, 0)))] rfl ?_
  refine xq_aload_n X d_M_gap_0 2 rfl rfl ?_
  refine xq_iload_n X d_M_gap_1 1 rfl rfl ?_
  refine rk_callI (As := [.int (nI k)]) (rest := []) X xw_g g_M_83 ha rfl rfl (by decide) (Nat.le_of_ble_eq_true rfl) rfl d_M_gap_2 ?_
  refine xq_if_eq X d_M_gap_5 32 (by decide) (fun h => absurd h hz) (fun _ => ?_)
  refine xq_aload_n X d_M_gap_8 2 rfl rfl ?_
  refine xq_iload_n X d_M_gap_9 0 rfl rfl ?_
  refine rk_callI (As := [.int (nI j)]) (rest := []) X xw_g g_M_83 hb rfl rfl (by decide) (Nat.le_of_ble_eq_true rfl) rfl d_M_gap_10 ?_
  refine xq_if_eq X d_M_gap_13 32 (by decide) (fun h => absurd h hz2) (fun _ => ?_)
  refine xq_aload_n X d_M_gap_16 2 rfl rfl ?_
  refine rp_row X 11 (by decide) f_M_41 d_M_gap_17 ?_
  refine xq_iload_n X d_M_gap_20 1 rfl rfl ?_
  refine rp_ald (v := A 11 k) X 11 (by decide) hk d_M_gap_21 rfl ?_
  refine xq_aload_n X d_M_gap_22 2 rfl rfl ?_
  refine rp_row X 11 (by decide) f_M_41 d_M_gap_23 ?_
  refine xq_iload_n X d_M_gap_26 0 rfl rfl ?_
  refine rp_ald (v := A 11 j) X 11 (by decide) hj d_M_gap_27 rfl ?_
  refine xq_isub X d_M_gap_28 ?_
  refine xq_goto X d_M_gap_29 33 (by decide) ?_
  exact xq_iret X rfl rfl rfl rfl d_M_gap_33
/-- united of the reference -/
def rq_sm (A : rc_A) (n k j : Nat) (s : Int32) : Int32 := if s = 0 then 0 else if (r_M_time k (rq_F A k) (A 0)) = (r_M_time j (rq_F A j) (A 0)) then (if (r_M_members n k (rq_F A k) (rq_E A k) (A 0)) = (r_M_members n j (rq_F A j) (rq_E A j) (A 0)) then 1 else 0) else 0
def rq_un (A : rc_A) (n : Nat) : Nat → Nat → Option Nat → Int32 → Int32 → Int32
  | 0, _, _, c, s => if c < 2 then 0 else if s = 0 then 0 else 1
  | r + 1, k, none, c, s => if A 1 k = 3 then rq_un A n r (k + 1) (some k) (c + 1) (rq_sm A n k k s) else rq_un A n r (k + 1) none c s
  | r + 1, k, some j, c, s => if A 1 k = 3 then rq_un A n r (k + 1) (some j) (c + 1) (rq_sm A n k j s) else rq_un A n r (k + 1) (some j) c s
set_option maxHeartbeats 4000000 in
set_option maxRecDepth 100000 in
theorem rl_un43 {p : Program} {l : Launch} {e : Env} {s : State} {m : MethodId} {args : Array Value} {below : List Frame} {meth : Method} {c : Code} {Q : State → Prop} {D : va_G} {ad : xq_I → Nat} {cI cZ cN : ClassId} (hap : xq_ap rc_cs ad) (X : xq_C p s m args meth c D vcl (kc_tys cI cZ cN) rc_cs ad xw y_M_united.cls b_M_united 5 (some .boolean)) (n : Nat) (hn : n = 4 ∨ n = 5 ∨ n = 6) (A : rc_A) (hg : A 0 0 = nI n) (k j : Nat) (hk : k < 6) (hj : j < 6) (c0 s0 : Int32)
    (H : ∀ z, z = rq_sm A n k j s0 → xq_W p l e (xq_r 2) s m args below meth c D vcl rc_cs ad (rc_en ad cI cZ) 0 0 Q 5 80 [(4, .int (nI k)), (3, .int s0), (2, .int (nI j)), (1, .int c0), (0, .ref (ad (6, 0)))] [.int z] A) : xq_W p l e (xq_r 2) s m args below meth c D vcl rc_cs ad (rc_en ad cI cZ) 0 0 Q 5 43 [(4, .int (nI k)), (3, .int s0), (2, .int (nI j)), (1, .int c0), (0, .ref (ad (6, 0)))] [] A := by
  have hJ : (0 : Int32) = rq_sm A n k j s0 → xq_W p l e (xq_r 2) s m args below meth c D vcl rc_cs ad (rc_en ad cI cZ) 0 0 Q 5 79 [(4, .int (nI k)), (3, .int s0), (2, .int (nI j)), (1, .int c0), (0, .ref (ad (6, 0)))] [] A := by
    intro hz
    refine xq_iconst (v := 0) X d_M_united_79 (by decide) ?_
    exact H 0 hz
  refine xq_iload_n X d_M_united_43 1 rfl rfl ?_
  refine xq_if_eq X d_M_united_44 79 (by decide) (fun h1 => hJ (if_pos h1).symm) (fun h1 => ?_)
  refine xq_aload_n X d_M_united_47 4 rfl rfl ?_
  refine xq_iload X d_M_united_48 0 rfl ?_
  refine rk_callI (As := [.int (nI k)]) (rest := []) X xw_g g_M_152 (rp_time hap A k hk) rfl rfl (by decide) (Nat.le_of_ble_eq_true rfl) rfl d_M_united_50 ?_
  refine xq_aload_n X d_M_united_53 4 rfl rfl ?_
  refine xq_iload_n X d_M_united_54 2 rfl rfl ?_
  refine rk_callI (As := [.int (nI j)]) (rest := [.int (r_M_time k (rq_F A k) (A 0))]) X xw_g g_M_152 (rp_time hap A j hj) rfl rfl (by decide) (Nat.le_of_ble_eq_true rfl) rfl d_M_united_55 ?_
  refine xq_icmp_ne X d_M_united_58 79 (by decide) (fun h2 => hJ ((if_neg h1).trans (if_neg h2)).symm) (fun h2 => ?_)
  refine xq_aload_n X d_M_united_61 4 rfl rfl ?_
  refine xq_iload X d_M_united_62 0 rfl ?_
  refine rk_callI (As := [.int (nI k)]) (rest := []) X xw_g g_M_155 (rp_members hap A k hk n hn hg) rfl rfl (by decide) (Nat.le_of_ble_eq_true rfl) rfl d_M_united_64 ?_
  refine xq_aload_n X d_M_united_67 4 rfl rfl ?_
  refine xq_iload_n X d_M_united_68 2 rfl rfl ?_
  refine rk_callI (As := [.int (nI j)]) (rest := [.int (r_M_members n k (rq_F A k) (rq_E A k) (A 0))]) X xw_g g_M_155 (rp_members hap A j hj n hn hg) rfl rfl (by decide) (Nat.le_of_ble_eq_true rfl) rfl d_M_united_69 ?_
  refine xq_icmp_ne X d_M_united_72 79 (by decide) (fun h3 => hJ ((if_neg h1).trans ((if_pos h2).trans (if_neg h3))).symm) (fun h3 => ?_)
  refine xq_iconst (v := 1) X d_M_united_75 (by decide) ?_
  refine xq_goto X d_M_united_76 80 (by decide) ?_
  exact H 1 ((if_neg h1).trans ((if_pos h2).trans (if_pos h3))).symm
set_option maxHeartbeats 4000000 in
set_option maxRecDepth 100000 in
theorem rl_united {p : Program} {l : Launch} {e : Env} {s : State} {m : MethodId} {args : Array Value} {below : List Frame} {meth : Method} {c : Code} {D : va_G} {ad : xq_I → Nat} {cI cZ cN : ClassId} (hap : xq_ap rc_cs ad) (X : xq_C p s m args meth c D vcl (kc_tys cI cZ cN) rc_cs ad xw y_M_united.cls b_M_united 5 (some .boolean)) (n : Nat) (hn : n = 4 ∨ n = 5 ∨ n = 6) (A : rc_A) (hg : A 0 0 = nI n) (V : Int32) : ∀ r,
    (∀ k (c0 s0 : Int32), k + r = n → rq_un A n r k none c0 s0 = V → xq_W p l e (xq_r 2) s m args below meth c D vcl rc_cs ad (rc_en ad cI cZ) 0 0 (MQ below (xq_Q D vcl rc_cs ad (rc_en ad cI cZ) (some (.int V)) A) args s 0 0 (xq_in rc_cs ad)) 5 9 [(4, .int (nI k)), (3, .int s0), (2, .int (-1)), (1, .int c0), (0, .ref (ad (6, 0)))] [] A) ∧
    ∀ k (c0 s0 : Int32) (j : Nat), j < 6 → k + r = n → rq_un A n r k (some j) c0 s0 = V → xq_W p l e (xq_r 2) s m args below meth c D vcl rc_cs ad (rc_en ad cI cZ) 0 0 (MQ below (xq_Q D vcl rc_cs ad (rc_en ad cI cZ) (some (.int V)) A) args s 0 0 (xq_in rc_cs ad)) 5 9 [(4, .int (nI k)), (3, .int s0), (2, .int (nI j)), (1, .int c0), (0, .ref (ad (6, 0)))] [] A := by
  intro r
  induction r with
  | zero =>
    refine ⟨fun k c0 s0 hk hV => ?_, fun k c0 s0 j hj hk hV => ?_⟩
    · have hge : nI n ≤ nI k := nI_le (by omega) (by omega)
      refine xq_iload X d_M_united_9 0 rfl ?_
      refine xq_aload_n X d_M_united_11 4 rfl rfl ?_
      refine rp_many (v := nI n) X f_M_72 d_M_united_12 hg ?_
      refine xq_icmp_ge X d_M_united_15 87 (by decide) (fun _ => ?_) (fun h => absurd hge h)
      refine xq_iload_n X d_M_united_87 3 rfl rfl ?_
      refine xq_iconst (v := 2) X d_M_united_88 (by decide) ?_
      refine xq_icmp_lt X d_M_united_89 100 (by decide) (fun h => ?_) (fun h => ?_)
      · refine xq_iconst (v := 0) X d_M_united_100 (by decide) ?_
        exact xq_iret X rfl (by decide) ((if_pos h).symm.trans hV) rfl d_M_united_101
      · refine xq_iload_n X d_M_united_92 1 rfl rfl ?_
        refine xq_if_eq X d_M_united_93 100 (by decide) (fun h2 => ?_) (fun h2 => ?_)
        · refine xq_iconst (v := 0) X d_M_united_100 (by decide) ?_
          exact xq_iret X rfl (by decide) (((if_neg h).trans (if_pos h2)).symm.trans hV) rfl d_M_united_101
        · refine xq_iconst (v := 1) X d_M_united_96 (by decide) ?_
          refine xq_goto X d_M_united_97 101 (by decide) ?_
          exact xq_iret X rfl (by decide) (((if_neg h).trans (if_neg h2)).symm.trans hV) rfl d_M_united_101
    · have hge : nI n ≤ nI k := nI_le (by omega) (by omega)
      refine xq_iload X d_M_united_9 0 rfl ?_
      refine xq_aload_n X d_M_united_11 4 rfl rfl ?_
      refine rp_many (v := nI n) X f_M_72 d_M_united_12 hg ?_
      refine xq_icmp_ge X d_M_united_15 87 (by decide) (fun _ => ?_) (fun h => absurd hge h)
      refine xq_iload_n X d_M_united_87 3 rfl rfl ?_
      refine xq_iconst (v := 2) X d_M_united_88 (by decide) ?_
      refine xq_icmp_lt X d_M_united_89 100 (by decide) (fun h => ?_) (fun h => ?_)
      · refine xq_iconst (v := 0) X d_M_united_100 (by decide) ?_
        exact xq_iret X rfl (by decide) ((if_pos h).symm.trans hV) rfl d_M_united_101
      · refine xq_iload_n X d_M_united_92 1 rfl rfl ?_
        refine xq_if_eq X d_M_united_93 100 (by decide) (fun h2 => ?_) (fun h2 => ?_)
        · refine xq_iconst (v := 0) X d_M_united_100 (by decide) ?_
          exact xq_iret X rfl (by decide) (((if_neg h).trans (if_pos h2)).symm.trans hV) rfl d_M_united_101
        · refine xq_iconst (v := 1) X d_M_united_96 (by decide) ?_
          refine xq_goto X d_M_united_97 101 (by decide) ?_
          exact xq_iret X rfl (by decide) (((if_neg h).trans (if_neg h2)).symm.trans hV) rfl d_M_united_101
  | succ r ih =>
    obtain ⟨ihN, ihS⟩ := ih
    refine ⟨fun k c0 s0 hk0 hV => ?_, fun k c0 s0 j hj hk0 hV => ?_⟩
    · have hk : k < 6 := by omega
      have hlt : ¬ nI n ≤ nI k := nI_ge (by omega) (by omega)
      refine xq_iload X d_M_united_9 0 rfl ?_
      refine xq_aload_n X d_M_united_11 4 rfl rfl ?_
      refine rp_many (v := nI n) X f_M_72 d_M_united_12 hg ?_
      refine xq_icmp_ge X d_M_united_15 87 (by decide) (fun h => absurd h hlt) (fun _ => ?_)
      refine xq_aload_n X d_M_united_18 4 rfl rfl ?_
      refine rp_row X 1 (by decide) f_M_7 d_M_united_19 ?_
      refine xq_iload X d_M_united_22 0 rfl ?_
      refine rp_ald (v := A 1 k) X 1 (by decide) hk d_M_united_24 rfl ?_
      refine xq_iconst (v := 3) X d_M_united_25 (by decide) ?_
      refine xq_icmp_ne X d_M_united_26 81 (by decide) (fun h3 => ?_) (fun h3 => ?_)
      · refine xq_iinc X d_M_united_81 0 rfl [(4, .int (nI (k + 1))), (3, .int s0), (2, .int (-1)), (1, .int c0), (0, .ref (ad (6, 0)))] rfl (nI_1 k) (by decide) ?_
        refine xq_goto X d_M_united_84 9 (by decide) ?_
        exact ihN (k + 1) c0 s0 (by omega) ((if_neg h3).symm.trans hV)
      · refine xq_iinc X d_M_united_29 3 rfl [(1, .int (c0 + 1)), (4, .int (nI k)), (3, .int s0), (2, .int (-1)), (0, .ref (ad (6, 0)))] rfl rfl (by decide) ?_
        refine xq_iload_n X d_M_united_32 3 rfl rfl ?_
        refine xq_if_ge X d_M_united_33 41 (by decide) (fun h => absurd h (by decide)) (fun _ => ?_)
        refine xq_iload X d_M_united_36 1 rfl ?_
        refine xq_goto X d_M_united_38 42 (by decide) ?_
        refine xq_istore_n X d_M_united_42 [(2, .int (nI k)), (1, .int (c0 + 1)), (4, .int (nI k)), (3, .int s0), (0, .ref (ad (6, 0)))] rfl rfl (by decide) ?_
        refine xq_sub [2, 3, 0, 1, 4] [(4, .int (nI k)), (3, .int s0), (2, .int (nI k)), (1, .int (c0 + 1)), (0, .ref (ad (6, 0)))] rfl ?_
        refine rl_un43 hap X n hn A hg k k hk hk (c0 + 1) s0 (fun z hz => ?_)
        subst hz
        refine xq_istore_n X d_M_united_80 [(3, .int (rq_sm A n k k s0)), (4, .int (nI k)), (2, .int (nI k)), (1, .int (c0 + 1)), (0, .ref (ad (6, 0)))] rfl rfl (by decide) ?_
        refine xq_iinc X d_M_united_81 1 rfl [(4, .int (nI (k + 1))), (3, .int (rq_sm A n k k s0)), (2, .int (nI k)), (1, .int (c0 + 1)), (0, .ref (ad (6, 0)))] rfl (nI_1 k) (by decide) ?_
        refine xq_goto X d_M_united_84 9 (by decide) ?_
        exact ihS (k + 1) (c0 + 1) _ k hk (by omega) ((if_pos h3).symm.trans hV)
    · have hk : k < 6 := by omega
      have hlt : ¬ nI n ≤ nI k := nI_ge (by omega) (by omega)
      refine xq_iload X d_M_united_9 0 rfl ?_
      refine xq_aload_n X d_M_united_11 4 rfl rfl ?_
      refine rp_many (v := nI n) X f_M_72 d_M_united_12 hg ?_
      refine xq_icmp_ge X d_M_united_15 87 (by decide) (fun h => absurd h hlt) (fun _ => ?_)
      refine xq_aload_n X d_M_united_18 4 rfl rfl ?_
      refine rp_row X 1 (by decide) f_M_7 d_M_united_19 ?_
      refine xq_iload X d_M_united_22 0 rfl ?_
      refine rp_ald (v := A 1 k) X 1 (by decide) hk d_M_united_24 rfl ?_
      refine xq_iconst (v := 3) X d_M_united_25 (by decide) ?_
      refine xq_icmp_ne X d_M_united_26 81 (by decide) (fun h3 => ?_) (fun h3 => ?_)
      · refine xq_iinc X d_M_united_81 0 rfl [(4, .int (nI (k + 1))), (3, .int s0), (2, .int (nI j)), (1, .int c0), (0, .ref (ad (6, 0)))] rfl (nI_1 k) (by decide) ?_
        refine xq_goto X d_M_united_84 9 (by decide) ?_
        exact ihS (k + 1) c0 s0 j hj (by omega) ((if_neg h3).symm.trans hV)
      · refine xq_iinc X d_M_united_29 3 rfl [(1, .int (c0 + 1)), (4, .int (nI k)), (3, .int s0), (2, .int (nI j)), (0, .ref (ad (6, 0)))] rfl rfl (by decide) ?_
        refine xq_iload_n X d_M_united_32 3 rfl rfl ?_
        refine xq_if_ge X d_M_united_33 41 (by decide) (fun _ => ?_) (fun h => absurd (nI_pos' (by omega)) h)
        refine xq_iload_n X d_M_united_41 3 rfl rfl ?_
        refine xq_istore_n X d_M_united_42 [(2, .int (nI j)), (1, .int (c0 + 1)), (4, .int (nI k)), (3, .int s0), (0, .ref (ad (6, 0)))] rfl rfl (by decide) ?_
        refine xq_sub [2, 3, 0, 1, 4] [(4, .int (nI k)), (3, .int s0), (2, .int (nI j)), (1, .int (c0 + 1)), (0, .ref (ad (6, 0)))] rfl ?_
        refine rl_un43 hap X n hn A hg k j hk hj (c0 + 1) s0 (fun z hz => ?_)
        subst hz
        refine xq_istore_n X d_M_united_80 [(3, .int (rq_sm A n k j s0)), (4, .int (nI k)), (2, .int (nI j)), (1, .int (c0 + 1)), (0, .ref (ad (6, 0)))] rfl rfl (by decide) ?_
        refine xq_iinc X d_M_united_81 1 rfl [(4, .int (nI (k + 1))), (3, .int (rq_sm A n k j s0)), (2, .int (nI j)), (1, .int (c0 + 1)), (0, .ref (ad (6, 0)))] rfl (nI_1 k) (by decide) ?_
        refine xq_goto X d_M_united_84 9 (by decide) ?_
        exact ihS (k + 1) (c0 + 1) _ j hj (by omega) ((if_pos h3).symm.trans hV)
set_option maxHeartbeats 4000000 in
set_option maxRecDepth 100000 in
theorem rt_M_united {l : Launch} {D : va_G} {ad : xq_I → Nat} {cI cZ cN : ClassId} (hap : xq_ap rc_cs ad) (n : Nat) (hn : n = 4 ∨ n = 5 ∨ n = 6) (A : rc_A) (hg : A 0 0 = nI n) : xq_M l D vcl (kc_tys cI cZ cN) rc_cs ad (rc_en ad cI cZ) y_M_united (Cond.code y_M_united b_M_united 5 (some .boolean) :: xw) 2 [.ref (ad (6, 0))] A (some (.int (rq_un A n n 0 none 0 1))) A := by
  refine xq_met (by decide) (Nat.le_of_ble_eq_true rfl) hap ?_
  intro p e s m args below meth c X
  refine xq_eqv (L' := [(0, .ref (ad (6, 0)))]) (st' := []) rfl rfl ?_
  refine xq_iconst (v := 0) X d_M_united_0 (by decide) ?_
  refine xq_istore_n X d_M_united_1 [(1, .int 0), (0, .ref (ad (6, 0)))] rfl rfl (by decide) ?_
  refine xq_iconst (v := (-1)) X d_M_united_2 (by decide) ?_
  refine xq_istore_n X d_M_united_3 [(2, .int (-1)), (1, .int 0), (0, .ref (ad (6, 0)))] rfl rfl (by decide) ?_
  refine xq_iconst (v := 1) X d_M_united_4 (by decide) ?_
  refine xq_istore_n X d_M_united_5 [(3, .int 1), (2, .int (-1)), (1, .int 0), (0, .ref (ad (6, 0)))] rfl rfl (by decide) ?_
  refine xq_iconst (v := 0) X d_M_united_6 (by decide) ?_
  refine xq_istore X d_M_united_7 [(4, .int 0), (3, .int 1), (2, .int (-1)), (1, .int 0), (0, .ref (ad (6, 0)))] rfl (by decide) ?_
  exact (rl_united hap X n hn A hg _ n).1 0 0 1 (by omega) rfl
