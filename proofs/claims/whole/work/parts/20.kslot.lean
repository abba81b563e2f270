def kc_w (B : kc_B) (w : Nat → Int32) : kc_B := (B.1, B.2.1, B.2.2.1, w, B.2.2.2.2)
theorem kc_we (B : kc_B) (k : Nat) (w : Nat → Int32) : kc_ov B k (B.1 k) (B.2.1 k) (B.2.2.1 k) w = kc_w B w := by
  unfold kc_ov kc_w
  rw [kc_ug, kc_ug, kc_ug]
def kq_send (n : Nat) (B : kc_B) : kc_B := xq_it (kq_st ks_send) n (kc_w B (c_W_fallSilent B.2.2.2.1))
def kq_lose (B : kc_B) : kc_B := if c_W_hasFrame B.2.2.2.1 = 0 then B else kc_ov B (B.2.2.2.1 1).toNatClampNeg (c_C_lose_yes (B.1 (B.2.2.2.1 1).toNatClampNeg) B.2.2.2.1).1 (B.2.1 (B.2.2.2.1 1).toNatClampNeg) (B.2.2.1 (B.2.2.2.1 1).toNatClampNeg) (c_C_lose_yes (B.1 (B.2.2.2.1 1).toNatClampNeg) B.2.2.2.1).2
set_option maxHeartbeats 4000000 in
set_option maxRecDepth 100000 in
theorem kt_sendAll {l : Launch} {D : va_G} {n : Nat} {ad : xq_I → Nat} {cI cZ cN : ClassId} (hap : xq_ap (kc_cs n) ad) (hn : n = 4 ∨ n = 5 ∨ n = 6) (B : kc_B) : xq_M l D vcl (kc_tys cI cZ cN) (kc_cs n) ad (kc_en n ad cI cN) y_C_sendAll (Cond.code y_C_sendAll b_C_sendAll 5 none :: xw) 4 [.ref (ad (0, 0))] B none (kq_send n B) := by
  have h0 : 0 < n := by omega
  refine xq_met (by decide) (Nat.le_of_ble_eq_true rfl) hap ?_
  intro p e s m args below meth c X
  refine xq_eqv (L' := [(0, .ref (ad (0, 0)))]) (st' := []) rfl rfl ?_
  refine xq_aload_n X d_C_sendAll_0 0 rfl rfl ?_
  refine kb_wire X f_C_30 d_C_sendAll_1 ?_
  refine xq_mem (kc_self B 0) ?_
  refine kw_callV (As := []) (rest := []) X xw_g g_C_130 (ct_W_fallSilent hap h0) rfl rfl (by decide) (Nat.le_of_ble_eq_true rfl) rfl d_C_sendAll_4 ?_
  refine xq_mem (kc_we B 0 _) ?_
  refine xq_aload_n X d_C_sendAll_7 0 rfl rfl ?_
  refine kb_row X f_C_20 d_C_sendAll_8 ?_
  refine xq_astore_n X d_C_sendAll_11 [(1, .ref (ad (1, 0))), (0, .ref (ad (0, 0)))] rfl rfl (by decide) ?_
  refine xq_aload_n X d_C_sendAll_12 0 rfl rfl ?_
  refine kb_len X d_C_sendAll_13 ?_
  refine xq_istore_n X d_C_sendAll_14 [(2, .int (nI n)), (1, .ref (ad (1, 0))), (0, .ref (ad (0, 0)))] rfl rfl (by decide) ?_
  refine xq_iconst (v := 0) X d_C_sendAll_15 (by decide) ?_
  refine xq_istore_n X d_C_sendAll_16 [(3, .int 0), (2, .int (nI n)), (1, .ref (ad (1, 0))), (0, .ref (ad (0, 0)))] rfl rfl (by decide) ?_
  refine kl_send hap X hn _ ?_ n 0 (by omega)
  exact xq_vret X rfl rfl d_C_sendAll_55
set_option maxHeartbeats 4000000 in
set_option maxRecDepth 100000 in
theorem kt_hearAll {l : Launch} {D : va_G} {n : Nat} {ad : xq_I → Nat} {cI cZ cN : ClassId} (hap : xq_ap (kc_cs n) ad) (hn : n = 4 ∨ n = 5 ∨ n = 6) (B : kc_B) (hp : ∀ k, k < n → ¬ B.2.1 k 2 < 0) : xq_M l D vcl (kc_tys cI cZ cN) (kc_cs n) ad (kc_en n ad cI cN) y_C_hearAll (Cond.code y_C_hearAll b_C_hearAll 5 none :: xw) 4 [.ref (ad (0, 0))] B none (xq_it (kq_st ks_hear) n B) := by
  refine xq_met (by decide) (Nat.le_of_ble_eq_true rfl) hap ?_
  intro p e s m args below meth c X
  refine xq_eqv (L' := [(0, .ref (ad (0, 0)))]) (st' := []) rfl rfl ?_
  refine xq_aload_n X d_C_hearAll_0 0 rfl rfl ?_
  refine kb_row X f_C_20 d_C_hearAll_1 ?_
  refine xq_astore_n X d_C_hearAll_4 [(1, .ref (ad (1, 0))), (0, .ref (ad (0, 0)))] rfl rfl (by decide) ?_
  refine xq_aload_n X d_C_hearAll_5 0 rfl rfl ?_
  refine kb_len X d_C_hearAll_6 ?_
  refine xq_istore_n X d_C_hearAll_7 [(2, .int (nI n)), (1, .ref (ad (1, 0))), (0, .ref (ad (0, 0)))] rfl rfl (by decide) ?_
  refine xq_iconst (v := 0) X d_C_hearAll_8 (by decide) ?_
  refine xq_istore_n X d_C_hearAll_9 [(3, .int 0), (2, .int (nI n)), (1, .ref (ad (1, 0))), (0, .ref (ad (0, 0)))] rfl rfl (by decide) ?_
  refine kl_hear hap X hn B hp ?_ n 0 (by omega)
  exact xq_vret X rfl rfl d_C_hearAll_93
theorem kt_lose {l : Launch} {D : va_G} {n : Nat} {ad : xq_I → Nat} {cI cZ cN : ClassId} (hap : xq_ap (kc_cs n) ad) (hn : n = 4 ∨ n = 5 ∨ n = 6) (B : kc_B) (hs : ¬ c_W_hasFrame B.2.2.2.1 = 0 → ∃ k, k < n ∧ B.2.2.2.1 1 = nI k) : xq_M l D vcl (kc_tys cI cZ cN) (kc_cs n) ad (kc_en n ad cI cN) y_C_loseMutedFrame (Cond.code y_C_loseMutedFrame b_C_loseMutedFrame 2 none :: xw) 1 [.ref (ad (0, 0))] B none (kq_lose B) := by
  by_cases hf : c_W_hasFrame B.2.2.2.1 = 0
  · have h := ct_C_lose_no (l := l) (D := D) (cI := cI) (cZ := cZ) (cN := cN) hap (show 0 < n by omega) (B := B) (F := B.1 0) (G := B.2.1 0) (E := B.2.2.1 0) (w := B.2.2.2.1) hf
    rw [← kc_self B 0] at h
    have hM : kq_lose B = B := if_pos hf
    rw [hM]
    exact h
  · obtain ⟨k, hk, hw⟩ := hs hf
    have hc : (B.2.2.2.1 1).toNatClampNeg = k := by rw [hw, nI_clamp (by omega)]
    have h := ct_C_lose_yes (l := l) (D := D) (cI := cI) (cZ := cZ) (cN := cN) hap hk (B := B) (F := B.1 k) (G := B.2.1 k) (E := B.2.2.1 k) (w := B.2.2.2.1) (by omega) (nI_pos (by omega)) (nI_lt hk (by omega)) hf hw
    rw [← kc_self B k] at h
    have hM : kq_lose B = _ := if_neg hf
    rw [hM, hc]
    exact h
abbrev kq_s0 (B : kc_B) : kc_B := (B.1, B.2.1, B.2.2.1, B.2.2.2.1, B.2.2.2.2 + 1)
abbrev kq_s1 (n : Nat) (B : kc_B) : kc_B := xq_it (kq_st ks_move) n (kq_s0 B)
abbrev kq_s2 (n : Nat) (B : kc_B) : kc_B := kq_send n (kq_s1 n B)
abbrev kq_s3 (n : Nat) (B : kc_B) : kc_B := kq_lose (kq_s2 n B)
abbrev kq_s4 (n : Nat) (B : kc_B) : kc_B := xq_it (kq_st ks_hear) n (kq_s3 n B)
def kq_slot (n : Nat) (B : kc_B) : kc_B := xq_it (kq_st ks_set) n (kq_s4 n B)
def kq_pre (n : Nat) (B : kc_B) : Prop := (¬ c_W_hasFrame (kq_s2 n B).2.2.2.1 = 0 → ∃ k, k < n ∧ (kq_s2 n B).2.2.2.1 1 = nI k) ∧ ∀ k, k < n → ¬ (kq_s3 n B).2.1 k 2 < 0
set_option maxHeartbeats 4000000 in
set_option maxRecDepth 100000 in
theorem kt_pass {l : Launch} {D : va_G} {n : Nat} {ad : xq_I → Nat} {cI cZ cN : ClassId} (hap : xq_ap (kc_cs n) ad) (hn : n = 4 ∨ n = 5 ∨ n = 6) (B : kc_B) (hp : kq_pre n B) : xq_M l D vcl (kc_tys cI cZ cN) (kc_cs n) ad (kc_en n ad cI cN) y_C_passOneSlot (Cond.code y_C_passOneSlot b_C_passOneSlot 5 none :: xw) 5 [.ref (ad (0, 0))] B none (kq_slot n B) := by
  refine xq_met (by decide) (Nat.le_of_ble_eq_true rfl) hap ?_
  intro p e s m args below meth c X
  refine xq_eqv (L' := [(0, .ref (ad (0, 0)))]) (st' := []) rfl rfl ?_
  refine xq_aload_n X d_C_passOneSlot_0 0 rfl rfl ?_
  refine xq_dup X d_C_passOneSlot_1 rfl ?_
  refine kb_gone (v := B.2.2.2.2) X f_C_75 d_C_passOneSlot_2 rfl ?_
  refine xq_iconst (v := 1) X d_C_passOneSlot_5 (by decide) ?_
  refine xq_iadd X d_C_passOneSlot_6 ?_
  refine kb_put X f_C_75 T_C_ok n_C_2 d_C_passOneSlot_7 ?_
  refine xq_aload_n X d_C_passOneSlot_10 0 rfl rfl ?_
  refine kb_row X f_C_20 d_C_passOneSlot_11 ?_
  refine xq_astore_n X d_C_passOneSlot_14 [(1, .ref (ad (1, 0))), (0, .ref (ad (0, 0)))] rfl rfl (by decide) ?_
  refine xq_aload_n X d_C_passOneSlot_15 0 rfl rfl ?_
  refine kb_len X d_C_passOneSlot_16 ?_
  refine xq_istore_n X d_C_passOneSlot_17 [(2, .int (nI n)), (1, .ref (ad (1, 0))), (0, .ref (ad (0, 0)))] rfl rfl (by decide) ?_
  refine xq_iconst (v := 0) X d_C_passOneSlot_18 (by decide) ?_
  refine xq_istore_n X d_C_passOneSlot_19 [(3, .int 0), (2, .int (nI n)), (1, .ref (ad (1, 0))), (0, .ref (ad (0, 0)))] rfl rfl (by decide) ?_
  refine kl_pass1 hap X hn (kq_s0 B) ?_ n 0 (by omega)
  refine xq_aload_n X d_C_passOneSlot_41 3 rfl rfl ?_
  refine kb_callV (As := []) (rest := []) X xw_g g_C_118 (kt_sendAll hap hn _) rfl rfl (by decide) (Nat.le_of_ble_eq_true rfl) rfl d_C_passOneSlot_42 ?_
  refine xq_aload_n X d_C_passOneSlot_45 3 rfl rfl ?_
  refine kb_callV (As := []) (rest := []) X xw_g g_C_121 (kt_lose hap hn _ hp.1) rfl rfl (by decide) (Nat.le_of_ble_eq_true rfl) rfl d_C_passOneSlot_46 ?_
  refine xq_aload_n X d_C_passOneSlot_49 3 rfl rfl ?_
  refine kb_callV (As := []) (rest := []) X xw_g g_C_124 (kt_hearAll hap hn _ hp.2) rfl rfl (by decide) (Nat.le_of_ble_eq_true rfl) rfl d_C_passOneSlot_50 ?_
  refine xq_aload_n X d_C_passOneSlot_53 3 rfl rfl ?_
  refine kb_row X f_C_20 d_C_passOneSlot_54 ?_
  refine xq_sub [3] [(0, .ref (ad (0, 0)))] rfl ?_
  refine xq_astore_n X d_C_passOneSlot_57 [(1, .ref (ad (1, 0))), (0, .ref (ad (0, 0)))] rfl rfl (by decide) ?_
  refine xq_aload_n X d_C_passOneSlot_58 0 rfl rfl ?_
  refine kb_len X d_C_passOneSlot_59 ?_
  refine xq_istore_n X d_C_passOneSlot_60 [(2, .int (nI n)), (1, .ref (ad (1, 0))), (0, .ref (ad (0, 0)))] rfl rfl (by decide) ?_
  refine xq_iconst (v := 0) X d_C_passOneSlot_61 (by decide) ?_
  refine xq_istore_n X d_C_passOneSlot_62 [(3, .int 0), (2, .int (nI n)), (1, .ref (ad (1, 0))), (0, .ref (ad (0, 0)))] rfl rfl (by decide) ?_
  refine kl_pass2 hap X hn (kq_s4 n B) ?_ n 0 (by omega)
  exact xq_vret X rfl rfl d_C_passOneSlot_84
/-- a run of the class -/
def kq_run (n k : Nat) (B : kc_B) : kc_B := xq_it (fun _ => kq_slot n) k B
def kq_fr (n : Nat) (B : kc_B) : Nat → Int32
  | 0 => 0
  | k + 1 => if c_W_hasFrame (kq_run n (k + 1) B).2.2.2.1 = 0 then kq_fr n B k else kq_fr n B k + 1
set_option maxHeartbeats 4000000 in
set_option maxRecDepth 100000 in
theorem kl_run {p : Program} {l : Launch} {e : Env} {s : State} {m : MethodId} {args : Array Value} {below : List Frame} {meth : Method} {c : Code} {Q : State → Prop} {D : va_G} {n : Nat} {ad : xq_I → Nat} {cI cZ cN : ClassId} (hap : xq_ap (kc_cs n) ad) (X : xq_C p s m args meth c D vcl (kc_tys cI cZ cN) (kc_cs n) ad xw y_C_run.cls b_C_run 4 (some .int)) (hn : n = 4 ∨ n = 5 ∨ n = 6) (B : kc_B) (q : Nat) (hq : q ≤ 40) (hp : ∀ k, k < q → kq_pre n (kq_run n k B))
    (H : xq_W p l e (xq_r 6) s m args below meth c D vcl (kc_cs n) ad (kc_en n ad cI cN) 0 0 Q 4 44 [(3, .int (nI q)), (2, .int (kq_fr n B q)), (1, .int (nI q)), (0, .ref (ad (0, 0)))] [] (kq_run n q B)) :
    ∀ r k, k + r = q → xq_W p l e (xq_r 6) s m args below meth c D vcl (kc_cs n) ad (kc_en n ad cI cN) 0 0 Q 4 16 [(3, .int (nI k)), (2, .int (kq_fr n B k)), (1, .int (nI q)), (0, .ref (ad (0, 0)))] [] (kq_run n k B) := by
  have h0 : 0 < n := by omega
  intro r
  induction r with
  | zero =>
    intro k hk
    have hk : k = q := by omega
    subst hk
    have hge : nI k ≤ nI k := nI_le (Nat.le_refl _) (by omega)
    refine xq_iload_n X d_C_run_16 0 rfl rfl ?_
    refine xq_iload_n X d_C_run_17 2 rfl rfl ?_
    refine xq_icmp_ge X d_C_run_18 44 (by decide) (fun _ => ?_) (fun h => absurd hge h)
    exact H
  | succ r ih =>
    intro k hk
    have hlt : ¬ nI q ≤ nI k := nI_ge (by omega) (by omega)
    refine xq_iload_n X d_C_run_16 0 rfl rfl ?_
    refine xq_iload_n X d_C_run_17 2 rfl rfl ?_
    refine xq_icmp_ge X d_C_run_18 44 (by decide) (fun h => absurd h hlt) (fun _ => ?_)
    refine xq_aload_n X d_C_run_21 3 rfl rfl ?_
    refine kb_callV (As := []) (rest := []) X xw_g g_C_68 (kt_pass hap hn _ (hp k (by omega))) rfl rfl (by decide) (Nat.le_of_ble_eq_true rfl) rfl d_C_run_22 ?_
    refine xq_aload_n X d_C_run_25 3 rfl rfl ?_
    refine kb_wire X f_C_30 d_C_run_26 ?_
    refine xq_mem (kc_self _ 0) ?_
    refine kw_callI (As := []) (rest := []) X xw_g g_C_71 (ct_W_hasFrame hap h0) rfl rfl (by decide) (Nat.le_of_ble_eq_true rfl) rfl d_C_run_29 ?_
    refine xq_mem (kc_self _ 0).symm ?_
    refine xq_if_eq X d_C_run_32 38 (by decide) (fun h => ?_) (fun h => ?_)
    · have hz : kq_fr n B (k + 1) = kq_fr n B k := if_pos h
      refine xq_iinc X d_C_run_38 0 rfl [(3, .int (nI (k + 1))), (2, .int (kq_fr n B k)), (1, .int (nI q)), (0, .ref (ad (0, 0)))] rfl (nI_1 k) (by decide) ?_
      refine xq_goto X d_C_run_41 16 (by decide) ?_
      rw [← hz]
      exact ih (k + 1) (by omega)
    · have hz : kq_fr n B (k + 1) = kq_fr n B k + 1 := if_neg h
      refine xq_iinc X d_C_run_35 1 rfl [(2, .int (kq_fr n B k + 1)), (3, .int (nI k)), (1, .int (nI q)), (0, .ref (ad (0, 0)))] rfl rfl (by decide) ?_
      refine xq_iinc X d_C_run_38 1 rfl [(3, .int (nI (k + 1))), (2, .int (kq_fr n B k + 1)), (1, .int (nI q)), (0, .ref (ad (0, 0)))] rfl (nI_1 k) (by decide) ?_
      refine xq_goto X d_C_run_41 16 (by decide) ?_
      rw [← hz]
      exact ih (k + 1) (by omega)
set_option maxHeartbeats 4000000 in
set_option maxRecDepth 100000 in
theorem kt_run {l : Launch} {D : va_G} {n : Nat} {ad : xq_I → Nat} {cI cZ cN : ClassId} (hap : xq_ap (kc_cs n) ad) (hn : n = 4 ∨ n = 5 ∨ n = 6) (B : kc_B) (q : Nat) (hq : q ≤ 40) (hp : ∀ k, k < q → kq_pre n (kq_run n k B)) : xq_M l D vcl (kc_tys cI cZ cN) (kc_cs n) ad (kc_en n ad cI cN) y_C_run (Cond.code y_C_run b_C_run 4 (some .int) :: xw) 6 [.ref (ad (0, 0)), .int (nI q)] B (some (.int (kq_fr n B q))) (kq_run n q B) := by
  refine xq_met (by decide) (Nat.le_of_ble_eq_true rfl) hap ?_
  intro p e s m args below meth c X
  refine xq_sub [1, 0] [(1, .int (nI q)), (0, .ref (ad (0, 0)))] rfl ?_
  refine xq_iload_n X d_C_run_0 0 rfl rfl ?_
  refine xq_if_lt X d_C_run_1 10 (by decide) (fun h => absurd h (nI_pos (by omega))) (fun _ => ?_)
  refine xq_iload_n X d_C_run_4 0 rfl rfl ?_
  refine xq_bipush (v := 40) X d_C_run_5 (by decide) ?_
  refine xq_icmp_le X d_C_run_7 12 (by decide) (fun _ => ?_) (fun h => absurd (nI_le (b := 40) hq (by decide)) h)
  refine xq_iconst (v := 0) X d_C_run_12 (by decide) ?_
  refine xq_istore_n X d_C_run_13 [(2, .int 0), (1, .int (nI q)), (0, .ref (ad (0, 0)))] rfl rfl (by decide) ?_
  refine xq_iconst (v := 0) X d_C_run_14 (by decide) ?_
  refine xq_istore_n X d_C_run_15 [(3, .int 0), (2, .int 0), (1, .int (nI q)), (0, .ref (ad (0, 0)))] rfl rfl (by decide) ?_
  refine kl_run hap X hn B q hq hp ?_ q 0 (by omega)
  refine xq_iload_n X d_C_run_44 1 rfl rfl ?_
  exact xq_iret X rfl rfl rfl rfl d_C_run_45
set_option maxHeartbeats 4000000 in
set_option maxRecDepth 100000 in
theorem kt_run_bad {l : Launch} {D : va_G} {n : Nat} {ad : xq_I → Nat} {cI cZ cN : ClassId} (hap : xq_ap (kc_cs n) ad) (hn : n = 4 ∨ n = 5 ∨ n = 6) (B : kc_B) (x : Int32) (hx : x < 0 ∨ ¬ x ≤ 40) : xq_M l D vcl (kc_tys cI cZ cN) (kc_cs n) ad (kc_en n ad cI cN) y_C_run (Cond.code y_C_run b_C_run 4 (some .int) :: xw) 6 [.ref (ad (0, 0)), .int x] B (some (.int (-1))) B := by
  refine xq_met (by decide) (Nat.le_of_ble_eq_true rfl) hap ?_
  intro p e s m args below meth c X
  refine xq_sub [1, 0] [(1, .int x), (0, .ref (ad (0, 0)))] rfl ?_
  have hJ : xq_W p l e (xq_r 6) s m args below meth c D vcl (kc_cs n) ad (kc_en n ad cI cN) 0 0 (MQ below (xq_Q D vcl (kc_cs n) ad (kc_en n ad cI cN) (some (.int (-1))) B) args s 0 0 (xq_in (kc_cs n) ad)) 4 10 [(1, .int x), (0, .ref (ad (0, 0)))] [] B := by
    refine xq_iconst (v := (-1)) X d_C_run_10 (by decide) ?_
    exact xq_iret X rfl rfl rfl rfl d_C_run_11
  refine xq_iload_n X d_C_run_0 0 rfl rfl ?_
  refine xq_if_lt X d_C_run_1 10 (by decide) (fun _ => hJ) (fun h => ?_)
  refine xq_iload_n X d_C_run_4 0 rfl rfl ?_
  refine xq_bipush (v := 40) X d_C_run_5 (by decide) ?_
  refine xq_icmp_le X d_C_run_7 12 (by decide) (fun h2 => ?_) (fun _ => hJ)
  rcases hx with q | q
  · exact absurd q h
  · exact absurd h2 q
theorem kt_slots {l : Launch} {D : va_G} {n : Nat} {ad : xq_I → Nat} {cI cZ cN : ClassId} (hap : xq_ap (kc_cs n) ad) (hn : n = 4 ∨ n = 5 ∨ n = 6) (B : kc_B) : xq_M l D vcl (kc_tys cI cZ cN) (kc_cs n) ad (kc_en n ad cI cN) y_C_slots (Cond.code y_C_slots b_C_slots 1 (some .int) :: xw) 0 [.ref (ad (0, 0))] B (some (.int B.2.2.2.2)) B := by
  refine xq_met (by decide) (Nat.le_of_ble_eq_true rfl) hap ?_
  intro p e s m args below meth c X
  refine xq_eqv (L' := [(0, .ref (ad (0, 0)))]) (st' := []) rfl rfl ?_
  refine xq_aload_n X d_C_slots_0 0 rfl rfl ?_
  refine kb_gone (v := B.2.2.2.2) X f_C_75 d_C_slots_1 rfl ?_
  exact xq_iret X rfl rfl rfl rfl d_C_slots_4
def kq_bus (w : Nat → Int32) : Int32 := if w 0 = 1 then (-2) else if w 0 = 2 then w 1 else if w 0 = 3 then w 1 + 8 else (-1)
theorem kq_nt {x : Int32} (h1 : ¬ x = 1) (h2 : ¬ x = 2) (h3 : ¬ x = 3) : x.toInt < 1 ∨ 3 < x.toInt := by
  have q1 := lv_neT h1 (show (1 : Int32).toInt = 1 by decide)
  have q2 := lv_neT h2 (show (2 : Int32).toInt = 2 by decide)
  have q3 := lv_neT h3 (show (3 : Int32).toInt = 3 by decide)
  omega
set_option maxHeartbeats 4000000 in
set_option maxRecDepth 100000 in
theorem kt_bus {l : Launch} {D : va_G} {n : Nat} {ad : xq_I → Nat} {cI cZ cN : ClassId} (hap : xq_ap (kc_cs n) ad) (hn : n = 4 ∨ n = 5 ∨ n = 6) (B : kc_B) : xq_M l D vcl (kc_tys cI cZ cN) (kc_cs n) ad (kc_en n ad cI cN) y_C_bus (Cond.code y_C_bus b_C_bus 1 (some .int) :: xw) 0 [.ref (ad (0, 0))] B (some (.int (kq_bus B.2.2.2.1))) B := by
  have h0 : 0 < n := by omega
  refine xq_met (by decide) (Nat.le_of_ble_eq_true rfl) hap ?_
  intro p e s m args below meth c X
  refine xq_eqv (L' := [(0, .ref (ad (0, 0)))]) (st' := []) rfl rfl ?_
  refine xq_aload_n X d_C_bus_0 0 rfl rfl ?_
  refine kb_wire X f_C_30 d_C_bus_1 ?_
  have hw : kq_bus B.2.2.2.1 = kq_bus B.2.2.2.1 := rfl
  rw [kc_self B 0]
  generalize B.1 0 = F
  generalize B.2.1 0 = G
  generalize B.2.2.1 0 = E
  show xq_W p l e (xq_r 0) s m args below meth c D vcl (kc_cs n) ad (kc_en n ad cI cN) 0 0 (MQ below (xq_Q D vcl (kc_cs n) ad (kc_en n ad cI cN) (some (.int (kq_bus B.2.2.2.1))) (kc_ov B 0 F G E B.2.2.2.1)) args s 0 0 (xq_in (kc_cs n) ad)) 1 4 [(0, .ref (ad (0, 0)))] [.ref (ad (2, 0))] (kc_ov B 0 F G E B.2.2.2.1)
  generalize B.2.2.2.1 = w
  refine kw_get (v := (w 0)) X 0 (by decide) f_C_78 d_C_bus_4 rfl ?_
  by_cases h1 : w 0 = 1
  · refine xq_tableIn X d_C_bus_7 32 (by rw [h1]; decide) (by rw [h1]; decide) (off := 25) (by rw [h1]; decide) (by decide) ?_
    refine xq_bipush (v := (-2)) X d_C_bus_32 (by decide) ?_
    exact xq_iret X rfl rfl (if_pos h1).symm rfl d_C_bus_34
  · by_cases h2 : w 0 = 2
    · refine xq_tableIn X d_C_bus_7 35 (by rw [h2]; decide) (by rw [h2]; decide) (off := 28) (by rw [h2]; decide) (by decide) ?_
      refine xq_aload_n X d_C_bus_35 0 rfl rfl ?_
      refine kb_wire X f_C_30 d_C_bus_36 ?_
      refine kw_get (v := (w 1)) X 1 (by decide) f_C_81 d_C_bus_39 rfl ?_
      exact xq_iret X rfl rfl ((if_neg h1).trans (if_pos h2)).symm rfl d_C_bus_42
    · by_cases h3 : w 0 = 3
      · refine xq_tableIn X d_C_bus_7 43 (by rw [h3]; decide) (by rw [h3]; decide) (off := 36) (by rw [h3]; decide) (by decide) ?_
        refine xq_aload_n X d_C_bus_43 0 rfl rfl ?_
        refine kb_wire X f_C_30 d_C_bus_44 ?_
        refine kw_get (v := (w 1)) X 1 (by decide) f_C_81 d_C_bus_47 rfl ?_
        refine xq_bipush (v := 8) X d_C_bus_50 (by decide) ?_
        refine xq_iadd X d_C_bus_52 ?_
        exact xq_iret X rfl rfl ((if_neg h1).trans ((if_neg h2).trans (if_pos h3))).symm rfl d_C_bus_53
      · refine xq_tableOut X d_C_bus_7 54 (kq_nt h1 h2 h3) (by decide) ?_
        refine xq_iconst (v := (-1)) X d_C_bus_54 (by decide) ?_
        exact xq_iret X rfl rfl ((if_neg h1).trans ((if_neg h2).trans (if_neg h3))).symm rfl d_C_bus_55
