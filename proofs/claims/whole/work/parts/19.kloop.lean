/-! the class's memory: a step at a node, and a row of steps -/
abbrev kq_S : Type := (Nat → Int32) → (Nat → Int32) → (Nat → Int32) → (Nat → Int32) → (Nat → Int32) × (Nat → Int32) × (Nat → Int32) × (Nat → Int32)
def kq_st (ψ : kq_S) (k : Nat) (B : kc_B) : kc_B :=
  kc_ov B k (ψ (B.1 k) (B.2.1 k) (B.2.2.1 k) B.2.2.2.1).1 (ψ (B.1 k) (B.2.1 k) (B.2.2.1 k) B.2.2.2.1).2.1 (ψ (B.1 k) (B.2.1 k) (B.2.2.1 k) B.2.2.2.1).2.2.1 (ψ (B.1 k) (B.2.1 k) (B.2.2.1 k) B.2.2.2.1).2.2.2
theorem kq_itc (ψ : kq_S) (B : kc_B) : ∀ i j, i ≤ j → (xq_it (kq_st ψ) i B).1 j = B.1 j ∧ (xq_it (kq_st ψ) i B).2.1 j = B.2.1 j ∧ (xq_it (kq_st ψ) i B).2.2.1 j = B.2.2.1 j
  | 0, _, _ => ⟨rfl, rfl, rfl⟩
  | i + 1, j, h => by
    obtain ⟨h1, h2, h3⟩ := kq_itc ψ B i j (by omega)
    exact ⟨(kc_un _ _ _ _ (by omega)).trans h1, (kc_un _ _ _ _ (by omega)).trans h2, (kc_un _ _ _ _ (by omega)).trans h3⟩
theorem kq_its (ψ : kq_S) (B : kc_B) : ∀ i, (xq_it (kq_st ψ) i B).2.2.2.2 = B.2.2.2.2
  | 0 => rfl
  | i + 1 => kq_its ψ B i
def ks_move : kq_S := fun F G E w => (c_N_moveClock F, G, E, w)
def ks_set : kq_S := fun F G E w => (c_N_correctClock F G E, G, E, w)
def ks_send : kq_S := fun F G E w => ((c_N_chooseWhatToSend F G).1, (c_N_chooseWhatToSend F G).2, E, if (c_N_chooseWhatToSend F G).1 18 = 0 then w else c_W_carry (c_N_chooseWhatToSend F G).1 w)
def ks_hear : kq_S := fun F G E w => if F 18 = 0 then (if F 3 = 1 then (c_N_hearListening (c_N_kindHeard F w).1 w (c_N_kindHeard F w).2, G, E, w) else (if c_N_isInside F = 0 then (F, G, E, w) else ((c_N_hearInside (c_N_kindHeard F w).1 G E w (c_N_kindHeard F w).2).1, (c_N_hearInside (c_N_kindHeard F w).1 G E w (c_N_kindHeard F w).2).2.1, (c_N_hearInside (c_N_kindHeard F w).1 G E w (c_N_kindHeard F w).2).2.2, w))) else (F, G, E, w)
set_option maxHeartbeats 4000000 in
set_option maxRecDepth 100000 in
theorem kl_pass1 {p : Program} {l : Launch} {e : Env} {s : State} {m : MethodId} {args : Array Value} {below : List Frame} {meth : Method} {c : Code} {Q : State → Prop} {D : va_G} {n : Nat} {ad : xq_I → Nat} {cI cZ cN : ClassId} (hap : xq_ap (kc_cs n) ad) (X : xq_C p s m args meth c D vcl (kc_tys cI cZ cN) (kc_cs n) ad xw y_C_passOneSlot.cls b_C_passOneSlot 5 none) (hn : n = 4 ∨ n = 5 ∨ n = 6) (B0 : kc_B) 
    (H : xq_W p l e (xq_r 5) s m args below meth c D vcl (kc_cs n) ad (kc_en n ad cI cN) 0 0 Q 5 41 [(3, .int (nI n)), (2, .int (nI n)), (1, .ref (ad (1, 0))), (0, .ref (ad (0, 0)))] [] (xq_it (kq_st ks_move) n B0)) :
    ∀ r k, k + r = n → xq_W p l e (xq_r 5) s m args below meth c D vcl (kc_cs n) ad (kc_en n ad cI cN) 0 0 Q 5 20 [(3, .int (nI k)), (2, .int (nI n)), (1, .ref (ad (1, 0))), (0, .ref (ad (0, 0)))] [] (xq_it (kq_st ks_move) k B0) := by
  have h31 : n < 2 ^ 31 := by omega
  intro r
  induction r with
  | zero =>
    intro k hk
    have hk : k = n := by omega
    subst hk
    have hge : nI k ≤ nI k := nI_le (Nat.le_refl _) (by omega)
    obtain ⟨B, hB⟩ : ∃ B, B = xq_it (kq_st ks_move) k B0 := ⟨_, rfl⟩
    rw [← hB] at H ⊢
    refine xq_mem (kc_self _ k) ?_
    refine xq_iload_n X d_C_passOneSlot_20 0 rfl rfl ?_
    refine xq_iload_n X d_C_passOneSlot_21 1 rfl rfl ?_
    refine xq_icmp_ge X d_C_passOneSlot_22 41 (by decide) (fun _ => ?_) (fun h => absurd hge h)
    exact xq_mem (kc_self _ _).symm H
  | succ r ih =>
    intro k hk
    have hk : k < n := by omega
    have hlt : ¬ nI n ≤ nI k := nI_ge (by omega) (by omega)
    obtain ⟨B, hB⟩ : ∃ B, B = xq_it (kq_st ks_move) k B0 := ⟨_, rfl⟩
    rw [← hB]
    refine xq_mem (kc_self _ k) ?_
    refine xq_iload_n X d_C_passOneSlot_20 0 rfl rfl ?_
    refine xq_iload_n X d_C_passOneSlot_21 1 rfl rfl ?_
    refine xq_icmp_ge X d_C_passOneSlot_22 41 (by decide) (fun h => absurd h hlt) (fun _ => ?_)
    refine xq_aload_n X d_C_passOneSlot_25 2 rfl rfl ?_
    refine xq_iload_n X d_C_passOneSlot_26 0 rfl rfl ?_
    refine kb_ald X hk h31 d_C_passOneSlot_27 ?_
    refine xq_astore X d_C_passOneSlot_28 [(4, .ref (ad (3, k))), (3, .int (nI k)), (2, .int (nI n)), (1, .ref (ad (1, 0))), (0, .ref (ad (0, 0)))] rfl (by decide) ?_
    refine xq_aload X d_C_passOneSlot_30 0 rfl ?_
    refine kn_callV (As := []) (rest := []) X xw_g hk g_C_115 (ct_N_moveClock hap hk) rfl rfl (by decide) (Nat.le_of_ble_eq_true rfl) rfl d_C_passOneSlot_32 ?_
    refine xq_iinc X d_C_passOneSlot_35 1 rfl [(3, .int (nI (k + 1))), (4, .ref (ad (3, k))), (2, .int (nI n)), (1, .ref (ad (1, 0))), (0, .ref (ad (0, 0)))] rfl (nI_1 k) (by decide) ?_
    refine xq_sub [1, 0, 2, 3, 4] [(4, .ref (ad (3, k))), (3, .int (nI (k + 1))), (2, .int (nI n)), (1, .ref (ad (1, 0))), (0, .ref (ad (0, 0)))] rfl ?_
    refine xq_goto X d_C_passOneSlot_38 20 (by decide) ?_
    refine xq_sub [1, 2, 3, 4] [(3, .int (nI (k + 1))), (2, .int (nI n)), (1, .ref (ad (1, 0))), (0, .ref (ad (0, 0)))] rfl ?_
    refine xq_mem (M' := xq_it (kq_st ks_move) (k + 1) B0) (by rw [hB]; rfl) ?_
    exact ih (k + 1) (by omega)
set_option maxHeartbeats 4000000 in
set_option maxRecDepth 100000 in
theorem kl_pass2 {p : Program} {l : Launch} {e : Env} {s : State} {m : MethodId} {args : Array Value} {below : List Frame} {meth : Method} {c : Code} {Q : State → Prop} {D : va_G} {n : Nat} {ad : xq_I → Nat} {cI cZ cN : ClassId} (hap : xq_ap (kc_cs n) ad) (X : xq_C p s m args meth c D vcl (kc_tys cI cZ cN) (kc_cs n) ad xw y_C_passOneSlot.cls b_C_passOneSlot 5 none) (hn : n = 4 ∨ n = 5 ∨ n = 6) (B0 : kc_B) 
    (H : xq_W p l e (xq_r 5) s m args below meth c D vcl (kc_cs n) ad (kc_en n ad cI cN) 0 0 Q 5 84 [(3, .int (nI n)), (2, .int (nI n)), (1, .ref (ad (1, 0))), (0, .ref (ad (0, 0)))] [] (xq_it (kq_st ks_set) n B0)) :
    ∀ r k, k + r = n → xq_W p l e (xq_r 5) s m args below meth c D vcl (kc_cs n) ad (kc_en n ad cI cN) 0 0 Q 5 63 [(3, .int (nI k)), (2, .int (nI n)), (1, .ref (ad (1, 0))), (0, .ref (ad (0, 0)))] [] (xq_it (kq_st ks_set) k B0) := by
  have h31 : n < 2 ^ 31 := by omega
  intro r
  induction r with
  | zero =>
    intro k hk
    have hk : k = n := by omega
    subst hk
    have hge : nI k ≤ nI k := nI_le (Nat.le_refl _) (by omega)
    obtain ⟨B, hB⟩ : ∃ B, B = xq_it (kq_st ks_set) k B0 := ⟨_, rfl⟩
    rw [← hB] at H ⊢
    refine xq_mem (kc_self _ k) ?_
    refine xq_iload_n X d_C_passOneSlot_63 0 rfl rfl ?_
    refine xq_iload_n X d_C_passOneSlot_64 1 rfl rfl ?_
    refine xq_icmp_ge X d_C_passOneSlot_65 84 (by decide) (fun _ => ?_) (fun h => absurd hge h)
    exact xq_mem (kc_self _ _).symm H
  | succ r ih =>
    intro k hk
    have hk : k < n := by omega
    have hlt : ¬ nI n ≤ nI k := nI_ge (by omega) (by omega)
    obtain ⟨B, hB⟩ : ∃ B, B = xq_it (kq_st ks_set) k B0 := ⟨_, rfl⟩
    rw [← hB]
    refine xq_mem (kc_self _ k) ?_
    refine xq_iload_n X d_C_passOneSlot_63 0 rfl rfl ?_
    refine xq_iload_n X d_C_passOneSlot_64 1 rfl rfl ?_
    refine xq_icmp_ge X d_C_passOneSlot_65 84 (by decide) (fun h => absurd h hlt) (fun _ => ?_)
    refine xq_aload_n X d_C_passOneSlot_68 2 rfl rfl ?_
    refine xq_iload_n X d_C_passOneSlot_69 0 rfl rfl ?_
    refine kb_ald X hk h31 d_C_passOneSlot_70 ?_
    refine xq_astore X d_C_passOneSlot_71 [(4, .ref (ad (3, k))), (3, .int (nI k)), (2, .int (nI n)), (1, .ref (ad (1, 0))), (0, .ref (ad (0, 0)))] rfl (by decide) ?_
    refine xq_aload X d_C_passOneSlot_73 0 rfl ?_
    refine kn_callV (As := []) (rest := []) X xw_g hk g_C_127 (ct_N_correctClock hap hk) rfl rfl (by decide) (Nat.le_of_ble_eq_true rfl) rfl d_C_passOneSlot_75 ?_
    refine xq_iinc X d_C_passOneSlot_78 1 rfl [(3, .int (nI (k + 1))), (4, .ref (ad (3, k))), (2, .int (nI n)), (1, .ref (ad (1, 0))), (0, .ref (ad (0, 0)))] rfl (nI_1 k) (by decide) ?_
    refine xq_sub [1, 0, 2, 3, 4] [(4, .ref (ad (3, k))), (3, .int (nI (k + 1))), (2, .int (nI n)), (1, .ref (ad (1, 0))), (0, .ref (ad (0, 0)))] rfl ?_
    refine xq_goto X d_C_passOneSlot_81 63 (by decide) ?_
    refine xq_sub [1, 2, 3, 4] [(3, .int (nI (k + 1))), (2, .int (nI n)), (1, .ref (ad (1, 0))), (0, .ref (ad (0, 0)))] rfl ?_
    refine xq_mem (M' := xq_it (kq_st ks_set) (k + 1) B0) (by rw [hB]; rfl) ?_
    exact ih (k + 1) (by omega)
set_option maxHeartbeats 4000000 in
set_option maxRecDepth 100000 in
theorem kl_send {p : Program} {l : Launch} {e : Env} {s : State} {m : MethodId} {args : Array Value} {below : List Frame} {meth : Method} {c : Code} {Q : State → Prop} {D : va_G} {n : Nat} {ad : xq_I → Nat} {cI cZ cN : ClassId} (hap : xq_ap (kc_cs n) ad) (X : xq_C p s m args meth c D vcl (kc_tys cI cZ cN) (kc_cs n) ad xw y_C_sendAll.cls b_C_sendAll 5 none) (hn : n = 4 ∨ n = 5 ∨ n = 6) (B0 : kc_B) 
    (H : xq_W p l e (xq_r 4) s m args below meth c D vcl (kc_cs n) ad (kc_en n ad cI cN) 0 0 Q 5 55 [(3, .int (nI n)), (2, .int (nI n)), (1, .ref (ad (1, 0))), (0, .ref (ad (0, 0)))] [] (xq_it (kq_st ks_send) n B0)) :
    ∀ r k, k + r = n → xq_W p l e (xq_r 4) s m args below meth c D vcl (kc_cs n) ad (kc_en n ad cI cN) 0 0 Q 5 17 [(3, .int (nI k)), (2, .int (nI n)), (1, .ref (ad (1, 0))), (0, .ref (ad (0, 0)))] [] (xq_it (kq_st ks_send) k B0) := by
  have h31 : n < 2 ^ 31 := by omega
  intro r
  induction r with
  | zero =>
    intro k hk
    have hk : k = n := by omega
    subst hk
    have hge : nI k ≤ nI k := nI_le (Nat.le_refl _) (by omega)
    obtain ⟨B, hB⟩ : ∃ B, B = xq_it (kq_st ks_send) k B0 := ⟨_, rfl⟩
    rw [← hB] at H ⊢
    refine xq_mem (kc_self _ k) ?_
    refine xq_iload_n X d_C_sendAll_17 0 rfl rfl ?_
    refine xq_iload_n X d_C_sendAll_18 1 rfl rfl ?_
    refine xq_icmp_ge X d_C_sendAll_19 55 (by decide) (fun _ => ?_) (fun h => absurd hge h)
    exact xq_mem (kc_self _ _).symm H
  | succ r ih =>
    intro k hk
    have hk : k < n := by omega
    have hlt : ¬ nI n ≤ nI k := nI_ge (by omega) (by omega)
    obtain ⟨B, hB⟩ : ∃ B, B = xq_it (kq_st ks_send) k B0 := ⟨_, rfl⟩
    rw [← hB]
    refine xq_mem (kc_self _ k) ?_
    refine xq_iload_n X d_C_sendAll_17 0 rfl rfl ?_
    refine xq_iload_n X d_C_sendAll_18 1 rfl rfl ?_
    refine xq_icmp_ge X d_C_sendAll_19 55 (by decide) (fun h => absurd h hlt) (fun _ => ?_)
    refine xq_aload_n X d_C_sendAll_22 2 rfl rfl ?_
    refine xq_iload_n X d_C_sendAll_23 0 rfl rfl ?_
    refine kb_ald X hk h31 d_C_sendAll_24 ?_
    refine xq_astore X d_C_sendAll_25 [(4, .ref (ad (3, k))), (3, .int (nI k)), (2, .int (nI n)), (1, .ref (ad (1, 0))), (0, .ref (ad (0, 0)))] rfl (by decide) ?_
    refine xq_aload X d_C_sendAll_27 0 rfl ?_
    refine kn_callV (As := []) (rest := []) X xw_g hk g_C_133 (ct_N_chooseWhatToSend hap hk) rfl rfl (by decide) (Nat.le_of_ble_eq_true rfl) rfl d_C_sendAll_29 ?_
    refine xq_aload X d_C_sendAll_32 0 rfl ?_
    refine kn_get (v := ((c_N_chooseWhatToSend (B.1 k) (B.2.1 k)).1 18)) X hk 18 (by decide) f_C_136 d_C_sendAll_34 rfl ?_
    have J3 : ∀ (z2 : Nat → Int32), z2 = (if ((c_N_chooseWhatToSend (B.1 k) (B.2.1 k)).1 18) = 0 then B.2.2.2.1 else (c_W_carry (c_N_chooseWhatToSend (B.1 k) (B.2.1 k)).1 B.2.2.2.1)) → xq_W p l e (xq_r 4) s m args below meth c D vcl (kc_cs n) ad (kc_en n ad cI cN) 0 0 Q 5 49 [(4, .ref (ad (3, k))), (3, .int (nI k)), (2, .int (nI n)), (1, .ref (ad (1, 0))), (0, .ref (ad (0, 0)))] [] (kc_ov B k (c_N_chooseWhatToSend (B.1 k) (B.2.1 k)).1 (c_N_chooseWhatToSend (B.1 k) (B.2.1 k)).2 (B.2.2.1 k) z2) := by
      intro z2 e4
      refine xq_iinc X d_C_sendAll_49 1 rfl [(3, .int (nI (k + 1))), (4, .ref (ad (3, k))), (2, .int (nI n)), (1, .ref (ad (1, 0))), (0, .ref (ad (0, 0)))] rfl (nI_1 k) (by decide) ?_
      refine xq_sub [1, 0, 2, 3, 4] [(4, .ref (ad (3, k))), (3, .int (nI (k + 1))), (2, .int (nI n)), (1, .ref (ad (1, 0))), (0, .ref (ad (0, 0)))] rfl ?_
      refine xq_goto X d_C_sendAll_52 17 (by decide) ?_
      refine xq_sub [1, 2, 3, 4] [(3, .int (nI (k + 1))), (2, .int (nI n)), (1, .ref (ad (1, 0))), (0, .ref (ad (0, 0)))] rfl ?_
      refine xq_mem (M' := xq_it (kq_st ks_send) (k + 1) B0) ?_ ?_
      · show _ = kq_st ks_send k (xq_it (kq_st ks_send) k B0)
        rw [← hB, e4]
        rfl
      exact ih (k + 1) (by omega)
    refine xq_if_eq X d_C_sendAll_37 49 (by decide) (fun h1 => ?_) (fun h1 => ?_)
    · skip
      exact J3 _ (if_pos h1).symm
    · skip
      refine xq_aload_n X d_C_sendAll_40 4 rfl rfl ?_
      refine kb_wire X f_C_30 d_C_sendAll_41 ?_
      refine xq_aload X d_C_sendAll_44 0 rfl ?_
      refine kw_callV (As := [.ref (ad (3, k))]) (rest := []) X xw_g g_C_139 (ct_W_carry hap hk) rfl rfl (by decide) (Nat.le_of_ble_eq_true rfl) rfl d_C_sendAll_46 ?_
      exact J3 _ (if_neg h1).symm
set_option maxHeartbeats 4000000 in
set_option maxRecDepth 100000 in
theorem kl_hear {p : Program} {l : Launch} {e : Env} {s : State} {m : MethodId} {args : Array Value} {below : List Frame} {meth : Method} {c : Code} {Q : State → Prop} {D : va_G} {n : Nat} {ad : xq_I → Nat} {cI cZ cN : ClassId} (hap : xq_ap (kc_cs n) ad) (X : xq_C p s m args meth c D vcl (kc_tys cI cZ cN) (kc_cs n) ad xw y_C_hearAll.cls b_C_hearAll 5 none) (hn : n = 4 ∨ n = 5 ∨ n = 6) (B0 : kc_B) (hp : ∀ k, k < n → ¬ B0.2.1 k 2 < 0)
    (H : xq_W p l e (xq_r 4) s m args below meth c D vcl (kc_cs n) ad (kc_en n ad cI cN) 0 0 Q 5 93 [(3, .int (nI n)), (2, .int (nI n)), (1, .ref (ad (1, 0))), (0, .ref (ad (0, 0)))] [] (xq_it (kq_st ks_hear) n B0)) :
    ∀ r k, k + r = n → xq_W p l e (xq_r 4) s m args below meth c D vcl (kc_cs n) ad (kc_en n ad cI cN) 0 0 Q 5 10 [(3, .int (nI k)), (2, .int (nI n)), (1, .ref (ad (1, 0))), (0, .ref (ad (0, 0)))] [] (xq_it (kq_st ks_hear) k B0) := by
  have h31 : n < 2 ^ 31 := by omega
  intro r
  induction r with
  | zero =>
    intro k hk
    have hk : k = n := by omega
    subst hk
    have hge : nI k ≤ nI k := nI_le (Nat.le_refl _) (by omega)
    obtain ⟨B, hB⟩ : ∃ B, B = xq_it (kq_st ks_hear) k B0 := ⟨_, rfl⟩
    rw [← hB] at H ⊢
    refine xq_mem (kc_self _ k) ?_
    refine xq_iload_n X d_C_hearAll_10 0 rfl rfl ?_
    refine xq_iload_n X d_C_hearAll_11 1 rfl rfl ?_
    refine xq_icmp_ge X d_C_hearAll_12 93 (by decide) (fun _ => ?_) (fun h => absurd hge h)
    exact xq_mem (kc_self _ _).symm H
  | succ r ih =>
    intro k hk
    have hk : k < n := by omega
    have hlt : ¬ nI n ≤ nI k := nI_ge (by omega) (by omega)
    obtain ⟨B, hB⟩ : ∃ B, B = xq_it (kq_st ks_hear) k B0 := ⟨_, rfl⟩
    have hnx : ¬ (B.2.1 k) 2 < 0 := by rw [hB, (kq_itc ks_hear B0 k k (Nat.le_refl _)).2.1]; exact hp k hk
    rw [← hB]
    refine xq_mem (kc_self _ k) ?_
    refine xq_iload_n X d_C_hearAll_10 0 rfl rfl ?_
    refine xq_iload_n X d_C_hearAll_11 1 rfl rfl ?_
    refine xq_icmp_ge X d_C_hearAll_12 93 (by decide) (fun h => absurd h hlt) (fun _ => ?_)
    refine xq_aload_n X d_C_hearAll_15 2 rfl rfl ?_
    refine xq_iload_n X d_C_hearAll_16 0 rfl rfl ?_
    refine kb_ald X hk h31 d_C_hearAll_17 ?_
    refine xq_astore X d_C_hearAll_18 [(4, .ref (ad (3, k))), (3, .int (nI k)), (2, .int (nI n)), (1, .ref (ad (1, 0))), (0, .ref (ad (0, 0)))] rfl (by decide) ?_
    refine xq_aload X d_C_hearAll_20 0 rfl ?_
    refine kn_get (v := ((B.1 k) 18)) X hk 18 (by decide) f_C_136 d_C_hearAll_22 rfl ?_
    refine xq_if_eq X d_C_hearAll_25 31 (by decide) (fun h1 => ?_) (fun h1 => ?_)
    · skip
      refine xq_aload X d_C_hearAll_31 0 rfl ?_
      refine kn_get (v := ((B.1 k) 3)) X hk 3 (by decide) f_C_38 d_C_hearAll_33 rfl ?_
      refine xq_iconst (v := 1) X d_C_hearAll_36 (by decide) ?_
      refine xq_icmp_ne X d_C_hearAll_37 61 (by decide) (fun h2 => ?_) (fun h2 => ?_)
      · skip
        refine xq_aload X d_C_hearAll_61 0 rfl ?_
        refine kn_callI (As := []) (rest := []) X xw_g hk g_C_112 (ct_N_isInside hap hk) rfl rfl (by decide) (Nat.le_of_ble_eq_true rfl) rfl d_C_hearAll_63 ?_
        refine xq_if_eq X d_C_hearAll_66 87 (by decide) (fun h3 => ?_) (fun h3 => ?_)
        · skip
          refine xq_iinc X d_C_hearAll_87 1 rfl [(3, .int (nI (k + 1))), (4, .ref (ad (3, k))), (2, .int (nI n)), (1, .ref (ad (1, 0))), (0, .ref (ad (0, 0)))] rfl (nI_1 k) (by decide) ?_
          refine xq_sub [1, 0, 2, 3, 4] [(4, .ref (ad (3, k))), (3, .int (nI (k + 1))), (2, .int (nI n)), (1, .ref (ad (1, 0))), (0, .ref (ad (0, 0)))] rfl ?_
          refine xq_goto X d_C_hearAll_90 10 (by decide) ?_
          refine xq_sub [1, 2, 3, 4] [(3, .int (nI (k + 1))), (2, .int (nI n)), (1, .ref (ad (1, 0))), (0, .ref (ad (0, 0)))] rfl ?_
          have hh : ks_hear (B.1 k) (B.2.1 k) (B.2.2.1 k) B.2.2.2.1 = ((B.1 k), (B.2.1 k), (B.2.2.1 k), B.2.2.2.1) := ((if_pos h1).trans ((if_neg h2).trans (if_pos h3)))
          refine xq_mem (M' := xq_it (kq_st ks_hear) (k + 1) B0) ?_ ?_
          · show _ = kq_st ks_hear k (xq_it (kq_st ks_hear) k B0)
            rw [← hB]
            unfold kq_st
            rw [hh]
          exact ih (k + 1) (by omega)
        · skip
          refine xq_aload X d_C_hearAll_69 0 rfl ?_
          refine xq_aload X d_C_hearAll_71 0 rfl ?_
          refine xq_aload_n X d_C_hearAll_73 4 rfl rfl ?_
          refine kb_wire X f_C_30 d_C_hearAll_74 ?_
          refine kn_callI (As := [.ref (ad (2, 0))]) (rest := [.ref (ad (3, k))]) X xw_g hk g_C_143 (ct_N_kindHeard hap hk) rfl rfl (by decide) (Nat.le_of_ble_eq_true rfl) rfl d_C_hearAll_77 ?_
          refine xq_aload_n X d_C_hearAll_80 4 rfl rfl ?_
          refine kb_wire X f_C_30 d_C_hearAll_81 ?_
          refine kn_callV (As := [.int (c_N_kindHeard (B.1 k) B.2.2.2.1).2, .ref (ad (2, 0))]) (rest := []) X xw_g hk g_C_151 (ct_N_hearInside hap hk (F := (c_N_kindHeard (B.1 k) B.2.2.2.1).1) (G := (B.2.1 k)) (E := (B.2.2.1 k)) (w := B.2.2.2.1) (c_N_kindHeard (B.1 k) B.2.2.2.1).2 hnx) rfl rfl (by decide) (Nat.le_of_ble_eq_true rfl) rfl d_C_hearAll_84 ?_
          refine xq_iinc X d_C_hearAll_87 1 rfl [(3, .int (nI (k + 1))), (4, .ref (ad (3, k))), (2, .int (nI n)), (1, .ref (ad (1, 0))), (0, .ref (ad (0, 0)))] rfl (nI_1 k) (by decide) ?_
          refine xq_sub [1, 0, 2, 3, 4] [(4, .ref (ad (3, k))), (3, .int (nI (k + 1))), (2, .int (nI n)), (1, .ref (ad (1, 0))), (0, .ref (ad (0, 0)))] rfl ?_
          refine xq_goto X d_C_hearAll_90 10 (by decide) ?_
          refine xq_sub [1, 2, 3, 4] [(3, .int (nI (k + 1))), (2, .int (nI n)), (1, .ref (ad (1, 0))), (0, .ref (ad (0, 0)))] rfl ?_
          have hh : ks_hear (B.1 k) (B.2.1 k) (B.2.2.1 k) B.2.2.2.1 = ((c_N_hearInside (c_N_kindHeard (B.1 k) B.2.2.2.1).1 (B.2.1 k) (B.2.2.1 k) B.2.2.2.1 (c_N_kindHeard (B.1 k) B.2.2.2.1).2).1, (c_N_hearInside (c_N_kindHeard (B.1 k) B.2.2.2.1).1 (B.2.1 k) (B.2.2.1 k) B.2.2.2.1 (c_N_kindHeard (B.1 k) B.2.2.2.1).2).2.1, (c_N_hearInside (c_N_kindHeard (B.1 k) B.2.2.2.1).1 (B.2.1 k) (B.2.2.1 k) B.2.2.2.1 (c_N_kindHeard (B.1 k) B.2.2.2.1).2).2.2, B.2.2.2.1) := ((if_pos h1).trans ((if_neg h2).trans (if_neg h3)))
          refine xq_mem (M' := xq_it (kq_st ks_hear) (k + 1) B0) ?_ ?_
          · show _ = kq_st ks_hear k (xq_it (kq_st ks_hear) k B0)
            rw [← hB]
            unfold kq_st
            rw [hh]
          exact ih (k + 1) (by omega)
      · skip
        refine xq_aload X d_C_hearAll_40 0 rfl ?_
        refine xq_aload X d_C_hearAll_42 0 rfl ?_
        refine xq_aload_n X d_C_hearAll_44 4 rfl rfl ?_
        refine kb_wire X f_C_30 d_C_hearAll_45 ?_
        refine kn_callI (As := [.ref (ad (2, 0))]) (rest := [.ref (ad (3, k))]) X xw_g hk g_C_143 (ct_N_kindHeard hap hk) rfl rfl (by decide) (Nat.le_of_ble_eq_true rfl) rfl d_C_hearAll_48 ?_
        refine xq_aload_n X d_C_hearAll_51 4 rfl rfl ?_
        refine kb_wire X f_C_30 d_C_hearAll_52 ?_
        refine kn_callV (As := [.int (c_N_kindHeard (B.1 k) B.2.2.2.1).2, .ref (ad (2, 0))]) (rest := []) X xw_g hk g_C_147 (ct_N_hearListening hap hk (c_N_kindHeard (B.1 k) B.2.2.2.1).2) rfl rfl (by decide) (Nat.le_of_ble_eq_true rfl) rfl d_C_hearAll_55 ?_
        refine xq_goto X d_C_hearAll_58 87 (by decide) ?_
        refine xq_iinc X d_C_hearAll_87 1 rfl [(3, .int (nI (k + 1))), (4, .ref (ad (3, k))), (2, .int (nI n)), (1, .ref (ad (1, 0))), (0, .ref (ad (0, 0)))] rfl (nI_1 k) (by decide) ?_
        refine xq_sub [1, 0, 2, 3, 4] [(4, .ref (ad (3, k))), (3, .int (nI (k + 1))), (2, .int (nI n)), (1, .ref (ad (1, 0))), (0, .ref (ad (0, 0)))] rfl ?_
        refine xq_goto X d_C_hearAll_90 10 (by decide) ?_
        refine xq_sub [1, 2, 3, 4] [(3, .int (nI (k + 1))), (2, .int (nI n)), (1, .ref (ad (1, 0))), (0, .ref (ad (0, 0)))] rfl ?_
        have hh : ks_hear (B.1 k) (B.2.1 k) (B.2.2.1 k) B.2.2.2.1 = ((c_N_hearListening (c_N_kindHeard (B.1 k) B.2.2.2.1).1 B.2.2.2.1 (c_N_kindHeard (B.1 k) B.2.2.2.1).2), (B.2.1 k), (B.2.2.1 k), B.2.2.2.1) := ((if_pos h1).trans (if_pos h2))
        refine xq_mem (M' := xq_it (kq_st ks_hear) (k + 1) B0) ?_ ?_
        · show _ = kq_st ks_hear k (xq_it (kq_st ks_hear) k B0)
          rw [← hB]
          unfold kq_st
          rw [hh]
        exact ih (k + 1) (by omega)
    · skip
      refine xq_goto X d_C_hearAll_28 87 (by decide) ?_
      refine xq_iinc X d_C_hearAll_87 1 rfl [(3, .int (nI (k + 1))), (4, .ref (ad (3, k))), (2, .int (nI n)), (1, .ref (ad (1, 0))), (0, .ref (ad (0, 0)))] rfl (nI_1 k) (by decide) ?_
      refine xq_sub [1, 0, 2, 3, 4] [(4, .ref (ad (3, k))), (3, .int (nI (k + 1))), (2, .int (nI n)), (1, .ref (ad (1, 0))), (0, .ref (ad (0, 0)))] rfl ?_
      refine xq_goto X d_C_hearAll_90 10 (by decide) ?_
      refine xq_sub [1, 2, 3, 4] [(3, .int (nI (k + 1))), (2, .int (nI n)), (1, .ref (ad (1, 0))), (0, .ref (ad (0, 0)))] rfl ?_
      have hh : ks_hear (B.1 k) (B.2.1 k) (B.2.2.1 k) B.2.2.2.1 = ((B.1 k), (B.2.1 k), (B.2.2.1 k), B.2.2.2.1) := (if_neg h1)
      refine xq_mem (M' := xq_it (kq_st ks_hear) (k + 1) B0) ?_ ?_
      · show _ = kq_st ks_hear k (xq_it (kq_st ks_hear) k B0)
        rw [← hB]
        unfold kq_st
        rw [hh]
      exact ih (k + 1) (by omega)
