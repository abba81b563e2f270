/-! the reference's memory at a node; a step at a node, and a row of steps -/
def rq_F (A : rc_A) (k : Nat) : Nat → Int32 := fun a => if a = 15 then 0 else if a = 16 then 0 else A a k
def rq_E (A : rc_A) (k : Nat) : Nat → Int32 := fun m => if m < 6 then A 15 (6 * k + m) else 0
def rq_T (A : rc_A) (k : Nat) : Nat → Int32 := fun d => if d < 4 then A 16 (4 * k + d) else 0
def rq_at (A : rc_A) (k : Nat) (g f : Nat → Int32) : rc_A := rc_ov A k (rq_F A k) (rq_E A k) (rq_T A k) g f
def rq_gf (A : rc_A) (g f : Nat → Int32) : rc_A := fun a => if a = 0 then g else if a = 24 then f else A a
theorem rq_at_eq (A : rc_A) (k : Nat) (g f : Nat → Int32) : rq_at A k g f = rq_gf A g f := by
  funext a
  unfold rq_at rc_ov rq_gf
  split
  · rfl
  · split
    · rfl
    · split
      · next h =>
        subst h
        funext i
        split
        · next h =>
          show (if i - 6 * k < 6 then A 15 (6 * k + (i - 6 * k)) else 0) = A 15 i
          rw [if_pos (by omega), show 6 * k + (i - 6 * k) = i by omega]
        · rfl
      · split
        · next h =>
          subst h
          funext i
          split
          · next h =>
            show (if i - 4 * k < 4 then A 16 (4 * k + (i - 4 * k)) else 0) = A 16 i
            rw [if_pos (by omega), show 4 * k + (i - 4 * k) = i by omega]
          · rfl
        · next h1 h2 =>
          have h3 : rq_F A k a = A a k := by
            unfold rq_F
            rw [if_neg h1, if_neg h2]
          rw [h3]
          exact kc_ug (A a) k
theorem rq_gf_self (A : rc_A) : rq_gf A (A 0) (A 24) = A := by
  funext a
  unfold rq_gf
  split
  · next h => rw [h]
  · split
    · next h => rw [h]
    · rfl
theorem rq_self (A : rc_A) (k : Nat) : A = rq_at A k (A 0) (A 24) := by rw [rq_at_eq, rq_gf_self]
def xq_it {μ : Type} (φ : Nat → μ → μ) : Nat → μ → μ
  | 0, M => M
  | i + 1, M => φ i (xq_it φ i M)
abbrev rq_S : Type := Nat → (Nat → Int32) → (Nat → Int32) → (Nat → Int32) → (Nat → Int32) → (Nat → Int32) → (Nat → Int32) × (Nat → Int32) × (Nat → Int32)
def rq_st (ψ : rq_S) (k : Nat) (A : rc_A) : rc_A :=
  rc_ov A k (ψ k (rq_F A k) (rq_E A k) (rq_T A k) (A 0) (A 24)).1 (ψ k (rq_F A k) (rq_E A k) (rq_T A k) (A 0) (A 24)).2.1 (ψ k (rq_F A k) (rq_E A k) (rq_T A k) (A 0) (A 24)).2.2 (A 0) (A 24)
theorem rq_oF {A : rc_A} {k j : Nat} {F E T g f : Nat → Int32} (h : j ≠ k) (hg : g = A 0) (hf : f = A 24) : rq_F (rc_ov A k F E T g f) j = rq_F A j := by
  funext a
  unfold rq_F
  split
  · rfl
  · split
    · rfl
    · next h1 h2 =>
      by_cases h0 : a = 0
      · subst h0; show g j = A 0 j; rw [hg]
      · by_cases h4 : a = 24
        · subst h4; show f j = A 24 j; rw [hf]
        · rw [rc_n h0 h4 h1 h2]
          exact kc_un _ _ _ _ h
theorem rq_oE {A : rc_A} {k j : Nat} {F E T g f : Nat → Int32} (h : j ≠ k) : rq_E (rc_ov A k F E T g f) j = rq_E A j := by
  funext m
  unfold rq_E
  split
  · next hm =>
    show (if 6 * k ≤ 6 * j + m ∧ 6 * j + m < 6 * k + 6 then E (6 * j + m - 6 * k) else A 15 (6 * j + m)) = A 15 (6 * j + m)
    rw [if_neg (by omega)]
  · rfl
theorem rq_oT {A : rc_A} {k j : Nat} {F E T g f : Nat → Int32} (h : j ≠ k) : rq_T (rc_ov A k F E T g f) j = rq_T A j := by
  funext m
  unfold rq_T
  split
  · next hm =>
    show (if 4 * k ≤ 4 * j + m ∧ 4 * j + m < 4 * k + 4 then T (4 * j + m - 4 * k) else A 16 (4 * j + m)) = A 16 (4 * j + m)
    rw [if_neg (by omega)]
  · rfl
theorem rq_sF {A : rc_A} {k a : Nat} {F E T g f : Nat → Int32} (h0 : a ≠ 0) (h1 : a ≠ 24) (h2 : a ≠ 15) (h3 : a ≠ 16) : rq_F (rc_ov A k F E T g f) k a = F a := by
  unfold rq_F
  rw [if_neg h2, if_neg h3, rc_n h0 h1 h2 h3]
  exact kc_us _ _ _
theorem rq_sE {A : rc_A} {k m : Nat} {F E T g f : Nat → Int32} (hm : m < 6) : rq_E (rc_ov A k F E T g f) k m = E m := by
  unfold rq_E
  rw [if_pos hm]
  show (if 6 * k ≤ 6 * k + m ∧ 6 * k + m < 6 * k + 6 then E (6 * k + m - 6 * k) else A 15 (6 * k + m)) = E m
  rw [if_pos (by omega), show 6 * k + m - 6 * k = m by omega]
theorem rq_sT {A : rc_A} {k m : Nat} {F E T g f : Nat → Int32} (hm : m < 4) : rq_T (rc_ov A k F E T g f) k m = T m := by
  unfold rq_T
  rw [if_pos hm]
  show (if 4 * k ≤ 4 * k + m ∧ 4 * k + m < 4 * k + 4 then T (4 * k + m - 4 * k) else A 16 (4 * k + m)) = T m
  rw [if_pos (by omega), show 4 * k + m - 4 * k = m by omega]
/-- a row of steps: the object's numbers and the frame stay; the nodes from i on are as they were -/
theorem rq_stF {ψ : rq_S} {A : rc_A} {k j : Nat} (h : j ≠ k) : rq_F (rq_st ψ k A) j = rq_F A j := rq_oF h rfl rfl
theorem rq_stE {ψ : rq_S} {A : rc_A} {k j : Nat} (h : j ≠ k) : rq_E (rq_st ψ k A) j = rq_E A j := rq_oE h
theorem rq_stT {ψ : rq_S} {A : rc_A} {k j : Nat} (h : j ≠ k) : rq_T (rq_st ψ k A) j = rq_T A j := rq_oT h
theorem rq_ssF {ψ : rq_S} {A : rc_A} {k a : Nat} (h0 : a ≠ 0) (h1 : a ≠ 24) (h2 : a ≠ 15) (h3 : a ≠ 16) : rq_F (rq_st ψ k A) k a = (ψ k (rq_F A k) (rq_E A k) (rq_T A k) (A 0) (A 24)).1 a := rq_sF h0 h1 h2 h3
theorem rq_ssE {ψ : rq_S} {A : rc_A} {k m : Nat} (hm : m < 6) : rq_E (rq_st ψ k A) k m = (ψ k (rq_F A k) (rq_E A k) (rq_T A k) (A 0) (A 24)).2.1 m := rq_sE hm
theorem rq_ssT {ψ : rq_S} {A : rc_A} {k m : Nat} (hm : m < 4) : rq_T (rq_st ψ k A) k m = (ψ k (rq_F A k) (rq_E A k) (rq_T A k) (A 0) (A 24)).2.2 m := rq_sT hm
theorem rq_itg (ψ : rq_S) (A : rc_A) : ∀ i, xq_it (rq_st ψ) i A 0 = A 0 ∧ xq_it (rq_st ψ) i A 24 = A 24
  | 0 => ⟨rfl, rfl⟩
  | i + 1 => rq_itg ψ A i
theorem rq_itc (ψ : rq_S) (A : rc_A) : ∀ i j, i ≤ j → rq_F (xq_it (rq_st ψ) i A) j = rq_F A j ∧ rq_E (xq_it (rq_st ψ) i A) j = rq_E A j ∧ rq_T (xq_it (rq_st ψ) i A) j = rq_T A j
  | 0, _, _ => ⟨rfl, rfl, rfl⟩
  | i + 1, j, h => by
    obtain ⟨h1, h2, h3⟩ := rq_itc ψ A i j (by omega)
    refine ⟨?_, ?_, ?_⟩
    · show rq_F (rq_st ψ i (xq_it (rq_st ψ) i A)) j = _
      exact (rq_stF (by omega)).trans h1
    · show rq_E (rq_st ψ i (xq_it (rq_st ψ) i A)) j = _
      exact (rq_stE (by omega)).trans h2
    · show rq_T (rq_st ψ i (xq_it (rq_st ψ) i A)) j = _
      exact (rq_stT (by omega)).trans h3
/-- what a row of steps leaves at a node -/
theorem rq_itd (ψ : rq_S) (A : rc_A) (k : Nat) : ∀ i, k < i → (∀ a, a ≠ 0 → a ≠ 24 → a ≠ 15 → a ≠ 16 → rq_F (xq_it (rq_st ψ) i A) k a = (ψ k (rq_F A k) (rq_E A k) (rq_T A k) (A 0) (A 24)).1 a) ∧ (∀ m, m < 6 → rq_E (xq_it (rq_st ψ) i A) k m = (ψ k (rq_F A k) (rq_E A k) (rq_T A k) (A 0) (A 24)).2.1 m) ∧ ∀ m, m < 4 → rq_T (xq_it (rq_st ψ) i A) k m = (ψ k (rq_F A k) (rq_E A k) (rq_T A k) (A 0) (A 24)).2.2 m
  | 0, h => absurd h (by omega)
  | i + 1, h => by
    by_cases hi : k = i
    · subst hi
      obtain ⟨c1, c2, c3⟩ := rq_itc ψ A k k (Nat.le_refl _)
      obtain ⟨d1, d2⟩ := rq_itg ψ A k
      refine ⟨fun a h0 h1 h2 h3 => ?_, fun m hm => ?_, fun m hm => ?_⟩
      · show rq_F (rq_st ψ k (xq_it (rq_st ψ) k A)) k a = _
        refine (rq_ssF h0 h1 h2 h3).trans ?_
        rw [c1, c2, c3, d1, d2]
      · show rq_E (rq_st ψ k (xq_it (rq_st ψ) k A)) k m = _
        refine (rq_ssE hm).trans ?_
        rw [c1, c2, c3, d1, d2]
      · show rq_T (rq_st ψ k (xq_it (rq_st ψ) k A)) k m = _
        refine (rq_ssT hm).trans ?_
        rw [c1, c2, c3, d1, d2]
    · obtain ⟨h1, h2, h3⟩ := rq_itd ψ A k i (by omega)
      refine ⟨fun a q0 q1 q2 q3 => ?_, fun m hm => ?_, fun m hm => ?_⟩
      · show rq_F (rq_st ψ i (xq_it (rq_st ψ) i A)) k a = _
        rw [rq_stF hi]; exact h1 a q0 q1 q2 q3
      · show rq_E (rq_st ψ i (xq_it (rq_st ψ) i A)) k m = _
        rw [rq_stE hi]; exact h2 m hm
      · show rq_T (rq_st ψ i (xq_it (rq_st ψ) i A)) k m = _
        rw [rq_stT hi]; exact h3 m hm
theorem rq_uu (f : Nat → Int32) (a : Nat) (x y : Int32) : upd (upd f a x) a y = upd f a y := by
  funext j
  unfold upd
  by_cases h : j = a
  · rw [if_pos h, if_pos h]
  · rw [if_neg h, if_neg h, if_neg h]
theorem rq_us (f : Nat → Int32) (a : Nat) : upd f a (f a) = f := by
  funext j
  unfold upd
  split
  · next h => rw [h]
  · rfl
def ps_goOn : rq_S := fun _ F E T g _ => (r_M_goOn F g, E, T)
def ps_decide : rq_S := fun k F E T g _ => ((r_M_decide k F E g).1, (r_M_decide k F E g).2, T)
def ps_set : rq_S := fun _ F E T g _ => (r_M_set F T g, E, T)
def ps_hear (n : Nat) : rq_S := fun k F E T g f => r_M_hear k n (F 2).toNatClampNeg (F 17).toNatClampNeg (F 10).toNatClampNeg F E T g f
set_option maxHeartbeats 4000000 in
set_option maxRecDepth 100000 in
theorem rl_slot1 {p : Program} {l : Launch} {e : Env} {s : State} {m : MethodId} {args : Array Value} {below : List Frame} {meth : Method} {c : Code} {Q : State → Prop} {D : va_G} {ad : xq_I → Nat} {cI cZ cN : ClassId} (hap : xq_ap rc_cs ad) (X : xq_C p s m args meth c D vcl (kc_tys cI cZ cN) rc_cs ad xw y_M_slot.cls b_M_slot 2 none) (n : Nat) (hn : n = 4 ∨ n = 5 ∨ n = 6) (A0 : rc_A) (hg0 : A0 0 0 = nI n) 
    (H : xq_W p l e (xq_r 4) s m args below meth c D vcl rc_cs ad (rc_en ad cI cZ) 0 0 Q 2 21 [(1, .int (nI n)), (0, .ref (ad (6, 0)))] [] (xq_it (rq_st ps_goOn) n A0)) :
    ∀ r k, k + r = n → xq_W p l e (xq_r 4) s m args below meth c D vcl rc_cs ad (rc_en ad cI cZ) 0 0 Q 2 2 [(1, .int (nI k)), (0, .ref (ad (6, 0)))] [] (xq_it (rq_st ps_goOn) k A0) := by
  intro r
  induction r with
  | zero =>
    intro k hk
    have hk : k = n := by omega
    subst hk
    have hge : nI k ≤ nI k := nI_le (Nat.le_refl _) (by omega)
    obtain ⟨A, hA⟩ : ∃ A, A = xq_it (rq_st ps_goOn) k A0 := ⟨_, rfl⟩
    have hg' : A 0 0 = nI k := by rw [hA, (rq_itg ps_goOn A0 k).1]; exact hg0
    rw [← hA] at H ⊢
    refine xq_mem (rq_self _ k) ?_
    unfold rq_at
    refine xq_iload_n X d_M_slot_2 0 rfl rfl ?_
    refine xq_aload_n X d_M_slot_3 1 rfl rfl ?_
    refine rg_get (v := (nI k)) X 0 (by decide) f_M_72 d_M_slot_4 hg' ?_
    refine xq_icmp_ge X d_M_slot_7 21 (by decide) (fun _ => ?_) (fun h => absurd hge h)
    exact xq_mem (rq_self _ _).symm H
  | succ r ih =>
    intro k hk
    have hkn : k < n := by omega
    have hk : k < 6 := by omega
    have hlt : ¬ nI n ≤ nI k := nI_ge (by omega) (by omega)
    obtain ⟨A, hA⟩ : ∃ A, A = xq_it (rq_st ps_goOn) k A0 := ⟨_, rfl⟩
    have hg' : A 0 0 = nI n := by rw [hA, (rq_itg ps_goOn A0 k).1]; exact hg0
    rw [← hA]
    refine xq_mem (rq_self _ k) ?_
    unfold rq_at
    refine xq_iload_n X d_M_slot_2 0 rfl rfl ?_
    refine xq_aload_n X d_M_slot_3 1 rfl rfl ?_
    refine rg_get (v := (nI n)) X 0 (by decide) f_M_72 d_M_slot_4 hg' ?_
    refine xq_icmp_ge X d_M_slot_7 21 (by decide) (fun h => absurd h hlt) (fun _ => ?_)
    refine xq_aload_n X d_M_slot_10 1 rfl rfl ?_
    refine xq_iload_n X d_M_slot_11 0 rfl rfl ?_
    refine rk_callV (As := [.int (nI k)]) (rest := []) X xw_g g_M_131 (rt_M_goOn hap hk) rfl rfl (by decide) (Nat.le_of_ble_eq_true rfl) rfl d_M_slot_12 ?_
    refine xq_iinc X d_M_slot_15 0 rfl [(1, .int (nI (k + 1))), (0, .ref (ad (6, 0)))] rfl (nI_1 k) (by decide) ?_
    refine xq_goto X d_M_slot_18 2 (by decide) ?_
    refine xq_mem (M' := xq_it (rq_st ps_goOn) (k + 1) A0) (by rw [hA]; rfl) ?_
    exact ih (k + 1) (by omega)
set_option maxHeartbeats 4000000 in
set_option maxRecDepth 100000 in
theorem rl_slot2 {p : Program} {l : Launch} {e : Env} {s : State} {m : MethodId} {args : Array Value} {below : List Frame} {meth : Method} {c : Code} {Q : State → Prop} {D : va_G} {ad : xq_I → Nat} {cI cZ cN : ClassId} (hap : xq_ap rc_cs ad) (X : xq_C p s m args meth c D vcl (kc_tys cI cZ cN) rc_cs ad xw y_M_slot.cls b_M_slot 2 none) (n : Nat) (hn : n = 4 ∨ n = 5 ∨ n = 6) (A0 : rc_A) (hg0 : A0 0 0 = nI n) 
    (H : xq_W p l e (xq_r 4) s m args below meth c D vcl rc_cs ad (rc_en ad cI cZ) 0 0 Q 2 42 [(1, .int (nI n)), (0, .ref (ad (6, 0)))] [] (xq_it (rq_st ps_decide) n A0)) :
    ∀ r k, k + r = n → xq_W p l e (xq_r 4) s m args below meth c D vcl rc_cs ad (rc_en ad cI cZ) 0 0 Q 2 23 [(1, .int (nI k)), (0, .ref (ad (6, 0)))] [] (xq_it (rq_st ps_decide) k A0) := by
  intro r
  induction r with
  | zero =>
    intro k hk
    have hk : k = n := by omega
    subst hk
    have hge : nI k ≤ nI k := nI_le (Nat.le_refl _) (by omega)
    obtain ⟨A, hA⟩ : ∃ A, A = xq_it (rq_st ps_decide) k A0 := ⟨_, rfl⟩
    have hg' : A 0 0 = nI k := by rw [hA, (rq_itg ps_decide A0 k).1]; exact hg0
    rw [← hA] at H ⊢
    refine xq_mem (rq_self _ k) ?_
    unfold rq_at
    refine xq_iload_n X d_M_slot_23 0 rfl rfl ?_
    refine xq_aload_n X d_M_slot_24 1 rfl rfl ?_
    refine rg_get (v := (nI k)) X 0 (by decide) f_M_72 d_M_slot_25 hg' ?_
    refine xq_icmp_ge X d_M_slot_28 42 (by decide) (fun _ => ?_) (fun h => absurd hge h)
    exact xq_mem (rq_self _ _).symm H
  | succ r ih =>
    intro k hk
    have hkn : k < n := by omega
    have hk : k < 6 := by omega
    have hlt : ¬ nI n ≤ nI k := nI_ge (by omega) (by omega)
    obtain ⟨A, hA⟩ : ∃ A, A = xq_it (rq_st ps_decide) k A0 := ⟨_, rfl⟩
    have hg' : A 0 0 = nI n := by rw [hA, (rq_itg ps_decide A0 k).1]; exact hg0
    rw [← hA]
    refine xq_mem (rq_self _ k) ?_
    unfold rq_at
    refine xq_iload_n X d_M_slot_23 0 rfl rfl ?_
    refine xq_aload_n X d_M_slot_24 1 rfl rfl ?_
    refine rg_get (v := (nI n)) X 0 (by decide) f_M_72 d_M_slot_25 hg' ?_
    refine xq_icmp_ge X d_M_slot_28 42 (by decide) (fun h => absurd h hlt) (fun _ => ?_)
    refine xq_aload_n X d_M_slot_31 1 rfl rfl ?_
    refine xq_iload_n X d_M_slot_32 0 rfl rfl ?_
    refine rk_callV (As := [.int (nI k)]) (rest := []) X xw_g g_M_134 (rt_M_decide hap hk) rfl rfl (by decide) (Nat.le_of_ble_eq_true rfl) rfl d_M_slot_33 ?_
    refine xq_iinc X d_M_slot_36 0 rfl [(1, .int (nI (k + 1))), (0, .ref (ad (6, 0)))] rfl (nI_1 k) (by decide) ?_
    refine xq_goto X d_M_slot_39 23 (by decide) ?_
    refine xq_mem (M' := xq_it (rq_st ps_decide) (k + 1) A0) (by rw [hA]; rfl) ?_
    exact ih (k + 1) (by omega)
set_option maxHeartbeats 4000000 in
set_option maxRecDepth 100000 in
theorem rl_slot4 {p : Program} {l : Launch} {e : Env} {s : State} {m : MethodId} {args : Array Value} {below : List Frame} {meth : Method} {c : Code} {Q : State → Prop} {D : va_G} {ad : xq_I → Nat} {cI cZ cN : ClassId} (hap : xq_ap rc_cs ad) (X : xq_C p s m args meth c D vcl (kc_tys cI cZ cN) rc_cs ad xw y_M_slot.cls b_M_slot 2 none) (n : Nat) (hn : n = 4 ∨ n = 5 ∨ n = 6) (A0 : rc_A) (hg0 : A0 0 0 = nI n) 
    (H : xq_W p l e (xq_r 4) s m args below meth c D vcl rc_cs ad (rc_en ad cI cZ) 0 0 Q 2 88 [(1, .int (nI n)), (0, .ref (ad (6, 0)))] [] (xq_it (rq_st ps_set) n A0)) :
    ∀ r k, k + r = n → xq_W p l e (xq_r 4) s m args below meth c D vcl rc_cs ad (rc_en ad cI cZ) 0 0 Q 2 69 [(1, .int (nI k)), (0, .ref (ad (6, 0)))] [] (xq_it (rq_st ps_set) k A0) := by
  intro r
  induction r with
  | zero =>
    intro k hk
    have hk : k = n := by omega
    subst hk
    have hge : nI k ≤ nI k := nI_le (Nat.le_refl _) (by omega)
    obtain ⟨A, hA⟩ : ∃ A, A = xq_it (rq_st ps_set) k A0 := ⟨_, rfl⟩
    have hg' : A 0 0 = nI k := by rw [hA, (rq_itg ps_set A0 k).1]; exact hg0
    rw [← hA] at H ⊢
    refine xq_mem (rq_self _ k) ?_
    unfold rq_at
    refine xq_iload_n X d_M_slot_69 0 rfl rfl ?_
    refine xq_aload_n X d_M_slot_70 1 rfl rfl ?_
    refine rg_get (v := (nI k)) X 0 (by decide) f_M_72 d_M_slot_71 hg' ?_
    refine xq_icmp_ge X d_M_slot_74 88 (by decide) (fun _ => ?_) (fun h => absurd hge h)
    exact xq_mem (rq_self _ _).symm H
  | succ r ih =>
    intro k hk
    have hkn : k < n := by omega
    have hk : k < 6 := by omega
    have hlt : ¬ nI n ≤ nI k := nI_ge (by omega) (by omega)
    obtain ⟨A, hA⟩ : ∃ A, A = xq_it (rq_st ps_set) k A0 := ⟨_, rfl⟩
    have hg' : A 0 0 = nI n := by rw [hA, (rq_itg ps_set A0 k).1]; exact hg0
    rw [← hA]
    refine xq_mem (rq_self _ k) ?_
    unfold rq_at
    refine xq_iload_n X d_M_slot_69 0 rfl rfl ?_
    refine xq_aload_n X d_M_slot_70 1 rfl rfl ?_
    refine rg_get (v := (nI n)) X 0 (by decide) f_M_72 d_M_slot_71 hg' ?_
    refine xq_icmp_ge X d_M_slot_74 88 (by decide) (fun h => absurd h hlt) (fun _ => ?_)
    refine xq_aload_n X d_M_slot_77 1 rfl rfl ?_
    refine xq_iload_n X d_M_slot_78 0 rfl rfl ?_
    refine rk_callV (As := [.int (nI k)]) (rest := []) X xw_g g_M_143 (rt_M_set hap hk) rfl rfl (by decide) (Nat.le_of_ble_eq_true rfl) rfl d_M_slot_79 ?_
    refine xq_iinc X d_M_slot_82 0 rfl [(1, .int (nI (k + 1))), (0, .ref (ad (6, 0)))] rfl (nI_1 k) (by decide) ?_
    refine xq_goto X d_M_slot_85 69 (by decide) ?_
    refine xq_mem (M' := xq_it (rq_st ps_set) (k + 1) A0) (by rw [hA]; rfl) ?_
    exact ih (k + 1) (by omega)
set_option maxHeartbeats 4000000 in
set_option maxRecDepth 100000 in
theorem rl_slot3 {p : Program} {l : Launch} {e : Env} {s : State} {m : MethodId} {args : Array Value} {below : List Frame} {meth : Method} {c : Code} {Q : State → Prop} {D : va_G} {ad : xq_I → Nat} {cI cZ cN : ClassId} (hap : xq_ap rc_cs ad) (X : xq_C p s m args meth c D vcl (kc_tys cI cZ cN) rc_cs ad xw y_M_slot.cls b_M_slot 2 none) (n : Nat) (hn : n = 4 ∨ n = 5 ∨ n = 6) (A0 : rc_A) (hg0 : A0 0 0 = nI n) (hp : ∀ k, k < n → (∃ t, t < 6 ∧ rq_F A0 k 2 = nI t) ∧ (∃ cn, cn ≤ 4 ∧ rq_F A0 k 17 = nI cn) ∧ ∃ u, u < 6 ∧ rq_F A0 k 10 = nI u)
    (H : xq_W p l e (xq_r 4) s m args below meth c D vcl rc_cs ad (rc_en ad cI cZ) 0 0 Q 2 67 [(1, .int (nI n)), (0, .ref (ad (6, 0)))] [] (xq_it (rq_st (ps_hear n)) n A0)) :
    ∀ r k, k + r = n → xq_W p l e (xq_r 4) s m args below meth c D vcl rc_cs ad (rc_en ad cI cZ) 0 0 Q 2 48 [(1, .int (nI k)), (0, .ref (ad (6, 0)))] [] (xq_it (rq_st (ps_hear n)) k A0) := by
  intro r
  induction r with
  | zero =>
    intro k hk
    have hk : k = n := by omega
    subst hk
    have hge : nI k ≤ nI k := nI_le (Nat.le_refl _) (by omega)
    obtain ⟨A, hA⟩ : ∃ A, A = xq_it (rq_st (ps_hear k)) k A0 := ⟨_, rfl⟩
    have hg' : A 0 0 = nI k := by rw [hA, (rq_itg (ps_hear k) A0 k).1]; exact hg0
    rw [← hA] at H ⊢
    refine xq_mem (rq_self _ k) ?_
    unfold rq_at
    refine xq_iload_n X d_M_slot_48 0 rfl rfl ?_
    refine xq_aload_n X d_M_slot_49 1 rfl rfl ?_
    refine rg_get (v := (nI k)) X 0 (by decide) f_M_72 d_M_slot_50 hg' ?_
    refine xq_icmp_ge X d_M_slot_53 67 (by decide) (fun _ => ?_) (fun h => absurd hge h)
    exact xq_mem (rq_self _ _).symm H
  | succ r ih =>
    intro k hk
    have hkn : k < n := by omega
    have hk : k < 6 := by omega
    have hlt : ¬ nI n ≤ nI k := nI_ge (by omega) (by omega)
    obtain ⟨A, hA⟩ : ∃ A, A = xq_it (rq_st (ps_hear n)) k A0 := ⟨_, rfl⟩
    have hg' : A 0 0 = nI n := by rw [hA, (rq_itg (ps_hear n) A0 k).1]; exact hg0
    have hFA : rq_F A k = rq_F A0 k := by rw [hA]; exact (rq_itc (ps_hear n) A0 k k (Nat.le_refl _)).1
    obtain ⟨⟨t0, ht0, ht1⟩, ⟨c0, hc0, hc1⟩, ⟨u0, hu0, hu1⟩⟩ := hp k hkn
    rw [← hFA] at ht1 hc1 hu1
    have ht : (rq_F A k) 2 = nI ((rq_F A k) 2).toNatClampNeg := by rw [ht1, nI_clamp (by omega)]
    have htl : ((rq_F A k) 2).toNatClampNeg < 6 := by rw [ht1, nI_clamp (by omega)]; exact ht0
    have hc : (rq_F A k) 17 = nI ((rq_F A k) 17).toNatClampNeg := by rw [hc1, nI_clamp (by omega)]
    have hcl : ((rq_F A k) 17).toNatClampNeg ≤ 4 := by rw [hc1, nI_clamp (by omega)]; exact hc0
    have hu : (rq_F A k) 10 = nI ((rq_F A k) 10).toNatClampNeg := by rw [hu1, nI_clamp (by omega)]
    have hul : ((rq_F A k) 10).toNatClampNeg < 6 := by rw [hu1, nI_clamp (by omega)]; exact hu0
    rw [← hA]
    refine xq_mem (rq_self _ k) ?_
    unfold rq_at
    refine xq_iload_n X d_M_slot_48 0 rfl rfl ?_
    refine xq_aload_n X d_M_slot_49 1 rfl rfl ?_
    refine rg_get (v := (nI n)) X 0 (by decide) f_M_72 d_M_slot_50 hg' ?_
    refine xq_icmp_ge X d_M_slot_53 67 (by decide) (fun h => absurd h hlt) (fun _ => ?_)
    refine xq_aload_n X d_M_slot_56 1 rfl rfl ?_
    refine xq_iload_n X d_M_slot_57 0 rfl rfl ?_
    refine rk_callV (As := [.int (nI k)]) (rest := []) X xw_g g_M_140 (rt_M_hear hap hk (F := (rq_F A k)) (E := (rq_E A k)) (T := (rq_T A k)) (g := (A 0)) (f := (A 24)) n hn hg' _ htl ht _ hcl hc _ hul hu) rfl rfl (by decide) (Nat.le_of_ble_eq_true rfl) rfl d_M_slot_58 ?_
    refine xq_iinc X d_M_slot_61 0 rfl [(1, .int (nI (k + 1))), (0, .ref (ad (6, 0)))] rfl (nI_1 k) (by decide) ?_
    refine xq_goto X d_M_slot_64 48 (by decide) ?_
    refine xq_mem (M' := xq_it (rq_st (ps_hear n)) (k + 1) A0) (by rw [hA]; rfl) ?_
    exact ih (k + 1) (by omega)
