theorem lq_kad {n : Nat} {ad1 ad2 : xq_I → Nat} {cI cN : ClassId} {B : kc_B} (j : xq_I) : kc_en n (fun i => if i.1 < 6 then ad1 i else ad2 i) cI cN B j = kc_en n ad1 cI cN B j := by
  obtain ⟨a, b⟩ := j
  match a with
  | 0 => rfl
  | 1 => rfl
  | 2 => rfl
  | 3 => rfl
  | 4 => rfl
  | a + 5 => rfl
theorem lq_rad {ad1 ad2 : xq_I → Nat} {cI cZ : ClassId} {A : rc_A} (j : xq_I) (hj : j ∈ rc_cs) : rc_en (fun i => if i.1 < 6 then ad1 i else ad2 i) cI cZ A j = rc_en ad2 cI cZ A j := by
  unfold rc_cs at hj
  simp only [List.mem_cons, List.not_mem_nil, or_false] at hj
  rcases hj with rfl | rfl | rfl | rfl | rfl | rfl | rfl | rfl | rfl | rfl | rfl | rfl | rfl | rfl | rfl | rfl | rfl | rfl | rfl | rfl <;> rfl
theorem lq_wapp (n : Nat) (ad1 ad2 : xq_I → Nat) (cI cZ cN : ClassId) (B : kc_B) (A : rc_A) : xq_w (lq_cs n) (fun i => if i.1 < 6 then ad1 i else ad2 i) (lq_en n (fun i => if i.1 < 6 then ad1 i else ad2 i) cI cZ cN) (B, A) = xq_w (kc_cs n) ad1 (kc_en n ad1 cI cN) B ++ xq_w rc_cs ad2 (rc_en ad2 cI cZ) A := by
  unfold xq_w lq_cs
  rw [List.map_append]
  refine congr (congrArg _ ?_) ?_
  · apply List.map_congr_left
    intro j hj
    unfold lq_en
    show ((if j.1 < 6 then ad1 j else ad2 j), (if j.1 < 6 then kc_en n (fun i => if i.1 < 6 then ad1 i else ad2 i) cI cN B j else _)) = _
    rw [if_pos (lq_k hj), if_pos (lq_k hj), lq_kad]
  · apply List.map_congr_left
    intro j hj
    unfold lq_en
    show ((if j.1 < 6 then ad1 j else ad2 j), (if j.1 < 6 then _ else rc_en (fun i => if i.1 < 6 then ad1 i else ad2 i) cI cZ A j)) = _
    rw [if_neg (lq_r hj), if_neg (lq_r hj), lq_rad j hj]
set_option maxHeartbeats 4000000 in
set_option maxRecDepth 100000 in
theorem lw_main {Rel : Nat → kc_B → rc_A → Prop} (hR0 : ∀ n, (n = 4 ∨ n = 5 ∨ n = 6) → Rel n (kz_B n) (kz_A (nI n)))
    (hops : ∀ (l : Launch) (D : va_G) (n : Nat) (ad : xq_I → Nat) (cI cZ cN : ClassId), (n = 4 ∨ n = 5 ∨ n = 6) → xq_ap (kc_cs n) ad → xq_ap rc_cs ad → lo_nodes l D n ad cI cZ cN (Rel n) ∧ lo_on l D n ad cI cZ cN (Rel n) ∧ lo_off l D n ad cI cZ cN (Rel n) ∧ lo_thaw l D n ad cI cZ cN (Rel n) ∧ lo_mute l D n ad cI cZ cN (Rel n) ∧ lo_deafen l D n ad cI cZ cN (Rel n) ∧ lo_shift l D n ad cI cZ cN (Rel n) ∧ lo_run l D n ad cI cZ cN (Rel n) ∧ lo_slots l D n ad cI cZ cN (Rel n) ∧ lo_bus l D n ad cI cZ cN (Rel n) ∧ lo_mode l D n ad cI cZ cN (Rel n) ∧ lo_members l D n ad cI cZ cN (Rel n) ∧ lo_time l D n ad cI cZ cN (Rel n) ∧ lo_counts l D n ad cI cZ cN (Rel n) ∧ lo_patience l D n ad cI cZ cN (Rel n) ∧ lo_gap l D n ad cI cZ cN (Rel n) ∧ lo_united l D n ad cI cZ cN (Rel n))
    {p : Program} {e : Env} {s : State} {m : MethodId} {below : List Frame} {meth : Method} {c : Code} (l : Launch) {b L : Nat} {xs : Nat → Int32} (hL : L ≤ 1537) (C0 : lw_At p s m meth c b L xs) : W p l e room_1 s m #[Value.ref b] below meth c s.heap [] 0 0 (lw_Z below #[Value.ref b] s) (entryFrame m ([Value.ref b] : List Value).toArray 4) := by
  obtain ⟨hx, hb, hr, hml, hown, hts, hX, hbl, hlocks, hgv⟩ := C0
  have htx : ∀ w ∈ xw, w.before #[Value.ref b] s = true := fun w h => hts w (List.mem_filter.mp h).1
  have hov : va_AO "SlotCluster$Node" s := va_AO.of (hts (Cond.arrayOver (.object "SlotCluster$Node")) (List.mem_append_right _ (List.mem_append_left _ (List.mem_of_getElem? (i := 22) rfl))))
  obtain ⟨d0, i0, k0⟩ := u_known (C := R_C) (T := T_C) (N := 3) htx in_C (htx (Cond.instantiable R_C 3) (xw_1 (i := 8) rfl rfl))
  obtain ⟨d1, i1, k1⟩ := u_known (C := R_W) (T := T_W) (N := 5) htx in_W (htx (Cond.instantiable R_W 5) (xw_1 (i := 122) rfl rfl))
  obtain ⟨d2, i2, k2⟩ := u_known (C := R_D) (T := T_D) (N := 3) htx in_D (htx (Cond.instantiable R_D 3) (xw_1 (i := 29) rfl rfl))
  obtain ⟨d3, i3, k3⟩ := u_known (C := R_N) (T := T_N) (N := 19) htx in_N (htx (Cond.instantiable R_N 19) (xw_1 (i := 23) rfl rfl))
  obtain ⟨d4, i4, k4⟩ := u_known (C := R_M) (T := T_M) (N := 26) htx in_M (htx (Cond.instantiable R_M 26) (xw_2 (i := 140) rfl rfl))
  obtain ⟨D, hD⟩ : ∃ D : va_G, D = (fun c => match c with | 0 => d0 | 1 => d1 | 2 => d2 | 3 => d3 | _ => d4, fun c => match c with | 0 => i0 | 1 => i1 | 2 => i2 | 3 => i3 | _ => i4) := ⟨_, rfl⟩
  have hK0 : va_K D vcl [] s := by
    refine ⟨fun c q hq => ?_, fun k q hk => by simp at hk⟩
    subst hD
    match c, hq with
    | 0, hq => cases hq; exact k0
    | 1, hq => cases hq; exact k1
    | 2, hq => cases hq; exact k2
    | 3, hq => cases hq; exact k3
    | 4, hq => cases hq; exact k4
    | c + 5, hq => cases hq
  clear hD
  have hA : ¬ s.heap.size ≤ b := by omega
  have X : yq_C p s m #[Value.ref b] c (fun q => s.heap.size ≤ q) xw R_L b_L_law 4 := ⟨hx, hb, hml, hown, htx, fun q h => h⟩
  obtain ⟨n, hn, hsz, hmany⟩ := kz_both (lq_c0 L xs)
  rw [lg_entry_eq]
  suffices hh : yq_W p l e room_1 s m #[Value.ref b] below meth c D vcl (fun q => s.heap.size ≤ q) [] 0 0 (lw_Z below #[Value.ref b] s) 4 0 (lv_args 0 [.ref b]) [] [] from hh _ _ _ (lv_entry [.ref b] (Nat.le_of_ble_eq_true rfl)) (fun k q h => by simp at h) ⟨fun i j p q h => by simp at h, fun k q h => by simp at h⟩ va_S.rf hK0
  refine yq_sub [0] [(0, .ref b)] rfl ?_
  refine yq_new (ci := 0) (fs := [.null, .null, .int 0]) X rfl in_C ty_C tyo_C (xw_1 (i := 7) rfl rfl) (xw_1 (i := 8) rfl rfl) (xw_1 (i := 1) rfl rfl) (fun j hj => by rcases (show j = 0 ∨ j = 1 ∨ j = 2 by omega) with rfl | rfl | rfl <;> rfl) (by decide) (by decide) d_L_law_0 (fun q => ?_)
  refine yq_dup X d_L_law_3 rfl ?_
  refine yq_aload_n X d_L_law_4 0 rfl rfl ?_
  refine yq_iconst (v := 0) X d_L_law_5 (by decide) ?_
  refine yq_cell X hL hX hbl hA g_L_9 (by decide) (by decide) (Nat.le_of_ble_eq_true rfl) d_L_law_6 ?_
  refine yq_callP (n := 1) (As := [.int (lq_c0 L xs)]) (rest := [.ref q]) X xw_g (fun sz => yt_C l D (lq_c0 L xs) n hn hsz q sz) (fun U g mk a h => va_AO.moved (u := U) (U := U.calling g mk a) (Vm.Alike.refl U.vm) h) (fun U hW => va_AO.moved hW.alike hov) (xw_1 (i := 11) rfl rfl) (xw_1 (i := 9) rfl rfl) (xw_1 (i := 10) rfl rfl) (xw_1 (i := 1) rfl rfl) rfl (by decide +kernel) rfl (by decide) ⟨by show 0 + 1 + (3 * n + 2) ≤ 611790; omega, by show 0 + 3 + (27 * n + 5) ≤ 7266878; omega⟩ (Nat.le_of_ble_eq_true rfl) rfl d_L_law_9 (fun tys1 w1 hp => ?_)
  obtain ⟨cI, cN, ad1, rfl, had1, rfl⟩ := hp
  subst had1
  refine yq_astore_n X d_L_law_12 [(1, .ref (ad1 (0, 0))), (0, .ref b)] rfl rfl (by decide) ?_
  refine yq_new (ci := 4) (fs := [.int 0, .null, .null, .null, .null, .null, .null, .null, .null, .null, .null, .null, .null, .null, .null, .null, .null, .null, .int 0, .int 0, .int 0, .int 0, .int 0, .int 0, .null, .null]) X rfl in_M ty_M tyo_M (xw_2 (i := 139) rfl rfl) (xw_2 (i := 140) rfl rfl) (xw_1 (i := 6) rfl rfl) (fun j hj => by rcases (show j = 0 ∨ j = 1 ∨ j = 2 ∨ j = 3 ∨ j = 4 ∨ j = 5 ∨ j = 6 ∨ j = 7 ∨ j = 8 ∨ j = 9 ∨ j = 10 ∨ j = 11 ∨ j = 12 ∨ j = 13 ∨ j = 14 ∨ j = 15 ∨ j = 16 ∨ j = 17 ∨ j = 18 ∨ j = 19 ∨ j = 20 ∨ j = 21 ∨ j = 22 ∨ j = 23 ∨ j = 24 ∨ j = 25 by omega) with rfl | rfl | rfl | rfl | rfl | rfl | rfl | rfl | rfl | rfl | rfl | rfl | rfl | rfl | rfl | rfl | rfl | rfl | rfl | rfl | rfl | rfl | rfl | rfl | rfl | rfl <;> rfl) (by show 0 + 1 + (3 * n + 2) + 1 ≤ 611790; omega) (by show 0 + 3 + (27 * n + 5) + 26 ≤ 7266878; omega) d_L_law_13 (fun q => ?_)
  refine yq_dup X d_L_law_16 rfl ?_
  refine yq_aload_n X d_L_law_17 1 rfl rfl ?_
  refine yq_iconst (v := 0) X d_L_law_18 (by decide) ?_
  refine yq_cell X hL hX hbl hA g_L_9 (by decide) ⟨by show 0 + 1 + (3 * n + 2) + 1 ≤ 611790; omega, by show 0 + 3 + (27 * n + 5) + 26 ≤ 7266878; omega⟩ (Nat.le_of_ble_eq_true rfl) d_L_law_19 ?_
  refine yq_callI (n := 1) (As := [.int (lq_c0 L xs)]) (rest := [.ref q]) X xw_g (fun sz => yt_M l D (lq_c0 L xs) q sz) (xw_2 (i := 143) rfl rfl) (xw_2 (i := 141) rfl rfl) (xw_2 (i := 142) rfl rfl) (xw_1 (i := 6) rfl rfl) rfl (by decide +kernel) rfl (by decide) ⟨by show 0 + 1 + (3 * n + 2) + 1 + 19 ≤ 611790; omega, by show 0 + 3 + (27 * n + 5) + 26 + 162 ≤ 7266878; omega⟩ (Nat.le_of_ble_eq_true rfl) rfl d_L_law_22 (fun tys1 w1 hp => ?_)
  obtain ⟨cI2, cZ, q2, rfl, rfl⟩ := hp
  rw [hmany]
  refine yq_astore_n X d_L_law_25 [(2, .ref q), (1, .ref (ad1 (0, 0))), (0, .ref b)] rfl rfl (by decide) ?_
  refine yq_iconst (v := 1) X d_L_law_26 (by decide) ?_
  refine yq_istore_n X d_L_law_27 [(3, .int 1), (2, .ref q), (1, .ref (ad1 (0, 0))), (0, .ref b)] rfl rfl (by decide) ?_
  intro H locs ls h1 hP hD hS hK
  have hcI : cI2 = cI := Option.some.inj ((hK.2 2 (cI2, .int) rfl).2.symm.trans (hK.2 1 (cI, .int) rfl).2)
  subst hcI
  have hw := lq_wapp n ad1 (kz_ar q q2) cI2 cZ cN (kz_B n) (kz_A (nI n))
  have hP : va_P D vcl (xq_w (kc_cs n) ad1 (kc_en n ad1 cI2 cN) (kz_B n) ++ xq_w rc_cs (kz_ar q q2) (rc_en (kz_ar q q2) cI2 cZ) (kz_A (nI n))) H := hP
  have hD : va_D (fun q => s.heap.size ≤ q) (xq_w (kc_cs n) ad1 (kc_en n ad1 cI2 cN) (kz_B n) ++ xq_w rc_cs (kz_ar q q2) (rc_en (kz_ar q q2) cI2 cZ) (kz_A (nI n))) := hD
  rw [← hw] at hP hD
  obtain ⟨ad, had⟩ : ∃ ad : xq_I → Nat, ad = (fun i => if i.1 < 6 then ad1 i else kz_ar q q2 i) := ⟨_, rfl⟩
  have a0 : ad1 (0, 0) = ad (0, 0) := by rw [had]; rfl
  have a6 : q = ad (6, 0) := by rw [had]; rfl
  rw [← had] at hP hD
  rw [a0, a6] at h1
  have hap : xq_ap (lq_cs n) ad := fun i j c1 c2 g1 g2 g3 => hD.1 i j _ _ (xq_wat g1) (xq_wat g2) g3
  have hnew : ∀ x, xq_in (lq_cs n) ad x → s.heap.size ≤ x := by
    intro x hx
    obtain ⟨c1, g1, rfl⟩ := hx
    obtain ⟨j, hj⟩ := List.getElem?_of_mem g1
    exact hD.2 j _ (xq_wat hj)
  have hapk : xq_ap (kc_cs n) ad := fun i j c1 c2 g1 g2 g3 => hap i j c1 c2 (by unfold lq_cs; rw [List.getElem?_append_left (List.getElem?_eq_some_iff.mp g1).1]; exact g1) (by unfold lq_cs; rw [List.getElem?_append_left (List.getElem?_eq_some_iff.mp g2).1]; exact g2) g3
  have hapr : xq_ap rc_cs ad := by
    intro i j c1 c2 g1 g2 g3
    have := hap ((kc_cs n).length + i) ((kc_cs n).length + j) c1 c2 (by unfold lq_cs; rw [List.getElem?_append_right (by omega), show (kc_cs n).length + i - (kc_cs n).length = i by omega]; exact g1) (by unfold lq_cs; rw [List.getElem?_append_right (by omega), show (kc_cs n).length + j - (kc_cs n).length = j by omega]; exact g2) g3
    omega
  have X2 : xq_C p s m #[Value.ref b] meth c D vcl (kc_tys cI2 cZ cN) (lq_cs n) ad xw R_L b_L_law 4 (some .boolean) := ⟨hx, hb, hml, hown, htx, hr, hlocks, hK.sub [1, 3, 0] rfl, hap⟩
  refine va_forget (fun x hx => hS.2.2 x hx) ?_
  refine ll_loop (qc := 0 + 1 + (3 * n + 2) + 1 + 19) (qs := 0 + 3 + (27 * n + 5) + 26 + 162) X2 hX hbl (fun h => hA (hnew b h)) ⟨by show _ ≤ 611790; omega, by show _ ≤ 7266878; omega⟩ hL (hops l D n ad cI2 cZ cN hn hapk hapr) (fun i B A H locs ls g1 g2 g3 => ?_) 1000 1 (kz_B n) (kz_A (nI n)) (hR0 n hn) (by omega) (by omega) H [] ls h1 hP ⟨hS.1, fun x g1 _ => hS.2.1 x g1 (by omega), fun _ h => by cases h⟩
  refine lv_iconst (v := 1) hx hb d_L_law_511 (by decide) ?_
  refine va_forget (fun x hx => hnew _ (g3.2.2 x hx)) ?_
  refine W.widen (k := 611790) (n := 7266878) (by omega) (by omega) ?_
  exact lw_ret hx hb hr hlocks d_L_law_512
