theorem kq_itz (ψ : kq_S) (B : kc_B) : ∀ i, (xq_it (kq_st ψ) i B).2.2.2.2 = B.2.2.2.2
  | 0 => rfl
  | i + 1 => kq_itz ψ B i
theorem st_preG {n k : Nat} {F G E f e t : Nat → Int32} (h : pr_N n k F G E f e t) : ¬ G 2 < 0 := by
  obtain ⟨h0, h1, ht, hq, hu, hM, hD, e3, e4, e5, e7, e8, e9, e10, e11, e12, e13, e14, e15, e16, e17⟩ := h
  obtain ⟨cn, j, c1, c2, c3, c4, c5, c6, c7⟩ := hD
  rw [c5]
  exact nI_pos (Nat.lt_of_le_of_lt c2 (by decide))
theorem st_preR {n k : Nat} (hn : n ≤ 6) {F G E f e t : Nat → Int32} (h : pr_N n k F G E f e t) : (∃ t, t < 6 ∧ f 2 = nI t) ∧ (∃ cn, cn ≤ 4 ∧ f 17 = nI cn) ∧ ∃ u, u < 6 ∧ f 10 = nI u := by
  obtain ⟨h0, h1, ht, hq, hu, hM, hD, e3, e4, e5, e7, e8, e9, e10, e11, e12, e13, e14, e15, e16, e17⟩ := h
  obtain ⟨cn, j, c1, c2, c3, c4, c5, c6, c7⟩ := hD
  obtain ⟨a, a1, a2⟩ := ht
  obtain ⟨b, b1, b2⟩ := hu
  exact ⟨⟨a, Nat.lt_of_lt_of_le a1 hn, e4.symm.trans a2⟩, ⟨cn, c1, c4⟩, ⟨b, Nat.lt_of_lt_of_le b1 hn, e13.symm.trans b2⟩⟩
set_option maxHeartbeats 4000000 in
set_option maxRecDepth 100000 in
theorem st_slot {n : Nat} (hn : n = 4 ∨ n = 5 ∨ n = 6) {B : kc_B} {A : rc_A} (h : pr_R n B A) : pr_R n (kq_slot n B) (rq_slot n A) ∧ kq_pre n B ∧ rq_pre n (rq_s3 n A) := by
  have h6 : n ≤ 6 := by rcases hn with rfl | rfl | rfl <;> decide
  obtain ⟨hg, hs, hw, hu, hb, hN⟩ := h
  obtain ⟨g1, g2, g3, g4, g5⟩ := rq_many hg
  have N1 := st_map (B := kq_s0 B) (A := A) h6 ks_move ps_goOn (fun k hk => s_move (F := B.1 k) (G := B.2.1 k) (E := B.2.2.1 k) (f := rq_F A k) (e := rq_E A k) (t := rq_T A k) (g := A 0) hn hg (hN k hk))
  have N2 := st_map (B := kc_w (kq_s1 n B) (c_W_fallSilent (kq_s1 n B).2.2.2.1)) (A := rq_s1 n A) h6 ks_send ps_decide (fun k hk => (s_choose (F := (kq_s1 n B).1 k) (G := (kq_s1 n B).2.1 k) (E := (kq_s1 n B).2.2.1 k) (f := rq_F (rq_s1 n A) k) (e := rq_E (rq_s1 n A) k) (t := rq_T (rq_s1 n A) k) (g := rq_s1 n A 0) hn hk g1 (N1 k hk)).1)
  have hS : ∀ k, k < n → pr_S ((c_N_chooseWhatToSend ((kq_s1 n B).1 k) ((kq_s1 n B).2.1 k)).1 18) (rq_s2 n A 25 k) (rq_s2 n A 1 k) := by
    intro k hk
    have a := (s_choose (F := (kq_s1 n B).1 k) (G := (kq_s1 n B).2.1 k) (E := (kq_s1 n B).2.2.1 k) (f := rq_F (rq_s1 n A) k) (e := rq_E (rq_s1 n A) k) (t := rq_T (rq_s1 n A) k) (g := rq_s1 n A 0) hn hk g1 (N1 k hk)).2
    have b1 : rq_s2 n A 25 k = (r_M_decide k (rq_F (rq_s1 n A) k) (rq_E (rq_s1 n A) k) (rq_s1 n A 0)).1 25 := (rq_itd ps_decide (rq_s1 n A) k n hk).1 25 (by decide) (by decide) (by decide) (by decide)
    have b2 : rq_s2 n A 1 k = (r_M_decide k (rq_F (rq_s1 n A) k) (rq_E (rq_s1 n A) k) (rq_s1 n A 0)).1 1 := (rq_itd ps_decide (rq_s1 n A) k n hk).1 1 (by decide) (by decide) (by decide) (by decide)
    rw [b1, b2]
    exact a
  obtain ⟨p1, W3, bus3, s18, sl, u3, N3⟩ := st_gather hn (kq_s1 n B) (rq_s2 n A) N2 hS
  have N4 := st_map (B := kq_s3 n B) (A := rq_s3 n A) h6 ks_hear (ps_hear n) (fun k hk => by rw [kq_itw ks_hear s_hearw]; exact s_hear hn hk g3 (N3 k hk).1 W3 (N3 k hk).2)
  have N5 := st_map (B := kq_s4 n B) (A := rq_s4 n A) h6 ks_set ps_set (fun k hk => s_set (F := (kq_s4 n B).1 k) (G := (kq_s4 n B).2.1 k) (E := (kq_s4 n B).2.2.1 k) (f := rq_F (rq_s4 n A) k) (e := rq_E (rq_s4 n A) k) (t := rq_T (rq_s4 n A) k) (g := rq_s4 n A 0) g4 (N4 k hk))
  have w5 : (kq_slot n B).2.2.2.1 = (kq_s3 n B).2.2.2.1 := (kq_itw ks_set (fun _ _ _ _ => rfl) (kq_s4 n B) n).trans (kq_itw ks_hear s_hearw (kq_s3 n B) n)
  have A5 : rq_s5 n A 0 = rq_s3 n A 0 := (rq_itg ps_set (rq_s4 n A) n).1.trans (rq_itg (ps_hear n) (rq_s3 n A) n).1
  have A2 : rq_s2 n A 0 = A 0 := (rq_itg ps_decide (rq_s1 n A) n).1.trans (rq_itg ps_goOn A n).1
  have hsl : (kq_slot n B).2.2.2.2 = B.2.2.2.2 + 1 := (kq_itz ks_set (kq_s4 n B) n).trans ((kq_itz ks_hear (kq_s3 n B) n).trans (sl.trans ((kq_itz ks_send (kc_w (kq_s1 n B) (c_W_fallSilent (kq_s1 n B).2.2.2.1)) n).trans (kq_itz ks_move (kq_s0 B) n))))
  have h18 : rq_s5 n A 0 18 = A 0 18 := (congrFun A5 18).trans (s18.trans (congrFun A2 18))
  refine ⟨⟨g5, ?_, ?_, ?_, ?_, fun k hk => pr_gf h6 _ _ (N5 k hk)⟩, ⟨p1, fun k hk => st_preG (N3 k hk).1⟩, fun k hk => st_preR h6 (N3 k hk).1⟩
  · show (kq_slot n B).2.2.2.2 = rq_s5 n A 0 18 + 1
    rw [hsl, h18, hs]
  · show (kq_slot n B).2.2.2.1 0 = rq_s5 n A 0 19
    rw [w5, A5]
    exact W3.1
  · show ∃ u, u < 4 ∧ rq_s5 n A 0 19 = nI u
    rw [A5]
    exact u3
  · show kq_bus (kq_slot n B).2.2.2.1 = rq_s5 n A 0 20
    rw [w5, A5]
    exact bus3
theorem st_run {n : Nat} (hn : n = 4 ∨ n = 5 ∨ n = 6) {B : kc_B} {A : rc_A} (h : pr_R n B A) : ∀ k, pr_R n (kq_run n k B) (rq_run n k A)
  | 0 => h
  | k + 1 => (st_slot hn (st_run hn h k)).1
theorem st_has {n : Nat} {B : kc_B} {A : rc_A} (h : pr_R n B A) : c_W_hasFrame B.2.2.2.1 = 0 ↔ A 0 19 ≤ 1 := by
  obtain ⟨hg, hs, hw, ⟨u, u1, u2⟩, hb, hN⟩ := h
  rw [u2]
  rw [u2] at hw
  rcases (show u = 0 ∨ u = 1 ∨ u = 2 ∨ u = 3 by omega) with rfl | rfl | rfl | rfl
  · exact ⟨fun _ => by decide, fun _ => sw_has.1 hw⟩
  · exact ⟨fun _ => by decide, fun _ => sw_has.2.1 hw⟩
  · exact ⟨fun q => absurd ((sw_has.2.2.1 hw).symm.trans q) (by decide), fun q => absurd q (by decide)⟩
  · exact ⟨fun q => absurd ((sw_has.2.2.2 hw).symm.trans q) (by decide), fun q => absurd q (by decide)⟩
theorem st_fr {n : Nat} (hn : n = 4 ∨ n = 5 ∨ n = 6) {B : kc_B} {A : rc_A} (h : pr_R n B A) : ∀ k, rq_fr n A k = kq_fr n B k
  | 0 => rfl
  | k + 1 => by
    have a := st_has (st_run hn h (k + 1))
    have b := st_fr hn h k
    show (if rq_run n (k + 1) A 0 19 ≤ 1 then rq_fr n A k else rq_fr n A k + 1) = (if c_W_hasFrame (kq_run n (k + 1) B).2.2.2.1 = 0 then kq_fr n B k else kq_fr n B k + 1)
    rw [b]
    by_cases c : c_W_hasFrame (kq_run n (k + 1) B).2.2.2.1 = 0
    · rw [if_pos c, if_pos (a.mp c)]
    · rw [if_neg c, if_neg (fun q => c (a.mpr q))]
set_option maxHeartbeats 4000000 in
set_option maxRecDepth 100000 in
theorem pl_run {l : Launch} {D : va_G} {n : Nat} {ad : xq_I → Nat} {cI cZ cN : ClassId} (hn : n = 4 ∨ n = 5 ∨ n = 6) (hap : xq_ap (kc_cs n) ad) (hapr : xq_ap rc_cs ad) : lo_run l D n ad cI cZ cN (pr_R n) := by
  intro x B A hR
  have bad : (x < 0 ∨ ¬ x ≤ 40) → _ := fun hx => (⟨-1, B, A, kt_run_bad (l := l) (D := D) (cI := cI) (cZ := cZ) (cN := cN) hap hn B x hx, rt_M_run_bad (l := l) (D := D) (cI := cI) (cZ := cZ) (cN := cN) hapr A x hx, hR⟩ : ∃ (v : Int32) (B' : kc_B) (A' : rc_A), xq_M l D vcl (kc_tys cI cZ cN) (kc_cs n) ad (kc_en n ad cI cN) y_C_run (Cond.code y_C_run b_C_run 4 (some .int) :: xw) 6 [.ref (ad (0, 0)), .int x] B (some (.int v)) B' ∧ xq_M l D vcl (kc_tys cI cZ cN) rc_cs ad (rc_en ad cI cZ) y_M_run (Cond.code y_M_run b_M_run 4 (some .int) :: xw) 5 [.ref (ad (6, 0)), .int x] A (some (.int v)) A' ∧ pr_R n B' A')
  by_cases h1 : x < 0
  · exact bad (Or.inl h1)
  · by_cases h2 : x ≤ 40
    · obtain ⟨q, q1, rfl⟩ := nI_of2 (M := 40) (n := 40) (by decide) h1 h2
      have r := rt_M_run (l := l) (D := D) (cI := cI) (cZ := cZ) (cN := cN) hapr n hn A q q1 (fun k _ => ⟨(st_run hn hR k).1, (st_slot hn (st_run hn hR k)).2.2⟩)
      rw [st_fr hn hR q] at r
      exact ⟨kq_fr n B q, kq_run n q B, rq_run n q A, kt_run (l := l) (D := D) (cI := cI) (cZ := cZ) (cN := cN) hap hn B q q1 (fun k _ => (st_slot hn (st_run hn hR k)).2.1), r, st_run hn hR q⟩
    · exact bad (Or.inr h2)
set_option maxHeartbeats 4000000 in
set_option maxRecDepth 100000 in
theorem st_new (n : Nat) (hn : n = 4 ∨ n = 5 ∨ n = 6) : pr_R n (kz_B n) (kz_A (nI n)) := by
  have h0 : 0 < n := by rcases hn with rfl | rfl | rfl <;> decide
  have hF : ∀ k a, a ≠ 0 → rq_F (kz_A (nI n)) k a = 0 := by
    intro k a ha
    unfold rq_F kz_A
    rw [if_neg ha]
    split
    · rfl
    · split <;> rfl
  have hE : ∀ k m, rq_E (kz_A (nI n)) k m = 0 := by
    intro k m
    unfold rq_E
    split <;> rfl
  refine ⟨rfl, rfl, rfl, ⟨0, by decide, rfl⟩, rfl, fun k hk => ⟨rfl, rfl, ⟨0, h0, rfl⟩, ⟨0, by decide, rfl⟩, ⟨0, h0, rfl⟩, ⟨0, Nat.two_pow_pos n, rfl, fun m _ => ?_⟩, ⟨0, 0, by decide, by decide, rfl, ?_, rfl, fun _ => ⟨rfl, fun d hd => absurd hd (Nat.not_lt_zero d)⟩, fun q => absurd q (by decide)⟩, ?_, ?_, ?_, ?_, ?_, ?_, ?_, ?_, ?_, ?_, ?_, ?_, ?_, ?_⟩⟩
  · rw [hE, if_neg (by simp)]
  all_goals first | exact hF _ _ (by decide) | exact (hF _ _ (by decide)).symm
