theorem pm_f4 : ∀ mk, mk < 16 → ((2 * ((2 * ((2 * (0 + (if (if mk.testBit 3 then (1 : Int32) else 0) = 0 then (0 : Int32) else 1))) + (if (if mk.testBit 2 then (1 : Int32) else 0) = 0 then (0 : Int32) else 1))) + (if (if mk.testBit 1 then (1 : Int32) else 0) = 0 then (0 : Int32) else 1))) + (if (if mk.testBit 0 then (1 : Int32) else 0) = 0 then (0 : Int32) else 1)) = nI mk := by decide +kernel
theorem pm_f5 : ∀ mk, mk < 32 → ((2 * ((2 * ((2 * ((2 * (0 + (if (if mk.testBit 4 then (1 : Int32) else 0) = 0 then (0 : Int32) else 1))) + (if (if mk.testBit 3 then (1 : Int32) else 0) = 0 then (0 : Int32) else 1))) + (if (if mk.testBit 2 then (1 : Int32) else 0) = 0 then (0 : Int32) else 1))) + (if (if mk.testBit 1 then (1 : Int32) else 0) = 0 then (0 : Int32) else 1))) + (if (if mk.testBit 0 then (1 : Int32) else 0) = 0 then (0 : Int32) else 1)) = nI mk := by decide +kernel
theorem pm_f6 : ∀ mk, mk < 64 → ((2 * ((2 * ((2 * ((2 * ((2 * (0 + (if (if mk.testBit 5 then (1 : Int32) else 0) = 0 then (0 : Int32) else 1))) + (if (if mk.testBit 4 then (1 : Int32) else 0) = 0 then (0 : Int32) else 1))) + (if (if mk.testBit 3 then (1 : Int32) else 0) = 0 then (0 : Int32) else 1))) + (if (if mk.testBit 2 then (1 : Int32) else 0) = 0 then (0 : Int32) else 1))) + (if (if mk.testBit 1 then (1 : Int32) else 0) = 0 then (0 : Int32) else 1))) + (if (if mk.testBit 0 then (1 : Int32) else 0) = 0 then (0 : Int32) else 1)) = nI mk := by decide +kernel
theorem pm_val {n k : Nat} (hn : n = 4 ∨ n = 5 ∨ n = 6) {f e g : Nat → Int32} {x : Int32} (hi : r_M_isNode g (nI k) = 1) (hin : ¬ r_M_inside f = 0) (hM : pr_M n x e) : r_M_members n k f e g = x := by
  obtain ⟨mk, m1, m2, m3⟩ := hM
  rcases hn with rfl | rfl | rfl
  · show r_M_members4 k f e g = x
    unfold r_M_members4
    rw [hi, if_neg pr_one, if_neg hin, m3 0 (by omega), m3 1 (by omega), m3 2 (by omega), m3 3 (by omega), m2]
    exact pm_f4 mk m1
  · show r_M_members5 k f e g = x
    unfold r_M_members5
    rw [hi, if_neg pr_one, if_neg hin, m3 0 (by omega), m3 1 (by omega), m3 2 (by omega), m3 3 (by omega), m3 4 (by omega), m2]
    exact pm_f5 mk m1
  · show r_M_members6 k f e g = x
    unfold r_M_members6
    rw [hi, if_neg pr_one, if_neg hin, m3 0 (by omega), m3 1 (by omega), m3 2 (by omega), m3 3 (by omega), m3 4 (by omega), m3 5 (by omega), m2]
    exact pm_f6 mk m1
theorem pm_out {n k : Nat} (hn : n = 4 ∨ n = 5 ∨ n = 6) {f e g : Nat → Int32} (hi : r_M_isNode g (nI k) = 1) (hin : r_M_inside f = 0) : r_M_members n k f e g = (-1) := by
  rcases hn with rfl | rfl | rfl
  · show r_M_members4 k f e g = (-1)
    unfold r_M_members4
    rw [hi, if_neg pr_one, if_pos hin]
  · show r_M_members5 k f e g = (-1)
    unfold r_M_members5
    rw [hi, if_neg pr_one, if_pos hin]
  · show r_M_members6 k f e g = (-1)
    unfold r_M_members6
    rw [hi, if_neg pr_one, if_pos hin]
theorem pm_bad {n k : Nat} (hn : n = 4 ∨ n = 5 ∨ n = 6) {f e g : Nat → Int32} (hi : r_M_isNode g (nI k) = 0) : r_M_members n k f e g = (-1) := by
  rcases hn with rfl | rfl | rfl
  · show r_M_members4 k f e g = (-1)
    unfold r_M_members4
    rw [if_pos hi]
  · show r_M_members5 k f e g = (-1)
    unfold r_M_members5
    rw [if_pos hi]
  · show r_M_members6 k f e g = (-1)
    unfold r_M_members6
    rw [if_pos hi]
set_option maxHeartbeats 4000000 in
set_option maxRecDepth 100000 in
theorem rt_M_members_bad {l : Launch} {D : va_G} {ad : xq_I → Nat} {cI cZ cN : ClassId} (hap : xq_ap rc_cs ad) {k : Nat} (hk : k < 6) {A : rc_A} {F E T g f : Nat → Int32} (x : Int32) (hb : (r_M_isNode g x) = 0) :
    xq_M l D vcl (kc_tys cI cZ cN) rc_cs ad (rc_en ad cI cZ) y_M_members (Cond.code y_M_members b_M_members 4 (some .int) :: xw) 1 [.ref (ad (6, 0)), .int x] (rc_ov A k F E T g f) (some (.int (-1))) (rc_ov A k F E T g f) := by
  refine xq_met (by decide) (Nat.le_of_ble_eq_true rfl) hap ?_
  intro p e s m args below meth c X
  refine xq_sub [1, 0] [(1, .int x), (0, .ref (ad (6, 0)))] rfl ?_
  refine xq_aload_n X d_M_members_0 1 rfl rfl ?_
  refine xq_iload_n X d_M_members_1 0 rfl rfl ?_
  refine rk_callI (As := [.int x]) (rest := []) X xw_g g_M_75 (rt_M_isNode hap hk x) rfl rfl (by decide) (Nat.le_of_ble_eq_true rfl) rfl d_M_members_2 ?_
  refine xq_if_eq X d_M_members_5 16 (by decide) (fun _ => ?_) (fun h => absurd hb h)
  refine xq_iconst (v := (-1)) X d_M_members_16 (by decide) ?_
  exact xq_iret X rfl rfl rfl rfl d_M_members_17
set_option maxHeartbeats 4000000 in
set_option maxRecDepth 100000 in
theorem pl_members {l : Launch} {D : va_G} {n : Nat} {ad : xq_I → Nat} {cI cZ cN : ClassId} (hn : n = 4 ∨ n = 5 ∨ n = 6) (hap : xq_ap (kc_cs n) ad) (hapr : xq_ap rc_cs ad) : lo_members l D n ad cI cZ cN (pr_R n) := by
  intro x B A hR
  rcases pr_ix x (show n ≤ 6 by omega) with ⟨k, hk, rfl⟩ | ⟨hb, hb2⟩
  · have hk6 : k < 6 := by omega
    have hi := pr_is hk (show n ≤ 6 by omega) hR.1
    have hN := hR.2.2.2.2.2 k hk
    obtain ⟨h0, h1, ht, hq, hu, hM, hD, e3, e4, e5, e7, e8, e9, e10, e11, e12, e13, e14, e15, e16, e17⟩ := hN
    have hin : r_M_inside (rq_F A k) = c_N_isInside (B.1 k) := by
      unfold r_M_inside c_N_isInside
      rw [e3]
    have r := rp_members (l := l) (D := D) (cI := cI) (cZ := cZ) (cN := cN) hapr A k hk6 n hn hR.1
    by_cases hm : c_N_isInside (B.1 k) = 0
    · have q := ct_C_members_out (l := l) (D := D) (cI := cI) (cZ := cZ) (cN := cN) hap hk (B := B) (F := B.1 k) (G := B.2.1 k) (E := B.2.2.1 k) (w := B.2.2.2.1) (by omega) (nI_pos (by omega)) (nI_lt hk (by omega)) hm
      rw [← kc_self B k] at q
      rw [pm_out hn hi (hin.trans hm)] at r
      exact ⟨(-1), B, A, q, r, hR⟩
    · have q := ct_C_members_in (l := l) (D := D) (cI := cI) (cZ := cZ) (cN := cN) hap hk (B := B) (F := B.1 k) (G := B.2.1 k) (E := B.2.2.1 k) (w := B.2.2.2.1) (by omega) (nI_pos (by omega)) (nI_lt hk (by omega)) hm
      rw [← kc_self B k] at q
      rw [pm_val hn hi (by rw [hin]; exact hm) hM] at r
      exact ⟨_, B, A, q, r, hR⟩
  · have q := ct_C_members_bad (l := l) (D := D) (cI := cI) (cZ := cZ) (cN := cN) hap (show 0 < n by omega) (B := B) (F := B.1 0) (G := B.2.1 0) (E := B.2.2.1 0) (w := B.2.2.2.1) x hb
    rw [← kc_self B 0] at q
    have r := rt_M_members_bad (l := l) (D := D) (cI := cI) (cZ := cZ) (cN := cN) hapr (show 0 < 6 by decide) (A := A) (F := rq_F A 0) (E := rq_E A 0) (T := rq_T A 0) (g := A 0) (f := A 24) x (hb2 _ hR.1)
    rw [pr_self] at r
    exact ⟨(-1), B, A, q, r, hR⟩
theorem pg_case {l : Launch} {D : va_G} {n : Nat} {ad : xq_I → Nat} {cI cZ cN : ClassId} (hn : n = 4 ∨ n = 5 ∨ n = 6) (hap : xq_ap (kc_cs n) ad) (hapr : xq_ap rc_cs ad) {B : kc_B} {A : rc_A} (hR : pr_R n B A) (x : Int32) : (kq_null n B x ∧ xq_M l D vcl (kc_tys cI cZ cN) rc_cs ad (rc_en ad cI cZ) y_M_isOn (Cond.code y_M_isOn b_M_isOn 2 (some .boolean) :: xw) 1 [.ref (ad (6, 0)), .int x] A (some (.int 0)) A) ∨ ∃ k, k < n ∧ x = nI k ∧ ¬ B.1 k 3 = 0 ∧ xq_M l D vcl (kc_tys cI cZ cN) rc_cs ad (rc_en ad cI cZ) y_M_isOn (Cond.code y_M_isOn b_M_isOn 2 (some .boolean) :: xw) 1 [.ref (ad (6, 0)), .int (nI k)] A (some (.int 1)) A := by
  rcases pr_ix x (show n ≤ 6 by omega) with ⟨k, hk, rfl⟩ | ⟨hb, hb2⟩
  · have hk6 : k < 6 := by omega
    have hi := pr_is hk (show n ≤ 6 by omega) hR.1
    have hN := hR.2.2.2.2.2 k hk
    obtain ⟨h0, h1, ht, hq, hu, hM, hD, e3, e4, e5, e7, e8, e9, e10, e11, e12, e13, e14, e15, e16, e17⟩ := hN
    have r := rp_isOn (l := l) (D := D) (cI := cI) (cZ := cZ) (cN := cN) hapr A k hk6
    by_cases hm : B.1 k 3 = 0
    · have ho : r_M_isOn k (rq_F A k) (A 0) = 0 := by
        unfold r_M_isOn
        rw [hi, ← e3, hm]
        rfl
      rw [ho] at r
      exact Or.inl ⟨Or.inr ⟨k, hk, rfl, hm⟩, r⟩
    · have ho : r_M_isOn k (rq_F A k) (A 0) = 1 := by
        unfold r_M_isOn
        rw [hi, ← e3, if_neg pr_one, if_neg hm]
      rw [ho] at r
      exact Or.inr ⟨k, hk, rfl, hm, r⟩
  · exact Or.inl ⟨Or.inl hb, rp_isOn_bad (l := l) (D := D) (cI := cI) (cZ := cZ) (cN := cN) hapr A x (hb2 _ hR.1)⟩
set_option maxHeartbeats 4000000 in
set_option maxRecDepth 100000 in
theorem pl_gap {l : Launch} {D : va_G} {n : Nat} {ad : xq_I → Nat} {cI cZ cN : ClassId} (hn : n = 4 ∨ n = 5 ∨ n = 6) (hap : xq_ap (kc_cs n) ad) (hapr : xq_ap rc_cs ad) : lo_gap l D n ad cI cZ cN (pr_R n) := by
  intro x y B A hR
  rcases pg_case (l := l) (D := D) (cI := cI) (cZ := cZ) (cN := cN) hn hap hapr hR x with ⟨ha, hA⟩ | ⟨k, hk, rfl, ha, hA⟩
  · rcases pg_case (l := l) (D := D) (cI := cI) (cZ := cZ) (cN := cN) hn hap hapr hR y with ⟨hb, hB⟩ | ⟨j, hj, rfl, hb, hB⟩
    · exact ⟨0, B, A, kt_gap_nn hap hn B x ha y hb, rt_gap_a hapr A x y hA, hR⟩
    · exact ⟨0, B, A, kt_gap_nk hap hn B x ha j hj hb, rt_gap_a hapr A x (nI j) hA, hR⟩
  · rcases pg_case (l := l) (D := D) (cI := cI) (cZ := cZ) (cN := cN) hn hap hapr hR y with ⟨hb, hB⟩ | ⟨j, hj, rfl, hb, hB⟩
    · exact ⟨0, B, A, kt_gap_kn hap hn B k hk ha y hb, rt_gap_b hapr A (nI k) y 1 pr_one hA hB, hR⟩
    · have r := rt_gap_kk hapr A k j (by omega) (by omega) 1 1 pr_one pr_one hA hB
      have h1 := (hR.2.2.2.2.2 k hk)
      have h2 := (hR.2.2.2.2.2 j hj)
      obtain ⟨h0, h1, ht, hq, hu, hM, hD, e3, e4, e5, e7, e8, e9, e10, e11, e12, e13, e14, e15, e16, e17⟩ := h1
      have g1 : A 11 k = B.1 k 14 := e14.symm
      obtain ⟨h0, h1, ht, hq, hu, hM, hD, e3, e4, e5, e7, e8, e9, e10, e11, e12, e13, e14, e15, e16, e17⟩ := h2
      have g2 : A 11 j = B.1 j 14 := e14.symm
      rw [g1, g2] at r
      exact ⟨_, B, A, kt_gap_kk hap hn B k hk ha j hj hb, r, hR⟩
theorem pu_inj {a b u v : Nat} (ha : a ≤ 65535) (hb : b ≤ 65535) (hu : u < 8) (hv : v < 8) : nI a * 8 + nI u = nI b * 8 + nI v ↔ nI a = nI b ∧ nI u = nI v := by
  rw [show (8 : Int32) = nI 8 from rfl, pk_mul, pk_mul, nI_add, nI_add, nI_eq (by omega) (by omega), nI_eq (by omega) (by omega), nI_eq (by omega) (by omega)]
  omega
theorem pu_same {n : Nat} (hn : n = 4 ∨ n = 5 ∨ n = 6) {B : kc_B} {A : rc_A} (hR : pr_R n B A) {k j : Nat} (hk : k < n) (hj : j < n) (ak : B.1 k 3 = 3) (aj : B.1 j 3 = 3) : rq_sm A n k j 1 = kq_same B k j := by
  have key : ∀ i, i < n → B.1 i 3 = 3 → r_M_time i (rq_F A i) (A 0) = B.1 i 5 * 8 + B.1 i 4 ∧ r_M_members n i (rq_F A i) (rq_E A i) (A 0) = B.1 i 6 := by
    intro i hi ai
    have hs := pr_is hi (show n ≤ 6 by omega) hR.1
    have hN := hR.2.2.2.2.2 i hi
    obtain ⟨h0, h1, ht, hq, hu, hM, hD, e3, e4, e5, e7, e8, e9, e10, e11, e12, e13, e14, e15, e16, e17⟩ := hN
    have hin : ¬ r_M_inside (rq_F A i) = 0 := by
      unfold r_M_inside
      rw [← e3, ai]
      decide
    refine ⟨?_, pm_val hn hs hin hM⟩
    unfold r_M_time
    rw [hs, e5, e4]
    show (if (1 : Int32) = 0 then _ else if r_M_inside (rq_F A i) = 0 then _ else _) = _
    rw [if_neg pr_one, if_neg hin]
  obtain ⟨tk, mk⟩ := key k hk ak
  obtain ⟨tj, mj⟩ := key j hj aj
  unfold rq_sm kq_same
  rw [tk, tj, mk, mj, if_neg pr_one]
  have h1 := hR.2.2.2.2.2 k hk
  have h2 := hR.2.2.2.2.2 j hj
  obtain ⟨-, -, ⟨u, hu, eu⟩, ⟨a, ha, ea⟩, -⟩ := h1
  obtain ⟨-, -, ⟨v, hv, ev⟩, ⟨b, hb, eb⟩, -⟩ := h2
  rw [ea, eu, eb, ev]
  have hij := pu_inj ha hb (show u < 8 by omega) (show v < 8 by omega)
  by_cases hm : B.1 k 6 = B.1 j 6
  · rw [if_pos hm, if_pos hm]
    by_cases h3 : nI u = nI v
    · by_cases h4 : nI a = nI b
      · rw [if_pos (hij.mpr ⟨h4, h3⟩), if_pos h3, if_pos h4]
      · rw [if_neg (fun q => h4 (hij.mp q).1), if_pos h3, if_neg h4]
    · rw [if_neg (fun q => h3 (hij.mp q).2), if_neg h3]
  · rw [if_neg hm, if_neg hm]
    split <;> rfl
theorem pu_zero (A : rc_A) (n : Nat) : ∀ (r k j : Nat) (c : Int32), rq_un A n r k (some j) c 0 = 0
  | 0, k, j, c => by
    show (if c < 2 then (0 : Int32) else if (0 : Int32) = 0 then 0 else 1) = 0
    split <;> rfl
  | r + 1, k, j, c => by
    show (if A 1 k = 3 then rq_un A n r (k + 1) (some j) (c + 1) (rq_sm A n k j 0) else rq_un A n r (k + 1) (some j) c 0) = 0
    have h0 : rq_sm A n k j 0 = 0 := if_pos rfl
    rw [h0, pu_zero A n r (k + 1) j (c + 1), pu_zero A n r (k + 1) j c]
    split <;> rfl
theorem pu_01 (B : kc_B) (k j : Nat) : kq_same B k j = 0 ∨ kq_same B k j = 1 := by
  unfold kq_same
  repeat' split
  all_goals first | exact Or.inl rfl | exact Or.inr rfl
theorem pu_eq {n : Nat} (hn : n = 4 ∨ n = 5 ∨ n = 6) {B : kc_B} {A : rc_A} (hR : pr_R n B A) : ∀ r, (∀ k (c : Int32), k + r = n → kq_un B r k none c = rq_un A n r k none c 1) ∧ ∀ k (c : Int32) j, j < n → B.1 j 3 = 3 → k + r = n → kq_un B r k (some j) c = rq_un A n r k (some j) c 1 := by
  have hmode : ∀ i, i < n → B.1 i 3 = A 1 i := by
    intro i hi
    have hN := hR.2.2.2.2.2 i hi
    obtain ⟨h0, h1, ht, hq, hu, hM, hD, e3, e4, e5, e7, e8, e9, e10, e11, e12, e13, e14, e15, e16, e17⟩ := hN
    exact e3
  intro r
  induction r with
  | zero =>
    refine ⟨fun k c _ => ?_, fun k c j _ _ _ => ?_⟩
    · show (if c < 2 then (0 : Int32) else 1) = (if c < 2 then (0 : Int32) else if (1 : Int32) = 0 then 0 else 1)
      rw [if_neg pr_one]
    · show (if c < 2 then (0 : Int32) else 1) = (if c < 2 then (0 : Int32) else if (1 : Int32) = 0 then 0 else 1)
      rw [if_neg pr_one]
  | succ r ih =>
    obtain ⟨ih1, ih2⟩ := ih
    refine ⟨fun k c hk => ?_, fun k c j hj aj hk => ?_⟩
    · show (if B.1 k 3 = 3 then kq_un B r (k + 1) (some k) (c + 1) else kq_un B r (k + 1) none c) = (if A 1 k = 3 then rq_un A n r (k + 1) (some k) (c + 1) (rq_sm A n k k 1) else rq_un A n r (k + 1) none c 1)
      rw [← hmode k (by omega)]
      by_cases h3 : B.1 k 3 = 3
      · have hs : rq_sm A n k k 1 = 1 := by
          unfold rq_sm
          rw [if_neg pr_one, if_pos rfl, if_pos rfl]
        rw [if_pos h3, if_pos h3, hs]
        exact ih2 (k + 1) (c + 1) k (by omega) h3 (by omega)
      · rw [if_neg h3, if_neg h3]
        exact ih1 (k + 1) c (by omega)
    · show (if B.1 k 3 = 3 then (if kq_same B k j = 0 then 0 else kq_un B r (k + 1) (some j) (c + 1)) else kq_un B r (k + 1) (some j) c) = (if A 1 k = 3 then rq_un A n r (k + 1) (some j) (c + 1) (rq_sm A n k j 1) else rq_un A n r (k + 1) (some j) c 1)
      rw [← hmode k (by omega)]
      by_cases h3 : B.1 k 3 = 3
      · rw [if_pos h3, if_pos h3, pu_same hn hR (show k < n by omega) hj h3 aj]
        rcases pu_01 B k j with q | q
        · rw [if_pos q, q, pu_zero]
        · rw [if_neg (by rw [q]; exact pr_one), q]
          exact ih2 (k + 1) (c + 1) j hj aj (by omega)
      · rw [if_neg h3, if_neg h3]
        exact ih2 (k + 1) c j hj aj (by omega)
set_option maxHeartbeats 4000000 in
set_option maxRecDepth 100000 in
theorem pl_united {l : Launch} {D : va_G} {n : Nat} {ad : xq_I → Nat} {cI cZ cN : ClassId} (hn : n = 4 ∨ n = 5 ∨ n = 6) (hap : xq_ap (kc_cs n) ad) (hapr : xq_ap rc_cs ad) : lo_united l D n ad cI cZ cN (pr_R n) := by
  intro B A hR
  have q := kt_united (l := l) (D := D) (cI := cI) (cZ := cZ) (cN := cN) hap hn B
  have r := rt_M_united (l := l) (D := D) (cI := cI) (cZ := cZ) (cN := cN) hapr n hn A hR.1
  rw [← (pu_eq hn hR n).1 0 0 (by omega)] at r
  exact ⟨_, B, A, q, r, hR⟩
