/-! what ties the class's memory to the reference's -/
/-- the deviations kept: a ring against a shifted row -/
def pr_D (G E : Nat → Int32) (c : Int32) (t : Nat → Int32) : Prop := ∃ cn j, cn ≤ 4 ∧ j ≤ 4 ∧ G 1 = nI cn ∧ c = nI cn ∧ G 2 = nI j ∧ (cn < 4 → j = cn ∧ ∀ d, d < cn → E d = t d) ∧ (cn = 4 → 1 ≤ j ∧ ∀ d, d < 4 → t d = E ((j + d) % 4))
/-- the members: bits against booleans -/
def pr_M (n : Nat) (x : Int32) (e : Nat → Int32) : Prop := ∃ mk, mk < 2 ^ n ∧ x = nI mk ∧ ∀ m, m < n → e m = if mk.testBit m then 1 else 0
def pr_N (n k : Nat) (F G E f e t : Nat → Int32) : Prop := F 0 = nI k ∧ F 1 = nI n ∧ (∃ u, u < n ∧ F 4 = nI u) ∧ (∃ u, u ≤ 65535 ∧ F 5 = nI u) ∧ (∃ u, u < n ∧ F 13 = nI u) ∧ pr_M n (F 6) e ∧ pr_D G E (f 17) t ∧ F 3 = f 1 ∧ F 4 = f 2 ∧ F 5 = f 3 ∧ F 7 = f 4 ∧ F 8 = f 5 ∧ F 9 = f 6 ∧ F 10 = f 7 ∧ F 11 = f 8 ∧ F 12 = f 9 ∧ F 13 = f 10 ∧ F 14 = f 11 ∧ F 15 = f 12 ∧ F 16 = f 13 ∧ F 17 = f 14
def pr_R (n : Nat) (B : kc_B) (A : rc_A) : Prop := A 0 0 = nI n ∧ B.2.2.2.2 = A 0 18 ∧ B.2.2.2.1 0 = A 0 19 ∧ (∃ u, u < 4 ∧ A 0 19 = nI u) ∧ kq_bus B.2.2.2.1 = A 0 20 ∧ ∀ k, k < n → pr_N n k (B.1 k) (B.2.1 k) (B.2.2.1 k) (rq_F A k) (rq_E A k) (rq_T A k)
theorem pr_congr {n k : Nat} {F G E f e t f' e' t' : Nat → Int32} (hn : n ≤ 6) (hf : ∀ a, a ≠ 0 → a ≠ 24 → a ≠ 15 → a ≠ 16 → f' a = f a) (he : ∀ m, m < 6 → e' m = e m) (htt : ∀ d, d < 4 → t' d = t d) (h : pr_N n k F G E f e t) : pr_N n k F G E f' e' t' := by
  obtain ⟨h0, h1, ht, hq, hu, hM, hD, e3, e4, e5, e7, e8, e9, e10, e11, e12, e13, e14, e15, e16, e17⟩ := h
  obtain ⟨mk, m1, m2, m3⟩ := hM
  obtain ⟨cn, j, c1, c2, c3, c4, c5, c6, c7⟩ := hD
  refine ⟨h0, h1, ht, hq, hu, ⟨mk, m1, m2, fun m hm => (he m (by omega)).trans (m3 m hm)⟩, ⟨cn, j, c1, c2, c3, (hf 17 (by decide) (by decide) (by decide) (by decide)).trans c4, c5, fun h => ⟨(c6 h).1, fun d hd => ((c6 h).2 d hd).trans (htt d (by omega)).symm⟩, fun h => ⟨(c7 h).1, fun d hd => (htt d hd).trans ((c7 h).2 d hd)⟩⟩, e3.trans (hf 1 (by decide) (by decide) (by decide) (by decide)).symm, e4.trans (hf 2 (by decide) (by decide) (by decide) (by decide)).symm, e5.trans (hf 3 (by decide) (by decide) (by decide) (by decide)).symm, e7.trans (hf 4 (by decide) (by decide) (by decide) (by decide)).symm, e8.trans (hf 5 (by decide) (by decide) (by decide) (by decide)).symm, e9.trans (hf 6 (by decide) (by decide) (by decide) (by decide)).symm, e10.trans (hf 7 (by decide) (by decide) (by decide) (by decide)).symm, e11.trans (hf 8 (by decide) (by decide) (by decide) (by decide)).symm, e12.trans (hf 9 (by decide) (by decide) (by decide) (by decide)).symm, e13.trans (hf 10 (by decide) (by decide) (by decide) (by decide)).symm, e14.trans (hf 11 (by decide) (by decide) (by decide) (by decide)).symm, e15.trans (hf 12 (by decide) (by decide) (by decide) (by decide)).symm, e16.trans (hf 13 (by decide) (by decide) (by decide) (by decide)).symm, e17.trans (hf 14 (by decide) (by decide) (by decide) (by decide)).symm⟩
theorem pr_upd {n k : Nat} {B : kc_B} {A : rc_A} {F G E f e t : Nat → Int32} (hn : n ≤ 6) (h : pr_R n B A) (hN : pr_N n k F G E f e t) : pr_R n (kc_ov B k F G E B.2.2.2.1) (rc_ov A k f e t (A 0) (A 24)) := by
  refine ⟨h.1, h.2.1, h.2.2.1, h.2.2.2.1, h.2.2.2.2.1, fun j hj => ?_⟩
  by_cases hjk : j = k
  · subst hjk
    show pr_N n j (va_up B.1 j F j) (va_up B.2.1 j G j) (va_up B.2.2.1 j E j) _ _ _
    rw [kc_us, kc_us, kc_us]
    exact pr_congr hn (fun a h0 h1 h2 h3 => rq_sF h0 h1 h2 h3) (fun m hm => rq_sE hm) (fun d hd => rq_sT hd) hN
  · show pr_N n j (va_up B.1 k F j) (va_up B.2.1 k G j) (va_up B.2.2.1 k E j) _ _ _
    rw [kc_un _ _ _ _ hjk, kc_un _ _ _ _ hjk, kc_un _ _ _ _ hjk, rq_oF hjk rfl rfl, rq_oE hjk, rq_oT hjk]
    exact h.2.2.2.2.2 j hj
theorem pr_ix (x : Int32) {n : Nat} (hn : n ≤ 6) : (∃ k, k < n ∧ x = nI k) ∨ ((x < 0 ∨ ¬ x < nI n) ∧ ∀ g : Nat → Int32, g 0 = nI n → r_M_isNode g x = 0) := by
  rcases pk_ix x (show n < 2 ^ 31 by omega) with h | h | h
  · exact Or.inr ⟨Or.inl h, fun g _ => if_pos h⟩
  · refine Or.inr ⟨Or.inr (fun q => ?_), fun g hg => ?_⟩
    · rw [Int32.lt_iff_toInt_lt] at q
      rw [Int32.le_iff_toInt_le] at h
      omega
    · unfold r_M_isNode
      split
      · rfl
      · rw [hg, if_pos h]
  · exact Or.inl h
theorem pr_is {k n : Nat} (hk : k < n) (hn : n ≤ 6) {g : Nat → Int32} (hg : g 0 = nI n) : r_M_isNode g (nI k) = 1 := by
  unfold r_M_isNode
  rw [if_neg (nI_pos (by omega)), if_neg (by rw [hg]; exact nI_ge hk (by omega))]
theorem pr_self (A : rc_A) (k : Nat) : rc_ov A k (rq_F A k) (rq_E A k) (rq_T A k) (A 0) (A 24) = A := (rq_self A k).symm
theorem pr_one : ¬ (1 : Int32) = 0 := by decide
set_option maxHeartbeats 4000000 in
set_option maxRecDepth 100000 in
theorem pl_nodes {l : Launch} {D : va_G} {n : Nat} {ad : xq_I → Nat} {cI cZ cN : ClassId} (hn : n = 4 ∨ n = 5 ∨ n = 6) (hap : xq_ap (kc_cs n) ad) (hapr : xq_ap rc_cs ad) : lo_nodes l D n ad cI cZ cN (pr_R n) := by
  intro B A hR
  have q := ct_C_nodes (l := l) (D := D) (cI := cI) (cZ := cZ) (cN := cN) hap (show 0 < n by omega) (B := B) (F := B.1 0) (G := B.2.1 0) (E := B.2.2.1 0) (w := B.2.2.2.1)
  rw [← kc_self B 0] at q
  have r := rt_M_nodes (l := l) (D := D) (cI := cI) (cZ := cZ) (cN := cN) hapr (show 0 < 6 by decide) (A := A) (F := rq_F A 0) (E := rq_E A 0) (T := rq_T A 0) (g := A 0) (f := A 24)
  rw [pr_self, show r_M_nodes (A 0) = nI n from hR.1] at r
  exact ⟨nI n, B, A, q, r, hR⟩
set_option maxHeartbeats 4000000 in
set_option maxRecDepth 100000 in
theorem pl_slots {l : Launch} {D : va_G} {n : Nat} {ad : xq_I → Nat} {cI cZ cN : ClassId} (hn : n = 4 ∨ n = 5 ∨ n = 6) (hap : xq_ap (kc_cs n) ad) (hapr : xq_ap rc_cs ad) : lo_slots l D n ad cI cZ cN (pr_R n) := by
  intro B A hR
  have q := kt_slots (l := l) (D := D) (cI := cI) (cZ := cZ) (cN := cN) hap hn B
  have r := rt_M_slots (l := l) (D := D) (cI := cI) (cZ := cZ) (cN := cN) hapr (show 0 < 6 by decide) (A := A) (F := rq_F A 0) (E := rq_E A 0) (T := rq_T A 0) (g := A 0) (f := A 24)
  rw [pr_self, show r_M_slots (A 0) = B.2.2.2.2 from hR.2.1.symm] at r
  exact ⟨B.2.2.2.2, B, A, q, r, hR⟩
set_option maxHeartbeats 4000000 in
set_option maxRecDepth 100000 in
theorem pl_bus {l : Launch} {D : va_G} {n : Nat} {ad : xq_I → Nat} {cI cZ cN : ClassId} (hn : n = 4 ∨ n = 5 ∨ n = 6) (hap : xq_ap (kc_cs n) ad) (hapr : xq_ap rc_cs ad) : lo_bus l D n ad cI cZ cN (pr_R n) := by
  intro B A hR
  have q := kt_bus (l := l) (D := D) (cI := cI) (cZ := cZ) (cN := cN) hap hn B
  have r := rt_M_bus (l := l) (D := D) (cI := cI) (cZ := cZ) (cN := cN) hapr (show 0 < 6 by decide) (A := A) (F := rq_F A 0) (E := rq_E A 0) (T := rq_T A 0) (g := A 0) (f := A 24)
  rw [pr_self, show r_M_bus (A 0) = kq_bus B.2.2.2.1 from hR.2.2.2.2.1.symm] at r
  exact ⟨kq_bus B.2.2.2.1, B, A, q, r, hR⟩
set_option maxHeartbeats 4000000 in
set_option maxRecDepth 100000 in
theorem pl_mode {l : Launch} {D : va_G} {n : Nat} {ad : xq_I → Nat} {cI cZ cN : ClassId} (hn : n = 4 ∨ n = 5 ∨ n = 6) (hap : xq_ap (kc_cs n) ad) (hapr : xq_ap rc_cs ad) : lo_mode l D n ad cI cZ cN (pr_R n) := by
  intro x B A hR
  rcases pr_ix x (show n ≤ 6 by omega) with ⟨k, hk, rfl⟩ | ⟨hb, hb2⟩
  · have hk6 : k < 6 := by omega
    have hi := pr_is hk (show n ≤ 6 by omega) hR.1
    have hN := hR.2.2.2.2.2 k hk
    obtain ⟨h0, h1, ht, hq, hu, hM, hD, e3, e4, e5, e7, e8, e9, e10, e11, e12, e13, e14, e15, e16, e17⟩ := hN
    have q := ct_C_mode_k (l := l) (D := D) (cI := cI) (cZ := cZ) (cN := cN) hap hk (B := B) (F := B.1 k) (G := B.2.1 k) (E := B.2.2.1 k) (w := B.2.2.2.1) (by omega) (nI_pos (by omega)) (nI_lt hk (by omega))
    rw [← kc_self B k] at q
    have r := rt_M_mode (l := l) (D := D) (cI := cI) (cZ := cZ) (cN := cN) hapr hk6 (A := A) (F := rq_F A k) (E := rq_E A k) (T := rq_T A k) (g := A 0) (f := A 24)
    have hv : r_M_mode k (rq_F A k) (A 0) = B.1 k 3 := by
      unfold r_M_mode
      rw [hi, e3]
      rfl
    rw [pr_self, hv] at r
    exact ⟨B.1 k 3, B, A, q, r, hR⟩
  · have q := ct_C_mode_bad (l := l) (D := D) (cI := cI) (cZ := cZ) (cN := cN) hap (show 0 < n by omega) (B := B) (F := B.1 0) (G := B.2.1 0) (E := B.2.2.1 0) (w := B.2.2.2.1) x hb
    rw [← kc_self B 0] at q
    have r := rt_M_mode_bad (l := l) (D := D) (cI := cI) (cZ := cZ) (cN := cN) hapr (show 0 < 6 by decide) (A := A) (F := rq_F A 0) (E := rq_E A 0) (T := rq_T A 0) (g := A 0) (f := A 24) x (hb2 _ hR.1)
    rw [pr_self] at r
    exact ⟨(-1), B, A, q, r, hR⟩
set_option maxHeartbeats 4000000 in
set_option maxRecDepth 100000 in
theorem pl_patience {l : Launch} {D : va_G} {n : Nat} {ad : xq_I → Nat} {cI cZ cN : ClassId} (hn : n = 4 ∨ n = 5 ∨ n = 6) (hap : xq_ap (kc_cs n) ad) (hapr : xq_ap rc_cs ad) : lo_patience l D n ad cI cZ cN (pr_R n) := by
  intro x B A hR
  rcases pr_ix x (show n ≤ 6 by omega) with ⟨k, hk, rfl⟩ | ⟨hb, hb2⟩
  · have hk6 : k < 6 := by omega
    have hi := pr_is hk (show n ≤ 6 by omega) hR.1
    have hN := hR.2.2.2.2.2 k hk
    obtain ⟨h0, h1, ht, hq, hu, hM, hD, e3, e4, e5, e7, e8, e9, e10, e11, e12, e13, e14, e15, e16, e17⟩ := hN
    have q := ct_C_patience_k (l := l) (D := D) (cI := cI) (cZ := cZ) (cN := cN) hap hk (B := B) (F := B.1 k) (G := B.2.1 k) (E := B.2.2.1 k) (w := B.2.2.2.1) (by omega) (nI_pos (by omega)) (nI_lt hk (by omega))
    rw [← kc_self B k] at q
    have r := rt_M_patience (l := l) (D := D) (cI := cI) (cZ := cZ) (cN := cN) hapr hk6 (A := A) (F := rq_F A k) (E := rq_E A k) (T := rq_T A k) (g := A 0) (f := A 24)
    have hv : r_M_patience k (rq_F A k) (A 0) = c_C_patience_k (B.1 k) := by
      unfold r_M_patience c_C_patience_k
      rw [hi, e3, e9, e11]
      rfl
    rw [pr_self, hv] at r
    exact ⟨_, B, A, q, r, hR⟩
  · have q := ct_C_patience_bad (l := l) (D := D) (cI := cI) (cZ := cZ) (cN := cN) hap (show 0 < n by omega) (B := B) (F := B.1 0) (G := B.2.1 0) (E := B.2.2.1 0) (w := B.2.2.2.1) x hb
    rw [← kc_self B 0] at q
    have r := rt_M_patience_bad (l := l) (D := D) (cI := cI) (cZ := cZ) (cN := cN) hapr (show 0 < 6 by decide) (A := A) (F := rq_F A 0) (E := rq_E A 0) (T := rq_T A 0) (g := A 0) (f := A 24) x (hb2 _ hR.1)
    rw [pr_self] at r
    exact ⟨(-1), B, A, q, r, hR⟩
set_option maxHeartbeats 4000000 in
set_option maxRecDepth 100000 in
theorem pl_time {l : Launch} {D : va_G} {n : Nat} {ad : xq_I → Nat} {cI cZ cN : ClassId} (hn : n = 4 ∨ n = 5 ∨ n = 6) (hap : xq_ap (kc_cs n) ad) (hapr : xq_ap rc_cs ad) : lo_time l D n ad cI cZ cN (pr_R n) := by
  intro x B A hR
  rcases pr_ix x (show n ≤ 6 by omega) with ⟨k, hk, rfl⟩ | ⟨hb, hb2⟩
  · have hk6 : k < 6 := by omega
    have hi := pr_is hk (show n ≤ 6 by omega) hR.1
    have hN := hR.2.2.2.2.2 k hk
    obtain ⟨h0, h1, ht, hq, hu, hM, hD, e3, e4, e5, e7, e8, e9, e10, e11, e12, e13, e14, e15, e16, e17⟩ := hN
    have hin : r_M_inside (rq_F A k) = c_N_isInside (B.1 k) := by
      unfold r_M_inside c_N_isInside
      rw [e3]
    have r := rt_M_time (l := l) (D := D) (cI := cI) (cZ := cZ) (cN := cN) hapr hk6 (A := A) (F := rq_F A k) (E := rq_E A k) (T := rq_T A k) (g := A 0) (f := A 24)
    rw [pr_self] at r
    by_cases hm : c_N_isInside (B.1 k) = 0
    · have q := ct_C_time_out (l := l) (D := D) (cI := cI) (cZ := cZ) (cN := cN) hap hk (B := B) (F := B.1 k) (G := B.2.1 k) (E := B.2.2.1 k) (w := B.2.2.2.1) (by omega) (nI_pos (by omega)) (nI_lt hk (by omega)) hm
      rw [← kc_self B k] at q
      have hv : r_M_time k (rq_F A k) (A 0) = (-1) := by
        unfold r_M_time
        rw [hi, hin, hm]
        rfl
      rw [hv] at r
      exact ⟨(-1), B, A, q, r, hR⟩
    · have q := ct_C_time_in (l := l) (D := D) (cI := cI) (cZ := cZ) (cN := cN) hap hk (B := B) (F := B.1 k) (G := B.2.1 k) (E := B.2.2.1 k) (w := B.2.2.2.1) (by omega) (nI_pos (by omega)) (nI_lt hk (by omega)) hm
      rw [← kc_self B k] at q
      have hv : r_M_time k (rq_F A k) (A 0) = c_C_time_in (B.1 k) := by
        unfold r_M_time c_C_time_in
        rw [hi, hin, e5, e4]
        show (if (1 : Int32) = 0 then _ else if c_N_isInside (B.1 k) = 0 then _ else _) = _
        rw [if_neg pr_one, if_neg hm]
      rw [hv] at r
      exact ⟨_, B, A, q, r, hR⟩
  · have q := ct_C_time_bad (l := l) (D := D) (cI := cI) (cZ := cZ) (cN := cN) hap (show 0 < n by omega) (B := B) (F := B.1 0) (G := B.2.1 0) (E := B.2.2.1 0) (w := B.2.2.2.1) x hb
    rw [← kc_self B 0] at q
    have r := rt_M_time_bad (l := l) (D := D) (cI := cI) (cZ := cZ) (cN := cN) hapr (show 0 < 6 by decide) (A := A) (F := rq_F A 0) (E := rq_E A 0) (T := rq_T A 0) (g := A 0) (f := A 24) x (hb2 _ hR.1)
    rw [pr_self] at r
    exact ⟨(-1), B, A, q, r, hR⟩
set_option maxHeartbeats 4000000 in
set_option maxRecDepth 100000 in
theorem pl_counts {l : Launch} {D : va_G} {n : Nat} {ad : xq_I → Nat} {cI cZ cN : ClassId} (hn : n = 4 ∨ n = 5 ∨ n = 6) (hap : xq_ap (kc_cs n) ad) (hapr : xq_ap rc_cs ad) : lo_counts l D n ad cI cZ cN (pr_R n) := by
  intro x B A hR
  rcases pr_ix x (show n ≤ 6 by omega) with ⟨k, hk, rfl⟩ | ⟨hb, hb2⟩
  · have hk6 : k < 6 := by omega
    have hi := pr_is hk (show n ≤ 6 by omega) hR.1
    have hN := hR.2.2.2.2.2 k hk
    obtain ⟨h0, h1, ht, hq, hu, hM, hD, e3, e4, e5, e7, e8, e9, e10, e11, e12, e13, e14, e15, e16, e17⟩ := hN
    have hin : r_M_inside (rq_F A k) = c_N_isInside (B.1 k) := by
      unfold r_M_inside c_N_isInside
      rw [e3]
    have r := rt_M_counts (l := l) (D := D) (cI := cI) (cZ := cZ) (cN := cN) hapr hk6 (A := A) (F := rq_F A k) (E := rq_E A k) (T := rq_T A k) (g := A 0) (f := A 24)
    rw [pr_self] at r
    by_cases hm : c_N_isInside (B.1 k) = 0
    · have q := ct_C_counts_out (l := l) (D := D) (cI := cI) (cZ := cZ) (cN := cN) hap hk (B := B) (F := B.1 k) (G := B.2.1 k) (E := B.2.2.1 k) (w := B.2.2.2.1) (by omega) (nI_pos (by omega)) (nI_lt hk (by omega)) hm
      rw [← kc_self B k] at q
      have hv : r_M_counts k (rq_F A k) (A 0) = (-1) := by
        unfold r_M_counts
        rw [hi, hin, hm]
        rfl
      rw [hv] at r
      exact ⟨(-1), B, A, q, r, hR⟩
    · have q := ct_C_counts_in (l := l) (D := D) (cI := cI) (cZ := cZ) (cN := cN) hap hk (B := B) (F := B.1 k) (G := B.2.1 k) (E := B.2.2.1 k) (w := B.2.2.2.1) (by omega) (nI_pos (by omega)) (nI_lt hk (by omega)) hm
      rw [← kc_self B k] at q
      have hv : r_M_counts k (rq_F A k) (A 0) = c_C_counts_in (B.1 k) := by
        unfold r_M_counts c_C_counts_in
        rw [hi, hin, e7, e8, e12]
        show (if (1 : Int32) = 0 then _ else if c_N_isInside (B.1 k) = 0 then _ else _) = _
        rw [if_neg pr_one, if_neg hm]
      rw [hv] at r
      exact ⟨_, B, A, q, r, hR⟩
  · have q := ct_C_counts_bad (l := l) (D := D) (cI := cI) (cZ := cZ) (cN := cN) hap (show 0 < n by omega) (B := B) (F := B.1 0) (G := B.2.1 0) (E := B.2.2.1 0) (w := B.2.2.2.1) x hb
    rw [← kc_self B 0] at q
    have r := rt_M_counts_bad (l := l) (D := D) (cI := cI) (cZ := cZ) (cN := cN) hapr (show 0 < 6 by decide) (A := A) (F := rq_F A 0) (E := rq_E A 0) (T := rq_T A 0) (g := A 0) (f := A 24) x (hb2 _ hR.1)
    rw [pr_self] at r
    exact ⟨(-1), B, A, q, r, hR⟩
set_option maxHeartbeats 4000000 in
set_option maxRecDepth 100000 in
theorem pl_off {l : Launch} {D : va_G} {n : Nat} {ad : xq_I → Nat} {cI cZ cN : ClassId} (hn : n = 4 ∨ n = 5 ∨ n = 6) (hap : xq_ap (kc_cs n) ad) (hapr : xq_ap rc_cs ad) : lo_off l D n ad cI cZ cN (pr_R n) := by
  intro x B A hR
  rcases pr_ix x (show n ≤ 6 by omega) with ⟨k, hk, rfl⟩ | ⟨hb, hb2⟩
  · have hk6 : k < 6 := by omega
    have hi := pr_is hk (show n ≤ 6 by omega) hR.1
    have hN := hR.2.2.2.2.2 k hk
    obtain ⟨h0, h1, ht, hq, hu, hM, hD, e3, e4, e5, e7, e8, e9, e10, e11, e12, e13, e14, e15, e16, e17⟩ := hN
    have r := rt_M_off (l := l) (D := D) (cI := cI) (cZ := cZ) (cN := cN) hapr hk6 (A := A) (F := rq_F A k) (E := rq_E A k) (T := rq_T A k) (g := A 0) (f := A 24)
    rw [pr_self] at r
    by_cases hm : B.1 k 3 = 0
    · have q := ct_C_off_off (l := l) (D := D) (cI := cI) (cZ := cZ) (cN := cN) hap hk (B := B) (F := B.1 k) (G := B.2.1 k) (E := B.2.2.1 k) (w := B.2.2.2.1) (by omega) (nI_pos (by omega)) (nI_lt hk (by omega)) hm
      rw [← kc_self B k] at q
      have ho : r_M_isOn k (rq_F A k) (A 0) = 0 := by
        unfold r_M_isOn
        rw [hi, ← e3, hm]
        rfl
      have hv : r_M_off k (rq_F A k) (A 0) = (rq_F A k, 0) := by
        unfold r_M_off
        rw [ho]
        rfl
      rw [hv] at r
      have r' : xq_M l D vcl (kc_tys cI cZ cN) rc_cs ad (rc_en ad cI cZ) y_M_off (Cond.code y_M_off b_M_off 2 (some .boolean) :: xw) 2 [.ref (ad (6, 0)), .int (nI k)] A (some (.int 0)) A := by
        have h9 : rc_ov A k (rq_F A k, (0 : Int32)).1 (rq_E A k) (rq_T A k) (A 0) (A 24) = A := pr_self A k
        rw [h9] at r
        exact r
      exact ⟨0, B, A, q, r', hR⟩
    · have q := ct_C_off_on (l := l) (D := D) (cI := cI) (cZ := cZ) (cN := cN) hap hk (B := B) (F := B.1 k) (G := B.2.1 k) (E := B.2.2.1 k) (w := B.2.2.2.1) (by omega) (nI_pos (by omega)) (nI_lt hk (by omega)) hm
      rw [← kc_self B k] at q
      have ho : r_M_isOn k (rq_F A k) (A 0) = 1 := by
        unfold r_M_isOn
        rw [hi, ← e3, if_neg pr_one, if_neg hm]
      have hN2 : pr_N n k (c_C_off_on (B.1 k)).1 (B.2.1 k) (B.2.2.1 k) (r_M_off k (rq_F A k) (A 0)).1 (rq_E A k) (rq_T A k) ∧ (c_C_off_on (B.1 k)).2 = (r_M_off k (rq_F A k) (A 0)).2 := by
        unfold r_M_off c_C_off_on
        rw [ho, if_neg pr_one]
        exact ⟨⟨h0, h1, ht, hq, hu, hM, hD, rfl, e4, e5, e7, e8, e9, e10, e11, e12, e13, e14, e15, rfl, rfl⟩, rfl⟩
      rw [← hN2.2] at r
      exact ⟨_, _, _, q, r, pr_upd (by omega) hR hN2.1⟩
  · have q := ct_C_off_bad (l := l) (D := D) (cI := cI) (cZ := cZ) (cN := cN) hap (show 0 < n by omega) (B := B) (F := B.1 0) (G := B.2.1 0) (E := B.2.2.1 0) (w := B.2.2.2.1) x hb
    rw [← kc_self B 0] at q
    have r := rt_M_off_bad (l := l) (D := D) (cI := cI) (cZ := cZ) (cN := cN) hapr (show 0 < 6 by decide) (A := A) (F := rq_F A 0) (E := rq_E A 0) (T := rq_T A 0) (g := A 0) (f := A 24) x (hb2 _ hR.1)
    rw [pr_self] at r
    exact ⟨0, B, A, q, r, hR⟩
set_option maxHeartbeats 4000000 in
set_option maxRecDepth 100000 in
theorem pl_mute {l : Launch} {D : va_G} {n : Nat} {ad : xq_I → Nat} {cI cZ cN : ClassId} (hn : n = 4 ∨ n = 5 ∨ n = 6) (hap : xq_ap (kc_cs n) ad) (hapr : xq_ap rc_cs ad) : lo_mute l D n ad cI cZ cN (pr_R n) := by
  intro x B A hR
  rcases pr_ix x (show n ≤ 6 by omega) with ⟨k, hk, rfl⟩ | ⟨hb, hb2⟩
  · have hk6 : k < 6 := by omega
    have hi := pr_is hk (show n ≤ 6 by omega) hR.1
    have hN := hR.2.2.2.2.2 k hk
    obtain ⟨h0, h1, ht, hq, hu, hM, hD, e3, e4, e5, e7, e8, e9, e10, e11, e12, e13, e14, e15, e16, e17⟩ := hN
    have r := rt_M_mute (l := l) (D := D) (cI := cI) (cZ := cZ) (cN := cN) hapr hk6 (A := A) (F := rq_F A k) (E := rq_E A k) (T := rq_T A k) (g := A 0) (f := A 24)
    rw [pr_self] at r
    by_cases hm : B.1 k 3 = 0
    · have q := ct_C_mute_off (l := l) (D := D) (cI := cI) (cZ := cZ) (cN := cN) hap hk (B := B) (F := B.1 k) (G := B.2.1 k) (E := B.2.2.1 k) (w := B.2.2.2.1) (by omega) (nI_pos (by omega)) (nI_lt hk (by omega)) hm
      rw [← kc_self B k] at q
      have ho : r_M_isOn k (rq_F A k) (A 0) = 0 := by
        unfold r_M_isOn
        rw [hi, ← e3, hm]
        rfl
      have hv : r_M_mute k (rq_F A k) (A 0) = (rq_F A k, 0) := by
        unfold r_M_mute
        rw [ho]
        rfl
      rw [hv] at r
      have r' : xq_M l D vcl (kc_tys cI cZ cN) rc_cs ad (rc_en ad cI cZ) y_M_mute (Cond.code y_M_mute b_M_mute 2 (some .boolean) :: xw) 2 [.ref (ad (6, 0)), .int (nI k)] A (some (.int 0)) A := by
        have h9 : rc_ov A k (rq_F A k, (0 : Int32)).1 (rq_E A k) (rq_T A k) (A 0) (A 24) = A := pr_self A k
        rw [h9] at r
        exact r
      exact ⟨0, B, A, q, r', hR⟩
    · have q := ct_C_mute_on (l := l) (D := D) (cI := cI) (cZ := cZ) (cN := cN) hap hk (B := B) (F := B.1 k) (G := B.2.1 k) (E := B.2.2.1 k) (w := B.2.2.2.1) (by omega) (nI_pos (by omega)) (nI_lt hk (by omega)) hm
      rw [← kc_self B k] at q
      have ho : r_M_isOn k (rq_F A k) (A 0) = 1 := by
        unfold r_M_isOn
        rw [hi, ← e3, if_neg pr_one, if_neg hm]
      have hN2 : pr_N n k (c_C_mute_on (B.1 k)).1 (B.2.1 k) (B.2.2.1 k) (r_M_mute k (rq_F A k) (A 0)).1 (rq_E A k) (rq_T A k) ∧ (c_C_mute_on (B.1 k)).2 = (r_M_mute k (rq_F A k) (A 0)).2 := by
        unfold r_M_mute c_C_mute_on
        rw [ho, if_neg pr_one]
        rw [← e16]
        by_cases h2 : B.1 k 16 = 0
        · rw [if_pos h2, if_pos h2]
          exact ⟨⟨h0, h1, ht, hq, hu, hM, hD, e3, e4, e5, e7, e8, e9, e10, e11, e12, e13, e14, e15, rfl, e17⟩, rfl⟩
        · rw [if_neg h2, if_neg h2]
          exact ⟨⟨h0, h1, ht, hq, hu, hM, hD, e3, e4, e5, e7, e8, e9, e10, e11, e12, e13, e14, e15, e16, e17⟩, rfl⟩
      rw [← hN2.2] at r
      exact ⟨_, _, _, q, r, pr_upd (by omega) hR hN2.1⟩
  · have q := ct_C_mute_bad (l := l) (D := D) (cI := cI) (cZ := cZ) (cN := cN) hap (show 0 < n by omega) (B := B) (F := B.1 0) (G := B.2.1 0) (E := B.2.2.1 0) (w := B.2.2.2.1) x hb
    rw [← kc_self B 0] at q
    have r := rt_M_mute_bad (l := l) (D := D) (cI := cI) (cZ := cZ) (cN := cN) hapr (show 0 < 6 by decide) (A := A) (F := rq_F A 0) (E := rq_E A 0) (T := rq_T A 0) (g := A 0) (f := A 24) x (hb2 _ hR.1)
    rw [pr_self] at r
    exact ⟨0, B, A, q, r, hR⟩
set_option maxHeartbeats 4000000 in
set_option maxRecDepth 100000 in
theorem pl_deafen {l : Launch} {D : va_G} {n : Nat} {ad : xq_I → Nat} {cI cZ cN : ClassId} (hn : n = 4 ∨ n = 5 ∨ n = 6) (hap : xq_ap (kc_cs n) ad) (hapr : xq_ap rc_cs ad) : lo_deafen l D n ad cI cZ cN (pr_R n) := by
  intro x B A hR
  rcases pr_ix x (show n ≤ 6 by omega) with ⟨k, hk, rfl⟩ | ⟨hb, hb2⟩
  · have hk6 : k < 6 := by omega
    have hi := pr_is hk (show n ≤ 6 by omega) hR.1
    have hN := hR.2.2.2.2.2 k hk
    obtain ⟨h0, h1, ht, hq, hu, hM, hD, e3, e4, e5, e7, e8, e9, e10, e11, e12, e13, e14, e15, e16, e17⟩ := hN
    have r := rt_M_deafen (l := l) (D := D) (cI := cI) (cZ := cZ) (cN := cN) hapr hk6 (A := A) (F := rq_F A k) (E := rq_E A k) (T := rq_T A k) (g := A 0) (f := A 24)
    rw [pr_self] at r
    by_cases hm : B.1 k 3 = 0
    · have q := ct_C_deafen_off (l := l) (D := D) (cI := cI) (cZ := cZ) (cN := cN) hap hk (B := B) (F := B.1 k) (G := B.2.1 k) (E := B.2.2.1 k) (w := B.2.2.2.1) (by omega) (nI_pos (by omega)) (nI_lt hk (by omega)) hm
      rw [← kc_self B k] at q
      have ho : r_M_isOn k (rq_F A k) (A 0) = 0 := by
        unfold r_M_isOn
        rw [hi, ← e3, hm]
        rfl
      have hv : r_M_deafen k (rq_F A k) (A 0) = (rq_F A k, 0) := by
        unfold r_M_deafen
        rw [ho]
        rfl
      rw [hv] at r
      have r' : xq_M l D vcl (kc_tys cI cZ cN) rc_cs ad (rc_en ad cI cZ) y_M_deafen (Cond.code y_M_deafen b_M_deafen 2 (some .boolean) :: xw) 2 [.ref (ad (6, 0)), .int (nI k)] A (some (.int 0)) A := by
        have h9 : rc_ov A k (rq_F A k, (0 : Int32)).1 (rq_E A k) (rq_T A k) (A 0) (A 24) = A := pr_self A k
        rw [h9] at r
        exact r
      exact ⟨0, B, A, q, r', hR⟩
    · have q := ct_C_deafen_on (l := l) (D := D) (cI := cI) (cZ := cZ) (cN := cN) hap hk (B := B) (F := B.1 k) (G := B.2.1 k) (E := B.2.2.1 k) (w := B.2.2.2.1) (by omega) (nI_pos (by omega)) (nI_lt hk (by omega)) hm
      rw [← kc_self B k] at q
      have ho : r_M_isOn k (rq_F A k) (A 0) = 1 := by
        unfold r_M_isOn
        rw [hi, ← e3, if_neg pr_one, if_neg hm]
      have hN2 : pr_N n k (c_C_deafen_on (B.1 k)).1 (B.2.1 k) (B.2.2.1 k) (r_M_deafen k (rq_F A k) (A 0)).1 (rq_E A k) (rq_T A k) ∧ (c_C_deafen_on (B.1 k)).2 = (r_M_deafen k (rq_F A k) (A 0)).2 := by
        unfold r_M_deafen c_C_deafen_on
        rw [ho, if_neg pr_one]
        rw [← e17]
        by_cases h2 : B.1 k 17 = 0
        · rw [if_pos h2, if_pos h2]
          exact ⟨⟨h0, h1, ht, hq, hu, hM, hD, e3, e4, e5, e7, e8, e9, e10, e11, e12, e13, e14, e15, e16, rfl⟩, rfl⟩
        · rw [if_neg h2, if_neg h2]
          exact ⟨⟨h0, h1, ht, hq, hu, hM, hD, e3, e4, e5, e7, e8, e9, e10, e11, e12, e13, e14, e15, e16, e17⟩, rfl⟩
      rw [← hN2.2] at r
      exact ⟨_, _, _, q, r, pr_upd (by omega) hR hN2.1⟩
  · have q := ct_C_deafen_bad (l := l) (D := D) (cI := cI) (cZ := cZ) (cN := cN) hap (show 0 < n by omega) (B := B) (F := B.1 0) (G := B.2.1 0) (E := B.2.2.1 0) (w := B.2.2.2.1) x hb
    rw [← kc_self B 0] at q
    have r := rt_M_deafen_bad (l := l) (D := D) (cI := cI) (cZ := cZ) (cN := cN) hapr (show 0 < 6 by decide) (A := A) (F := rq_F A 0) (E := rq_E A 0) (T := rq_T A 0) (g := A 0) (f := A 24) x (hb2 _ hR.1)
    rw [pr_self] at r
    exact ⟨0, B, A, q, r, hR⟩
set_option maxHeartbeats 4000000 in
set_option maxRecDepth 100000 in
theorem pl_shift {l : Launch} {D : va_G} {n : Nat} {ad : xq_I → Nat} {cI cZ cN : ClassId} (hn : n = 4 ∨ n = 5 ∨ n = 6) (hap : xq_ap (kc_cs n) ad) (hapr : xq_ap rc_cs ad) : lo_shift l D n ad cI cZ cN (pr_R n) := by
  intro x y B A hR
  rcases pr_ix x (show n ≤ 6 by omega) with ⟨k, hk, rfl⟩ | ⟨hb, hb2⟩
  · have hk6 : k < 6 := by omega
    have hi := pr_is hk (show n ≤ 6 by omega) hR.1
    have hN := hR.2.2.2.2.2 k hk
    obtain ⟨h0, h1, ht, hq, hu, hM, hD, e3, e4, e5, e7, e8, e9, e10, e11, e12, e13, e14, e15, e16, e17⟩ := hN
    have r := rt_M_shift (l := l) (D := D) (cI := cI) (cZ := cZ) (cN := cN) hapr hk6 (A := A) (F := rq_F A k) (E := rq_E A k) (T := rq_T A k) (g := A 0) (f := A 24) y
    rw [pr_self] at r
    by_cases hm : B.1 k 3 = 0
    · have q := ct_C_shift_off (l := l) (D := D) (cI := cI) (cZ := cZ) (cN := cN) hap hk (B := B) (F := B.1 k) (G := B.2.1 k) (E := B.2.2.1 k) (w := B.2.2.2.1) y (by omega) (nI_pos (by omega)) (nI_lt hk (by omega)) hm
      rw [← kc_self B k] at q
      have ho : r_M_isOn k (rq_F A k) (A 0) = 0 := by
        unfold r_M_isOn
        rw [hi, ← e3, hm]
        rfl
      have hv : r_M_shift k (rq_F A k) (A 0) y = (rq_F A k, 0) := by
        unfold r_M_shift
        rw [ho]
        rfl
      rw [hv] at r
      have r' : xq_M l D vcl (kc_tys cI cZ cN) rc_cs ad (rc_en ad cI cZ) y_M_shift (Cond.code y_M_shift b_M_shift 3 (some .boolean) :: xw) 2 [.ref (ad (6, 0)), .int (nI k), .int y] A (some (.int 0)) A := by
        have h9 : rc_ov A k (rq_F A k, (0 : Int32)).1 (rq_E A k) (rq_T A k) (A 0) (A 24) = A := pr_self A k
        rw [h9] at r
        exact r
      exact ⟨0, B, A, q, r', hR⟩
    · have q := ct_C_shift_on (l := l) (D := D) (cI := cI) (cZ := cZ) (cN := cN) hap hk (B := B) (F := B.1 k) (G := B.2.1 k) (E := B.2.2.1 k) (w := B.2.2.2.1) y (by omega) (nI_pos (by omega)) (nI_lt hk (by omega)) hm
      rw [← kc_self B k] at q
      have ho : r_M_isOn k (rq_F A k) (A 0) = 1 := by
        unfold r_M_isOn
        rw [hi, ← e3, if_neg pr_one, if_neg hm]
      have hN2 : pr_N n k (c_C_shift_on (B.1 k) y).1 (B.2.1 k) (B.2.2.1 k) (r_M_shift k (rq_F A k) (A 0) y).1 (rq_E A k) (rq_T A k) ∧ (c_C_shift_on (B.1 k) y).2 = (r_M_shift k (rq_F A k) (A 0) y).2 := by
        unfold r_M_shift c_C_shift_on
        rw [ho, if_neg pr_one]
        by_cases h2 : y < (-1000)
        · rw [if_pos h2, if_pos h2]
          exact ⟨⟨h0, h1, ht, hq, hu, hM, hD, e3, e4, e5, e7, e8, e9, e10, e11, e12, e13, e14, e15, e16, e17⟩, rfl⟩
        · rw [if_neg h2, if_neg h2]
          by_cases h3 : y ≤ 1000
          · rw [if_pos h3, if_pos h3]
            exact ⟨⟨h0, h1, ht, hq, hu, hM, hD, e3, e4, e5, e7, e8, e9, e10, e11, e12, e13, (show B.1 k 14 + y = rq_F A k 11 + y by rw [e14]), e15, e16, e17⟩, rfl⟩
          · rw [if_neg h3, if_neg h3]
            exact ⟨⟨h0, h1, ht, hq, hu, hM, hD, e3, e4, e5, e7, e8, e9, e10, e11, e12, e13, e14, e15, e16, e17⟩, rfl⟩
      rw [← hN2.2] at r
      exact ⟨_, _, _, q, r, pr_upd (by omega) hR hN2.1⟩
  · have q := ct_C_shift_bad (l := l) (D := D) (cI := cI) (cZ := cZ) (cN := cN) hap (show 0 < n by omega) (B := B) (F := B.1 0) (G := B.2.1 0) (E := B.2.2.1 0) (w := B.2.2.2.1) x y hb
    rw [← kc_self B 0] at q
    have r := rt_M_shift_bad (l := l) (D := D) (cI := cI) (cZ := cZ) (cN := cN) hapr (show 0 < 6 by decide) (A := A) (F := rq_F A 0) (E := rq_E A 0) (T := rq_T A 0) (g := A 0) (f := A 24) x y (hb2 _ hR.1)
    rw [pr_self] at r
    exact ⟨0, B, A, q, r, hR⟩
set_option maxHeartbeats 4000000 in
set_option maxRecDepth 100000 in
theorem pl_thaw {l : Launch} {D : va_G} {n : Nat} {ad : xq_I → Nat} {cI cZ cN : ClassId} (hn : n = 4 ∨ n = 5 ∨ n = 6) (hap : xq_ap (kc_cs n) ad) (hapr : xq_ap rc_cs ad) : lo_thaw l D n ad cI cZ cN (pr_R n) := by
  intro x B A hR
  rcases pr_ix x (show n ≤ 6 by omega) with ⟨k, hk, rfl⟩ | ⟨hb, hb2⟩
  · have hk6 : k < 6 := by omega
    have hi := pr_is hk (show n ≤ 6 by omega) hR.1
    have hN := hR.2.2.2.2.2 k hk
    obtain ⟨h0, h1, ht, hq, hu, hM, hD, e3, e4, e5, e7, e8, e9, e10, e11, e12, e13, e14, e15, e16, e17⟩ := hN
    have q := ct_C_thaw_k (l := l) (D := D) (cI := cI) (cZ := cZ) (cN := cN) hap hk (B := B) (F := B.1 k) (G := B.2.1 k) (E := B.2.2.1 k) (w := B.2.2.2.1) (by omega) (nI_pos (by omega)) (nI_lt hk (by omega))
    rw [← kc_self B k] at q
    have r := rt_M_thaw (l := l) (D := D) (cI := cI) (cZ := cZ) (cN := cN) hapr hk6 (A := A) (F := rq_F A k) (E := rq_E A k) (T := rq_T A k) (g := A 0) (f := A 24)
    rw [pr_self] at r
    have hN2 : pr_N n k (c_C_thaw_k (B.1 k) (B.2.1 k)).1 (c_C_thaw_k (B.1 k) (B.2.1 k)).2.1 (B.2.2.1 k) (r_M_thaw k (rq_F A k) (A 0)).1 (rq_E A k) (rq_T A k) ∧ (c_C_thaw_k (B.1 k) (B.2.1 k)).2.2 = (r_M_thaw k (rq_F A k) (A 0)).2 := by
      unfold r_M_thaw c_C_thaw_k
      rw [hi, if_neg pr_one, ← e3]
      by_cases h2 : B.1 k 3 = 5
      · rw [if_pos h2, if_pos h2]
        exact ⟨⟨h0, h1, ht, hq, hu, hM, ⟨0, 0, by omega, by omega, rfl, rfl, rfl, fun _ => ⟨rfl, fun d hd => absurd hd (by omega)⟩, fun h => absurd h (by omega)⟩, rfl, e4, e5, e7, e8, (show 2 * B.1 k 1 + B.1 k 0 = 2 * A 0 0 + nI k by rw [h1, h0, hR.1]), rfl, rfl, e12, e13, e14, e15, e16, e17⟩, rfl⟩
      · rw [if_neg h2, if_neg h2]
        exact ⟨⟨h0, h1, ht, hq, hu, hM, hD, e3, e4, e5, e7, e8, e9, e10, e11, e12, e13, e14, e15, e16, e17⟩, rfl⟩
    rw [← hN2.2] at r
    exact ⟨_, _, _, q, r, pr_upd (by omega) hR hN2.1⟩
  · have q := ct_C_thaw_bad (l := l) (D := D) (cI := cI) (cZ := cZ) (cN := cN) hap (show 0 < n by omega) (B := B) (F := B.1 0) (G := B.2.1 0) (E := B.2.2.1 0) (w := B.2.2.2.1) x hb
    rw [← kc_self B 0] at q
    have r := rt_M_thaw_bad (l := l) (D := D) (cI := cI) (cZ := cZ) (cN := cN) hapr (show 0 < 6 by decide) (A := A) (F := rq_F A 0) (E := rq_E A 0) (T := rq_T A 0) (g := A 0) (f := A 24) x (hb2 _ hR.1)
    rw [pr_self] at r
    exact ⟨0, B, A, q, r, hR⟩
set_option maxHeartbeats 4000000 in
set_option maxRecDepth 100000 in
theorem pl_on {l : Launch} {D : va_G} {n : Nat} {ad : xq_I → Nat} {cI cZ cN : ClassId} (hn : n = 4 ∨ n = 5 ∨ n = 6) (hap : xq_ap (kc_cs n) ad) (hapr : xq_ap rc_cs ad) : lo_on l D n ad cI cZ cN (pr_R n) := by
  intro x y B A hR
  rcases pr_ix x (show n ≤ 6 by omega) with ⟨k, hk, rfl⟩ | ⟨hb, hb2⟩
  · have hk6 : k < 6 := by omega
    have hi := pr_is hk (show n ≤ 6 by omega) hR.1
    have hN := hR.2.2.2.2.2 k hk
    obtain ⟨h0, h1, ht, hq, hu, hM, hD, e3, e4, e5, e7, e8, e9, e10, e11, e12, e13, e14, e15, e16, e17⟩ := hN
    have q := ct_C_on_k (l := l) (D := D) (cI := cI) (cZ := cZ) (cN := cN) hap hk (B := B) (F := B.1 k) (G := B.2.1 k) (E := B.2.2.1 k) (w := B.2.2.2.1) y (by omega) (nI_pos (by omega)) (nI_lt hk (by omega))
    rw [← kc_self B k] at q
    have r := rt_M_on (l := l) (D := D) (cI := cI) (cZ := cZ) (cN := cN) hapr hk6 (A := A) (F := rq_F A k) (E := rq_E A k) (T := rq_T A k) (g := A 0) (f := A 24) y
    rw [pr_self] at r
    have hN2 : pr_N n k (c_C_on_k (B.1 k) (B.2.1 k) y).1 (c_C_on_k (B.1 k) (B.2.1 k) y).2.1 (B.2.2.1 k) (r_M_on k (rq_F A k) (rq_E A k) (A 0) y).1 (r_M_on k (rq_F A k) (rq_E A k) (A 0) y).2.1 (rq_T A k) ∧ (c_C_on_k (B.1 k) (B.2.1 k) y).2.2 = (r_M_on k (rq_F A k) (rq_E A k) (A 0) y).2.2 := by
      unfold r_M_on c_C_on_k
      rw [hi, if_neg pr_one, ← e3]
      by_cases h2 : B.1 k 3 = 0
      · rw [if_pos h2, if_pos h2]
        by_cases h3 : y < (-2)
        · rw [if_pos h3, if_pos h3]
          exact ⟨⟨h0, h1, ht, hq, hu, hM, hD, e3, e4, e5, e7, e8, e9, e10, e11, e12, e13, e14, e15, e16, e17⟩, rfl⟩
        · rw [if_neg h3, if_neg h3]
          by_cases h4 : y ≤ 2
          · rw [if_pos h4, if_pos h4]
            exact ⟨⟨h0, h1, ⟨0, by omega, rfl⟩, ⟨0, by omega, rfl⟩, hu, ⟨0, Nat.two_pow_pos n, rfl, fun m hm => by rcases (show m = 0 ∨ m = 1 ∨ m = 2 ∨ m = 3 ∨ m = 4 ∨ m = 5 by omega) with rfl | rfl | rfl | rfl | rfl | rfl <;> rfl⟩, ⟨0, 0, by omega, by omega, rfl, rfl, rfl, fun _ => ⟨rfl, fun d hd => absurd hd (by omega)⟩, fun h => absurd h (by omega)⟩, rfl, rfl, rfl, rfl, rfl, (show 2 * B.1 k 1 + B.1 k 0 = 2 * A 0 0 + nI k by rw [h1, h0, hR.1]), rfl, rfl, rfl, e13, rfl, rfl, e16, e17⟩, rfl⟩
          · rw [if_neg h4, if_neg h4]
            exact ⟨⟨h0, h1, ht, hq, hu, hM, hD, e3, e4, e5, e7, e8, e9, e10, e11, e12, e13, e14, e15, e16, e17⟩, rfl⟩
      · rw [if_neg h2, if_neg h2]
        exact ⟨⟨h0, h1, ht, hq, hu, hM, hD, e3, e4, e5, e7, e8, e9, e10, e11, e12, e13, e14, e15, e16, e17⟩, rfl⟩
    rw [← hN2.2] at r
    exact ⟨_, _, _, q, r, pr_upd (by omega) hR hN2.1⟩
  · have q := ct_C_on_bad (l := l) (D := D) (cI := cI) (cZ := cZ) (cN := cN) hap (show 0 < n by omega) (B := B) (F := B.1 0) (G := B.2.1 0) (E := B.2.2.1 0) (w := B.2.2.2.1) x y hb
    rw [← kc_self B 0] at q
    have r := rt_M_on_bad (l := l) (D := D) (cI := cI) (cZ := cZ) (cN := cN) hapr (show 0 < 6 by decide) (A := A) (F := rq_F A 0) (E := rq_E A 0) (T := rq_T A 0) (g := A 0) (f := A 24) x y (hb2 _ hR.1)
    rw [pr_self] at r
    exact ⟨0, B, A, q, r, hR⟩
