theorem pq_min (x y : Int32) : (km_min x y).toInt = min x.toInt y.toInt := by
  unfold km_min
  split
  · next h => rw [Int32.lt_iff_toInt_lt] at h; omega
  · next h => rw [Int32.lt_iff_toInt_lt] at h; omega
theorem pq_max (x y : Int32) : (km_max x y).toInt = max x.toInt y.toInt := by
  unfold km_max
  split
  · next h => rw [Int32.lt_iff_toInt_lt] at h; omega
  · next h => rw [Int32.lt_iff_toInt_lt] at h; omega
theorem pq_le (x y : Int32) : (if x ≤ y then x else y).toInt = min x.toInt y.toInt := by
  split
  · next h => rw [Int32.le_iff_toInt_le] at h; omega
  · next h => rw [Int32.le_iff_toInt_le] at h; omega
theorem pq_ge (x y : Int32) : (if y ≤ x then x else y).toInt = max x.toInt y.toInt := by
  split
  · next h => rw [Int32.le_iff_toInt_le] at h; omega
  · next h => rw [Int32.le_iff_toInt_le] at h; omega
def pq_mn (a b c d : Int32) : Int32 := km_min (km_min (km_min (km_min a a) b) c) d
def pq_mx (a b c d : Int32) : Int32 := km_max (km_max (km_max (km_max a a) b) c) d
def pq_rn (a b c d : Int32) : Int32 := if (if (if a ≤ b then a else b) ≤ c then (if a ≤ b then a else b) else c) ≤ d then (if (if a ≤ b then a else b) ≤ c then (if a ≤ b then a else b) else c) else d
def pq_rx (a b c d : Int32) : Int32 := if d ≤ (if c ≤ (if b ≤ a then a else b) then (if b ≤ a then a else b) else c) then (if c ≤ (if b ≤ a then a else b) then (if b ≤ a then a else b) else c) else d
theorem pq_mnI (a b c d : Int32) : (pq_mn a b c d).toInt = min (min (min a.toInt b.toInt) c.toInt) d.toInt := by
  unfold pq_mn
  rw [pq_min, pq_min, pq_min, pq_min]
  omega
theorem pq_mxI (a b c d : Int32) : (pq_mx a b c d).toInt = max (max (max a.toInt b.toInt) c.toInt) d.toInt := by
  unfold pq_mx
  rw [pq_max, pq_max, pq_max, pq_max]
  omega
theorem pq_rnI (a b c d : Int32) : (pq_rn a b c d).toInt = min (min (min a.toInt b.toInt) c.toInt) d.toInt := by
  unfold pq_rn
  rw [pq_le, pq_le, pq_le]
theorem pq_rxI (a b c d : Int32) : (pq_rx a b c d).toInt = max (max (max a.toInt b.toInt) c.toInt) d.toInt := by
  unfold pq_rx
  rw [pq_ge, pq_ge, pq_ge]
def pq_mid (a b c d : Int32) : Int32 := (((((((0 + a) + b) + c) + d) - pq_rn a b c d) - pq_rx a b c d) / 2)
theorem pq_rot (a b c d : Int32) : pq_mid b c d a = pq_mid a b c d := by
  have h1 : pq_rn b c d a = pq_rn a b c d := Int32.toInt_inj.mp (by rw [pq_rnI, pq_rnI]; omega)
  have h2 : pq_rx b c d a = pq_rx a b c d := Int32.toInt_inj.mp (by rw [pq_rxI, pq_rxI]; omega)
  have h3 : (((0 + b) + c) + d) + a = (((0 + a) + b) + c) + d := by first | ac_rfl | grind
  unfold pq_mid
  rw [h1, h2, h3]
theorem pq_c (E : Nat → Int32) : c_D_middle E = pq_mid (E 0) (E 1) (E 2) (E 3) := by
  have h1 : pq_mn (E 0) (E 1) (E 2) (E 3) = pq_rn (E 0) (E 1) (E 2) (E 3) := Int32.toInt_inj.mp (by rw [pq_mnI, pq_rnI])
  have h2 : pq_mx (E 0) (E 1) (E 2) (E 3) = pq_rx (E 0) (E 1) (E 2) (E 3) := Int32.toInt_inj.mp (by rw [pq_mxI, pq_rxI])
  unfold pq_mid
  rw [← h1, ← h2]
  rfl
theorem pq_r (f t g : Nat → Int32) : r_M_set f t g = if r_M_inside f = 0 then f else if f 2 = g 0 - 1 then (if 4 ≤ f 17 then upd f 11 (f 11 + pq_mid (t 0) (t 1) (t 2) (t 3)) else f) else f := rfl
theorem pq_k (F G E : Nat → Int32) : c_N_correctClock F G E = if c_N_isInside F = 0 then F else if F 4 = F 1 - 1 then (if c_D_areComplete G = 0 then F else upd F 14 (F 14 + c_D_middle E)) else F := rfl
set_option maxHeartbeats 4000000 in
set_option maxRecDepth 100000 in
theorem s_set {n k : Nat} {F G E f e t g : Nat → Int32} (hg : g 0 = nI n) (h : pr_N n k F G E f e t) : pr_N n k (c_N_correctClock F G E) G E (r_M_set f t g) e t := by
  obtain ⟨h0, h1, ht, hq, hu, hM, hD, e3, e4, e5, e7, e8, e9, e10, e11, e12, e13, e14, e15, e16, e17⟩ := h
  rw [pq_k, pq_r, pn_in e3, ← e4, hg, h1]
  by_cases a1 : c_N_isInside F = 0
  · rw [if_pos a1, if_pos a1]
    exact ⟨h0, h1, ht, hq, hu, hM, hD, e3, e4, e5, e7, e8, e9, e10, e11, e12, e13, e14, e15, e16, e17⟩
  · rw [if_neg a1, if_neg a1]
    by_cases a2 : F 4 = nI n - 1
    · rw [if_pos a2, if_pos a2]
      obtain ⟨cn, j, c1, c2, c3, c4, c5, c6, c7⟩ := hD
      have hD2 : pr_D G E (f 17) t := ⟨cn, j, c1, c2, c3, c4, c5, c6, c7⟩
      by_cases a3 : cn = 4
      · have q1 : ¬ c_D_areComplete G = 0 := by
          unfold c_D_areComplete
          rw [c3, a3]
          decide
        have q2 : (4 : Int32) ≤ f 17 := by
          rw [c4, a3]
          decide
        rw [if_neg q1, if_pos q2]
        have hmid : c_D_middle E = pq_mid (t 0) (t 1) (t 2) (t 3) := by
          obtain ⟨j1, j2⟩ := c7 a3
          rw [pq_c, j2 0 (by omega), j2 1 (by omega), j2 2 (by omega), j2 3 (by omega)]
          rcases (show j = 1 ∨ j = 2 ∨ j = 3 ∨ j = 4 by omega) with rfl | rfl | rfl | rfl
          · show _ = pq_mid (E 1) (E 2) (E 3) (E 0)
            exact (pq_rot (E 0) (E 1) (E 2) (E 3)).symm
          · show _ = pq_mid (E 2) (E 3) (E 0) (E 1)
            exact ((pq_rot (E 1) (E 2) (E 3) (E 0)).trans (pq_rot (E 0) (E 1) (E 2) (E 3))).symm
          · show _ = pq_mid (E 3) (E 0) (E 1) (E 2)
            exact ((pq_rot (E 2) (E 3) (E 0) (E 1)).trans ((pq_rot (E 1) (E 2) (E 3) (E 0)).trans (pq_rot (E 0) (E 1) (E 2) (E 3)))).symm
          · rfl
        exact ⟨h0, h1, ht, hq, hu, hM, hD2, e3, e4, e5, e7, e8, e9, e10, e11, e12, e13, (show F 14 + c_D_middle E = f 11 + pq_mid (t 0) (t 1) (t 2) (t 3) by rw [hmid, e14]), e15, e16, e17⟩
      · have q1 : c_D_areComplete G = 0 := by
          unfold c_D_areComplete
          rw [c3]
          exact if_neg (fun q => a3 ((nI_eq (b := 4) (by omega) (by decide)).mp q))
        have q2 : ¬ (4 : Int32) ≤ f 17 := by
          rw [c4]
          exact fun q => absurd ((nI_leI (a := 4) (by decide) (by omega)).mp q) (by omega)
        rw [if_pos q1, if_neg q2]
        exact ⟨h0, h1, ht, hq, hu, hM, hD2, e3, e4, e5, e7, e8, e9, e10, e11, e12, e13, e14, e15, e16, e17⟩
    · rw [if_neg a2, if_neg a2]
      exact ⟨h0, h1, ht, hq, hu, hM, hD, e3, e4, e5, e7, e8, e9, e10, e11, e12, e13, e14, e15, e16, e17⟩
/-- hearing: a sender that is struck out, a bad frame, a good one -/
theorem h_leave {n k u : Nat} (hn : n = 4 ∨ n = 5 ∨ n = 6) {F G E f e t : Nat → Int32} (h : pr_N n k F G E f e t) (hu : u < n) (v : Int32) (hv : v = nI u) : pr_N n k (c_N_leave F v) G E f (upd e u 0) t := by
  subst hv
  obtain ⟨h0, h1, ht, hq, hs, hM, hD, hr⟩ := h
  exact ⟨h0, h1, ht, hq, hs, pm_and hn hM hu, hD, hr⟩
theorem h_join {n k u : Nat} (hn : n = 4 ∨ n = 5 ∨ n = 6) {F G E f e t : Nat → Int32} (h : pr_N n k F G E f e t) (hu : u < n) (v : Int32) (hv : v = nI u) : pr_N n k (c_N_join F v) G E f (upd e u 1) t := by
  subst hv
  obtain ⟨h0, h1, ht, hq, hs, hM, hD, hr⟩ := h
  exact ⟨h0, h1, ht, hq, hs, pm_or hn hM hu, hD, hr⟩
theorem h_bad {n k u : Nat} (hn : n = 4 ∨ n = 5 ∨ n = 6) {F G E f e t : Nat → Int32} (h : pr_N n k F G E f e t) (hu : u < n) (hv : F 4 = nI u) : pr_N n k (upd (c_N_leave F (F 4)) 8 ((c_N_leave F (F 4)) 8 + 1)) G E (r_M_bad u f e).1 (r_M_bad u f e).2 t := by
  have h := h_leave hn h hu (F 4) hv
  obtain ⟨h0, h1, ht, hq, hu, hM, hD, e3, e4, e5, e7, e8, e9, e10, e11, e12, e13, e14, e15, e16, e17⟩ := h
  exact ⟨h0, h1, ht, hq, hu, hM, hD, e3, e4, e5, e7, (show F 8 + 1 = f 5 + 1 by rw [show F 8 = f 5 from e8]), e9, e10, e11, e12, e13, e14, e15, e16, e17⟩
theorem pd_keep {G E t : Nat → Int32} {c : Int32} {cn : Nat} (h : pr_D G E c t) (hc : c = nI cn) (hcl : cn ≤ 4) (x : Int32) : pr_D (c_D_keep G E x).1 (c_D_keep G E x).2 (if c = 4 then 4 else c + 1) (if c = 4 then (upd (upd (upd (upd t 0 (t 1)) 1 (t 2)) 2 (t 3)) 3 x) else upd t cn x) := by
  obtain ⟨cn', j, c1, c2, c3, c4, c5, c6, c7⟩ := h
  have hcc : cn' = cn := (nI_eq (by omega) (by omega)).mp (c4.symm.trans hc)
  subst hcc
  by_cases a : cn' = 4
  · have hc4 : c = 4 := by rw [hc, a]; rfl
    obtain ⟨j1, j2⟩ := c7 a
    rw [if_pos hc4, if_pos hc4]
    have hG1 : (4 : Int32) ≤ G 1 := by rw [c3, a]; decide
    unfold c_D_keep
    rcases (show j = 1 ∨ j = 2 ∨ j = 3 ∨ j = 4 by omega) with rfl | rfl | rfl | rfl
    · have hG2 : G 2 < 4 := by rw [c5]; decide
      simp only [if_pos hG2, if_pos hG1]
      have hcl2 : (G 2).toNatClampNeg = 1 := by rw [c5]; exact nI_clamp (by omega)
      rw [hcl2]
      refine ⟨4, 1 + 1, by omega, by omega, (show G 1 = nI 4 by rw [c3, a]), rfl, (show G 2 + 1 = nI (1 + 1) by rw [c5, nI_1]), fun h => absurd h (by omega), fun _ => ⟨by omega, fun d hd => ?_⟩⟩
      rcases (show d = 0 ∨ d = 1 ∨ d = 2 ∨ d = 3 by omega) with rfl | rfl | rfl | rfl
      · exact j2 1 (by omega)
      · exact j2 2 (by omega)
      · exact j2 3 (by omega)
      · rfl
    · have hG2 : G 2 < 4 := by rw [c5]; decide
      simp only [if_pos hG2, if_pos hG1]
      have hcl2 : (G 2).toNatClampNeg = 2 := by rw [c5]; exact nI_clamp (by omega)
      rw [hcl2]
      refine ⟨4, 2 + 1, by omega, by omega, (show G 1 = nI 4 by rw [c3, a]), rfl, (show G 2 + 1 = nI (2 + 1) by rw [c5, nI_1]), fun h => absurd h (by omega), fun _ => ⟨by omega, fun d hd => ?_⟩⟩
      rcases (show d = 0 ∨ d = 1 ∨ d = 2 ∨ d = 3 by omega) with rfl | rfl | rfl | rfl
      · exact j2 1 (by omega)
      · exact j2 2 (by omega)
      · exact j2 3 (by omega)
      · rfl
    · have hG2 : G 2 < 4 := by rw [c5]; decide
      simp only [if_pos hG2, if_pos hG1]
      have hcl2 : (G 2).toNatClampNeg = 3 := by rw [c5]; exact nI_clamp (by omega)
      rw [hcl2]
      refine ⟨4, 3 + 1, by omega, by omega, (show G 1 = nI 4 by rw [c3, a]), rfl, (show G 2 + 1 = nI (3 + 1) by rw [c5, nI_1]), fun h => absurd h (by omega), fun _ => ⟨by omega, fun d hd => ?_⟩⟩
      rcases (show d = 0 ∨ d = 1 ∨ d = 2 ∨ d = 3 by omega) with rfl | rfl | rfl | rfl
      · exact j2 1 (by omega)
      · exact j2 2 (by omega)
      · exact j2 3 (by omega)
      · rfl
    · have hG2 : ¬ G 2 < 4 := by rw [c5]; decide
      simp only [if_neg hG2, if_pos hG1]
      refine ⟨4, 1, by omega, by omega, (show G 1 = nI 4 by rw [c3, a]), rfl, rfl, fun h => absurd h (by omega), fun _ => ⟨by omega, fun d hd => ?_⟩⟩
      rcases (show d = 0 ∨ d = 1 ∨ d = 2 ∨ d = 3 by omega) with rfl | rfl | rfl | rfl
      · exact j2 1 (by omega)
      · exact j2 2 (by omega)
      · exact j2 3 (by omega)
      · rfl
  · have hc4 : ¬ c = 4 := by rw [hc]; exact fun q => a ((nI_eq (b := 4) (by omega) (by decide)).mp q)
    obtain ⟨j1, j2⟩ := c6 (by omega)
    subst j1
    rw [if_neg hc4, if_neg hc4]
    have hG1 : ¬ (4 : Int32) ≤ G 1 := by rw [c3]; exact fun q => absurd ((nI_leI (a := 4) (by decide) (by omega)).mp q) (by omega)
    have hG2 : G 2 < 4 := by rw [c5]; exact nI_lt (b := 4) (by omega) (by decide)
    unfold c_D_keep
    simp only [if_pos hG2, if_neg hG1]
    have hcl2 : (G 2).toNatClampNeg = j := by rw [c5]; exact nI_clamp (by omega)
    rw [hcl2]
    refine ⟨j + 1, j + 1, by omega, by omega, (show G 1 + 1 = nI (j + 1) by rw [c3, nI_1]), by rw [c4, nI_1], (show G 2 + 1 = nI (j + 1) by rw [c5, nI_1]), fun hlt => ⟨rfl, fun d hd => ?_⟩, fun heq => ⟨by omega, fun d hd => ?_⟩⟩
    · unfold upd
      by_cases hdj : d = j
      · rw [if_pos hdj, if_pos hdj]
      · rw [if_neg hdj, if_neg hdj]
        exact j2 d (by omega)
    · have hj3 : j = 3 := by omega
      subst hj3
      rcases (show d = 0 ∨ d = 1 ∨ d = 2 ∨ d = 3 by omega) with rfl | rfl | rfl | rfl
      · exact (j2 0 (by omega)).symm
      · exact (j2 1 (by omega)).symm
      · exact (j2 2 (by omega)).symm
      · rfl
