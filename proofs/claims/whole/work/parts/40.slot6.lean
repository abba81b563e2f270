theorem pm_cp {n : Nat} (hn : n = 4 ∨ n = 5 ∨ n = 6) {x : Int32} {fm e : Nat → Int32} (h : pr_M n x fm) (he : ∀ m, m < 6 → e m = fm m &&& 1) : pr_M n x e := by
  obtain ⟨mk, m1, m2, m3⟩ := h
  refine ⟨mk, m1, m2, fun m hm => ?_⟩
  rw [he m (by omega), m3 m hm]
  split <;> rfl
set_option maxHeartbeats 4000000 in
set_option maxRecDepth 100000 in
theorem h_come {n k : Nat} (hn : n = 4 ∨ n = 5 ∨ n = 6) {F G E f e t g fm w : Nat → Int32} (h : pr_N n k F G E f e t) (ws : ∃ s, s < n ∧ w 1 = nI s) (wq : ∃ q, q ≤ 65535 ∧ w 2 = nI q) (w1 : w 1 = g 21) (w2 : w 2 = g 22) (w4 : w 4 = g 23) (hW : pr_M n (w 3) fm) : pr_N n k (c_N_comeIn F w) G E (r_M_comeIn f e g fm).1 (r_M_comeIn f e g fm).2 t := by
  obtain ⟨h0, h1, ht, hq, hu, hM, hD, e3, e4, e5, e7, e8, e9, e10, e11, e12, e13, e14, e15, e16, e17⟩ := h
  refine ⟨h0, h1, ws, wq, hu, ?_, hD, rfl, w1, w2, rfl, rfl, e9, e10, e11, rfl, e13, w4, e15, e16, e17⟩
  exact pm_cp hn hW (fun m hm => by rcases (show m = 0 ∨ m = 1 ∨ m = 2 ∨ m = 3 ∨ m = 4 ∨ m = 5 by omega) with rfl | rfl | rfl | rfl | rfl | rfl <;> rfl)
theorem h_lis1 (F w : Nat → Int32) (x : Int32) : c_N_hearListening F w x = if x = 3 then c_N_comeIn F w else if x = 2 then (if F 10 = 0 then c_N_listenLong (upd F 10 1) else c_N_comeIn F w) else F := rfl
theorem h_lis2 (k : Nat) (f e g fm : Nat → Int32) (x : Int32) : r_M_listens k f e g fm x = (if x = 3 then (r_M_comeIn f e g fm).1 else if x = 2 then (if f 7 = 0 then upd (upd f 7 1) 6 (2 * g 0 + nI k) else (r_M_comeIn f e g fm).1) else f, if x = 3 then (r_M_comeIn f e g fm).2 else if x = 2 then (if f 7 = 0 then e else (r_M_comeIn f e g fm).2) else e) := rfl
set_option maxHeartbeats 4000000 in
set_option maxRecDepth 100000 in
theorem h_lis {n k : Nat} (hn : n = 4 ∨ n = 5 ∨ n = 6) {F G E f e t g fm w : Nat → Int32} (hg : g 0 = nI n) (h : pr_N n k F G E f e t) (x : Int32) (hx : (x = 0 ∨ x = 1 ∨ ((x = 2 ∨ x = 3) ∧ (∃ s, s < n ∧ w 1 = nI s) ∧ (∃ q, q ≤ 65535 ∧ w 2 = nI q) ∧ w 1 = g 21 ∧ w 2 = g 22 ∧ w 4 = g 23 ∧ pr_M n (w 3) fm))) : pr_N n k (c_N_hearListening F w x) G E (r_M_listens k f e g fm x).1 (r_M_listens k f e g fm x).2 t := by
  have hN := h
  rcases hx with rfl | rfl | ⟨hx, ws, wq, w1, w2, w4, hW⟩
  · exact h
  · exact h
  · have hc := h_come hn hN ws wq w1 w2 w4 hW
    obtain ⟨h0, h1, ht, hq, hu, hM, hD, e3, e4, e5, e7, e8, e9, e10, e11, e12, e13, e14, e15, e16, e17⟩ := h
    rw [h_lis1, h_lis2]
    rcases hx with rfl | rfl
    · by_cases a : F 10 = 0
      · have a' : f 7 = 0 := e10.symm.trans a
        simp only [if_pos a, if_pos a']
        exact ⟨h0, h1, ht, hq, hu, hM, hD, e3, e4, e5, e7, e8, (show 2 * F 1 + F 0 = 2 * g 0 + nI k by rw [h1, h0, hg]), rfl, e11, e12, e13, e14, e15, e16, e17⟩
      · have a' : ¬ f 7 = 0 := fun q => a (e10.trans q)
        simp only [if_neg a, if_neg a']
        exact hc
    · exact hc
theorem h_kind (F w : Nat → Int32) : c_N_kindHeard F w = if F 17 = 0 then (F, w 0) else if w 0 = 0 then (F, w 0) else (upd F 17 0, 1) := rfl
set_option maxHeartbeats 4000000 in
set_option maxRecDepth 100000 in
theorem s_hear {n k : Nat} (hn : n = 4 ∨ n = 5 ∨ n = 6) (hk : k < n) {F G E f e t g fm w : Nat → Int32} (hg : g 0 = nI n) (h : pr_N n k F G E f e t) (hW : pr_W n w g fm) (hS : F 18 = 0 ↔ f 25 = 0) :
    pr_N n k (ks_hear F G E w).1 (ks_hear F G E w).2.1 (ks_hear F G E w).2.2.1 (ps_hear n k f e t g fm).1 (ps_hear n k f e t g fm).2.1 (ps_hear n k f e t g fm).2.2 := by
  have hN := h
  have hN2 : pr_N n k (upd F 17 0) G E (upd f 14 0) e t := by
    obtain ⟨h0, h1, ht, hq, hu, hM, hD, e3, e4, e5, e7, e8, e9, e10, e11, e12, e13, e14, e15, e16, e17⟩ := h
    exact ⟨h0, h1, ht, hq, hu, hM, hD, e3, e4, e5, e7, e8, e9, e10, e11, e12, e13, e14, e15, e16, rfl⟩
  obtain ⟨h0, h1, ht, hq, hu, hM, hD, e3, e4, e5, e7, e8, e9, e10, e11, e12, e13, e14, e15, e16, e17⟩ := h
  obtain ⟨u, u1, u2⟩ := ht
  obtain ⟨us, us1, us2⟩ := hu
  obtain ⟨cn, j, c1, c2, c3, c4, c5, c6, c7⟩ := hD
  have t1 : (f 2).toNatClampNeg = u := by rw [← e4, u2, nI_clamp (by omega)]
  have t2 : (f 17).toNatClampNeg = cn := by rw [c4, nI_clamp (by omega)]
  have t3 : (f 10).toNatClampNeg = us := by rw [← e13, us2, nI_clamp (by omega)]
  unfold ps_hear
  rw [t1, t2, t3]
  obtain ⟨w0, hw⟩ := hW
  have hx0 : (w 0 = 0 ∨ w 0 = 1 ∨ ((w 0 = 2 ∨ w 0 = 3) ∧ (∃ s, s < n ∧ w 1 = nI s) ∧ (∃ q, q ≤ 65535 ∧ w 2 = nI q) ∧ w 1 = g 21 ∧ w 2 = g 22 ∧ w 4 = g 23 ∧ pr_M n (w 3) fm)) := hw
  have hx1 : ∀ x : Int32, (x = 0 ∨ x = 1 ∨ ((x = 2 ∨ x = 3) ∧ (∃ s, s < n ∧ w 1 = nI s) ∧ (∃ q, q ≤ 65535 ∧ w 2 = nI q) ∧ w 1 = g 21 ∧ w 2 = g 22 ∧ w 4 = g 23 ∧ pr_M n (w 3) fm)) → (x = 0 ∨ x = 1 ∨ x = 2 ∨ (x = 3 ∧ w 1 = g 21 ∧ w 2 = g 22 ∧ w 4 = g 23 ∧ pr_M n (w 3) fm)) := by
    intro x hx
    rcases hx with q | q | ⟨q | q, -, -, q1, q2, q3, q4⟩
    · exact Or.inl q
    · exact Or.inr (Or.inl q)
    · exact Or.inr (Or.inr (Or.inl q))
    · exact Or.inr (Or.inr (Or.inr ⟨q, q1, q2, q3, q4⟩))
  unfold ks_hear r_M_hear
  rw [h_kind, ← e3, pn_in e3, ← w0, ← e17]
  by_cases a0 : F 18 = 0
  · simp only [if_pos a0, if_pos (hS.mp a0)]
    by_cases a1 : F 3 = 1
    · simp only [if_pos a1]
      by_cases b1 : w 0 = 0
      · have hl := h_lis (G := G) (E := E) (g := g) (fm := fm) (w := w) hn hg hN (w 0) hx0
        by_cases b2 : F 17 = 0
        · simp only [if_pos b1, if_pos b2]
          exact hl
        · simp only [if_pos b1, if_neg b2]
          exact hl
      · by_cases b2 : F 17 = 0
        · simp only [if_neg b1, if_pos b2]
          exact h_lis hn hg hN (w 0) hx0
        · simp only [if_neg b1, if_neg b2]
          exact h_lis hn hg hN2 1 (Or.inr (Or.inl rfl))
    · simp only [if_neg a1]
      by_cases a2 : c_N_isInside F = 0
      · simp only [if_pos a2]
        exact hN
      · simp only [if_neg a2]
        by_cases b1 : w 0 = 0
        · have hl := h_in (G := G) (E := E) (g := g) (fm := fm) (w := w) hn hk hN u1 u2 c4 c1 us1 us2 (w 0) (hx1 _ hx0)
          by_cases b2 : F 17 = 0
          · simp only [if_pos b1, if_pos b2]
            exact hl
          · simp only [if_pos b1, if_neg b2]
            exact hl
        · by_cases b2 : F 17 = 0
          · simp only [if_neg b1, if_pos b2]
            exact h_in hn hk hN u1 u2 c4 c1 us1 us2 (w 0) (hx1 _ hx0)
          · simp only [if_neg b1, if_neg b2]
            exact h_in hn hk hN2 u1 u2 c4 c1 us1 us2 1 (Or.inr (Or.inl rfl))
  · simp only [if_neg a0, if_neg (fun q => a0 (hS.mpr q))]
    exact hN
theorem s_hearw (F G E w : Nat → Int32) : (ks_hear F G E w).2.2.2 = w := by
  unfold ks_hear
  split
  · split
    · rfl
    · split <;> rfl
  · rfl
