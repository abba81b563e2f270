/-- what the class does with a verdict -/
def ph_t (F1 : Nat → Int32) (v : Int32) (G E w : Nat → Int32) : (Nat → Int32) × (Nat → Int32) × (Nat → Int32) := if v = 1 then ((upd (c_N_leave F1 (F1 4)) 8 (((c_N_leave F1 (F1 4)) 8) + 1)), G, E) else ((if v = 0 then (upd (c_N_join F1 (F1 4)) 7 (((c_N_join F1 (F1 4)) 7) + 1)) else (c_N_join F1 (F1 4))), (if v = 0 then (c_D_keep G E ((w 4) - ((c_N_join F1 (F1 4)) 14))).1 else G), (if v = 0 then (c_D_keep G E ((w 4) - ((c_N_join F1 (F1 4)) 14))).2 else E))
theorem ph_in (F G E w : Nat → Int32) (x : Int32) : c_N_hearInside F G E w x = if x = 0 then (c_N_leave F (F 4), G, E) else ph_t (if x = 3 then (if (c_N_isDue F w) = 0 then F else (c_N_compareMembers F (w 3)).1) else F) (if x = 3 then (if (c_N_isDue F w) = 0 then 1 else (c_N_compareMembers F (w 3)).2) else 1) G E w := rfl
theorem ph_1 (F1 G E w : Nat → Int32) : ph_t F1 1 G E w = ((upd (c_N_leave F1 (F1 4)) 8 (((c_N_leave F1 (F1 4)) 8) + 1)), G, E) := rfl
theorem ph_0 (F1 G E w : Nat → Int32) : ph_t F1 0 G E w = ((upd (c_N_join F1 (F1 4)) 7 (((c_N_join F1 (F1 4)) 7) + 1)), (c_D_keep G E ((w 4) - ((c_N_join F1 (F1 4)) 14))).1, (c_D_keep G E ((w 4) - ((c_N_join F1 (F1 4)) 14))).2) := rfl
theorem ph_2 (F1 G E w : Nat → Int32) : ph_t F1 2 G E w = (c_N_join F1 (F1 4), G, E) := rfl
abbrev pr_N3 (n k : Nat) (a b : (Nat → Int32) × (Nat → Int32) × (Nat → Int32)) : Prop := pr_N n k a.1 a.2.1 a.2.2 b.1 b.2.1 b.2.2
set_option maxHeartbeats 4000000 in
set_option maxRecDepth 100000 in
theorem h_cmp {n k u cn us : Nat} (hn : n = 4 ∨ n = 5 ∨ n = 6) (hk : k < n) {F G E f e t g fm w : Nat → Int32} (h : pr_N n k F G E f e t) (hu : u < n) (hv : F 4 = nI u) (hc : f 17 = nI cn) (hcl : cn ≤ 4) (hs : us < n) (hsv : F 13 = nI us) (hw : w 4 = g 23) (hW : pr_M n (w 3) fm) :
    pr_N3 n k (ph_t (c_N_compareMembers F (w 3)).1 (c_N_compareMembers F (w 3)).2 G E w) (r_M_compared k n u cn us f e t g fm) := by
  have hN := h
  obtain ⟨h0, h1, ht, hq, hu0, hM, hD, e3, e4, e5, e7, e8, e9, e10, e11, e12, e13, e14, e15, e16, e17⟩ := h
  have ft : f 2 = nI u := e4.symm.trans hv
  have M1 : r_M_matches n f e fm (f 10) = if w 3 = c_N_without (F 6 ||| ((1 : Int32) <<< (F 4 &&& 31))) (F 13) then 1 else 0 := by
    rw [← e13, hsv, hv]
    exact pm_match2 hn hM hW hu ft hs
  have M2 : r_M_matches n f e fm (nI k) = if w 3 = c_N_without (F 6 ||| ((1 : Int32) <<< (F 4 &&& 31))) (F 0) then 1 else 0 := by
    rw [h0, hv]
    exact pm_match2 hn hM hW hu ft hk
  have M0 : r_M_matches n f e fm (-1) = if w 3 = (F 6 ||| ((1 : Int32) <<< (F 4 &&& 31))) then 1 else 0 := by
    rw [hv]
    exact pm_match1 hn hM hW hu ft
  have hB := h_bad hn hN hu hv
  by_cases a : F 12 = 2
  · have a' : f 9 = 2 := e12.symm.trans a
    by_cases s1 : w 3 = c_N_without (F 6 ||| ((1 : Int32) <<< (F 4 &&& 31))) (F 13)
    · have hc1 : c_N_compareMembers F (w 3) = ((upd (upd (c_N_leave F (F 13)) 8 (((c_N_leave F (F 13)) 8) + 1)) 12 0), 0) := by
        unfold c_N_compareMembers c_N_settleDoubt
        simp only [if_pos a, if_pos s1]
      have hr1 : r_M_compared k n u cn us f e t g fm = r_M_good u cn (upd (upd f 5 (f 5 + 1)) 9 0) (upd e us 0) t g := by
        unfold r_M_compared
        simp only [if_pos a', M1, if_pos s1, if_neg pr_one]
      rw [hc1, hr1, ph_0]
      have q := h_leave hn hN hs (F 13) hsv
      have q2 : pr_N n k (upd (upd (c_N_leave F (F 13)) 8 (((c_N_leave F (F 13)) 8) + 1)) 12 0) G E (upd (upd f 5 (f 5 + 1)) 9 0) (upd e us 0) t := by
        obtain ⟨h0, h1, ht, hq, hu0, hM, hD, e3, e4, e5, e7, e8, e9, e10, e11, e12, e13, e14, e15, e16, e17⟩ := q
        exact ⟨h0, h1, ht, hq, hu0, hM, hD, e3, e4, e5, e7, (show F 8 + 1 = f 5 + 1 by rw [show F 8 = f 5 from e8]), e9, e10, e11, rfl, e13, e14, e15, e16, e17⟩
      exact h_good hn q2 hu hv hc hcl hw
    · by_cases s2 : w 3 = c_N_without (F 6 ||| ((1 : Int32) <<< (F 4 &&& 31))) (F 0)
      · have hc1 : c_N_compareMembers F (w 3) = ((upd (upd (upd (c_N_leave F (F 0)) 3 4) 7 (((c_N_leave F (F 0)) 7) + 1)) 12 0), 0) := by
          unfold c_N_compareMembers c_N_settleDoubt
          simp only [if_pos a, if_neg s1, if_pos s2]
        have hr1 : r_M_compared k n u cn us f e t g fm = r_M_good u cn (upd (upd (upd f 1 4) 4 (f 4 + 1)) 9 0) (upd e k 0) t g := by
          unfold r_M_compared
          simp only [if_pos a', M1, if_neg s1, M2, if_pos s2, if_neg pr_one, if_true]
        rw [hc1, hr1, ph_0]
        have q := h_leave hn hN hk (F 0) h0
        have q2 : pr_N n k (upd (upd (upd (c_N_leave F (F 0)) 3 4) 7 (((c_N_leave F (F 0)) 7) + 1)) 12 0) G E (upd (upd (upd f 1 4) 4 (f 4 + 1)) 9 0) (upd e k 0) t := by
          obtain ⟨h0, h1, ht, hq, hu0, hM, hD, e3, e4, e5, e7, e8, e9, e10, e11, e12, e13, e14, e15, e16, e17⟩ := q
          exact ⟨h0, h1, ht, hq, hu0, hM, hD, rfl, e4, e5, (show F 7 + 1 = f 4 + 1 by rw [show F 7 = f 4 from e7]), e8, e9, e10, e11, rfl, e13, e14, e15, e16, e17⟩
        exact h_good hn q2 hu hv hc hcl hw
      · have hc1 : c_N_compareMembers F (w 3) = (F, 1) := by
          unfold c_N_compareMembers c_N_settleDoubt
          simp only [if_pos a, if_neg s1, if_neg s2]
        have hr1 : r_M_compared k n u cn us f e t g fm = ((r_M_bad u f e).1, (r_M_bad u f e).2, t) := by
          unfold r_M_compared
          simp only [if_pos a', M1, if_neg s1, M2, if_neg s2, if_true]
        rw [hc1, hr1, ph_1]
        exact hB
  · have a' : ¬ f 9 = 2 := fun q => a (e12.trans q)
    by_cases s0 : w 3 = (F 6 ||| ((1 : Int32) <<< (F 4 &&& 31)))
    · have hc1 : c_N_compareMembers F (w 3) = ((upd F 12 0), 0) := by
        unfold c_N_compareMembers
        simp only [if_neg a, if_pos s0]
      have hr1 : r_M_compared k n u cn us f e t g fm = r_M_good u cn (upd f 9 0) e t g := by
        unfold r_M_compared
        simp only [if_neg a', M0, if_pos s0, if_neg pr_one]
      rw [hc1, hr1, ph_0]
      have q2 : pr_N n k (upd F 12 0) G E (upd f 9 0) e t := by
        exact ⟨h0, h1, ht, hq, hu0, hM, hD, e3, e4, e5, e7, e8, e9, e10, e11, rfl, e13, e14, e15, e16, e17⟩
      exact h_good hn q2 hu hv hc hcl hw
    · by_cases b : F 12 = 1
      · have b' : f 9 = 1 := e12.symm.trans b
        by_cases s2 : w 3 = c_N_without (F 6 ||| ((1 : Int32) <<< (F 4 &&& 31))) (F 0)
        · have hc1 : c_N_compareMembers F (w 3) = ((upd (upd F 12 2) 13 (F 4)), 2) := by
            unfold c_N_compareMembers
            simp only [if_neg a, if_neg s0, if_pos b, if_pos s2]
          have hr1 : r_M_compared k n u cn us f e t g fm = (upd (upd f 9 2) 10 (f 2), upd e u 1, t) := by
            unfold r_M_compared
            simp only [if_neg a', M0, if_neg s0, if_pos b', M2, if_pos s2, if_neg pr_one, if_true]
          rw [hc1, hr1, ph_2]
          have q2 : pr_N n k (upd (upd F 12 2) 13 (F 4)) G E (upd (upd f 9 2) 10 (f 2)) e t := by
            exact ⟨h0, h1, ht, hq, ⟨u, hu, hv⟩, hM, hD, e3, e4, e5, e7, e8, e9, e10, e11, rfl, e4, e14, e15, e16, e17⟩
          exact h_join hn q2 hu (F 4) hv
        · have hc1 : c_N_compareMembers F (w 3) = (F, 1) := by
            unfold c_N_compareMembers
            simp only [if_neg a, if_neg s0, if_pos b, if_neg s2]
          have hr1 : r_M_compared k n u cn us f e t g fm = ((r_M_bad u f e).1, (r_M_bad u f e).2, t) := by
            unfold r_M_compared
            simp only [if_neg a', M0, if_neg s0, if_pos b', M2, if_neg s2, if_true]
          rw [hc1, hr1, ph_1]
          exact hB
      · have b' : ¬ f 9 = 1 := fun q => b (e12.trans q)
        have hc1 : c_N_compareMembers F (w 3) = (F, 1) := by
          unfold c_N_compareMembers
          simp only [if_neg a, if_neg s0, if_neg b]
        have hr1 : r_M_compared k n u cn us f e t g fm = ((r_M_bad u f e).1, (r_M_bad u f e).2, t) := by
          unfold r_M_compared
          simp only [if_neg a', M0, if_neg s0, if_neg b', if_true]
        rw [hc1, hr1, ph_1]
        exact hB
/-- the wire behind gather, and the frame of the reference -/
def pr_W (n : Nat) (w g fm : Nat → Int32) : Prop := w 0 = g 19 ∧ (w 0 = 0 ∨ w 0 = 1 ∨ ((w 0 = 2 ∨ w 0 = 3) ∧ (∃ s, s < n ∧ w 1 = nI s) ∧ (∃ q, q ≤ 65535 ∧ w 2 = nI q) ∧ w 1 = g 21 ∧ w 2 = g 22 ∧ w 4 = g 23 ∧ pr_M n (w 3) fm))
theorem ph_due (F w : Nat → Int32) : c_N_isDue F w = if (w 1) = (F 4) then (if (w 2) = (F 5) then (if ((w 4) - (F 14)) < (-60) then 0 else (if 60 < ((w 4) - (F 14)) then 0 else 1)) else 0) else 0 := rfl
set_option maxHeartbeats 4000000 in
set_option maxRecDepth 100000 in
theorem h_in {n k u cn us : Nat} (hn : n = 4 ∨ n = 5 ∨ n = 6) (hk : k < n) {F G E f e t g fm w : Nat → Int32} (h : pr_N n k F G E f e t) (hu : u < n) (hv : F 4 = nI u) (hc : f 17 = nI cn) (hcl : cn ≤ 4) (hs : us < n) (hsv : F 13 = nI us) (x : Int32) (hx : x = 0 ∨ x = 1 ∨ x = 2 ∨ (x = 3 ∧ w 1 = g 21 ∧ w 2 = g 22 ∧ w 4 = g 23 ∧ pr_M n (w 3) fm)) :
    pr_N3 n k (c_N_hearInside F G E w x) (r_M_insides k n u cn us f e t g fm x) := by
  have hN := h
  have hB := h_bad hn hN hu hv
  obtain ⟨h0, h1, ht, hq, hu0, hM, hD, e3, e4, e5, e7, e8, e9, e10, e11, e12, e13, e14, e15, e16, e17⟩ := h
  rcases hx with rfl | rfl | rfl | ⟨rfl, w1, w2, w4, hW⟩
  · exact h_leave hn hN hu (F 4) hv
  · exact hB
  · exact hB
  · have hC := h_cmp (G := G) (E := E) (g := g) hn hk hN hu hv hc hcl hs hsv w4 hW
    rw [ph_in, ph_due]
    unfold r_M_insides
    rw [if_neg (by decide), w1, w2, w4, e4, e5, e14]
    by_cases a1 : g 21 = f 2
    · by_cases a2 : g 22 = f 3
      · by_cases a3 : g 23 - f 11 < (-60)
        · simp only [if_pos a1, if_pos a2, if_pos a3, if_true]
          exact hB
        · by_cases a4 : g 23 - f 11 ≤ 60
          · have a5 : ¬ 60 < g 23 - f 11 := by
              rw [Int32.lt_iff_toInt_lt]
              rw [Int32.le_iff_toInt_le] at a4
              omega
            simp only [if_pos a1, if_pos a2, if_neg a3, if_pos a4, if_neg a5, if_true, if_neg pr_one]
            exact hC
          · have a5 : 60 < g 23 - f 11 := by
              rw [Int32.lt_iff_toInt_lt]
              rw [Int32.le_iff_toInt_le] at a4
              omega
            simp only [if_pos a1, if_pos a2, if_neg a3, if_neg a4, if_pos a5, if_true]
            exact hB
      · simp only [if_pos a1, if_neg a2, if_true]
        exact hB
    · simp only [if_neg a1, if_true]
      exact hB
