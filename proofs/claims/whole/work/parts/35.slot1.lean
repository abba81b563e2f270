theorem pb_or : ∀ mk, mk < 64 → ∀ u, u < 6 → nI mk ||| ((1 : Int32) <<< (nI u &&& 31)) = nI (mk ||| 2 ^ u) := by decide +kernel
theorem pb_and : ∀ mk, mk < 64 → ∀ u, u < 6 → nI mk &&& (((1 : Int32) <<< (nI u &&& 31)) ^^^ (-1)) = nI (mk &&& (63 - 2 ^ u)) := by decide +kernel
theorem pb_one : ∀ u, u < 6 → (1 : Int32) <<< (nI u &&& 31) = nI (2 ^ u) := by decide +kernel
theorem pb_bits : ∀ mk, mk < 64 → ∀ u, u < 6 → ∀ m, m < 6 → (mk ||| 2 ^ u).testBit m = (mk.testBit m || decide (m = u)) ∧ (mk &&& (63 - 2 ^ u)).testBit m = (mk.testBit m && !decide (m = u)) := by decide +kernel
theorem pb_lt4 : ∀ mk, mk < 2 ^ 4 → ∀ u, u < 4 → mk ||| 2 ^ u < 2 ^ 4 ∧ mk &&& (63 - 2 ^ u) < 2 ^ 4 := by decide +kernel
theorem pb_lt5 : ∀ mk, mk < 2 ^ 5 → ∀ u, u < 5 → mk ||| 2 ^ u < 2 ^ 5 ∧ mk &&& (63 - 2 ^ u) < 2 ^ 5 := by decide +kernel
theorem pb_lt6 : ∀ mk, mk < 2 ^ 6 → ∀ u, u < 6 → mk ||| 2 ^ u < 2 ^ 6 ∧ mk &&& (63 - 2 ^ u) < 2 ^ 6 := by decide +kernel
theorem pb_lt {n mk u : Nat} (hn : n = 4 ∨ n = 5 ∨ n = 6) (h : mk < 2 ^ n) (hu : u < n) : mk ||| 2 ^ u < 2 ^ n ∧ mk &&& (63 - 2 ^ u) < 2 ^ n := by
  rcases hn with rfl | rfl | rfl
  · exact pb_lt4 mk h u hu
  · exact pb_lt5 mk h u hu
  · exact pb_lt6 mk h u hu
theorem pb_64 {n mk : Nat} (hn : n = 4 ∨ n = 5 ∨ n = 6) (h : mk < 2 ^ n) : mk < 64 := by
  rcases hn with rfl | rfl | rfl <;> omega
theorem pb_sa : ∀ k, k < 6 → ∀ m, m < 6 → ((if nI m = nI k then (1 : Int32) else 0) &&& 1) = if (2 ^ k).testBit m then 1 else 0 := by decide +kernel
theorem pm_or {n u : Nat} {x : Int32} {e : Nat → Int32} (hn : n = 4 ∨ n = 5 ∨ n = 6) (h : pr_M n x e) (hu : u < n) : pr_M n (x ||| ((1 : Int32) <<< (nI u &&& 31))) (upd e u 1) := by
  obtain ⟨mk, m1, m2, m3⟩ := h
  have h64 := pb_64 hn m1
  refine ⟨mk ||| 2 ^ u, (pb_lt hn m1 hu).1, by rw [m2]; exact pb_or mk h64 u (by omega), fun m hm => ?_⟩
  rw [(pb_bits mk h64 u (by omega) m (by omega)).1]
  unfold upd
  by_cases q : m = u
  · rw [if_pos q]
    simp [q]
  · rw [if_neg q, m3 m hm]
    simp [q]
theorem pm_and {n u : Nat} {x : Int32} {e : Nat → Int32} (hn : n = 4 ∨ n = 5 ∨ n = 6) (h : pr_M n x e) (hu : u < n) : pr_M n (x &&& (((1 : Int32) <<< (nI u &&& 31)) ^^^ (-1))) (upd e u 0) := by
  obtain ⟨mk, m1, m2, m3⟩ := h
  have h64 := pb_64 hn m1
  refine ⟨mk &&& (63 - 2 ^ u), (pb_lt hn m1 hu).2, by rw [m2]; exact pb_and mk h64 u (by omega), fun m hm => ?_⟩
  rw [(pb_bits mk h64 u (by omega) m (by omega)).2]
  unfold upd
  by_cases q : m = u
  · rw [if_pos q]
    simp [q]
  · rw [if_neg q, m3 m hm]
    simp [q]
theorem pb_ext : ∀ a, a < 64 → ∀ b, b < 64 → (∀ m, m < 6 → a.testBit m = b.testBit m) → a = b := by decide +kernel
theorem pb_hi4 : ∀ a, a < 2 ^ 4 → a.testBit 4 = false ∧ a.testBit 5 = false := by decide +kernel
theorem pb_hi5 : ∀ a, a < 2 ^ 5 → a.testBit 5 = false := by decide +kernel
theorem pm_eq {n : Nat} {x y : Int32} {e e' : Nat → Int32} (hn : n = 4 ∨ n = 5 ∨ n = 6) (h : pr_M n x e) (h' : pr_M n y e') : x = y ↔ ∀ m, m < n → e m = e' m := by
  obtain ⟨a, a1, a2, a3⟩ := h
  obtain ⟨b, b1, b2, b3⟩ := h'
  have ha := pb_64 hn a1
  have hb := pb_64 hn b1
  rw [a2, b2, nI_eq (by omega) (by omega)]
  constructor
  · intro q m hm
    rw [a3 m hm, b3 m hm, q]
  · intro q
    have hq : ∀ m, m < n → a.testBit m = b.testBit m := by
      intro m hm
      have := q m hm
      rw [a3 m hm, b3 m hm] at this
      cases ha' : a.testBit m <;> cases hb' : b.testBit m
      · rfl
      · rw [ha', hb'] at this; exact absurd this (by decide)
      · rw [ha', hb'] at this; exact absurd this (by decide)
      · rfl
    refine pb_ext a ha b hb (fun m hm => ?_)
    rcases hn with rfl | rfl | rfl
    · by_cases h4 : m < 4
      · exact hq m h4
      · rcases (show m = 4 ∨ m = 5 by omega) with rfl | rfl
        · rw [(pb_hi4 a a1).1, (pb_hi4 b b1).1]
        · rw [(pb_hi4 a a1).2, (pb_hi4 b b1).2]
    · by_cases h4 : m < 5
      · exact hq m h4
      · rcases (show m = 5 by omega) with rfl
        rw [pb_hi5 a a1, pb_hi5 b b1]
    · exact hq m hm
/-- the clocks go on -/
theorem ps_turn : ∀ n, n < 7 → ∀ u, u < n → (if nI u = nI n - 1 then (0 : Int32) else nI u + 1) = nI (if u + 1 = n then 0 else u + 1) := by decide +kernel
theorem ps_time {u : Nat} (h : u ≤ 65535) : (if nI u = 65535 then (0 : Int32) else nI u + 1) = nI (if u = 65535 then 0 else u + 1) := by
  by_cases q : u = 65535
  · subst q
    show (if nI 65535 = 65535 then (0 : Int32) else nI 65535 + 1) = nI 0
    exact if_pos rfl
  · rw [if_neg q, if_neg, nI_1]
    intro z
    exact q ((nI_eq (b := 65535) (by omega) (by decide)).mp z)
theorem pc_move (F : Nat → Int32) : c_N_moveClock F = if F 3 = 0 then F else if c_N_isInside F = 0 then upd F 14 (F 14 + F 15) else upd (upd (upd F 14 (F 14 + F 15)) 4 (if F 4 = F 1 - 1 then 0 else F 4 + 1)) 5 (if F 5 = 65535 then 0 else F 5 + 1) := rfl
theorem pc_goOn (f g : Nat → Int32) : r_M_goOn f g = if r_M_inside f = 0 then upd f 11 (if f 1 = 0 then f 11 else f 11 + f 12) else upd (upd (upd f 11 (if f 1 = 0 then f 11 else f 11 + f 12)) 2 (if f 2 = g 0 - 1 then 0 else f 2 + 1)) 3 (if f 3 = 65535 then 0 else f 3 + 1) := rfl
theorem pn_in {F f : Nat → Int32} (e3 : F 3 = f 1) : r_M_inside f = c_N_isInside F := by
  unfold r_M_inside c_N_isInside
  rw [e3]
set_option maxHeartbeats 4000000 in
set_option maxRecDepth 100000 in
theorem s_move {n k : Nat} (hn : n = 4 ∨ n = 5 ∨ n = 6) {F G E f e t g : Nat → Int32} (hg : g 0 = nI n) (h : pr_N n k F G E f e t) : pr_N n k (c_N_moveClock F) G E (r_M_goOn f g) e t := by
  obtain ⟨h0, h1, ht, hq, hu, hM, hD, e3, e4, e5, e7, e8, e9, e10, e11, e12, e13, e14, e15, e16, e17⟩ := h
  rw [pc_move, pc_goOn, pn_in e3, ← e3]
  by_cases z : F 3 = 0
  · have hi : c_N_isInside F = 0 := by
      unfold c_N_isInside
      rw [z]
      decide
    rw [if_pos z, if_pos hi, if_pos z]
    exact ⟨h0, h1, ht, hq, hu, hM, hD, e3, e4, e5, e7, e8, e9, e10, e11, e12, e13, (e14 : F 14 = f 11), e15, e16, e17⟩
  · rw [if_neg z, if_neg z]
    by_cases hi : c_N_isInside F = 0
    · rw [if_pos hi, if_pos hi]
      exact ⟨h0, h1, ht, hq, hu, hM, hD, e3, e4, e5, e7, e8, e9, e10, e11, e12, e13, (show F 14 + F 15 = f 11 + f 12 by rw [e14, e15]), e15, e16, e17⟩
    · rw [if_neg hi, if_neg hi]
      obtain ⟨u, u1, u2⟩ := ht
      obtain ⟨v, v1, v2⟩ := hq
      exact ⟨h0, h1, ⟨_, (show (if u + 1 = n then 0 else u + 1) < n by split <;> omega), (show (if F 4 = F 1 - 1 then (0 : Int32) else F 4 + 1) = _ by rw [u2, h1]; exact ps_turn n (by omega) u u1)⟩, ⟨_, (show (if v = 65535 then 0 else v + 1) ≤ 65535 by split <;> omega), (show (if F 5 = 65535 then (0 : Int32) else F 5 + 1) = _ by rw [v2]; exact ps_time v1)⟩, hu, hM, hD, e3, (show (if F 4 = F 1 - 1 then (0 : Int32) else F 4 + 1) = (if f 2 = g 0 - 1 then 0 else f 2 + 1) by rw [← e4, h1, hg]), (show (if F 5 = 65535 then (0 : Int32) else F 5 + 1) = (if f 3 = 65535 then 0 else f 3 + 1) by rw [← e5]), e7, e8, e9, e10, e11, e12, e13, (show F 14 + F 15 = f 11 + f 12 by rw [e14, e15]), e15, e16, e17⟩
