/-- what a node sends: nothing on both sides, or the same kind -/
def pr_S (a b mo : Int32) : Prop := (a = 0 ∧ b = 0) ∨ (b = 1 ∧ a = if mo = 2 then 2 else 3)
set_option maxHeartbeats 4000000 in
set_option maxRecDepth 100000 in
theorem s_own {n k : Nat} (hn : n = 4 ∨ n = 5 ∨ n = 6) (hk : k < n) {F G E f e t g : Nat → Int32} (hg : g 0 = nI n) (h : pr_N n k F G E f e t) (hs : F 18 = 0) (hs2 : f 25 = 0) : pr_N n k (c_N_takeOwnTurn F G).1 (c_N_takeOwnTurn F G).2 E (r_M_ownTurn k f e g).1 (r_M_ownTurn k f e g).2 t ∧ pr_S ((c_N_takeOwnTurn F G).1 18) ((r_M_ownTurn k f e g).1 25) ((r_M_ownTurn k f e g).1 1) := by
  obtain ⟨h0, h1, ht, hq, hu, hM, hD, e3, e4, e5, e7, e8, e9, e10, e11, e12, e13, e14, e15, e16, e17⟩ := h
  have hA : (if F 8 < F 7 then (upd (c_N_countAnew (c_N_join (upd F 3 3) (F 0)) 1) 18 3) else (upd F 3 5)) = (if F 8 < F 7 then (upd (c_N_countAnew (c_N_join (upd F 3 3) (F 0)) 1) 18 3) else (upd F 3 5)) := rfl
  unfold c_N_takeOwnTurn r_M_ownTurn
  rw [← e3, ← e7, ← e8]
  by_cases a1 : F 3 = 2 ∧ F 7 = 1 ∧ F 8 = 0
  · obtain ⟨b1, b2, b3⟩ := a1
    simp only [if_pos b1, if_pos b2, if_pos b3]
    exact ⟨⟨h0, h1, ht, hq, hu, hM, ⟨0, 0, by omega, by omega, rfl, rfl, rfl, fun _ => ⟨rfl, fun d hd => absurd hd (by omega)⟩, fun h => absurd h (by omega)⟩, rfl, e4, e5, e7, e8, (show 2 * F 1 + F 0 = 2 * g 0 + nI k by rw [h1, h0, hg]), rfl, e11, e12, e13, e14, e15, e16, e17⟩, Or.inl ⟨hs, hs2⟩⟩
  · have key : ∀ {α : Type} (x y : α), (if F 3 = 2 then (if F 7 = 1 then (if F 8 = 0 then x else y) else y) else y) = y := by
      intro α x y
      by_cases b1 : F 3 = 2
      · rw [if_pos b1]
        by_cases b2 : F 7 = 1
        · rw [if_pos b2, if_neg (fun b3 => a1 ⟨b1, b2, b3⟩)]
        · rw [if_neg b2]
      · rw [if_neg b1]
    simp only [key]
    by_cases b : F 8 < F 7
    · simp only [if_pos b]
      refine ⟨⟨h0, h1, ht, hq, hu, ?_, hD, rfl, e4, e5, rfl, rfl, e9, e10, e11, rfl, e13, e14, e15, e16, e17⟩, Or.inr ⟨rfl, rfl⟩⟩
      show pr_M n (F 6 ||| ((1 : Int32) <<< (F 0 &&& 31))) (upd e k 1)
      rw [h0]
      exact pm_or hn hM hk
    · simp only [if_neg b]
      exact ⟨⟨h0, h1, ht, hq, hu, hM, hD, rfl, e4, e5, e7, e8, e9, e10, e11, e12, e13, e14, e15, e16, e17⟩, Or.inl ⟨hs, hs2⟩⟩
set_option maxHeartbeats 4000000 in
set_option maxRecDepth 100000 in
theorem s_choose {n k : Nat} (hn : n = 4 ∨ n = 5 ∨ n = 6) (hk : k < n) {F G E f e t g : Nat → Int32} (hg : g 0 = nI n) (h : pr_N n k F G E f e t) : pr_N n k (c_N_chooseWhatToSend F G).1 (c_N_chooseWhatToSend F G).2 E (r_M_decide k f e g).1 (r_M_decide k f e g).2 t ∧ pr_S ((c_N_chooseWhatToSend F G).1 18) ((r_M_decide k f e g).1 25) ((r_M_decide k f e g).1 1) := by
  have hX : pr_N n k (upd F 18 0) G E (upd f 25 0) e t := by
    obtain ⟨h0, h1, ht, hq, hu, hM, hD, e3, e4, e5, e7, e8, e9, e10, e11, e12, e13, e14, e15, e16, e17⟩ := h
    exact ⟨h0, h1, ht, hq, hu, hM, hD, e3, e4, e5, e7, e8, e9, e10, e11, e12, e13, e14, e15, e16, e17⟩
  have hin : r_M_inside (upd f 25 0) = c_N_isInside (upd F 18 0) := by
    obtain ⟨h0, h1, ht, hq, hu, hM, hD, e3, e4, e5, e7, e8, e9, e10, e11, e12, e13, e14, e15, e16, e17⟩ := h
    exact pn_in e3
  have hown := s_own hn hk hg hX rfl rfl
  obtain ⟨h0, h1, ht, hq, hu, hM, hD, e3, e4, e5, e7, e8, e9, e10, e11, e12, e13, e14, e15, e16, e17⟩ := h
  unfold c_N_chooseWhatToSend r_M_decide
  rw [hin, ← e3, ← e9, ← e11, ← e4, h0]
  by_cases a1 : F 3 = 1
  · simp only [if_pos a1]
    have hl : c_N_listenOneSlot (upd F 18 0) = (if F 9 - 1 = 0 then (if F 11 = 0 then (upd (upd (upd F 18 0) 9 (F 9 - 1)) 3 5) else (upd (c_N_countAnew (upd (upd (upd (upd (upd (upd (upd F 18 0) 9 (F 9 - 1)) 11 (F 11 - 1)) 3 2) 4 (F 0)) 5 0) 6 ((1 : Int32) <<< ((F 0) &&& 31))) 0) 18 2)) else (upd (upd F 18 0) 9 (F 9 - 1))) := rfl
    rw [hl]
    by_cases a2 : F 9 - 1 = 0
    · simp only [if_pos a2]
      by_cases a3 : F 11 = 0
      · simp only [if_pos a3]
        exact ⟨⟨h0, h1, ht, hq, hu, hM, hD, rfl, e4, e5, e7, e8, (show F 9 - 1 = F 9 - 1 from rfl), e10, e11, e12, e13, e14, e15, e16, e17⟩, Or.inl ⟨rfl, rfl⟩⟩
      · simp only [if_neg a3]
        refine ⟨⟨h0, h1, ⟨k, hk, h0⟩, ⟨0, by omega, rfl⟩, hu, ?_, hD, rfl, h0, rfl, rfl, rfl, (show F 9 - 1 = F 9 - 1 from rfl), e10, (show F 11 - 1 = f 8 - 1 by rw [e11]), rfl, e13, e14, e15, e16, e17⟩, Or.inr ⟨rfl, rfl⟩⟩
        show pr_M n ((1 : Int32) <<< (F 0 &&& 31)) _
        rw [h0, pb_one k (by omega)]
        refine ⟨2 ^ k, Nat.pow_lt_pow_right (by decide) hk, rfl, fun m hm => ?_⟩
        rcases (show m = 0 ∨ m = 1 ∨ m = 2 ∨ m = 3 ∨ m = 4 ∨ m = 5 by omega) with rfl | rfl | rfl | rfl | rfl | rfl
        · exact pb_sa k (by omega) 0 (by decide)
        · exact pb_sa k (by omega) 1 (by decide)
        · exact pb_sa k (by omega) 2 (by decide)
        · exact pb_sa k (by omega) 3 (by decide)
        · exact pb_sa k (by omega) 4 (by decide)
        · exact pb_sa k (by omega) 5 (by decide)
    · simp only [if_neg a2]
      exact ⟨⟨h0, h1, ht, hq, hu, hM, hD, e3, e4, e5, e7, e8, (show F 9 - 1 = F 9 - 1 from rfl), e10, e11, e12, e13, e14, e15, e16, e17⟩, Or.inl ⟨rfl, rfl⟩⟩
  · simp only [if_neg a1]
    by_cases a2 : c_N_isInside (upd F 18 0) = 0
    · simp only [if_pos a2]
      exact ⟨⟨h0, h1, ht, hq, hu, hM, hD, e3, e4, e5, e7, e8, e9, e10, e11, e12, e13, e14, e15, e16, e17⟩, Or.inl ⟨rfl, rfl⟩⟩
    · simp only [if_neg a2]
      by_cases a3 : F 4 = nI k
      · simp only [if_pos a3]
        exact hown
      · simp only [if_neg a3]
        exact ⟨⟨h0, h1, ht, hq, hu, hM, hD, e3, e4, e5, e7, e8, e9, e10, e11, e12, e13, e14, e15, e16, e17⟩, Or.inl ⟨rfl, rfl⟩⟩
