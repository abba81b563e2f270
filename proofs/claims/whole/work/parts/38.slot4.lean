theorem h_goodeq (u cn : Nat) (f e t g : Nat → Int32) : r_M_good u cn f e t g = (if f 17 = 4 then (upd (upd (upd f 4 (f 4 + 1)) 17 3) 17 4, upd e u 1, upd (upd (upd (upd t 0 (t 1)) 1 (t 2)) 2 (t 3)) 3 (g 23 - f 11)) else (upd (upd f 4 (f 4 + 1)) 17 (f 17 + 1), upd e u 1, upd t cn (g 23 - f 11))) := rfl
set_option maxHeartbeats 4000000 in
set_option maxRecDepth 100000 in
theorem h_good {n k u cn : Nat} (hn : n = 4 ∨ n = 5 ∨ n = 6) {F G E f e t g w : Nat → Int32} (h : pr_N n k F G E f e t) (hu : u < n) (hv : F 4 = nI u) (hc : f 17 = nI cn) (hcl : cn ≤ 4) (hw : w 4 = g 23) :
    pr_N n k (upd (c_N_join F (F 4)) 7 ((c_N_join F (F 4)) 7 + 1)) (c_D_keep G E (w 4 - (c_N_join F (F 4)) 14)).1 (c_D_keep G E (w 4 - (c_N_join F (F 4)) 14)).2 (r_M_good u cn f e t g).1 (r_M_good u cn f e t g).2.1 (r_M_good u cn f e t g).2.2 := by
  have h := h_join hn h hu (F 4) hv
  obtain ⟨h0, h1, ht, hq, hu0, hM, hD, e3, e4, e5, e7, e8, e9, e10, e11, e12, e13, e14, e15, e16, e17⟩ := h
  have hx : w 4 - (c_N_join F (F 4)) 14 = g 23 - f 11 := by
    rw [hw, show (c_N_join F (F 4)) 14 = f 11 from e14]
  rw [hx, h_goodeq]
  have hK := pd_keep hD hc hcl (g 23 - f 11)
  by_cases a : f 17 = 4
  · rw [if_pos a] at hK ⊢
    rw [if_pos a] at hK
    exact ⟨h0, h1, ht, hq, hu0, hM, hK, e3, e4, e5, (show F 7 + 1 = f 4 + 1 by rw [show F 7 = f 4 from e7]), e8, e9, e10, e11, e12, e13, e14, e15, e16, e17⟩
  · rw [if_neg a] at hK ⊢
    rw [if_neg a] at hK
    exact ⟨h0, h1, ht, hq, hu0, hM, hK, e3, e4, e5, (show F 7 + 1 = f 4 + 1 by rw [show F 7 = f 4 from e7]), e8, e9, e10, e11, e12, e13, e14, e15, e16, e17⟩
/-- matches: all members of the frame are the node's own list, with the turn, without one -/
theorem rq_all (F E f : Nat → Int32) (y : Int32) : ∀ n, rq_s F E f y n = 1 ↔ ∀ m, m < n → rq_m F E y m = f m
  | 0 => ⟨fun _ m hm => absurd hm (by omega), fun _ => rfl⟩
  | n + 1 => by
    have ih := rq_all F E f y n
    show (if rq_s F E f y n = 0 then (0 : Int32) else if rq_m F E y n = f n then 1 else 0) = 1 ↔ _
    by_cases h1 : rq_s F E f y n = 0
    · rw [if_pos h1]
      refine ⟨fun q => absurd q (by decide), fun q => ?_⟩
      have := ih.mpr (fun m hm => q m (by omega))
      rw [this] at h1
      exact absurd h1 (by decide)
    · rw [if_neg h1]
      have h2 : rq_s F E f y n = 1 := (rq_s01 F E f y n).resolve_left h1
      by_cases h3 : rq_m F E y n = f n
      · rw [if_pos h3]
        refine ⟨fun _ m hm => ?_, fun _ => rfl⟩
        by_cases hmn : m = n
        · rw [hmn]; exact h3
        · exact ih.mp h2 m (by omega)
      · rw [if_neg h3]
        exact ⟨fun q => absurd q (by decide), fun q => absurd (q n (by omega)) h3⟩
/-- the list that matches compares: e with the turn u, and without v where v is given -/
theorem pm_mine {n u : Nat} (hn : n = 4 ∨ n = 5 ∨ n = 6) {F E : Nat → Int32} {x : Int32} (hM : pr_M n x E) (hu : u < n) (ht : F 2 = nI u) : (∀ m, m < n → rq_m F E (-1) m = upd E u 1 m) ∧ ∀ v, v < n → ∀ m, m < n → rq_m F E (nI v) m = upd (upd E u 1) v 0 m := by
  obtain ⟨mk, m1, m2, m3⟩ := hM
  have h01 : ∀ m, m < n → E m = 0 ∨ E m = 1 := by
    intro m hm
    rw [m3 m hm]
    split
    · exact Or.inr rfl
    · exact Or.inl rfl
  have hne : ∀ m, m < n → ¬ nI m = (-1 : Int32) := by
    intro m hm q
    have h6 : ∀ j, j < 6 → ¬ nI j = (-1 : Int32) := by decide
    exact h6 m (by omega) q
  refine ⟨fun m hm => ?_, fun v hv m hm => ?_⟩
  · unfold rq_m upd
    rw [ht, if_neg (hne m hm)]
    by_cases hmu : m = u
    · rw [hmu, if_pos rfl, if_pos rfl]
      split <;> rfl
    · rw [if_neg (fun q => hmu ((nI_eq (by omega) (by omega)).mp q)), if_neg hmu]
      rcases h01 m hm with q | q
      · rw [q, if_pos rfl]
      · rw [q, if_neg pr_one]
  · unfold rq_m upd
    rw [ht]
    by_cases hmv : m = v
    · rw [hmv, if_pos rfl, if_pos rfl]
      split
      · split <;> rfl
      · rfl
    · have hnv : ¬ nI m = nI v := fun q => hmv ((nI_eq (by omega) (by omega)).mp q)
      rw [if_neg hnv, if_neg hmv]
      by_cases hmu : m = u
      · rw [hmu, if_pos rfl, if_pos rfl]
        split <;> rfl
      · rw [if_neg (fun q => hmu ((nI_eq (by omega) (by omega)).mp q)), if_neg hmu]
        rcases h01 m hm with q | q
        · rw [q, if_pos rfl]
        · rw [q, if_neg pr_one]
/-- so matches says whether the class's two numbers are the same -/
theorem pm_match1 {n u : Nat} (hn : n = 4 ∨ n = 5 ∨ n = 6) {f e fm : Nat → Int32} {x y : Int32} (hM : pr_M n x e) (hF : pr_M n y fm) (hu : u < n) (ht : f 2 = nI u) : r_M_matches n f e fm (-1) = if y = (x ||| ((1 : Int32) <<< (nI u &&& 31))) then 1 else 0 := by
  have h1 := pm_or hn hM hu
  have h2 := pm_eq hn hF h1
  have h3 := rq_all f e fm (-1) n
  have h4 := (pm_mine hn hM hu ht).1
  have key : rq_s f e fm (-1) n = 1 ↔ y = (x ||| ((1 : Int32) <<< (nI u &&& 31))) := by
    rw [h3, h2]
    exact ⟨fun q m hm => ((h4 m hm).symm.trans (q m hm)).symm, fun q m hm => (h4 m hm).trans (q m hm).symm⟩
  unfold r_M_matches
  by_cases a : y = (x ||| ((1 : Int32) <<< (nI u &&& 31)))
  · rw [if_pos a]; exact key.mpr a
  · rw [if_neg a]
    exact (rq_s01 f e fm (-1) n).resolve_right (fun q => a (key.mp q))
theorem pm_match2 {n u v : Nat} (hn : n = 4 ∨ n = 5 ∨ n = 6) {f e fm : Nat → Int32} {x y : Int32} (hM : pr_M n x e) (hF : pr_M n y fm) (hu : u < n) (ht : f 2 = nI u) (hv : v < n) : r_M_matches n f e fm (nI v) = if y = c_N_without (x ||| ((1 : Int32) <<< (nI u &&& 31))) (nI v) then 1 else 0 := by
  have h1 := pm_and hn (pm_or hn hM hu) hv
  have h2 := pm_eq hn hF h1
  have h3 := rq_all f e fm (nI v) n
  have h4 := (pm_mine hn hM hu ht).2 v hv
  have key : rq_s f e fm (nI v) n = 1 ↔ y = c_N_without (x ||| ((1 : Int32) <<< (nI u &&& 31))) (nI v) := by
    rw [h3]
    refine Iff.trans ?_ h2.symm
    exact ⟨fun q m hm => ((h4 m hm).symm.trans (q m hm)).symm, fun q m hm => (h4 m hm).trans (q m hm).symm⟩
  unfold r_M_matches
  by_cases a : y = c_N_without (x ||| ((1 : Int32) <<< (nI u &&& 31))) (nI v)
  · rw [if_pos a]; exact key.mpr a
  · rw [if_neg a]
    exact (rq_s01 f e fm (nI v) n).resolve_right (fun q => a (key.mp q))
