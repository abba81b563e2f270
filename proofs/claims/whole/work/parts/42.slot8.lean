theorem st_lt6 {m : Nat} (h : m < 6) : m = 0 ∨ m = 1 ∨ m = 2 ∨ m = 3 ∨ m = 4 ∨ m = 5 := by omega
theorem rq_oFa {A : rc_A} {k j a : Nat} {F E T g f : Nat → Int32} (h : j ≠ k) (h0 : a ≠ 0) (h1 : a ≠ 24) (h2 : a ≠ 15) (h3 : a ≠ 16) : rq_F (rc_ov A k F E T g f) j a = rq_F A j a := by
  unfold rq_F
  rw [if_neg h2, if_neg h3, if_neg h2, if_neg h3, rc_n h0 h1 h2 h3]
  exact kc_un _ _ _ _ h
theorem sw_bus {w : Nat → Int32} : (w 0 = 0 → kq_bus w = -1) ∧ (w 0 = 1 → kq_bus w = -2) ∧ (w 0 = 2 → kq_bus w = w 1) ∧ (w 0 = 3 → kq_bus w = w 1 + 8) := by
  unfold kq_bus
  refine ⟨fun h => ?_, fun h => ?_, fun h => ?_, fun h => ?_⟩
  · rw [h, if_neg (by decide), if_neg (by decide), if_neg (by decide)]
  · rw [h, if_pos rfl]
  · rw [h, if_neg (by decide), if_pos rfl]
  · rw [h, if_neg (by decide), if_neg (by decide), if_pos rfl]
theorem sw_has {w : Nat → Int32} : (w 0 = 0 → c_W_hasFrame w = 0) ∧ (w 0 = 1 → c_W_hasFrame w = 0) ∧ (w 0 = 2 → c_W_hasFrame w = 1) ∧ (w 0 = 3 → c_W_hasFrame w = 1) := by
  unfold c_W_hasFrame
  refine ⟨fun h => ?_, fun h => ?_, fun h => ?_, fun h => ?_⟩ <;> rw [h] <;> decide
theorem sw_g1 (s : Nat) (f e g fm : Nat → Int32) (h : f 13 = 0) : r_M_gat1 s f e g fm = (f, upd (upd (upd (upd g 19 (if f 1 = 2 then (2 : Int32) else 3)) 22 (f 3)) 23 (f 11)) 20 (if (if f 1 = 2 then (2 : Int32) else 3) = 0 then (-1) else (if (if f 1 = 2 then (2 : Int32) else 3) = 1 then (-2) else (if (if f 1 = 2 then (2 : Int32) else 3) = 2 then (nI s) else ((nI s) + 8)))), upd (upd (upd (upd (upd (upd fm 0 ((e 0) &&& 1)) 1 ((e 1) &&& 1)) 2 ((e 2) &&& 1)) 3 ((e 3) &&& 1)) 4 ((e 4) &&& 1)) 5 ((e 5) &&& 1)) := if_pos h
theorem sw_g2 (s : Nat) (f e g fm : Nat → Int32) (h : ¬ f 13 = 0) : r_M_gat1 s f e g fm = (upd f 13 0, upd (upd (upd (upd (upd g 19 (if f 1 = 2 then (2 : Int32) else 3)) 19 0) 22 (f 3)) 23 (f 11)) 20 (-1), upd (upd (upd (upd (upd (upd fm 0 ((e 0) &&& 1)) 1 ((e 1) &&& 1)) 2 ((e 2) &&& 1)) 3 ((e 3) &&& 1)) 4 ((e 4) &&& 1)) 5 ((e 5) &&& 1)) := if_neg h
theorem sw_l (F w : Nat → Int32) : c_C_lose_yes F w = (if F 16 = 0 then F else upd F 16 0, if F 16 = 0 then w else upd w 0 0) := rfl
set_option maxHeartbeats 4000000 in
set_option maxRecDepth 100000 in
theorem st_gather {n : Nat} (hn : n = 4 ∨ n = 5 ∨ n = 6) (B : kc_B) (A : rc_A) (hN : ∀ k, k < n → pr_N n k ((kq_send n B).1 k) ((kq_send n B).2.1 k) ((kq_send n B).2.2.1 k) (rq_F A k) (rq_E A k) (rq_T A k)) (hS : ∀ k, k < n → pr_S ((c_N_chooseWhatToSend (B.1 k) (B.2.1 k)).1 18) (A 25 k) (A 1 k)) :
    (¬ c_W_hasFrame (kq_send n B).2.2.2.1 = 0 → ∃ k, k < n ∧ (kq_send n B).2.2.2.1 1 = nI k) ∧ pr_W n (kq_lose (kq_send n B)).2.2.2.1 ((rq_gat n A) 0) ((rq_gat n A) 24) ∧ kq_bus (kq_lose (kq_send n B)).2.2.2.1 = (rq_gat n A) 0 20 ∧ (rq_gat n A) 0 18 = A 0 18 ∧ (kq_lose (kq_send n B)).2.2.2.2 = (kq_send n B).2.2.2.2 ∧ (∃ u, u < 4 ∧ (rq_gat n A) 0 19 = nI u) ∧ ∀ k, k < n → pr_N n k ((kq_lose (kq_send n B)).1 k) ((kq_lose (kq_send n B)).2.1 k) ((kq_lose (kq_send n B)).2.2.1 k) (rq_F (rq_gat n A) k) (rq_E (rq_gat n A) k) (rq_T (rq_gat n A) k) ∧ ((kq_lose (kq_send n B)).1 k 18 = 0 ↔ rq_F (rq_gat n A) k 25 = 0) := by
  have h6 : n ≤ 6 := by rcases hn with rfl | rfl | rfl <;> decide
  have h31 : ∀ {k : Nat}, k ≤ n → k < 2 ^ 31 := fun hk => Nat.lt_of_le_of_lt (Nat.le_trans hk h6) (by decide)
  have hz : ∀ k, k < n → ((c_N_chooseWhatToSend (B.1 k) (B.2.1 k)).1 18 = 0 ↔ A 25 k = 0) := by
    intro k hk
    rcases hS k hk with ⟨q1, q2⟩ | ⟨q1, q2⟩
    · exact ⟨fun _ => q2, fun _ => q1⟩
    · refine ⟨fun q => ?_, fun q => ?_⟩
      · rw [q2] at q
        by_cases h2 : A 1 k = 2
        · rw [if_pos h2] at q; exact absurd q (by decide)
        · rw [if_neg h2] at q; exact absurd q (by decide)
      · rw [q1] at q; exact absurd q (by decide)
  have hF : ∀ k, k < n → (kq_send n B).1 k = (c_N_chooseWhatToSend (B.1 k) (B.2.1 k)).1 := fun k hk => (kq_itd ks_send (kc_w B (c_W_fallSilent B.2.2.2.1)) k n hk).1
  have hz2 : ∀ k, k < n → ((kq_send n B).1 k 18 = 0 ↔ rq_F A k 25 = 0) := fun k hk => by rw [hF k hk]; exact hz k hk
  obtain ⟨c, c1, c2, c3, c4, c5⟩ := sw_wire B A hz n (Nat.le_refl _)
  change c = 0 → (kq_send n B).2.2.2.1 0 = 0 at c3
  change 2 ≤ c → (kq_send n B).2.2.2.1 0 = 1 at c5
  rcases (show c = 0 ∨ c = 1 ∨ 2 ≤ c from by clear c3 c4 c5 hN hS; omega) with hc | hc | hc
  · have w0 := c3 hc
    have hf := sw_has.1 w0
    have hB : kq_lose (kq_send n B) = kq_send n B := if_pos hf
    have hA : rq_gat n A = rq_gf A (r_M_gat0 (upd (A 0) 21 (rq_d A n))) (A 24) := if_pos (by rw [c2, hc]; rfl)
    rw [hB, hA]
    exact ⟨fun q => absurd hf q, ⟨w0, Or.inl w0⟩, sw_bus.1 w0, rfl, rfl, ⟨0, by decide, rfl⟩, fun k hk => ⟨pr_gf h6 _ _ (hN k hk), hz2 k hk⟩⟩
  · obtain ⟨s, s1, s2, s3, w0, w1, w2, w3, w4⟩ := c4 hc
    change (kq_send n B).2.2.2.1 0 = _ at w0
    change (kq_send n B).2.2.2.1 1 = _ at w1
    change (kq_send n B).2.2.2.1 2 = _ at w2
    change (kq_send n B).2.2.2.1 3 = _ at w3
    change (kq_send n B).2.2.2.1 4 = _ at w4
    rw [← hF s s1] at w0 w1 w2 w3 w4 s3
    have hNs := hN s s1
    have hNs0 := hNs
    obtain ⟨h0, h1, ht, hq, hu, hM, hD, e3, e4, e5, e7, e8, e9, e10, e11, e12, e13, e14, e15, e16, e17⟩ := hNs
    have k18 : (kq_send n B).1 s 18 = (if rq_F A s 1 = 2 then (2 : Int32) else 3) := by
      rcases hS s s1 with ⟨q1, q2⟩ | ⟨q1, q2⟩
      · rw [← hF s s1] at q1; exact absurd q1 s3
      · rw [← hF s s1] at q2; exact q2
    have wk : (kq_send n B).2.2.2.1 0 = (if rq_F A s 1 = 2 then (2 : Int32) else 3) := w0.trans k18
    have w23 : (kq_send n B).2.2.2.1 0 = 2 ∨ (kq_send n B).2.2.2.1 0 = 3 := by
      rw [wk]
      split
      · exact Or.inl rfl
      · exact Or.inr rfl
    have hf : ¬ c_W_hasFrame (kq_send n B).2.2.2.1 = 0 := by
      rcases w23 with q | q
      · rw [sw_has.2.2.1 q]; exact pr_one
      · rw [sw_has.2.2.2 q]; exact pr_one
    have w1' : (kq_send n B).2.2.2.1 1 = nI s := w1.trans h0
    have hsc : ((kq_send n B).2.2.2.1 1).toNatClampNeg = s := by rw [w1', nI_clamp (h31 (Nat.le_of_lt s1))]
    have hsd : (rq_d A n).toNatClampNeg = s := by rw [s2, nI_clamp (h31 (Nat.le_of_lt s1))]
    have hB : kq_lose (kq_send n B) = kc_ov (kq_send n B) s (c_C_lose_yes ((kq_send n B).1 s) (kq_send n B).2.2.2.1).1 ((kq_send n B).2.1 s) ((kq_send n B).2.2.1 s) (c_C_lose_yes ((kq_send n B).1 s) (kq_send n B).2.2.2.1).2 := by
      have q : kq_lose (kq_send n B) = _ := if_neg hf
      rw [hsc] at q
      exact q
    have hA : rq_gat n A = rc_ov A s (r_M_gat1 s (rq_F A s) (rq_E A s) (upd (A 0) 21 (rq_d A n)) (A 24)).1 (rq_E A s) (rq_T A s) (r_M_gat1 s (rq_F A s) (rq_E A s) (upd (A 0) 21 (rq_d A n)) (A 24)).2.1 (r_M_gat1 s (rq_F A s) (rq_E A s) (upd (A 0) 21 (rq_d A n)) (A 24)).2.2 := by
      have q : rq_gat n A = _ := (if_neg (by rw [c2, hc]; exact pr_one)).trans (if_pos (by rw [c2, hc]; rfl))
      rw [hsd] at q
      exact q
    refine ⟨fun _ => ⟨s, s1, w1'⟩, ?_⟩
    by_cases hm : (kq_send n B).1 s 16 = 0
    · have hm' : rq_F A s 13 = 0 := e16.symm.trans hm
      have hB2 : kq_lose (kq_send n B) = kq_send n B := by
        rw [hB, sw_l, if_pos hm, if_pos hm]
        exact (kc_self (kq_send n B) s).symm
      have hA2 : rq_gat n A = rq_gf A (upd (upd (upd (upd (upd (A 0) 21 (rq_d A n)) 19 (if rq_F A s 1 = 2 then (2 : Int32) else 3)) 22 (rq_F A s 3)) 23 (rq_F A s 11)) 20 (if (if rq_F A s 1 = 2 then (2 : Int32) else 3) = 0 then (-1) else (if (if rq_F A s 1 = 2 then (2 : Int32) else 3) = 1 then (-2) else (if (if rq_F A s 1 = 2 then (2 : Int32) else 3) = 2 then (nI s) else ((nI s) + 8))))) (upd (upd (upd (upd (upd (upd (A 24) 0 ((rq_E A s 0) &&& 1)) 1 ((rq_E A s 1) &&& 1)) 2 ((rq_E A s 2) &&& 1)) 3 ((rq_E A s 3) &&& 1)) 4 ((rq_E A s 4) &&& 1)) 5 ((rq_E A s 5) &&& 1)) := by
        rw [hA, sw_g1 _ _ _ _ _ hm']
        exact rq_at_eq A s _ _
      rw [hB2, hA2]
      refine ⟨⟨wk, Or.inr (Or.inr ⟨w23, ⟨s, s1, w1'⟩, ?_, w1'.trans s2.symm, w2.trans e5, w4.trans e14, ?_⟩)⟩, ?_, rfl, rfl, ?_, fun k hk => ⟨pr_gf h6 _ _ (hN k hk), hz2 k hk⟩⟩
      · obtain ⟨q, q1, q2⟩ := hq
        exact ⟨q, q1, w2.trans q2⟩
      · rw [w3]
        exact pm_cp hn hM (fun m hm => by rcases (st_lt6 hm) with rfl | rfl | rfl | rfl | rfl | rfl <;> rfl)
      · show kq_bus (kq_send n B).2.2.2.1 = (if (if rq_F A s 1 = 2 then (2 : Int32) else 3) = 0 then (-1) else (if (if rq_F A s 1 = 2 then (2 : Int32) else 3) = 1 then (-2) else (if (if rq_F A s 1 = 2 then (2 : Int32) else 3) = 2 then (nI s) else ((nI s) + 8))))
        rw [← wk]
        rcases w23 with q | q
        · rw [sw_bus.2.2.1 q, q, w1', if_neg (by decide), if_neg (by decide), if_pos rfl]
        · rw [sw_bus.2.2.2 q, q, w1', if_neg (by decide), if_neg (by decide), if_neg (by decide)]
      · show ∃ u, u < 4 ∧ (if rq_F A s 1 = 2 then (2 : Int32) else 3) = nI u
        split
        · exact ⟨2, by decide, rfl⟩
        · exact ⟨3, by decide, rfl⟩
    · have hm' : ¬ rq_F A s 13 = 0 := fun q => hm (e16.trans q)
      have hB2 : kq_lose (kq_send n B) = kc_ov (kq_send n B) s (upd ((kq_send n B).1 s) 16 0) ((kq_send n B).2.1 s) ((kq_send n B).2.2.1 s) (upd (kq_send n B).2.2.2.1 0 0) := by
        rw [hB, sw_l, if_neg hm, if_neg hm]
      have hA2 : rq_gat n A = rc_ov A s (upd (rq_F A s) 13 0) (rq_E A s) (rq_T A s) (upd (upd (upd (upd (upd (upd (A 0) 21 (rq_d A n)) 19 (if rq_F A s 1 = 2 then (2 : Int32) else 3)) 19 0) 22 (rq_F A s 3)) 23 (rq_F A s 11)) 20 (-1)) (upd (upd (upd (upd (upd (upd (A 24) 0 ((rq_E A s 0) &&& 1)) 1 ((rq_E A s 1) &&& 1)) 2 ((rq_E A s 2) &&& 1)) 3 ((rq_E A s 3) &&& 1)) 4 ((rq_E A s 4) &&& 1)) 5 ((rq_E A s 5) &&& 1)) := by
        rw [hA, sw_g2 _ _ _ _ _ hm']
      rw [hB2, hA2]
      refine ⟨⟨rfl, Or.inl rfl⟩, sw_bus.1 rfl, rfl, rfl, ⟨0, by decide, rfl⟩, fun k hk => ?_⟩
      by_cases hks : k = s
      · subst hks
        show pr_N n k (va_up (kq_send n B).1 k _ k) (va_up (kq_send n B).2.1 k _ k) (va_up (kq_send n B).2.2.1 k _ k) _ _ _ ∧ (va_up (kq_send n B).1 k _ k 18 = 0 ↔ _)
        rw [kc_us, kc_us, kc_us]
        refine ⟨pr_congr h6 (fun a g0 g1 g2 g3 => rq_sF g0 g1 g2 g3) (fun m hm => rq_sE hm) (fun d hd => rq_sT hd) ⟨h0, h1, ht, hq, hu, hM, hD, e3, e4, e5, e7, e8, e9, e10, e11, e12, e13, e14, e15, rfl, e17⟩, ?_⟩
        rw [rq_sF (by decide) (by decide) (by decide) (by decide)]
        exact hz2 k hk
      · show pr_N n k (va_up (kq_send n B).1 s _ k) (va_up (kq_send n B).2.1 s _ k) (va_up (kq_send n B).2.2.1 s _ k) _ _ _ ∧ (va_up (kq_send n B).1 s _ k 18 = 0 ↔ _)
        rw [kc_un _ _ _ _ hks, kc_un _ _ _ _ hks, kc_un _ _ _ _ hks]
        refine ⟨pr_congr h6 (fun a g0 g1 g2 g3 => rq_oFa hks g0 g1 g2 g3) (fun m hm => by rw [rq_oE hks]) (fun d hd => by rw [rq_oT hks]) (hN k hk), ?_⟩
        rw [rq_oFa hks (by decide) (by decide) (by decide) (by decide)]
        exact hz2 k hk
  · have w0 := c5 hc
    have hf := sw_has.2.1 w0
    have hB : kq_lose (kq_send n B) = kq_send n B := if_pos hf
    have n0 : ¬ rq_c A n = 0 := by rw [c2]; exact nI_ne0 (Nat.lt_of_lt_of_le (by decide) hc) (h31 c1)
    have n1 : ¬ rq_c A n = 1 := by rw [c2]; exact fun q => absurd ((nI_eq (b := 1) (h31 c1) (by decide)).mp q) (fun e => absurd (e ▸ hc) (by decide))
    have hA : rq_gat n A = rq_gf A (r_M_gat2 (upd (A 0) 21 (rq_d A n)) (rq_c A n)) (A 24) := (if_neg n0).trans (if_neg n1)
    rw [hB, hA]
    exact ⟨fun q => absurd hf q, ⟨w0, Or.inr (Or.inl w0)⟩, sw_bus.2.1 w0, rfl, rfl, ⟨1, by decide, rfl⟩, fun k hk => ⟨pr_gf h6 _ _ (hN k hk), hz2 k hk⟩⟩
