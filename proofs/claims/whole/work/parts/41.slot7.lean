theorem kq_itd (ψ : kq_S) (B : kc_B) (k : Nat) : ∀ i, k < i → (xq_it (kq_st ψ) i B).1 k = (ψ (B.1 k) (B.2.1 k) (B.2.2.1 k) (xq_it (kq_st ψ) k B).2.2.2.1).1 ∧ (xq_it (kq_st ψ) i B).2.1 k = (ψ (B.1 k) (B.2.1 k) (B.2.2.1 k) (xq_it (kq_st ψ) k B).2.2.2.1).2.1 ∧ (xq_it (kq_st ψ) i B).2.2.1 k = (ψ (B.1 k) (B.2.1 k) (B.2.2.1 k) (xq_it (kq_st ψ) k B).2.2.2.1).2.2.1
  | 0, h => absurd h (by omega)
  | i + 1, h => by
    by_cases hi : k = i
    · subst hi
      obtain ⟨c1, c2, c3⟩ := kq_itc ψ B k k (Nat.le_refl _)
      refine ⟨(kc_us _ _ _).trans ?_, (kc_us _ _ _).trans ?_, (kc_us _ _ _).trans ?_⟩ <;> rw [c1, c2, c3]
    · obtain ⟨h1, h2, h3⟩ := kq_itd ψ B k i (by omega)
      exact ⟨(kc_un _ _ _ _ hi).trans h1, (kc_un _ _ _ _ hi).trans h2, (kc_un _ _ _ _ hi).trans h3⟩
theorem kq_itw (ψ : kq_S) (h : ∀ F G E w, (ψ F G E w).2.2.2 = w) (B : kc_B) : ∀ i, (xq_it (kq_st ψ) i B).2.2.2.1 = B.2.2.2.1
  | 0 => rfl
  | i + 1 => (h _ _ _ _).trans (kq_itw ψ h B i)
/-- a step at every node, on both sides -/
theorem st_map {n : Nat} (hn : n ≤ 6) {B : kc_B} {A : rc_A} (ψ : kq_S) (φ : rq_S) (h : ∀ k, k < n → pr_N n k (ψ (B.1 k) (B.2.1 k) (B.2.2.1 k) (xq_it (kq_st ψ) k B).2.2.2.1).1 (ψ (B.1 k) (B.2.1 k) (B.2.2.1 k) (xq_it (kq_st ψ) k B).2.2.2.1).2.1 (ψ (B.1 k) (B.2.1 k) (B.2.2.1 k) (xq_it (kq_st ψ) k B).2.2.2.1).2.2.1 (φ k (rq_F A k) (rq_E A k) (rq_T A k) (A 0) (A 24)).1 (φ k (rq_F A k) (rq_E A k) (rq_T A k) (A 0) (A 24)).2.1 (φ k (rq_F A k) (rq_E A k) (rq_T A k) (A 0) (A 24)).2.2) :
    ∀ k, k < n → pr_N n k ((xq_it (kq_st ψ) n B).1 k) ((xq_it (kq_st ψ) n B).2.1 k) ((xq_it (kq_st ψ) n B).2.2.1 k) (rq_F (xq_it (rq_st φ) n A) k) (rq_E (xq_it (rq_st φ) n A) k) (rq_T (xq_it (rq_st φ) n A) k) := by
  intro k hk
  obtain ⟨h1, h2, h3⟩ := kq_itd ψ B k n hk
  obtain ⟨g1, g2, g3⟩ := rq_itd φ A k n hk
  rw [h1, h2, h3]
  exact pr_congr hn g1 g2 g3 (h k hk)
theorem rq_gfF (A : rc_A) (g f : Nat → Int32) (k a : Nat) (h0 : a ≠ 0) (h1 : a ≠ 24) : rq_F (rq_gf A g f) k a = rq_F A k a := by
  unfold rq_F rq_gf
  rw [if_neg h0, if_neg h1]
theorem pr_gf {n k : Nat} (hn : n ≤ 6) {F G E : Nat → Int32} {A : rc_A} (g f : Nat → Int32) (h : pr_N n k F G E (rq_F A k) (rq_E A k) (rq_T A k)) : pr_N n k F G E (rq_F (rq_gf A g f) k) (rq_E (rq_gf A g f) k) (rq_T (rq_gf A g f) k) :=
  pr_congr hn (fun a h0 h1 _ _ => rq_gfF A g f k a h0 h1) (fun _ _ => rfl) (fun _ _ => rfl) h
/-- the wire while the nodes send -/
theorem sw_wire {n : Nat} (B : kc_B) (A : rc_A) (hz : ∀ k, k < n → ((c_N_chooseWhatToSend (B.1 k) (B.2.1 k)).1 18 = 0 ↔ A 25 k = 0)) : ∀ i, i ≤ n → ∃ c, c ≤ i ∧ rq_c A i = nI c ∧ (c = 0 → (xq_it (kq_st ks_send) i (kc_w B (c_W_fallSilent B.2.2.2.1))).2.2.2.1 0 = 0) ∧
    (c = 1 → ∃ s, s < i ∧ rq_d A i = nI s ∧ ¬ (c_N_chooseWhatToSend (B.1 s) (B.2.1 s)).1 18 = 0 ∧ (xq_it (kq_st ks_send) i (kc_w B (c_W_fallSilent B.2.2.2.1))).2.2.2.1 0 = (c_N_chooseWhatToSend (B.1 s) (B.2.1 s)).1 18 ∧ (xq_it (kq_st ks_send) i (kc_w B (c_W_fallSilent B.2.2.2.1))).2.2.2.1 1 = (c_N_chooseWhatToSend (B.1 s) (B.2.1 s)).1 0 ∧ (xq_it (kq_st ks_send) i (kc_w B (c_W_fallSilent B.2.2.2.1))).2.2.2.1 2 = (c_N_chooseWhatToSend (B.1 s) (B.2.1 s)).1 5 ∧ (xq_it (kq_st ks_send) i (kc_w B (c_W_fallSilent B.2.2.2.1))).2.2.2.1 3 = (c_N_chooseWhatToSend (B.1 s) (B.2.1 s)).1 6 ∧ (xq_it (kq_st ks_send) i (kc_w B (c_W_fallSilent B.2.2.2.1))).2.2.2.1 4 = (c_N_chooseWhatToSend (B.1 s) (B.2.1 s)).1 14) ∧
    (2 ≤ c → (xq_it (kq_st ks_send) i (kc_w B (c_W_fallSilent B.2.2.2.1))).2.2.2.1 0 = 1)
  | 0, _ => ⟨0, Nat.le_refl _, rfl, fun _ => rfl, fun h => absurd h (by omega), fun h => absurd h (by omega)⟩
  | i + 1, hi => by
    obtain ⟨c, c1, c2, c3, c4, c5⟩ := sw_wire B A hz i (by omega)
    have hi1 := (kq_itc ks_send (kc_w B (c_W_fallSilent B.2.2.2.1)) i i (Nat.le_refl _))
    have hW : (xq_it (kq_st ks_send) (i + 1) (kc_w B (c_W_fallSilent B.2.2.2.1))).2.2.2.1 = (if (c_N_chooseWhatToSend (B.1 i) (B.2.1 i)).1 18 = 0 then (xq_it (kq_st ks_send) i (kc_w B (c_W_fallSilent B.2.2.2.1))).2.2.2.1 else c_W_carry (c_N_chooseWhatToSend (B.1 i) (B.2.1 i)).1 (xq_it (kq_st ks_send) i (kc_w B (c_W_fallSilent B.2.2.2.1))).2.2.2.1) := by
      show (ks_send ((xq_it (kq_st ks_send) i (kc_w B (c_W_fallSilent B.2.2.2.1))).1 i) ((xq_it (kq_st ks_send) i (kc_w B (c_W_fallSilent B.2.2.2.1))).2.1 i) ((xq_it (kq_st ks_send) i (kc_w B (c_W_fallSilent B.2.2.2.1))).2.2.1 i) (xq_it (kq_st ks_send) i (kc_w B (c_W_fallSilent B.2.2.2.1))).2.2.2.1).2.2.2 = _
      rw [hi1.1, hi1.2.1]
      rfl
    rw [hW]
    generalize (xq_it (kq_st ks_send) i (kc_w B (c_W_fallSilent B.2.2.2.1))).2.2.2.1 = w at c3 c4 c5 ⊢
    by_cases a : (c_N_chooseWhatToSend (B.1 i) (B.2.1 i)).1 18 = 0
    · have a' : A 25 i = 0 := (hz i (by omega)).mp a
      rw [if_pos a]
      refine ⟨c, by omega, (if_pos a').trans c2, c3, fun h => ?_, c5⟩
      obtain ⟨s, s1, s2, s3⟩ := c4 h
      exact ⟨s, by omega, (if_pos a').trans s2, s3⟩
    · have a' : ¬ A 25 i = 0 := fun q => a ((hz i (by omega)).mpr q)
      rw [if_neg a]
      refine ⟨c + 1, by omega, (if_neg a').trans (by rw [c2, nI_1]), fun h => absurd h (by omega), fun h => ⟨i, by omega, if_neg a', a, ?_, rfl, rfl, rfl, rfl⟩, fun h => ?_⟩
      · show (if w 0 = 0 then (c_N_chooseWhatToSend (B.1 i) (B.2.1 i)).1 18 else 1) = _
        rw [if_pos (c3 (by omega))]
      · show (if w 0 = 0 then (c_N_chooseWhatToSend (B.1 i) (B.2.1 i)).1 18 else 1) = 1
        rw [if_neg]
        intro q
        by_cases h1 : c = 1
        · obtain ⟨s, s1, s2, s3, s4, s5⟩ := c4 h1
          exact s3 (s4.symm.trans q)
        · rw [c5 (by omega)] at q
          exact absurd q (by decide)
