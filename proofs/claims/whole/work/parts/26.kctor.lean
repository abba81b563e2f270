def kz_f (an : Nat → Nat) (i : Nat) : Nat → Option Nat := fun j => if j < i then some (an j) else none
def kz_t (ca : Nat → ClassId) : Nat → List (ClassId × FieldType)
  | 0 => []
  | i + 1 => kz_t ca i ++ [(ca i, .int)]
def kz_ns (n : Nat) (ca : Nat → ClassId) (an av al : Nat → Nat) : Nat → va_W
  | 0 => []
  | i + 1 => kz_ns n ca an av al i ++ [(an i, kz_N n i (av i)), (av i, kz_D (al i)), (al i, kz_L (ca i))]
theorem kz_up (g : Nat → Nat) {i j : Nat} (v : Nat) (h : j < i) : va_up g i v j = g j := if_neg (by omega)
theorem kz_t_up (ca : Nat → ClassId) (i : Nat) (v : ClassId) : ∀ j, j ≤ i → kz_t (va_up ca i v) j = kz_t ca j
  | 0, _ => rfl
  | j + 1, h => by
    show kz_t (va_up ca i v) j ++ [(va_up ca i v j, .int)] = kz_t ca j ++ [(ca j, .int)]
    rw [kz_t_up ca i v j (by omega), show va_up ca i v j = ca j from if_neg (by omega)]
theorem kz_ns_up (n : Nat) (ca : Nat → ClassId) (an av al : Nat → Nat) (i : Nat) (c : ClassId) (a b d : Nat) : ∀ j, j ≤ i → kz_ns n (va_up ca i c) (va_up an i a) (va_up av i b) (va_up al i d) j = kz_ns n ca an av al j
  | 0, _ => rfl
  | j + 1, h => by
    show kz_ns n (va_up ca i c) (va_up an i a) (va_up av i b) (va_up al i d) j ++ [(va_up an i a j, kz_N n j (va_up av i b j)), (va_up av i b j, kz_D (va_up al i d j)), (va_up al i d j, kz_L (va_up ca i c j))] = _
    rw [kz_ns_up n ca an av al i c a b d j (by omega), kz_up an a (show j < i by omega), kz_up av b (show j < i by omega), kz_up al d (show j < i by omega), show va_up ca i c j = ca j from if_neg (by omega)]
    rfl
theorem kz_ns_ca (n : Nat) (ca : Nat → ClassId) (c0 : ClassId) (an av al : Nat → Nat) : ∀ i, (∀ k, k < i → ca k = c0) → kz_ns n ca an av al i = kz_ns n (fun _ => c0) an av al i
  | 0, _ => rfl
  | i + 1, h => by
    show kz_ns n ca an av al i ++ [(an i, kz_N n i (av i)), (av i, kz_D (al i)), (al i, kz_L (ca i))] = kz_ns n (fun _ => c0) an av al i ++ [(an i, kz_N n i (av i)), (av i, kz_D (al i)), (al i, kz_L c0)]
    rw [kz_ns_ca n ca c0 an av al i (fun k hk => h k (by omega)), h i (by omega)]
theorem kz_f_up (an : Nat → Nat) (i a : Nat) : va_up (kz_f an i) i (some a) = kz_f (va_up an i a) (i + 1) := by
  funext j
  unfold va_up kz_f
  by_cases h1 : j = i
  · subst h1
    rw [if_pos rfl, if_pos (by omega)]
    show some a = some (if j = j then a else an j)
    rw [if_pos rfl]
  · rw [if_neg h1]
    by_cases h2 : j < i
    · rw [if_pos h2, if_pos (by omega)]
      show some (an j) = some (if j = i then a else an j)
      rw [if_neg h1]
    · rw [if_neg h2, if_neg (by omega)]
theorem yq_hd (W0 : va_W) (x : Nat × va_E) (r : va_W) : (W0 ++ x :: r)[W0.length]? = some x := by simp
section YE
variable {p : Program} {l : Launch} {e : Env} {R : Room} {s : State} {m : MethodId} {args : Array Value} {below : List Frame} {meth : Method} {c : Code} {Q : State → Prop}
variable {D : va_G} {cl : List vw_C} {tys tys' : List (ClassId × FieldType)} {A : Nat → Prop} {ws ws' : va_W} {nL : Nat}
variable {qc qs qc' qs' pc : Nat} {L : List (Nat × Value)} {st : List Value}
theorem yq_eqw (h1 : tys = tys') (h2 : ws = ws') (h3 : qc = qc') (h4 : qs = qs') (k : yq_W p l e R s m args below meth c D cl A tys' qc' qs' Q nL pc L st ws') : yq_W p l e R s m args below meth c D cl A tys qc qs Q nL pc L st ws := by
  subst h1; subst h2; subst h3; subst h4; exact k
end YE
set_option maxHeartbeats 4000000 in
set_option maxRecDepth 100000 in
theorem yl_C {p : Program} {l : Launch} {e : Env} {s : State} {m : MethodId} {args : Array Value} {below : List Frame} {meth : Method} {c : Code} {Q : State → Prop} {D : va_G} {A : Nat → Prop} (X : yq_C p s m args c A xw y_C_init.cls b_C_init 4) (n : Nat) (hn : n = 4 ∨ n = 5 ∨ n = 6) (x : Int32) (h0 qa : Nat) (cN : ClassId)
    (H : ∀ (ca : Nat → ClassId) (an av al : Nat → Nat), yq_W p l e ({ frames := 3, cells := 3 * n + 2, slots := 27 * n + 5, locals := 32 * 3 }) s m args below meth c D vcl A ((cN, .object "SlotCluster$Node") :: kz_t ca n) (1 + 3 * n) (n + 26 * n) Q 4 51 [(3, .int (nI n)), (2, .int (nI n)), (1, .int x), (0, .ref h0)] [] ((h0, .inr (0, [.ref qa, .null, .int 0])) :: (qa, .inl (cN, n, .inr (.inr (.inr (.inr (kz_f an n)))))) :: kz_ns n ca an av al n)) :
    ∀ (r i : Nat) (ca : Nat → ClassId) (an av al : Nat → Nat), i + r = n → yq_W p l e ({ frames := 3, cells := 3 * n + 2, slots := 27 * n + 5, locals := 32 * 3 }) s m args below meth c D vcl A ((cN, .object "SlotCluster$Node") :: kz_t ca i) (1 + 3 * i) (n + 26 * i) Q 4 25 [(3, .int (nI i)), (2, .int (nI n)), (1, .int x), (0, .ref h0)] [] ((h0, .inr (0, [.ref qa, .null, .int 0])) :: (qa, .inl (cN, n, .inr (.inr (.inr (.inr (kz_f an i)))))) :: kz_ns n ca an av al i) := by
  intro r
  induction r with
  | zero =>
    intro i ca an av al hi
    have hi : i = n := by omega
    subst hi
    have hge : nI i ≤ nI i := nI_le (Nat.le_refl _) (by omega)
    refine yq_iload_n X d_C_init_25 0 rfl rfl ?_
    refine yq_iload_n X d_C_init_26 1 rfl rfl ?_
    refine yq_icmp_ge X d_C_init_27 51 (by decide) (fun _ => ?_) (fun h => absurd hge h)
    exact H ca an av al
  | succ r ih =>
    intro i ca an av al hi
    have hlt : ¬ nI n ≤ nI i := nI_ge (by omega) (by omega)
    refine yq_iload_n X d_C_init_25 0 rfl rfl ?_
    refine yq_iload_n X d_C_init_26 1 rfl rfl ?_
    refine yq_icmp_ge X d_C_init_27 51 (by decide) (fun h => absurd h hlt) (fun _ => ?_)
    refine yq_aload_n X d_C_init_30 3 rfl rfl ?_
    refine yq_get X f_C_20 0 rfl rfl d_C_init_31 ?_
    refine yq_iload_n X d_C_init_34 0 rfl rfl ?_
    refine yq_new (ci := 3) (fs := [.int 0, .int 0, .null, .int 0, .int 0, .int 0, .int 0, .int 0, .int 0, .int 0, .int 0, .int 0, .int 0, .int 0, .int 0, .int 0, .int 0, .int 0, .int 0]) X rfl in_N ty_N tyo_N (xw_1 (i := 21) rfl rfl) (xw_1 (i := 23) rfl rfl) (xw_1 (i := 3) rfl rfl) (fun j hj => by rcases (show j = 0 ∨ j = 1 ∨ j = 2 ∨ j = 3 ∨ j = 4 ∨ j = 5 ∨ j = 6 ∨ j = 7 ∨ j = 8 ∨ j = 9 ∨ j = 10 ∨ j = 11 ∨ j = 12 ∨ j = 13 ∨ j = 14 ∨ j = 15 ∨ j = 16 ∨ j = 17 ∨ j = 18 by omega) with rfl | rfl | rfl | rfl | rfl | rfl | rfl | rfl | rfl | rfl | rfl | rfl | rfl | rfl | rfl | rfl | rfl | rfl | rfl <;> rfl) (by show 1 + 3 * i + 1 ≤ 3 * n + 2; omega) (by show n + 26 * i + 19 ≤ 27 * n + 5; omega) d_C_init_35 (fun q => ?_)
    refine yq_dup X d_C_init_38 rfl ?_
    refine yq_iload_n X d_C_init_39 0 rfl rfl ?_
    refine yq_iload_n X d_C_init_40 1 rfl rfl ?_
    refine yq_callI (n := 2) (As := [.int (nI i), .int (nI n)]) (rest := [.ref q, .int (nI i), .ref qa]) X xw_g (yt_N l D n i q) (xw_1 (i := 26) rfl rfl) (xw_1 (i := 24) rfl rfl) (xw_1 (i := 25) rfl rfl) (xw_1 (i := 3) rfl rfl) rfl (by decide +kernel) rfl ⟨Nat.le_of_ble_eq_true rfl, Nat.le_of_ble_eq_true rfl⟩ ⟨by show 1 + 3 * i + 1 + 2 ≤ 3 * n + 2; omega, by show n + 26 * i + 19 + 7 ≤ 27 * n + 5; omega⟩ (Nat.le_of_ble_eq_true rfl) rfl d_C_init_41 (fun tys1 w1 hp => ?_)
    obtain ⟨cA, qd, ql, rfl, rfl⟩ := hp
    refine yq_astq (cl := vcl) (tys := ((cN, .object "SlotCluster$Node") :: kz_t ca i) ++ [(cA, .int)]) (v := q) (r := (R_N, T_N, 19)) X 1 0 ((h0, .inr (0, [.ref qa, .null, .int 0])) :: (qa, .inl (cN, n, .inr (.inr (.inr (.inr (kz_f an i)))))) :: kz_ns n ca an av al i).length 3 rfl rfl (vs := [.int (nI i), .int (nI n), .ref qd, .int 0, .int 0, .int 0, .int 0, .int 0, .int 0, .int 0, .int 0, .int 0, .int 0, .int 0, .int 0, .int 0, .int 0, .int 0, .int 0]) (yq_hd _ _ _) rfl (vp_in_nI (show i < n by omega) (by omega)) rfl d_C_init_44 ?_
    refine yq_iinc X d_C_init_45 0 rfl [(3, .int (nI (i + 1))), (2, .int (nI n)), (1, .int x), (0, .ref h0)] rfl (nI_1 i) (by decide) ?_
    refine yq_goto X d_C_init_48 25 (by decide) ?_
    refine yq_eqw (tys' := ((cN, .object "SlotCluster$Node") :: kz_t (va_up ca i cA) (i + 1))) (ws' := ((h0, .inr (0, [.ref qa, .null, .int 0])) :: (qa, .inl (cN, n, .inr (.inr (.inr (.inr (kz_f (va_up an i q) (i + 1))))))) :: kz_ns n (va_up ca i cA) (va_up an i q) (va_up av i qd) (va_up al i ql) (i + 1))) (qc' := 1 + 3 * (i + 1)) (qs' := n + 26 * (i + 1)) ?_ ?_ (by omega) (by omega) (ih (i + 1) _ _ _ _ (by omega))
    · show (cN, .object "SlotCluster$Node") :: (kz_t ca i ++ [(cA, .int)]) = (cN, .object "SlotCluster$Node") :: (kz_t (va_up ca i cA) i ++ [(va_up ca i cA i, .int)])
      rw [kz_t_up ca i cA i (Nat.le_refl _), kc_us]
    · have hf := kz_f_up an i q
      show ((h0, _) :: (qa, .inl (cN, n, .inr (.inr (.inr (.inr (va_up (kz_f an i) (nI i).toNatClampNeg (some q))))))) :: (kz_ns n ca an av al i ++ [(q, kz_N n i qd), (qd, kz_D ql), (ql, kz_L cA)]) : va_W) = (h0, _) :: (qa, .inl (cN, n, .inr (.inr (.inr (.inr (kz_f (va_up an i q) (i + 1))))))) :: (kz_ns n (va_up ca i cA) (va_up an i q) (va_up av i qd) (va_up al i ql) i ++ [(va_up an i q i, kz_N n i (va_up av i qd i)), (va_up av i qd i, kz_D (va_up al i ql i)), (va_up al i ql i, kz_L (va_up ca i cA i))])
      rw [nI_clamp (by omega), hf, kz_ns_up n ca an av al i cA q qd ql i (Nat.le_refl _), kc_us, kc_us, kc_us, kc_us]
def kz_sz (x : Int32) : Int32 := km_max 4 (km_min 6 x)
def kz_B (n : Nat) : kc_B := (fun k j => if j = 0 then nI k else if j = 1 then nI n else 0, fun _ _ => 0, fun _ _ => 0, fun _ => 0, 0)
def kz_ad (h0 qa qw : Nat) (an av al : Nat → Nat) : xq_I → Nat := fun i => match i with
  | (0, _) => h0
  | (1, _) => qa
  | (2, _) => qw
  | (3, k) => an k
  | (4, k) => av k
  | (_, k) => al k
def kz_post (n h0 : Nat) (tys : List (ClassId × FieldType)) (w1 : va_W) : Prop := ∃ (cI cN : ClassId) (ad : xq_I → Nat), tys = [(cN, .object "SlotCluster$Node"), (cI, .int)] ∧ ad (0, 0) = h0 ∧ w1 = xq_w (kc_cs n) ad (kc_en n ad cI cN) (kz_B n)
set_option maxHeartbeats 4000000 in
set_option maxRecDepth 100000 in
theorem kz_fin (n : Nat) (hn : n = 4 ∨ n = 5 ∨ n = 6) (h0 qa qw : Nat) (cI cN : ClassId) (an av al : Nat → Nat) : (h0, Sum.inr (0, [Value.ref qa, .ref qw, .int 0])) :: (qa, .inl (cN, n, .inr (.inr (.inr (.inr (kz_f an n)))))) :: (kz_ns n (fun _ => cI) an av al n ++ [(qw, .inr (1, [.int 0, .int 0, .int 0, .int 0, .int 0]))]) = xq_w (kc_cs n) (kz_ad h0 qa qw an av al) (kc_en n (kz_ad h0 qa qw an av al) cI cN) (kz_B n) := by
  rcases hn with rfl | rfl | rfl <;> rfl
theorem kz_tca {s : State} {D : va_G} {cl : List vw_C} (t0 : ClassId × FieldType) (ca : Nat → ClassId) : ∀ n, va_K D cl (t0 :: kz_t ca n) s → ∀ k, k < n → va_RA s (ca k) .int
  | 0, _, k, h => absurd h (by omega)
  | n + 1, hK, k, h => by
    by_cases hk : k = n
    · subst hk
      exact (hK.2 (1 + (kz_t ca k).length) (ca k, .int) (by
        show (t0 :: (kz_t ca k ++ [(ca k, .int)]))[1 + (kz_t ca k).length]? = _
        rw [Nat.add_comm, List.getElem?_cons_succ]
        simp)).2
    · refine kz_tca t0 ca n ⟨hK.1, fun i x hx => hK.2 i x ?_⟩ k (by omega)
      show ((t0 :: kz_t ca n) ++ [(ca n, .int)])[i]? = _
      rw [List.getElem?_append_left (List.getElem?_eq_some_iff.mp hx).1]
      exact hx
set_option maxHeartbeats 4000000 in
set_option maxRecDepth 100000 in
theorem yt_C (l : Launch) (D : va_G) (x : Int32) (n : Nat) (hn : n = 4 ∨ n = 5 ∨ n = 6) (hx : kz_sz x = nI n) (h0 sz : Nat) : yq_M l D vcl y_C_init (Cond.code y_C_init b_C_init 4 none :: xw) 3 (3 * n + 2) (27 * n + 5) [.ref h0, .int x] [(h0, .inr (0, [.null, .null, .int 0]))] sz (fun U => va_AO "SlotCluster$Node" U) (kz_post n h0) := by
  refine yq_met (by decide) (Nat.le_of_ble_eq_true rfl) ?_
  intro p e s m args below meth c X hr hlo hm hov
  refine yq_sub [1, 0] [(1, .int x), (0, .ref h0)] rfl ?_
  refine yq_aload_n X d_C_init_0 1 rfl rfl ?_
  refine yq_obj X (xw_1 (i := 12) rfl rfl) o_i o_c (Nat.le_of_ble_eq_true rfl) (Nat.le_of_ble_eq_true rfl) d_C_init_1 ?_
  refine yq_iconst (v := 4) X d_C_init_4 (by decide) ?_
  refine yq_bipush (v := 6) X d_C_init_5 (by decide) ?_
  refine yq_iload_n X d_C_init_7 0 rfl rfl ?_
  refine yq_min (v := km_min 6 x) X m_C_9 m_min_s m_init m_min_c ⟨Nat.zero_le _, Nat.zero_le _⟩ (Nat.le_of_ble_eq_true rfl) (Nat.le_of_ble_eq_true rfl) rfl d_C_init_8 ?_
  refine yq_max (v := nI n) X m_C_15 m_max_s m_init m_max_c ⟨Nat.zero_le _, Nat.zero_le _⟩ (Nat.le_of_ble_eq_true rfl) (Nat.le_of_ble_eq_true rfl) hx d_C_init_11 ?_
  refine yq_istore_n X d_C_init_14 [(2, .int (nI n)), (1, .int x), (0, .ref h0)] rfl rfl (by decide) ?_
  refine yq_aload_n X d_C_init_15 2 rfl rfl ?_
  refine yq_iload_n X d_C_init_16 0 rfl rfl ?_
  refine yq_newq (N := n) X (xw_1 (i := 21) rfl rfl) hov (nI_pos (by omega)) (nI_clamp (by omega)) (by omega) (by show 0 + 1 ≤ 3 * n + 2; omega) (by show 0 + n ≤ 27 * n + 5; omega) d_C_init_17 (fun qa cN => ?_)
  refine yq_putF (ws' := [(h0, .inr (0, [.ref qa, .null, .int 0])), (qa, .inl (cN, n, .inr (.inr (.inr (.inr (fun _ => none))))))]) X f_C_20 T_C_ok (⟨_, _, _, rfl, rfl, rfl, by decide +kernel⟩ : yq_N vcl 0 0 y_C_init.cls (.array (.object "SlotCluster$Node"))) hm 0 rfl (by show 0 < 3; decide) rfl rfl rfl d_C_init_20 ?_
  refine yq_iconst (v := 0) X d_C_init_23 (by decide) ?_
  refine yq_istore_n X d_C_init_24 [(3, .int 0), (2, .int (nI n)), (1, .int x), (0, .ref h0)] rfl rfl (by decide) ?_
  refine yq_eqw (tys' := ((cN, .object "SlotCluster$Node") :: kz_t (fun _ => cN) 0)) (ws' := ((h0, .inr (0, [.ref qa, .null, .int 0])) :: (qa, .inl (cN, n, .inr (.inr (.inr (.inr (kz_f (fun _ => 0) 0)))))) :: kz_ns n (fun _ => cN) (fun _ => 0) (fun _ => 0) (fun _ => 0) 0)) (qc' := 1 + 3 * 0) (qs' := n + 26 * 0) rfl ?_ rfl (by omega) ?_
  · rw [show kz_f (fun _ => 0) 0 = (fun _ => none) from by funext j; exact if_neg (by omega)]
    rfl
  refine yl_C X n hn x h0 qa cN (fun ca an av al => ?_) n 0 _ _ _ _ (by omega)
  refine yq_aload_n X d_C_init_51 3 rfl rfl ?_
  refine yq_new (ci := 1) (fs := [.int 0, .int 0, .int 0, .int 0, .int 0]) X rfl in_W ty_W tyo_W (xw_1 (i := 121) rfl rfl) (xw_1 (i := 122) rfl rfl) (xw_1 (i := 5) rfl rfl) (fun j hj => by rcases (show j = 0 ∨ j = 1 ∨ j = 2 ∨ j = 3 ∨ j = 4 by omega) with rfl | rfl | rfl | rfl | rfl <;> rfl) (by show 1 + 3 * n + 1 ≤ 3 * n + 2; omega) (by show n + 26 * n + 5 ≤ 27 * n + 5; omega) d_C_init_52 (fun qw => ?_)
  refine yq_dup X d_C_init_55 rfl ?_
  refine yq_callI (n := 0) (As := []) (rest := [.ref qw, .ref h0]) X xw_g (yt_W l D qw) (xw_1 (i := 125) rfl rfl) (xw_1 (i := 123) rfl rfl) (xw_1 (i := 124) rfl rfl) (xw_1 (i := 5) rfl rfl) rfl (by decide +kernel) rfl ⟨Nat.le_of_ble_eq_true rfl, Nat.le_of_ble_eq_true rfl⟩ ⟨by show 1 + 3 * n + 1 + 0 ≤ 3 * n + 2; omega, by show n + 26 * n + 5 + 0 ≤ 27 * n + 5; omega⟩ (Nat.le_of_ble_eq_true rfl) rfl d_C_init_56 (fun tys1 w1 hp => ?_)
  obtain ⟨rfl, rfl⟩ := hp
  refine yq_putF X f_C_30 T_C_ok (⟨_, _, _, rfl, rfl, rfl, by decide +kernel⟩ : yq_N vcl 0 1 y_C_init.cls (.object "SlotCluster$Wire")) hm 0 rfl (by show 1 < 3; decide) rfl rfl rfl d_C_init_59 ?_
  refine yq_useK (fun hK => ?_)
  have hK0 : va_K D vcl ((cN, .object "SlotCluster$Node") :: kz_t ca n) s := ⟨hK.1, fun i x hx => hK.2 i x (by rw [List.getElem?_append_left (List.getElem?_eq_some_iff.mp hx).1]; exact hx)⟩
  have hca : ∀ k, k < n → ca k = ca 0 := fun k hk => Option.some.inj ((kz_tca _ ca n hK0 k hk).symm.trans (kz_tca _ ca n hK0 0 (by omega)))
  refine yq_ty [0, 1] (tys' := [(cN, .object "SlotCluster$Node"), (ca 0, .int)]) (by rcases hn with rfl | rfl | rfl <;> rfl) ?_
  refine yq_eqw (tys' := [(cN, .object "SlotCluster$Node"), (ca 0, .int)]) (ws' := xq_w (kc_cs n) (kz_ad h0 qa qw an av al) (kc_en n (kz_ad h0 qa qw an av al) (ca 0) cN) (kz_B n)) (qc' := 3 * n + 2) (qs' := 27 * n + 5) rfl ?_ (by omega) (by omega) ?_
  · rw [← kz_fin n hn h0 qa qw (ca 0) cN an av al, ← kz_ns_ca n ca (ca 0) an av al n hca]
    rfl
  · exact yq_vret (A0 := fun _ => True) X hr hlo ⟨ca 0, cN, _, rfl, rfl, rfl⟩ d_C_init_62
