theorem lq_gt {Ls i : Nat} (hL : Ls ≤ 1537) (hi : i < 5000) : (nI Ls - 3 < nI i ↔ Ls < i + 3) := by
  rw [Int32.lt_iff_toInt_lt, show (3 : Int32) = nI 3 from rfl, pk_sub_toInt (by omega) (by omega), nI_toInt (by omega)]
  omega
set_option maxHeartbeats 4000000 in
set_option maxRecDepth 100000 in
theorem ll_loop {p : Program} {l : Launch} {e : Env} {s : State} {m : MethodId} {below : List Frame} {meth : Method} {c : Code} {Q : State → Prop} {D : va_G} {n : Nat} {ad : xq_I → Nat} {cI cZ cN : ClassId} {qc qs b Ls : Nat} {xs : Nat → Int32} (X : xq_C p s m #[Value.ref b] meth c D vcl (kc_tys cI cZ cN) (lq_cs n) ad xw R_L b_L_law 4 (some .boolean)) (hX : va_X b Ls xs s s.heap) (hbl : b < s.heap.size) (hbA : ¬ xq_in (lq_cs n) ad b) (hcs : qc ≤ room_1.cells ∧ qs ≤ room_1.slots) (hLs : Ls ≤ 1537) {Rel : Nat → kc_B → rc_A → Prop} (ho : lo_nodes l D n ad cI cZ cN (Rel n) ∧ lo_on l D n ad cI cZ cN (Rel n) ∧ lo_off l D n ad cI cZ cN (Rel n) ∧ lo_thaw l D n ad cI cZ cN (Rel n) ∧ lo_mute l D n ad cI cZ cN (Rel n) ∧ lo_deafen l D n ad cI cZ cN (Rel n) ∧ lo_shift l D n ad cI cZ cN (Rel n) ∧ lo_run l D n ad cI cZ cN (Rel n) ∧ lo_slots l D n ad cI cZ cN (Rel n) ∧ lo_bus l D n ad cI cZ cN (Rel n) ∧ lo_mode l D n ad cI cZ cN (Rel n) ∧ lo_members l D n ad cI cZ cN (Rel n) ∧ lo_time l D n ad cI cZ cN (Rel n) ∧ lo_counts l D n ad cI cZ cN (Rel n) ∧ lo_patience l D n ad cI cZ cN (Rel n) ∧ lo_gap l D n ad cI cZ cN (Rel n) ∧ lo_united l D n ad cI cZ cN (Rel n))
    (K : ∀ (i : Nat) (B : kc_B) (A : rc_A), xq_W p l e room_1 s m #[Value.ref b] below meth c D vcl (lq_cs n) ad (lq_en n ad cI cZ cN) qc qs Q 4 511 [(3, .int (nI i)), (2, .ref (ad (6, 0))), (1, .ref (ad (0, 0))), (0, .ref b)] [] (B, A)) :
    ∀ (r i : Nat) (B : kc_B) (A : rc_A), Rel n B A → Ls < i + 3 + 3 * r → i ≤ Ls + 1 → xq_W p l e room_1 s m #[Value.ref b] below meth c D vcl (lq_cs n) ad (lq_en n ad cI cZ cN) qc qs Q 4 28 [(3, .int (nI i)), (2, .ref (ad (6, 0))), (1, .ref (ad (0, 0))), (0, .ref b)] [] (B, A) := by
  obtain ⟨ho0, ho1, ho2, ho3, ho4, ho5, ho6, ho7, ho8, ho9, ho10, ho11, ho12, ho13, ho14, ho15, ho16⟩ := ho
  intro r
  induction r with
  | zero =>
    intro i B A hRel h1 h2
    refine xq_iload_n X d_L_law_28 0 rfl rfl ?_
    refine xq_aload_n X d_L_law_29 3 rfl rfl ?_
    refine lq_slen X hX hbl hbA d_L_law_30 ?_
    refine xq_iconst (v := 3) X d_L_law_31 (by decide) ?_
    refine xq_isub X d_L_law_32 ?_
    refine xq_icmp_gt X d_L_law_33 511 (by decide) (fun _ => K i B A) (fun h => absurd ((lq_gt hLs (by omega)).mpr (by omega)) h)
  | succ r ih =>
    intro i B A hRel h1 h2
    refine xq_iload_n X d_L_law_28 0 rfl rfl ?_
    refine xq_aload_n X d_L_law_29 3 rfl rfl ?_
    refine lq_slen X hX hbl hbA d_L_law_30 ?_
    refine xq_iconst (v := 3) X d_L_law_31 (by decide) ?_
    refine xq_isub X d_L_law_32 ?_
    refine xq_icmp_gt X d_L_law_33 511 (by decide) (fun _ => K i B A) (fun h => ?_)
    have hi : i + 3 ≤ Ls := by
      rcases Nat.lt_or_ge Ls (i + 3) with q | q
      · exact absurd ((lq_gt hLs (by omega)).mpr q) h
      · exact q
    have hK : ∀ (B' : kc_B) (A' : rc_A), Rel n B' A' → xq_W p l e room_1 s m #[Value.ref b] below meth c D vcl (lq_cs n) ad (lq_en n ad cI cZ cN) qc qs Q 4 505 [(3, .int (nI i)), (2, .ref (ad (6, 0))), (1, .ref (ad (0, 0))), (0, .ref b)] [] (B', A') := by
      intro B' A' hR'
      refine xq_iinc X d_L_law_505 0 rfl [(3, .int (nI (i + 3))), (2, .ref (ad (6, 0))), (1, .ref (ad (0, 0))), (0, .ref b)] rfl (nI_add i 3) (by decide) ?_
      refine xq_goto X d_L_law_508 28 (by decide) ?_
      exact ih (i + 3) B' A' hR' (by omega) (by omega)
    refine xq_aload_n X d_L_law_36 3 rfl rfl ?_
    refine xq_iload_n X d_L_law_37 0 rfl rfl ?_
    refine lq_sld (v := xs (nI i).toNatClampNeg) X hX hbl hbA (vp_in_nI (show i < Ls by omega) (by omega)) d_L_law_38 rfl ?_
    refine xq_bipush (v := 31) X d_L_law_39 (by decide) ?_
    refine xq_iand X d_L_law_41 ?_
    obtain ⟨j, hj, he⟩ := pk_andE (xs (nI i).toNatClampNeg) (m := 31) 5 (by decide)
    refine xq_top (nI j) he ?_
    rcases (show j = 0 ∨ j = 1 ∨ j = 2 ∨ j = 3 ∨ j = 4 ∨ j = 5 ∨ j = 6 ∨ j = 7 ∨ j = 8 ∨ j = 9 ∨ j = 10 ∨ j = 11 ∨ j = 12 ∨ j = 13 ∨ j = 14 ∨ j = 15 ∨ j = 16 ∨ 16 < j by omega) with rfl | rfl | rfl | rfl | rfl | rfl | rfl | rfl | rfl | rfl | rfl | rfl | rfl | rfl | rfl | rfl | rfl | hj2
    · refine xq_tableIn X d_L_law_42 124 (by decide) (by decide) (off := 82) (by decide) (by decide) ?_
      exact ll_nodes X hX hbl hbA hcs (by omega) hLs ho0 hRel hK
    · refine xq_tableIn X d_L_law_42 137 (by decide) (by decide) (off := 95) (by decide) (by decide) ?_
      exact ll_on X hX hbl hbA hcs (by omega) hLs ho1 hRel hK
    · refine xq_tableIn X d_L_law_42 170 (by decide) (by decide) (off := 128) (by decide) (by decide) ?_
      exact ll_off X hX hbl hbA hcs (by omega) hLs ho2 hRel hK
    · refine xq_tableIn X d_L_law_42 193 (by decide) (by decide) (off := 151) (by decide) (by decide) ?_
      exact ll_thaw X hX hbl hbA hcs (by omega) hLs ho3 hRel hK
    · refine xq_tableIn X d_L_law_42 216 (by decide) (by decide) (off := 174) (by decide) (by decide) ?_
      exact ll_mute X hX hbl hbA hcs (by omega) hLs ho4 hRel hK
    · refine xq_tableIn X d_L_law_42 239 (by decide) (by decide) (off := 197) (by decide) (by decide) ?_
      exact ll_deafen X hX hbl hbA hcs (by omega) hLs ho5 hRel hK
    · refine xq_tableIn X d_L_law_42 262 (by decide) (by decide) (off := 220) (by decide) (by decide) ?_
      exact ll_shift X hX hbl hbA hcs (by omega) hLs ho6 hRel hK
    · refine xq_tableIn X d_L_law_42 295 (by decide) (by decide) (off := 253) (by decide) (by decide) ?_
      exact ll_run X hX hbl hbA hcs (by omega) hLs ho7 hRel hK
    · refine xq_tableIn X d_L_law_42 318 (by decide) (by decide) (off := 276) (by decide) (by decide) ?_
      exact ll_slots X hX hbl hbA hcs (by omega) hLs ho8 hRel hK
    · refine xq_tableIn X d_L_law_42 331 (by decide) (by decide) (off := 289) (by decide) (by decide) ?_
      exact ll_bus X hX hbl hbA hcs (by omega) hLs ho9 hRel hK
    · refine xq_tableIn X d_L_law_42 344 (by decide) (by decide) (off := 302) (by decide) (by decide) ?_
      exact ll_mode X hX hbl hbA hcs (by omega) hLs ho10 hRel hK
    · refine xq_tableIn X d_L_law_42 367 (by decide) (by decide) (off := 325) (by decide) (by decide) ?_
      exact ll_members X hX hbl hbA hcs (by omega) hLs ho11 hRel hK
    · refine xq_tableIn X d_L_law_42 390 (by decide) (by decide) (off := 348) (by decide) (by decide) ?_
      exact ll_time X hX hbl hbA hcs (by omega) hLs ho12 hRel hK
    · refine xq_tableIn X d_L_law_42 413 (by decide) (by decide) (off := 371) (by decide) (by decide) ?_
      exact ll_counts X hX hbl hbA hcs (by omega) hLs ho13 hRel hK
    · refine xq_tableIn X d_L_law_42 436 (by decide) (by decide) (off := 394) (by decide) (by decide) ?_
      exact ll_patience X hX hbl hbA hcs (by omega) hLs ho14 hRel hK
    · refine xq_tableIn X d_L_law_42 459 (by decide) (by decide) (off := 417) (by decide) (by decide) ?_
      exact ll_gap X hX hbl hbA hcs (by omega) hLs ho15 hRel hK
    · refine xq_tableIn X d_L_law_42 492 (by decide) (by decide) (off := 450) (by decide) (by decide) ?_
      exact ll_united X hX hbl hbA hcs (by omega) hLs ho16 hRel hK
    · refine xq_tableOut X d_L_law_42 505 (Or.inr (by rw [nI_toInt (by omega)]; omega)) (by decide) ?_
      exact hK B A hRel
/-- cell -/
def lq_c0 (Ls : Nat) (xs : Nat → Int32) : Int32 := if nI Ls ≤ 0 then 0 else xs 0
set_option maxHeartbeats 4000000 in
set_option maxRecDepth 100000 in
theorem lt_cell (l : Launch) (b Ls : Nat) (xs : Nat → Int32) (hLs : Ls ≤ 1537) : Met l y_L_cell (Cond.code y_L_cell b_L_cell 2 (some .int) :: xw) (xq_r 0) (va_Pc [.ref b, .int 0] (fun U => va_X b Ls xs U U.heap ∧ b < U.heap.size)) (QcRead (lq_c0 Ls xs)) 0 0 (fun _ => False) := by
  refine Met.ofW (cc := b_L_cell) (maxL := 2) (ret := (some .int)) (by decide) rfl ?_
  intro p e s m args below meth c s₁ B hml hv
  obtain ⟨rfl, hX, hbl⟩ := hv
  have hx := B.exec
  have hb := B.bytes
  have hr := B.returns
  have hlocks := B.notSynchronized
  have hS : va_S (fun _ => False) s.heap s.heap [] := va_S.rf
  have hl := lv_entry ([.ref b, .int 0]) (n := 2) (Nat.le_of_ble_eq_true rfl)
  rw [lg_entry_eq]
  generalize (lg_sl ([.ref b, .int 0]) ++ List.replicate (2 - (lg_sl ([.ref b, .int 0])).length) Slot.unset).toArray = ls at hl ⊢
  have hl : lv_has ls 2 [(0, .ref b), (1, .int 0)] := hl
  refine lv_iload_n hx hb d_L_cell_0 rfl (lv_at hl 1 rfl) ?_
  refine lv_aload_n hx hb d_L_cell_1 rfl (lv_at hl 0 rfl) ?_
  refine va_slen hx hb hX hbl (fun h => h) hS d_L_cell_2 ?_
  refine lv_icmp_ge hx hb d_L_cell_3 (tgt := 12) (by decide) (fun h => ?_) (fun h => ?_)
  · refine lv_iconst (v := 0) hx hb d_L_cell_12 (by decide) ?_
    exact W.iret (v := 0) hx hb hr (fun t ht _ => ⟨by rw [show lq_c0 Ls xs = 0 from if_pos h], ht⟩) (fun _ h => by cases h) d_L_cell_13
  · have h0 : 0 < Ls := by
      rcases Nat.eq_zero_or_pos Ls with q | q
      · subst q
        exact absurd (by decide) h
      · exact q
    refine lv_aload_n hx hb d_L_cell_6 rfl (lv_at hl 0 rfl) ?_
    refine lv_iload_n hx hb d_L_cell_7 rfl (lv_at hl 1 rfl) ?_
    refine va_sld hx hb hX hbl (fun h => h) hS (vp_in_nI h0 (by omega)) d_L_cell_8 ?_
    refine lv_goto hx hb d_L_cell_9 (tgt := 13) (by decide) ?_
    exact W.iret (v := xs 0) hx hb hr (fun t ht _ => ⟨by rw [show lq_c0 Ls xs = xs 0 from if_neg h], ht⟩) (fun _ h => by cases h) d_L_cell_13
section LS
variable {p : Program} {l : Launch} {e : Env} {R : Room} {s : State} {m : MethodId} {args : Array Value} {below : List Frame} {meth : Method} {c : Code} {Q : State → Prop}
variable {D : va_G} {cl : List vw_C} {tys : List (ClassId × FieldType)} {A : Nat → Prop} {ws : va_W} {Ts : List Cond} {own : String} {cc : ByteArray} {nL : Nat}
variable {qc qs pc : Nat} {L : List (Nat × Value)} {st : List Value}
theorem yq_astore_n (X : yq_C p s m args c A Ts own cc nL) {n : Fin 4} {i x : Nat} (hd : decode cc pc = .ok (.astore_n n, 1)) (L' : List (Nat × Value)) (hL : (i, Value.ref x) :: L.filter (fun q => !(q.1 == i) && !(q.1 + 1 == i && q.2.category == 2)) = L') (hi : (n : Nat) = i) (hn : i < nL)
    (k : yq_W p l e R s m args below meth c D cl A tys qc qs Q nL (pc + 1) L' st ws) : yq_W p l e R s m args below meth c D cl A tys qc qs Q nL pc L (.ref x :: st) ws :=
  fun H locs ls h1 h2 h3 h4 h5 => lv_astore_n X.1 X.2.1 hd hi h1 hn hL (fun ls' h => k H locs ls' h h2 h3 h4 h5)
theorem yq_cell (X : yq_C p s m args c A xw R_L cc nL) {b Ls : Nat} {xs : Nat → Int32} (hLs : Ls ≤ 1537) (hX : va_X b Ls xs s s.heap) (hbl : b < s.heap.size) (hbA : ¬ A b) (hG : xq_GS xw R_L 9 y_L_cell b_L_cell 2 (some .int) 2) (hR : 0 + 1 ≤ R.frames ∧ 8 + (2 + 11) + 32 * 0 ≤ R.locals) (hcs : qc ≤ R.cells ∧ qs ≤ R.slots) (hst : (st.map fun v => v.category).sum ≤ 8) (hd : decode cc pc = .ok (.invokestatic 9, 3))
    (k : yq_W p l e R s m args below meth c D cl A tys qc qs Q nL (pc + 3) L (.int (lq_c0 Ls xs) :: st) ws) : yq_W p l e R s m args below meth c D cl A tys qc qs Q nL pc L (.int 0 :: .ref b :: st) ws := by
  intro H locs ls h1 h2 h3 h4 h5
  have hts := X.2.2.2.2.1
  have hB : CallB R s args R_L 9 y_L_cell b_L_cell 2 (some .int) (Cond.code y_L_cell b_L_cell 2 (some .int) :: xw) (xq_r 0) 0 0 2 := callB_of 2 hts (xq_w1 xw_g hG.1) rfl rfl rfl (hts _ hG.2.2.2.1) (hts _ hG.2.1) hG.2.2.2.2 hR
  have hHb : H[b]? = s.heap[b]? := h4.2.1 b hbl hbA
  refine W.callR (W.runS (g := F0 m pc ls (.int 0 :: .ref b :: st)) (As := [.ref b, .int 0]) (rest := st) ⟨X.1, X.2.1, X.2.2.1, X.2.2.2.1, hts⟩ (lt_cell l b Ls xs hLs) ⟨hB, hts _ hG.2.2.1⟩
    ⟨fun a U g mk z => ⟨z.1, va_X.moved (u := U) (U := U.calling g mk a) (Vm.Alike.refl U.vm) z.2.1, z.2.2⟩, fun U hU hW => ⟨rfl, by rw [hU]; exact (hX.kept hHb).moved hW.alike, by rw [hU]; exact Nat.lt_of_lt_of_le hbl h4.1⟩⟩ rfl rfl h1.1 rfl (lv_room hst) hd hcs) ?_
  exact k H locs ls h1 h2 h3 h4 h5
theorem yq_callP (X : yq_C p s m args c A Ts own cc nL) (hg : ∀ w ∈ Ts, xq_g w) {index d mc ms maxL n q : Nat} {e0 : va_E} {y : MethodName} {code : ByteArray} {As rest : List Value} {Pre : State → Prop} {post : List (ClassId × FieldType) → va_W → Prop} (hM : ∀ sz, yq_M l D cl y (Cond.code y code maxL none :: Ts) d mc ms (.ref q :: As) [(q, e0)] sz Pre post) (hPb : ∀ (U : State) (g : JFrame) (mk : MethodId) (a : Array Value), Pre U → Pre (U.calling g mk a)) (hPs : ∀ U : State, s.WarmedH U.vm → Pre U)
    (hcd : Cond.code y code maxL none ∈ Ts) (hl : Cond.methodLink own index y ∈ Ts) (hi : Cond.instanceMethod y ∈ Ts) (hini : Cond.initialized y.cls ∈ Ts) (hy : y.name = "<init>") (hd0 : y.cls ≠ "java/lang/invoke/MethodHandle" ∧ y.cls ≠ "java/lang/invoke/VarHandle" ∧ (parseMethodDescriptor y.desc).map (fun d => d.parameters.length) = some n) (hn : As.length = n) (hR : d + 1 ≤ R.frames ∧ 8 + (maxL + 11) + 32 * d ≤ R.locals)
    (hf : qc + mc ≤ R.cells ∧ qs + ms ≤ R.slots) (hst : (rest.map fun v => v.category).sum ≤ 8) (hs : st = As.reverse ++ .ref q :: rest) (hd : decode cc pc = .ok (.invokespecial index, 3))
    (k : ∀ tys1 w1, post tys1 w1 → yq_W p l e R s m args below meth c D cl A (tys ++ tys1) (qc + mc) (qs + ms) Q nL (pc + 3) L rest (ws ++ w1)) : yq_W p l e R s m args below meth c D cl A tys qc qs Q nL pc L st (ws ++ [(q, e0)]) := by
  intro H locs ls h1 hP hD hS hK
  subst hs
  have hts := X.2.2.2.2.1
  have hPc : va_P D cl [(q, e0)] H := hP.sub [ws.length] (by simp)
  have hDc : va_D A [(q, e0)] := hD.sub [ws.length] (by simp [va_nd]) (by simp)
  have hF : ∀ x, va_A [(q, e0)] H.size x → A x := by
    intro x h
    rcases h with ⟨k, e, h⟩ | h
    · exact hDc.2 k _ h
    · exact X.2.2.2.2.2 x (Nat.le_trans hS.1 h)
  have hB : CallB R s args own index y code maxL none (Cond.code y code maxL none :: Ts) ({ frames := d, cells := mc, slots := ms, locals := 32 * d }) mc ms n := callB_of n hts (xq_w1 hg hcd) rfl rfl rfl (hts _ hini) (hts _ hl) hd0 hR
  have hr := va_runI (p := p) (l := l) (e := e) (below := below) (meth := meth) (locs := locs) (cells := qc) (slots := qs) (g := F0 m pc ls (As.reverse ++ .ref q :: rest)) (As := As) (rest := rest) (b := q) ⟨X.1, X.2.1, X.2.2.1, X.2.2.2.1, hts⟩ (hM H.size) ⟨hB, hy, hts _ hi⟩
    ⟨fun a U g mk z => ⟨z.1, z.2.1, z.2.2.1, va_K.moved (u := U) (U := U.calling g mk a) (Vm.Alike.refl U.vm) z.2.2.2.1, z.2.2.2.2.1, hPb U g mk a z.2.2.2.2.2⟩, fun U hU hW => ⟨rfl, by rw [hU], by rw [hU]; exact hPc, va_K.moved hW.alike (hK.sub [] rfl), hDc.weaken (fun _ _ _ _ => trivial), hPs U hW⟩⟩ rfl hn h1.1 rfl (lv_room hst) hd hf
  intro T hT X0
  obtain ⟨v, st₀, t, T', Lo, h0, X', hLo, e1, e2, ⟨⟨tys1, w1, hv, hpost, hP1, hK1, hD1⟩, hz, hk⟩, go⟩ := hr T hT X0
  cases hv
  rw [h0] at hz hk
  rw [← e1] at hP1 hz hk
  obtain ⟨hPj, hDj⟩ := yq_join hP hD hk hF hP1 hD1
  have hSj : va_S A s.heap T'.heap (locs ++ Lo) := ⟨Nat.le_trans hS.1 hz, fun x g1 g2 => by rw [hk x (Nat.lt_of_lt_of_le g1 hS.1) (fun z => g2 (hF x z))]; exact hS.2.1 x g1 g2, fun x hx => by
    rcases List.mem_append.mp hx with h | h
    · exact hS.2.2 x h
    · exact hF _ (hLo x h)⟩
  have hKj : va_K D cl (tys ++ tys1) s := hK.app (va_K.moved (by rw [← e2]; exact X'.warmed.alike.symm) hK1)
  obtain ⟨t2, a1, b1⟩ := k tys1 w1 hpost T'.heap (locs ++ Lo) ls h1 hPj hDj hSj hKj T' rfl X'
  exact ⟨t2, go t2 a1, b1⟩
end LS
theorem kz_both (x : Int32) : ∃ n, (n = 4 ∨ n = 5 ∨ n = 6) ∧ kz_sz x = nI n ∧ kz_many x = nI n := by
  unfold kz_sz kz_many km_max km_min
  by_cases h1 : x < 6
  · by_cases h2 : 4 ≤ x
    · rcases (show x = 4 ∨ x = 5 by
        rw [Int32.lt_iff_toInt_lt] at h1
        rw [Int32.le_iff_toInt_le] at h2
        have e6 : (6 : Int32).toInt = 6 := by decide
        have e4 : (4 : Int32).toInt = 4 := by decide
        rcases (show x.toInt = 4 ∨ x.toInt = 5 by omega) with q | q
        · exact Or.inl (Int32.toInt_inj.mp (by rw [q]; decide))
        · exact Or.inr (Int32.toInt_inj.mp (by rw [q]; decide))) with rfl | rfl
      · exact ⟨4, Or.inl rfl, by decide, by decide⟩
      · exact ⟨5, Or.inr (Or.inl rfl), by decide, by decide⟩
    · refine ⟨4, Or.inl rfl, ?_, if_neg h2⟩
      rw [if_pos h1, if_neg]
      · rfl
      · intro h3
        rw [Int32.lt_iff_toInt_lt] at h3
        rw [Int32.le_iff_toInt_le] at h2
        omega
  · refine ⟨6, Or.inr (Or.inr rfl), ?_, ?_⟩
    · rw [if_neg h1]
      decide
    · rw [Int32.lt_iff_toInt_lt] at h1
      have e6 : (6 : Int32).toInt = 6 := by decide
      have e4 : (4 : Int32).toInt = 4 := by decide
      rw [if_pos (by rw [Int32.le_iff_toInt_le]; omega)]
      by_cases h2 : x ≤ 6
      · rw [if_pos h2]
        rw [Int32.le_iff_toInt_le] at h2
        exact Int32.toInt_inj.mp (by rw [show x.toInt = 6 by omega]; decide)
      · rw [if_neg h2]
        rfl
