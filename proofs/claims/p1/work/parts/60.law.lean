set_option maxHeartbeats 4000000 in
set_option maxRecDepth 100000 in
/-- L_describe -/
theorem l_x_describe_n (l : Launch) (hst0 : l.stackTraces = false) (D : va_G) (cy : Nat → ClassId) (kv : KV) (sz : Nat) (ad0 : Nat) (xi0 : Int32) (ad20 : Nat) (fn0 : Nat → Value) (h0_1 : fn0 1 = .int 0) (hn : xi0 < 0) : Met l yL_describe (Cond.codeWith yL_describe cL_describe 4 (some .int) [(0, 9, 12, 13)] :: GW) ({ frames := 11, cells := 1, slots := 6, locals := 240 } : Room) (va_Pc [.ref ad0, .int xi0, .ref ad20] (pcq D cy kv sz [(ad0, ob 11 15 fn0)])) (va_Qi (fun r (_ : Unit) => r = 1) (fun _ t => bq D (fun w => w = []) (va_A [(ad0, ob 11 15 fn0)] sz) t) (va_A [(ad0, ob 11 15 fn0)] sz)) 1 6 (va_A [(ad0, ob 11 15 fn0)] sz) := by
  refine va_MetW (hh := [(0, 9, 12, 13)]) (cc := cL_describe) (maxL := 4) (ret := (some .int)) (by decide) rfl ?_
  intro p e s m args below meth c s₁ B hml hv
  obtain ⟨rfl, hsz, hP, hK, hD0, hE⟩ := hv
  have hx := B.exec
  have hb := B.bytes
  have hr := B.returns
  have hG : ∀ w ∈ GW, w.before ([.ref ad0, .int xi0, .ref ad20] : List Value).toArray s = true := fun w h => atoms_spec (ws := Cond.codeWith yL_describe cL_describe 4 (some .int) [(0, 9, 12, 13)] :: GW) B.pre w (List.mem_cons_of_mem _ h)
  have hown : s.vm.findClass RL = some m.cls := findClass_of_methodNamed B.named
  have hlocks := B.notSynchronized
  subst hsz
  have hD := hD0.self (sz := s.heap.size)
  generalize hAe : va_A [(ad0, ob 11 15 fn0)] s.heap.size = A at hD hE ⊢
  have hA : ∀ q : Nat, s.heap.size ≤ q → A q := fun q h => by rw [← hAe]; exact Or.inr h
  have hS : va_S A s.heap s.heap [] := va_S.rf
  clear hAe hD0
  have hl0 := lv_entry ([.ref ad0, .int xi0, .ref ad20]) (n := 4) (Nat.le_of_ble_eq_true rfl)
  rw [lg_entry_eq]
  generalize (lg_sl ([.ref ad0, .int xi0, .ref ad20]) ++ List.replicate (4 - (lg_sl ([.ref ad0, .int xi0, .ref ad20])).length) Slot.unset).toArray = ls at hl0 ⊢
  have hl : lv_has ls 4 [(0, .ref ad0), (1, .int xi0), (2, .ref ad20)] := hl0
  clear hl0
  have htab : c.exceptionTable.toList = [⟨0, 9, 12, 13⟩] := vx_table (x := yL_describe) B (hG _ g_550)
  refine lv_aload_n (pc := 0) hx hb dL_describe_0 rfl (lv_at hl 2 rfl) ?_
  refine lv_iconst (pc := 1) (v := 0) hx hb dL_describe_1 (by decide) ?_
  refine lv_aload_n (pc := 2) hx hb dL_describe_2 rfl (lv_at hl 0 rfl) ?_
  refine lv_iload_n (pc := 3) hx hb dL_describe_3 rfl (lv_at hl 1 rfl) ?_
  refine xq_call (pc := 4) (wr := []) (k2 := 1) (n2 := 6) (vx_runV (As := [.int xi0]) (rest := [.int 0, .ref ad20]) ⟨hx, hb, hml, hown, hG⟩ (x_describe_n l hst0 D cy kv s.heap.size ad0 xi0 fn0 h0_1 hn) (cwV 1 hG (gi_V g_546 g_547 g_548 g_143 g_153) rfl rfl rfl (by decide +kernel) ⟨Nat.le_of_ble_eq_true rfl, Nat.le_of_ble_eq_true rfl⟩) ⟨pq_blind, (va_recv hK hP (ci := 11) (q0 := 0) rfl rfl), (pq_pass hP hD hK hE hS hA [0] rfl (by decide))⟩ rfl rfl hl.1 rfl (lv_room (Nat.le_of_ble_eq_true rfl)) dL_describe_4 ⟨Nat.le_of_ble_eq_true rfl, Nat.le_of_ble_eq_true rfl⟩) hP hD hS hA [0] [] rfl rfl (by decide) (by decide) (by decide) (by decide) (fun ce1 q1 w1 H1 lo1 hR1 hP1r hD1r hS1 hce1 hcv1 hcl1 => ?_)
  subst hR1
  have hP1 : va_P D classes [(ad0, ob 11 15 fn0)] H1 := hP1r
  have hD1 : va_D A [(ad0, ob 11 15 fn0)] := hD1r
  clear hP1r hD1r
  clear hP hD hS
  refine vx_catch (pc := 4) (E := "java/lang/IllegalArgumentException") hown [] ⟨0, 9, 12, 13⟩ [] htab (fun z hz => nomatch hz) rfl (by decide) (hG _ g_549) (va_Nw.use rfl (nw_at hE n_10)) hce1 hcv1 hcl1 ?_
  refine W.eq (g2 := F0 m 12 ls [.ref q1]) rfl ?_
  refine lv_astore_n (pc := 12) (lv' := [(3, .ref q1), (0, .ref ad0), (1, .int xi0), (2, .ref ad20)]) hx hb dL_describe_12 rfl hl (by decide) rfl (fun ls2 hl2 => ?_)
  clear hl ls
  refine lv_iconst (pc := 13) (v := 1) hx hb dL_describe_13 (by decide) ?_
  have hP99 := hP1.sub (ws' := []) [] rfl
  have hD99 := hD1.sub (ws' := []) [] (by decide) rfl
  exact W.iret (pc := 14) (v := 1) hx hb hr (fun t ht hW => ⟨⟨1, (), rfl, rfl, _, rfl, by rw [ht]; exact hP99, hD99⟩, hS1.F ht⟩) hS1.2.2 dL_describe_14
set_option maxHeartbeats 4000000 in
set_option maxRecDepth 100000 in
/-- L_describe -/
theorem l_x_describe_p (l : Launch) (hst0 : l.stackTraces = false) (D : va_G) (cy : Nat → ClassId) (kv : KV) (sz : Nat) (ad0 : Nat) (xi0 : Int32) (ad20 : Nat) (fn0 : Nat → Value) (h0_1 : fn0 1 = .int 0) (hn : 0 < xi0) : Met l yL_describe (Cond.codeWith yL_describe cL_describe 4 (some .int) [(0, 9, 12, 13)] :: GW) ({ frames := 11, cells := 1, slots := 6, locals := 240 } : Room) (va_Pc [.ref ad0, .int xi0, .ref ad20] (pcq D cy kv sz [(ad0, ob 11 15 fn0)])) (va_Qi (fun r (_ : Unit) => r = 1) (fun _ t => bq D (fun w => w = []) (va_A [(ad0, ob 11 15 fn0)] sz) t) (va_A [(ad0, ob 11 15 fn0)] sz)) 1 6 (va_A [(ad0, ob 11 15 fn0)] sz) := by
  refine va_MetW (hh := [(0, 9, 12, 13)]) (cc := cL_describe) (maxL := 4) (ret := (some .int)) (by decide) rfl ?_
  intro p e s m args below meth c s₁ B hml hv
  obtain ⟨rfl, hsz, hP, hK, hD0, hE⟩ := hv
  have hx := B.exec
  have hb := B.bytes
  have hr := B.returns
  have hG : ∀ w ∈ GW, w.before ([.ref ad0, .int xi0, .ref ad20] : List Value).toArray s = true := fun w h => atoms_spec (ws := Cond.codeWith yL_describe cL_describe 4 (some .int) [(0, 9, 12, 13)] :: GW) B.pre w (List.mem_cons_of_mem _ h)
  have hown : s.vm.findClass RL = some m.cls := findClass_of_methodNamed B.named
  have hlocks := B.notSynchronized
  subst hsz
  have hD := hD0.self (sz := s.heap.size)
  generalize hAe : va_A [(ad0, ob 11 15 fn0)] s.heap.size = A at hD hE ⊢
  have hA : ∀ q : Nat, s.heap.size ≤ q → A q := fun q h => by rw [← hAe]; exact Or.inr h
  have hS : va_S A s.heap s.heap [] := va_S.rf
  clear hAe hD0
  have hl0 := lv_entry ([.ref ad0, .int xi0, .ref ad20]) (n := 4) (Nat.le_of_ble_eq_true rfl)
  rw [lg_entry_eq]
  generalize (lg_sl ([.ref ad0, .int xi0, .ref ad20]) ++ List.replicate (4 - (lg_sl ([.ref ad0, .int xi0, .ref ad20])).length) Slot.unset).toArray = ls at hl0 ⊢
  have hl : lv_has ls 4 [(0, .ref ad0), (1, .int xi0), (2, .ref ad20)] := hl0
  clear hl0
  have htab : c.exceptionTable.toList = [⟨0, 9, 12, 13⟩] := vx_table (x := yL_describe) B (hG _ g_550)
  refine lv_aload_n (pc := 0) hx hb dL_describe_0 rfl (lv_at hl 2 rfl) ?_
  refine lv_iconst (pc := 1) (v := 0) hx hb dL_describe_1 (by decide) ?_
  refine lv_aload_n (pc := 2) hx hb dL_describe_2 rfl (lv_at hl 0 rfl) ?_
  refine lv_iload_n (pc := 3) hx hb dL_describe_3 rfl (lv_at hl 1 rfl) ?_
  refine xq_call (pc := 4) (wr := []) (k2 := 1) (n2 := 6) (vx_runV (As := [.int xi0]) (rest := [.int 0, .ref ad20]) ⟨hx, hb, hml, hown, hG⟩ (x_describe_p l hst0 D cy kv s.heap.size ad0 xi0 fn0 h0_1 hn) (cwV 1 hG (gi_V g_546 g_547 g_548 g_143 g_153) rfl rfl rfl (by decide +kernel) ⟨Nat.le_of_ble_eq_true rfl, Nat.le_of_ble_eq_true rfl⟩) ⟨pq_blind, (va_recv hK hP (ci := 11) (q0 := 0) rfl rfl), (pq_pass hP hD hK hE hS hA [0] rfl (by decide))⟩ rfl rfl hl.1 rfl (lv_room (Nat.le_of_ble_eq_true rfl)) dL_describe_4 ⟨Nat.le_of_ble_eq_true rfl, Nat.le_of_ble_eq_true rfl⟩) hP hD hS hA [0] [] rfl rfl (by decide) (by decide) (by decide) (by decide) (fun ce1 q1 w1 H1 lo1 hR1 hP1r hD1r hS1 hce1 hcv1 hcl1 => ?_)
  subst hR1
  have hP1 : va_P D classes [(ad0, ob 11 15 fn0)] H1 := hP1r
  have hD1 : va_D A [(ad0, ob 11 15 fn0)] := hD1r
  clear hP1r hD1r
  clear hP hD hS
  refine vx_catch (pc := 4) (E := "java/lang/IllegalArgumentException") hown [] ⟨0, 9, 12, 13⟩ [] htab (fun z hz => nomatch hz) rfl (by decide) (hG _ g_549) (va_Nw.use rfl (nw_at hE n_10)) hce1 hcv1 hcl1 ?_
  refine W.eq (g2 := F0 m 12 ls [.ref q1]) rfl ?_
  refine lv_astore_n (pc := 12) (lv' := [(3, .ref q1), (0, .ref ad0), (1, .int xi0), (2, .ref ad20)]) hx hb dL_describe_12 rfl hl (by decide) rfl (fun ls2 hl2 => ?_)
  clear hl ls
  refine lv_iconst (pc := 13) (v := 1) hx hb dL_describe_13 (by decide) ?_
  have hP99 := hP1.sub (ws' := []) [] rfl
  have hD99 := hD1.sub (ws' := []) [] (by decide) rfl
  exact W.iret (pc := 14) (v := 1) hx hb hr (fun t ht hW => ⟨⟨1, (), rfl, rfl, _, rfl, by rw [ht]; exact hP99, hD99⟩, hS1.F ht⟩) hS1.2.2 dL_describe_14
set_option maxHeartbeats 4000000 in
set_option maxRecDepth 100000 in
/-- L_describe -/
theorem l_c_describe_z (l : Launch) (D : va_G) (cy : Nat → ClassId) (kv : KV) (sz : Nat) (ad0 : Nat) (ad20 : Nat) (fn0 : Nat → Value) (ad6 : Nat) (ad7 : Nat) (ad8 : Nat) (ad9 : Nat) (fn9 : Nat → Value) (ad1 : Nat) (fn1 : Nat → Value) (ad2 : Nat) (ad3 : Nat) (ad4 : Nat) (ad5 : Nat) (ct2 : Nat → Int32) (ct3 : Nat → Int32) (ct4 : Nat → Int32) (ct5 : Nat → Int32) (ct6 : Nat → Int32) (fn8 : Nat → Value) (ct20 : Nat → Int64) (h0_0 : fn0 0 = .ref ad6) (h0_1 : fn0 1 = .int 0) (h0_3 : fn0 3 = .ref ad7) (h0_4 : fn0 4 = .int 0) (h0_5 : fn0 5 = .ref ad8) (h0_6 : fn0 6 = .ref ad9) (h1_0 : fn9 0 = .ref ad1) (h2_0 : fn1 0 = .ref ad2) (h2_1 : fn1 1 = .ref ad3) (h2_2 : fn1 2 = .ref ad4) (h2_3 : fn1 3 = .ref ad5) : Met l yL_describe (Cond.codeWith yL_describe cL_describe 4 (some .int) [(0, 9, 12, 13)] :: GW) ({ frames := 13, cells := 0, slots := 0, locals := 320 } : Room) (va_Pc [.ref ad0, .int 0, .ref ad20] (pcq D cy kv sz [(ad0, ob 11 15 fn0), (ad9, ob 1 15 fn9), (ad1, ob 8 7 fn1), (ad2, ari (cy 0) 2001 ct2), (ad3, ari (cy 0) 2001 ct3), (ad4, ari (cy 0) 2001 ct4), (ad5, ari (cy 0) 2001 ct5), (ad6, ari (cy 1) 2000 ct6), (ad8, ob 10 5 fn8), (ad20, arl (cy 2) 1 ct20)])) (va_Qi (fun r (_ : Unit) => r = 0) (fun _ t => bq D (fun w => w = [(ad20, arl (cy 2) 1 (vp_updL ct20 (0 : Int32).toNatClampNeg (-9)))]) (va_A [(ad0, ob 11 15 fn0), (ad9, ob 1 15 fn9), (ad1, ob 8 7 fn1), (ad2, ari (cy 0) 2001 ct2), (ad3, ari (cy 0) 2001 ct3), (ad4, ari (cy 0) 2001 ct4), (ad5, ari (cy 0) 2001 ct5), (ad6, ari (cy 1) 2000 ct6), (ad8, ob 10 5 fn8), (ad20, arl (cy 2) 1 ct20)] sz) t) (va_A [(ad0, ob 11 15 fn0), (ad9, ob 1 15 fn9), (ad1, ob 8 7 fn1), (ad2, ari (cy 0) 2001 ct2), (ad3, ari (cy 0) 2001 ct3), (ad4, ari (cy 0) 2001 ct4), (ad5, ari (cy 0) 2001 ct5), (ad6, ari (cy 1) 2000 ct6), (ad8, ob 10 5 fn8), (ad20, arl (cy 2) 1 ct20)] sz)) 0 0 (va_A [(ad0, ob 11 15 fn0), (ad9, ob 1 15 fn9), (ad1, ob 8 7 fn1), (ad2, ari (cy 0) 2001 ct2), (ad3, ari (cy 0) 2001 ct3), (ad4, ari (cy 0) 2001 ct4), (ad5, ari (cy 0) 2001 ct5), (ad6, ari (cy 1) 2000 ct6), (ad8, ob 10 5 fn8), (ad20, arl (cy 2) 1 ct20)] sz) := by
  refine va_MetW (hh := [(0, 9, 12, 13)]) (cc := cL_describe) (maxL := 4) (ret := (some .int)) (by decide) rfl ?_
  intro p e s m args below meth c s₁ B hml hv
  obtain ⟨rfl, hsz, hP, hK, hD0, hE⟩ := hv
  have hx := B.exec
  have hb := B.bytes
  have hr := B.returns
  have hG : ∀ w ∈ GW, w.before ([.ref ad0, .int 0, .ref ad20] : List Value).toArray s = true := fun w h => atoms_spec (ws := Cond.codeWith yL_describe cL_describe 4 (some .int) [(0, 9, 12, 13)] :: GW) B.pre w (List.mem_cons_of_mem _ h)
  have hown : s.vm.findClass RL = some m.cls := findClass_of_methodNamed B.named
  have hlocks := B.notSynchronized
  subst hsz
  have hD := hD0.self (sz := s.heap.size)
  generalize hAe : va_A [(ad0, ob 11 15 fn0), (ad9, ob 1 15 fn9), (ad1, ob 8 7 fn1), (ad2, ari (cy 0) 2001 ct2), (ad3, ari (cy 0) 2001 ct3), (ad4, ari (cy 0) 2001 ct4), (ad5, ari (cy 0) 2001 ct5), (ad6, ari (cy 1) 2000 ct6), (ad8, ob 10 5 fn8), (ad20, arl (cy 2) 1 ct20)] s.heap.size = A at hD hE ⊢
  have hA : ∀ q : Nat, s.heap.size ≤ q → A q := fun q h => by rw [← hAe]; exact Or.inr h
  have hS : va_S A s.heap s.heap [] := va_S.rf
  clear hAe hD0
  have hl0 := lv_entry ([.ref ad0, .int 0, .ref ad20]) (n := 4) (Nat.le_of_ble_eq_true rfl)
  rw [lg_entry_eq]
  generalize (lg_sl ([.ref ad0, .int 0, .ref ad20]) ++ List.replicate (4 - (lg_sl ([.ref ad0, .int 0, .ref ad20])).length) Slot.unset).toArray = ls at hl0 ⊢
  have hl : lv_has ls 4 [(0, .ref ad0), (1, .int 0), (2, .ref ad20)] := hl0
  clear hl0
  have htab : c.exceptionTable.toList = [⟨0, 9, 12, 13⟩] := vx_table (x := yL_describe) B (hG _ g_550)
  refine lv_aload_n (pc := 0) hx hb dL_describe_0 rfl (lv_at hl 2 rfl) ?_
  refine lv_iconst (pc := 1) (v := 0) hx hb dL_describe_1 (by decide) ?_
  refine lv_aload_n (pc := 2) hx hb dL_describe_2 rfl (lv_at hl 0 rfl) ?_
  refine lv_iload_n (pc := 3) hx hb dL_describe_3 rfl (lv_at hl 1 rfl) ?_
  refine cq_i (pc := 4) (wr := [(ad20, arl (cy 2) 1 ct20)]) (k2 := 0) (n2 := 0) (va_runV (As := [.int 0]) (rest := [.int 0, .ref ad20]) ⟨hx, hb, hml, hown, hG⟩ (c_describe_z l D cy kv s.heap.size ad0 fn0 ad6 ad7 ad8 ad9 fn9 ad1 fn1 ad2 ad3 ad4 ad5 ct2 ct3 ct4 ct5 ct6 fn8 h0_0 h0_1 h0_3 h0_4 h0_5 h0_6 h1_0 h2_0 h2_1 h2_2 h2_3) (cwV 1 hG (gi_V g_546 g_547 g_548 g_143 g_153) rfl rfl rfl (by decide +kernel) ⟨Nat.le_of_ble_eq_true rfl, Nat.le_of_ble_eq_true rfl⟩) ⟨pq_blind, (va_recv hK hP (ci := 11) (q0 := 0) rfl rfl), (pq_pass hP hD hK hE hS hA [0, 1, 2, 3, 4, 5, 6, 7, 8] rfl (by decide))⟩ rfl rfl hl.1 rfl (lv_room (Nat.le_of_ble_eq_true rfl)) dL_describe_4 ⟨Nat.le_of_ble_eq_true rfl, Nat.le_of_ble_eq_true rfl⟩) hP hD hS hA [0, 1, 2, 3, 4, 5, 6, 7, 8] [9] rfl rfl (by decide) (by decide) (by decide) (by decide) (fun r1 w1 H1 lo1 e1 hR1 hP1r hD1r hS1 => ?_)
  subst hR1
  subst e1
  have hP1 : va_P D classes [(ad20, arl (cy 2) 1 ct20)] H1 := hP1r
  have hD1 : va_D A [(ad20, arl (cy 2) 1 ct20)] := hD1r
  clear hP1r hD1r
  clear hP hD hS
  refine lv_i2l (pc := 7) (v := (-9)) hx hb dL_describe_7 (by decide) ?_
  refine va_last (pc := 8) hx hb hK hP1 hD1 hS1 0 2 rfl rfl (show ¬ ((0 : Int32) < 0 ∨ 1 ≤ (0 : Int32).toNatClampNeg) by decide) dL_describe_8 (fun H2 lo2 hP2r hD2r hS2 => ?_)
  have hP2 : va_P D classes [(ad20, arl (cy 2) 1 (vp_updL ct20 (0 : Int32).toNatClampNeg (-9)))] H2 := hP2r
  have hD2 : va_D A [(ad20, arl (cy 2) 1 (vp_updL ct20 (0 : Int32).toNatClampNeg (-9)))] := hD2r
  clear hP2r hD2r
  clear hP1 hD1 hS1
  clear H1 lo1
  refine lv_goto (pc := 9) (tgt := 15) hx hb dL_describe_9 (by decide) ?_
  refine lv_iconst (pc := 15) (v := 0) hx hb dL_describe_15 (by decide) ?_
  exact W.iret (pc := 16) (v := 0) hx hb hr (fun t ht hW => ⟨⟨0, (), rfl, rfl, _, rfl, by rw [ht]; exact hP2, hD2⟩, hS2.F ht⟩) hS2.2.2 dL_describe_16
set_option maxHeartbeats 4000000 in
set_option maxRecDepth 100000 in
/-- L_put -/
theorem l_x_put_n (l : Launch) (hst0 : l.stackTraces = false) (D : va_G) (cy : Nat → ClassId) (kv : KV) (sz : Nat) (ad0 : Nat) (xi1 : Int32) (xi0 : Int32) (ad20 : Nat) (fn0 : Nat → Value) (h0_1 : fn0 1 = .int 0) (hn : xi0 < 0) : Met l yL_put (Cond.codeWith yL_put cL_put 5 (some .int) [(0, 10, 13, 13)] :: GW) ({ frames := 11, cells := 1, slots := 6, locals := 240 } : Room) (va_Pc [.ref ad0, .int xi1, .int xi0, .ref ad20] (pcq D cy kv sz [(ad0, ob 11 15 fn0)])) (va_Qi (fun r (_ : Unit) => r = 1) (fun _ t => bq D (fun w => w = []) (va_A [(ad0, ob 11 15 fn0)] sz) t) (va_A [(ad0, ob 11 15 fn0)] sz)) 1 6 (va_A [(ad0, ob 11 15 fn0)] sz) := by
  refine va_MetW (hh := [(0, 10, 13, 13)]) (cc := cL_put) (maxL := 5) (ret := (some .int)) (by decide) rfl ?_
  intro p e s m args below meth c s₁ B hml hv
  obtain ⟨rfl, hsz, hP, hK, hD0, hE⟩ := hv
  have hx := B.exec
  have hb := B.bytes
  have hr := B.returns
  have hG : ∀ w ∈ GW, w.before ([.ref ad0, .int xi1, .int xi0, .ref ad20] : List Value).toArray s = true := fun w h => atoms_spec (ws := Cond.codeWith yL_put cL_put 5 (some .int) [(0, 10, 13, 13)] :: GW) B.pre w (List.mem_cons_of_mem _ h)
  have hown : s.vm.findClass RL = some m.cls := findClass_of_methodNamed B.named
  have hlocks := B.notSynchronized
  subst hsz
  have hD := hD0.self (sz := s.heap.size)
  generalize hAe : va_A [(ad0, ob 11 15 fn0)] s.heap.size = A at hD hE ⊢
  have hA : ∀ q : Nat, s.heap.size ≤ q → A q := fun q h => by rw [← hAe]; exact Or.inr h
  have hS : va_S A s.heap s.heap [] := va_S.rf
  clear hAe hD0
  have hl0 := lv_entry ([.ref ad0, .int xi1, .int xi0, .ref ad20]) (n := 5) (Nat.le_of_ble_eq_true rfl)
  rw [lg_entry_eq]
  generalize (lg_sl ([.ref ad0, .int xi1, .int xi0, .ref ad20]) ++ List.replicate (5 - (lg_sl ([.ref ad0, .int xi1, .int xi0, .ref ad20])).length) Slot.unset).toArray = ls at hl0 ⊢
  have hl : lv_has ls 5 [(0, .ref ad0), (1, .int xi1), (2, .int xi0), (3, .ref ad20)] := hl0
  clear hl0
  have htab : c.exceptionTable.toList = [⟨0, 10, 13, 13⟩] := vx_table (x := yL_put) B (hG _ g_554)
  refine lv_aload_n (pc := 0) hx hb dL_put_0 rfl (lv_at hl 3 rfl) ?_
  refine lv_iconst (pc := 1) (v := 0) hx hb dL_put_1 (by decide) ?_
  refine lv_aload_n (pc := 2) hx hb dL_put_2 rfl (lv_at hl 0 rfl) ?_
  refine lv_iload_n (pc := 3) hx hb dL_put_3 rfl (lv_at hl 1 rfl) ?_
  refine lv_iload_n (pc := 4) hx hb dL_put_4 rfl (lv_at hl 2 rfl) ?_
  refine xq_call (pc := 5) (wr := []) (k2 := 1) (n2 := 6) (vx_runV (As := [.int xi1, .int xi0]) (rest := [.int 0, .ref ad20]) ⟨hx, hb, hml, hown, hG⟩ (x_put_n l hst0 D cy kv s.heap.size ad0 xi1 xi0 fn0 h0_1 hn) (cwV 2 hG (gi_V g_551 g_552 g_553 g_143 g_203) rfl rfl rfl (by decide +kernel) ⟨Nat.le_of_ble_eq_true rfl, Nat.le_of_ble_eq_true rfl⟩) ⟨pq_blind, (va_recv hK hP (ci := 11) (q0 := 0) rfl rfl), (pq_pass hP hD hK hE hS hA [0] rfl (by decide))⟩ rfl rfl hl.1 rfl (lv_room (Nat.le_of_ble_eq_true rfl)) dL_put_5 ⟨Nat.le_of_ble_eq_true rfl, Nat.le_of_ble_eq_true rfl⟩) hP hD hS hA [0] [] rfl rfl (by decide) (by decide) (by decide) (by decide) (fun ce1 q1 w1 H1 lo1 hR1 hP1r hD1r hS1 hce1 hcv1 hcl1 => ?_)
  subst hR1
  have hP1 : va_P D classes [(ad0, ob 11 15 fn0)] H1 := hP1r
  have hD1 : va_D A [(ad0, ob 11 15 fn0)] := hD1r
  clear hP1r hD1r
  clear hP hD hS
  refine vx_catch (pc := 5) (E := "java/lang/IllegalArgumentException") hown [] ⟨0, 10, 13, 13⟩ [] htab (fun z hz => nomatch hz) rfl (by decide) (hG _ g_549) (va_Nw.use rfl (nw_at hE n_10)) hce1 hcv1 hcl1 ?_
  refine W.eq (g2 := F0 m 13 ls [.ref q1]) rfl ?_
  refine lv_astore (pc := 13) (lv' := [(4, .ref q1), (0, .ref ad0), (1, .int xi1), (2, .int xi0), (3, .ref ad20)]) hx hb dL_put_13 hl (by decide) rfl (fun ls2 hl2 => ?_)
  clear hl ls
  refine lv_iconst (pc := 15) (v := 1) hx hb dL_put_15 (by decide) ?_
  have hP99 := hP1.sub (ws' := []) [] rfl
  have hD99 := hD1.sub (ws' := []) [] (by decide) rfl
  exact W.iret (pc := 16) (v := 1) hx hb hr (fun t ht hW => ⟨⟨1, (), rfl, rfl, _, rfl, by rw [ht]; exact hP99, hD99⟩, hS1.F ht⟩) hS1.2.2 dL_put_16
set_option maxHeartbeats 4000000 in
set_option maxRecDepth 100000 in
/-- L_put -/
theorem l_x_put_p (l : Launch) (hst0 : l.stackTraces = false) (D : va_G) (cy : Nat → ClassId) (kv : KV) (sz : Nat) (ad0 : Nat) (xi1 : Int32) (xi0 : Int32) (ad20 : Nat) (fn0 : Nat → Value) (h0_1 : fn0 1 = .int 0) (hn : 0 < xi0) : Met l yL_put (Cond.codeWith yL_put cL_put 5 (some .int) [(0, 10, 13, 13)] :: GW) ({ frames := 11, cells := 1, slots := 6, locals := 240 } : Room) (va_Pc [.ref ad0, .int xi1, .int xi0, .ref ad20] (pcq D cy kv sz [(ad0, ob 11 15 fn0)])) (va_Qi (fun r (_ : Unit) => r = 1) (fun _ t => bq D (fun w => w = []) (va_A [(ad0, ob 11 15 fn0)] sz) t) (va_A [(ad0, ob 11 15 fn0)] sz)) 1 6 (va_A [(ad0, ob 11 15 fn0)] sz) := by
  refine va_MetW (hh := [(0, 10, 13, 13)]) (cc := cL_put) (maxL := 5) (ret := (some .int)) (by decide) rfl ?_
  intro p e s m args below meth c s₁ B hml hv
  obtain ⟨rfl, hsz, hP, hK, hD0, hE⟩ := hv
  have hx := B.exec
  have hb := B.bytes
  have hr := B.returns
  have hG : ∀ w ∈ GW, w.before ([.ref ad0, .int xi1, .int xi0, .ref ad20] : List Value).toArray s = true := fun w h => atoms_spec (ws := Cond.codeWith yL_put cL_put 5 (some .int) [(0, 10, 13, 13)] :: GW) B.pre w (List.mem_cons_of_mem _ h)
  have hown : s.vm.findClass RL = some m.cls := findClass_of_methodNamed B.named
  have hlocks := B.notSynchronized
  subst hsz
  have hD := hD0.self (sz := s.heap.size)
  generalize hAe : va_A [(ad0, ob 11 15 fn0)] s.heap.size = A at hD hE ⊢
  have hA : ∀ q : Nat, s.heap.size ≤ q → A q := fun q h => by rw [← hAe]; exact Or.inr h
  have hS : va_S A s.heap s.heap [] := va_S.rf
  clear hAe hD0
  have hl0 := lv_entry ([.ref ad0, .int xi1, .int xi0, .ref ad20]) (n := 5) (Nat.le_of_ble_eq_true rfl)
  rw [lg_entry_eq]
  generalize (lg_sl ([.ref ad0, .int xi1, .int xi0, .ref ad20]) ++ List.replicate (5 - (lg_sl ([.ref ad0, .int xi1, .int xi0, .ref ad20])).length) Slot.unset).toArray = ls at hl0 ⊢
  have hl : lv_has ls 5 [(0, .ref ad0), (1, .int xi1), (2, .int xi0), (3, .ref ad20)] := hl0
  clear hl0
  have htab : c.exceptionTable.toList = [⟨0, 10, 13, 13⟩] := vx_table (x := yL_put) B (hG _ g_554)
  refine lv_aload_n (pc := 0) hx hb dL_put_0 rfl (lv_at hl 3 rfl) ?_
  refine lv_iconst (pc := 1) (v := 0) hx hb dL_put_1 (by decide) ?_
  refine lv_aload_n (pc := 2) hx hb dL_put_2 rfl (lv_at hl 0 rfl) ?_
  refine lv_iload_n (pc := 3) hx hb dL_put_3 rfl (lv_at hl 1 rfl) ?_
  refine lv_iload_n (pc := 4) hx hb dL_put_4 rfl (lv_at hl 2 rfl) ?_
  refine xq_call (pc := 5) (wr := []) (k2 := 1) (n2 := 6) (vx_runV (As := [.int xi1, .int xi0]) (rest := [.int 0, .ref ad20]) ⟨hx, hb, hml, hown, hG⟩ (x_put_p l hst0 D cy kv s.heap.size ad0 xi1 xi0 fn0 h0_1 hn) (cwV 2 hG (gi_V g_551 g_552 g_553 g_143 g_203) rfl rfl rfl (by decide +kernel) ⟨Nat.le_of_ble_eq_true rfl, Nat.le_of_ble_eq_true rfl⟩) ⟨pq_blind, (va_recv hK hP (ci := 11) (q0 := 0) rfl rfl), (pq_pass hP hD hK hE hS hA [0] rfl (by decide))⟩ rfl rfl hl.1 rfl (lv_room (Nat.le_of_ble_eq_true rfl)) dL_put_5 ⟨Nat.le_of_ble_eq_true rfl, Nat.le_of_ble_eq_true rfl⟩) hP hD hS hA [0] [] rfl rfl (by decide) (by decide) (by decide) (by decide) (fun ce1 q1 w1 H1 lo1 hR1 hP1r hD1r hS1 hce1 hcv1 hcl1 => ?_)
  subst hR1
  have hP1 : va_P D classes [(ad0, ob 11 15 fn0)] H1 := hP1r
  have hD1 : va_D A [(ad0, ob 11 15 fn0)] := hD1r
  clear hP1r hD1r
  clear hP hD hS
  refine vx_catch (pc := 5) (E := "java/lang/IllegalArgumentException") hown [] ⟨0, 10, 13, 13⟩ [] htab (fun z hz => nomatch hz) rfl (by decide) (hG _ g_549) (va_Nw.use rfl (nw_at hE n_10)) hce1 hcv1 hcl1 ?_
  refine W.eq (g2 := F0 m 13 ls [.ref q1]) rfl ?_
  refine lv_astore (pc := 13) (lv' := [(4, .ref q1), (0, .ref ad0), (1, .int xi1), (2, .int xi0), (3, .ref ad20)]) hx hb dL_put_13 hl (by decide) rfl (fun ls2 hl2 => ?_)
  clear hl ls
  refine lv_iconst (pc := 15) (v := 1) hx hb dL_put_15 (by decide) ?_
  have hP99 := hP1.sub (ws' := []) [] rfl
  have hD99 := hD1.sub (ws' := []) [] (by decide) rfl
  exact W.iret (pc := 16) (v := 1) hx hb hr (fun t ht hW => ⟨⟨1, (), rfl, rfl, _, rfl, by rw [ht]; exact hP99, hD99⟩, hS1.F ht⟩) hS1.2.2 dL_put_16
set_option maxHeartbeats 4000000 in
set_option maxRecDepth 100000 in
/-- L_put -/
theorem l_x_put_sn (l : Launch) (hst0 : l.stackTraces = false) (D : va_G) (cy : Nat → ClassId) (kv : KV) (sz : Nat) (ad0 : Nat) (xi0 : Int32) (ad20 : Nat) (fn0 : Nat → Value) (h0_1 : fn0 1 = .int 0) (hn : xi0 < 0) : Met l yL_put (Cond.codeWith yL_put cL_put 5 (some .int) [(0, 10, 13, 13)] :: GW) ({ frames := 11, cells := 1, slots := 6, locals := 240 } : Room) (va_Pc [.ref ad0, .int xi0, .int 0, .ref ad20] (pcq D cy kv sz [(ad0, ob 11 15 fn0)])) (va_Qi (fun r (_ : Unit) => r = 1) (fun _ t => bq D (fun w => w = []) (va_A [(ad0, ob 11 15 fn0)] sz) t) (va_A [(ad0, ob 11 15 fn0)] sz)) 1 6 (va_A [(ad0, ob 11 15 fn0)] sz) := by
  refine va_MetW (hh := [(0, 10, 13, 13)]) (cc := cL_put) (maxL := 5) (ret := (some .int)) (by decide) rfl ?_
  intro p e s m args below meth c s₁ B hml hv
  obtain ⟨rfl, hsz, hP, hK, hD0, hE⟩ := hv
  have hx := B.exec
  have hb := B.bytes
  have hr := B.returns
  have hG : ∀ w ∈ GW, w.before ([.ref ad0, .int xi0, .int 0, .ref ad20] : List Value).toArray s = true := fun w h => atoms_spec (ws := Cond.codeWith yL_put cL_put 5 (some .int) [(0, 10, 13, 13)] :: GW) B.pre w (List.mem_cons_of_mem _ h)
  have hown : s.vm.findClass RL = some m.cls := findClass_of_methodNamed B.named
  have hlocks := B.notSynchronized
  subst hsz
  have hD := hD0.self (sz := s.heap.size)
  generalize hAe : va_A [(ad0, ob 11 15 fn0)] s.heap.size = A at hD hE ⊢
  have hA : ∀ q : Nat, s.heap.size ≤ q → A q := fun q h => by rw [← hAe]; exact Or.inr h
  have hS : va_S A s.heap s.heap [] := va_S.rf
  clear hAe hD0
  have hl0 := lv_entry ([.ref ad0, .int xi0, .int 0, .ref ad20]) (n := 5) (Nat.le_of_ble_eq_true rfl)
  rw [lg_entry_eq]
  generalize (lg_sl ([.ref ad0, .int xi0, .int 0, .ref ad20]) ++ List.replicate (5 - (lg_sl ([.ref ad0, .int xi0, .int 0, .ref ad20])).length) Slot.unset).toArray = ls at hl0 ⊢
  have hl : lv_has ls 5 [(0, .ref ad0), (1, .int xi0), (2, .int 0), (3, .ref ad20)] := hl0
  clear hl0
  have htab : c.exceptionTable.toList = [⟨0, 10, 13, 13⟩] := vx_table (x := yL_put) B (hG _ g_554)
  refine lv_aload_n (pc := 0) hx hb dL_put_0 rfl (lv_at hl 3 rfl) ?_
  refine lv_iconst (pc := 1) (v := 0) hx hb dL_put_1 (by decide) ?_
  refine lv_aload_n (pc := 2) hx hb dL_put_2 rfl (lv_at hl 0 rfl) ?_
  refine lv_iload_n (pc := 3) hx hb dL_put_3 rfl (lv_at hl 1 rfl) ?_
  refine lv_iload_n (pc := 4) hx hb dL_put_4 rfl (lv_at hl 2 rfl) ?_
  refine xq_call (pc := 5) (wr := []) (k2 := 1) (n2 := 6) (vx_runV (As := [.int xi0, .int 0]) (rest := [.int 0, .ref ad20]) ⟨hx, hb, hml, hown, hG⟩ (x_put_sn l hst0 D cy kv s.heap.size ad0 xi0 fn0 h0_1 hn) (cwV 2 hG (gi_V g_551 g_552 g_553 g_143 g_203) rfl rfl rfl (by decide +kernel) ⟨Nat.le_of_ble_eq_true rfl, Nat.le_of_ble_eq_true rfl⟩) ⟨pq_blind, (va_recv hK hP (ci := 11) (q0 := 0) rfl rfl), (pq_pass hP hD hK hE hS hA [0] rfl (by decide))⟩ rfl rfl hl.1 rfl (lv_room (Nat.le_of_ble_eq_true rfl)) dL_put_5 ⟨Nat.le_of_ble_eq_true rfl, Nat.le_of_ble_eq_true rfl⟩) hP hD hS hA [0] [] rfl rfl (by decide) (by decide) (by decide) (by decide) (fun ce1 q1 w1 H1 lo1 hR1 hP1r hD1r hS1 hce1 hcv1 hcl1 => ?_)
  subst hR1
  have hP1 : va_P D classes [(ad0, ob 11 15 fn0)] H1 := hP1r
  have hD1 : va_D A [(ad0, ob 11 15 fn0)] := hD1r
  clear hP1r hD1r
  clear hP hD hS
  refine vx_catch (pc := 5) (E := "java/lang/IllegalArgumentException") hown [] ⟨0, 10, 13, 13⟩ [] htab (fun z hz => nomatch hz) rfl (by decide) (hG _ g_549) (va_Nw.use rfl (nw_at hE n_10)) hce1 hcv1 hcl1 ?_
  refine W.eq (g2 := F0 m 13 ls [.ref q1]) rfl ?_
  refine lv_astore (pc := 13) (lv' := [(4, .ref q1), (0, .ref ad0), (1, .int xi0), (2, .int 0), (3, .ref ad20)]) hx hb dL_put_13 hl (by decide) rfl (fun ls2 hl2 => ?_)
  clear hl ls
  refine lv_iconst (pc := 15) (v := 1) hx hb dL_put_15 (by decide) ?_
  have hP99 := hP1.sub (ws' := []) [] rfl
  have hD99 := hD1.sub (ws' := []) [] (by decide) rfl
  exact W.iret (pc := 16) (v := 1) hx hb hr (fun t ht hW => ⟨⟨1, (), rfl, rfl, _, rfl, by rw [ht]; exact hP99, hD99⟩, hS1.F ht⟩) hS1.2.2 dL_put_16
set_option maxHeartbeats 4000000 in
set_option maxRecDepth 100000 in
/-- L_put -/
theorem l_x_put_sb (l : Launch) (hst0 : l.stackTraces = false) (D : va_G) (cy : Nat → ClassId) (kv : KV) (sz : Nat) (ad0 : Nat) (xi0 : Int32) (ad20 : Nat) (fn0 : Nat → Value) (h0_1 : fn0 1 = .int 0) (hn : 3 ≤ xi0) : Met l yL_put (Cond.codeWith yL_put cL_put 5 (some .int) [(0, 10, 13, 13)] :: GW) ({ frames := 11, cells := 1, slots := 6, locals := 240 } : Room) (va_Pc [.ref ad0, .int xi0, .int 0, .ref ad20] (pcq D cy kv sz [(ad0, ob 11 15 fn0)])) (va_Qi (fun r (_ : Unit) => r = 1) (fun _ t => bq D (fun w => w = []) (va_A [(ad0, ob 11 15 fn0)] sz) t) (va_A [(ad0, ob 11 15 fn0)] sz)) 1 6 (va_A [(ad0, ob 11 15 fn0)] sz) := by
  refine va_MetW (hh := [(0, 10, 13, 13)]) (cc := cL_put) (maxL := 5) (ret := (some .int)) (by decide) rfl ?_
  intro p e s m args below meth c s₁ B hml hv
  obtain ⟨rfl, hsz, hP, hK, hD0, hE⟩ := hv
  have hx := B.exec
  have hb := B.bytes
  have hr := B.returns
  have hG : ∀ w ∈ GW, w.before ([.ref ad0, .int xi0, .int 0, .ref ad20] : List Value).toArray s = true := fun w h => atoms_spec (ws := Cond.codeWith yL_put cL_put 5 (some .int) [(0, 10, 13, 13)] :: GW) B.pre w (List.mem_cons_of_mem _ h)
  have hown : s.vm.findClass RL = some m.cls := findClass_of_methodNamed B.named
  have hlocks := B.notSynchronized
  subst hsz
  have hD := hD0.self (sz := s.heap.size)
  generalize hAe : va_A [(ad0, ob 11 15 fn0)] s.heap.size = A at hD hE ⊢
  have hA : ∀ q : Nat, s.heap.size ≤ q → A q := fun q h => by rw [← hAe]; exact Or.inr h
  have hS : va_S A s.heap s.heap [] := va_S.rf
  clear hAe hD0
  have hl0 := lv_entry ([.ref ad0, .int xi0, .int 0, .ref ad20]) (n := 5) (Nat.le_of_ble_eq_true rfl)
  rw [lg_entry_eq]
  generalize (lg_sl ([.ref ad0, .int xi0, .int 0, .ref ad20]) ++ List.replicate (5 - (lg_sl ([.ref ad0, .int xi0, .int 0, .ref ad20])).length) Slot.unset).toArray = ls at hl0 ⊢
  have hl : lv_has ls 5 [(0, .ref ad0), (1, .int xi0), (2, .int 0), (3, .ref ad20)] := hl0
  clear hl0
  have htab : c.exceptionTable.toList = [⟨0, 10, 13, 13⟩] := vx_table (x := yL_put) B (hG _ g_554)
  refine lv_aload_n (pc := 0) hx hb dL_put_0 rfl (lv_at hl 3 rfl) ?_
  refine lv_iconst (pc := 1) (v := 0) hx hb dL_put_1 (by decide) ?_
  refine lv_aload_n (pc := 2) hx hb dL_put_2 rfl (lv_at hl 0 rfl) ?_
  refine lv_iload_n (pc := 3) hx hb dL_put_3 rfl (lv_at hl 1 rfl) ?_
  refine lv_iload_n (pc := 4) hx hb dL_put_4 rfl (lv_at hl 2 rfl) ?_
  refine xq_call (pc := 5) (wr := []) (k2 := 1) (n2 := 6) (vx_runV (As := [.int xi0, .int 0]) (rest := [.int 0, .ref ad20]) ⟨hx, hb, hml, hown, hG⟩ (x_put_sb l hst0 D cy kv s.heap.size ad0 xi0 fn0 h0_1 hn) (cwV 2 hG (gi_V g_551 g_552 g_553 g_143 g_203) rfl rfl rfl (by decide +kernel) ⟨Nat.le_of_ble_eq_true rfl, Nat.le_of_ble_eq_true rfl⟩) ⟨pq_blind, (va_recv hK hP (ci := 11) (q0 := 0) rfl rfl), (pq_pass hP hD hK hE hS hA [0] rfl (by decide))⟩ rfl rfl hl.1 rfl (lv_room (Nat.le_of_ble_eq_true rfl)) dL_put_5 ⟨Nat.le_of_ble_eq_true rfl, Nat.le_of_ble_eq_true rfl⟩) hP hD hS hA [0] [] rfl rfl (by decide) (by decide) (by decide) (by decide) (fun ce1 q1 w1 H1 lo1 hR1 hP1r hD1r hS1 hce1 hcv1 hcl1 => ?_)
  subst hR1
  have hP1 : va_P D classes [(ad0, ob 11 15 fn0)] H1 := hP1r
  have hD1 : va_D A [(ad0, ob 11 15 fn0)] := hD1r
  clear hP1r hD1r
  clear hP hD hS
  refine vx_catch (pc := 5) (E := "java/lang/IllegalArgumentException") hown [] ⟨0, 10, 13, 13⟩ [] htab (fun z hz => nomatch hz) rfl (by decide) (hG _ g_549) (va_Nw.use rfl (nw_at hE n_10)) hce1 hcv1 hcl1 ?_
  refine W.eq (g2 := F0 m 13 ls [.ref q1]) rfl ?_
  refine lv_astore (pc := 13) (lv' := [(4, .ref q1), (0, .ref ad0), (1, .int xi0), (2, .int 0), (3, .ref ad20)]) hx hb dL_put_13 hl (by decide) rfl (fun ls2 hl2 => ?_)
  clear hl ls
  refine lv_iconst (pc := 15) (v := 1) hx hb dL_put_15 (by decide) ?_
  have hP99 := hP1.sub (ws' := []) [] rfl
  have hD99 := hD1.sub (ws' := []) [] (by decide) rfl
  exact W.iret (pc := 16) (v := 1) hx hb hr (fun t ht hW => ⟨⟨1, (), rfl, rfl, _, rfl, by rw [ht]; exact hP99, hD99⟩, hS1.F ht⟩) hS1.2.2 dL_put_16
set_option maxHeartbeats 4000000 in
set_option maxRecDepth 100000 in
/-- L_put -/
theorem l_c_put_k (l : Launch) (D : va_G) (cy : Nat → ClassId) (kv : KV) (sz : Nat) (ad0 : Nat) (xi0 : Int32) (ad20 : Nat) (fn0 : Nat → Value) (ct20 : Nat → Int64) (h0_1 : fn0 1 = .int 0) (hn : 0 ≤ xi0) (hm : xi0 < 3) : Met l yL_put (Cond.codeWith yL_put cL_put 5 (some .int) [(0, 10, 13, 13)] :: GW) ({ frames := 10, cells := 0, slots := 0, locals := 200 } : Room) (va_Pc [.ref ad0, .int xi0, .int 0, .ref ad20] (pcq D cy kv sz [(ad0, ob 11 15 fn0), (ad20, arl (cy 2) 1 ct20)])) (va_Qi (fun r (_ : Unit) => r = 0) (fun _ t => bq D (fun w => w = [(ad20, arl (cy 2) 1 (vp_updL ct20 (0 : Int32).toNatClampNeg 0))]) (va_A [(ad0, ob 11 15 fn0), (ad20, arl (cy 2) 1 ct20)] sz) t) (va_A [(ad0, ob 11 15 fn0), (ad20, arl (cy 2) 1 ct20)] sz)) 0 0 (va_A [(ad0, ob 11 15 fn0), (ad20, arl (cy 2) 1 ct20)] sz) := by
  refine va_MetW (hh := [(0, 10, 13, 13)]) (cc := cL_put) (maxL := 5) (ret := (some .int)) (by decide) rfl ?_
  intro p e s m args below meth c s₁ B hml hv
  obtain ⟨rfl, hsz, hP, hK, hD0, hE⟩ := hv
  have hx := B.exec
  have hb := B.bytes
  have hr := B.returns
  have hG : ∀ w ∈ GW, w.before ([.ref ad0, .int xi0, .int 0, .ref ad20] : List Value).toArray s = true := fun w h => atoms_spec (ws := Cond.codeWith yL_put cL_put 5 (some .int) [(0, 10, 13, 13)] :: GW) B.pre w (List.mem_cons_of_mem _ h)
  have hown : s.vm.findClass RL = some m.cls := findClass_of_methodNamed B.named
  have hlocks := B.notSynchronized
  subst hsz
  have hD := hD0.self (sz := s.heap.size)
  generalize hAe : va_A [(ad0, ob 11 15 fn0), (ad20, arl (cy 2) 1 ct20)] s.heap.size = A at hD hE ⊢
  have hA : ∀ q : Nat, s.heap.size ≤ q → A q := fun q h => by rw [← hAe]; exact Or.inr h
  have hS : va_S A s.heap s.heap [] := va_S.rf
  clear hAe hD0
  have hl0 := lv_entry ([.ref ad0, .int xi0, .int 0, .ref ad20]) (n := 5) (Nat.le_of_ble_eq_true rfl)
  rw [lg_entry_eq]
  generalize (lg_sl ([.ref ad0, .int xi0, .int 0, .ref ad20]) ++ List.replicate (5 - (lg_sl ([.ref ad0, .int xi0, .int 0, .ref ad20])).length) Slot.unset).toArray = ls at hl0 ⊢
  have hl : lv_has ls 5 [(0, .ref ad0), (1, .int xi0), (2, .int 0), (3, .ref ad20)] := hl0
  clear hl0
  have htab : c.exceptionTable.toList = [⟨0, 10, 13, 13⟩] := vx_table (x := yL_put) B (hG _ g_554)
  refine lv_aload_n (pc := 0) hx hb dL_put_0 rfl (lv_at hl 3 rfl) ?_
  refine lv_iconst (pc := 1) (v := 0) hx hb dL_put_1 (by decide) ?_
  refine lv_aload_n (pc := 2) hx hb dL_put_2 rfl (lv_at hl 0 rfl) ?_
  refine lv_iload_n (pc := 3) hx hb dL_put_3 rfl (lv_at hl 1 rfl) ?_
  refine lv_iload_n (pc := 4) hx hb dL_put_4 rfl (lv_at hl 2 rfl) ?_
  refine cq_i (pc := 5) (wr := [(ad20, arl (cy 2) 1 ct20)]) (k2 := 0) (n2 := 0) (va_runV (As := [.int xi0, .int 0]) (rest := [.int 0, .ref ad20]) ⟨hx, hb, hml, hown, hG⟩ (c_put_k l D cy kv s.heap.size ad0 xi0 fn0 h0_1 hn hm) (cwV 2 hG (gi_V g_551 g_552 g_553 g_143 g_203) rfl rfl rfl (by decide +kernel) ⟨Nat.le_of_ble_eq_true rfl, Nat.le_of_ble_eq_true rfl⟩) ⟨pq_blind, (va_recv hK hP (ci := 11) (q0 := 0) rfl rfl), (pq_pass hP hD hK hE hS hA [0] rfl (by decide))⟩ rfl rfl hl.1 rfl (lv_room (Nat.le_of_ble_eq_true rfl)) dL_put_5 ⟨Nat.le_of_ble_eq_true rfl, Nat.le_of_ble_eq_true rfl⟩) hP hD hS hA [0] [1] rfl rfl (by decide) (by decide) (by decide) (by decide) (fun r1 w1 H1 lo1 e1 hR1 hP1r hD1r hS1 => ?_)
  subst hR1
  subst e1
  have hP1 : va_P D classes [(ad20, arl (cy 2) 1 ct20), (ad0, ob 11 15 (vup fn0 1 (.int 0)))] H1 := hP1r
  have hD1 : va_D A [(ad20, arl (cy 2) 1 ct20), (ad0, ob 11 15 (vup fn0 1 (.int 0)))] := hD1r
  clear hP1r hD1r
  clear hP hD hS
  refine lv_i2l (pc := 8) (v := 0) hx hb dL_put_8 (by decide) ?_
  refine va_last (pc := 9) hx hb hK hP1 hD1 hS1 0 2 rfl rfl (show ¬ ((0 : Int32) < 0 ∨ 1 ≤ (0 : Int32).toNatClampNeg) by decide) dL_put_9 (fun H2 lo2 hP2r hD2r hS2 => ?_)
  have hP2 : va_P D classes [(ad20, arl (cy 2) 1 (vp_updL ct20 (0 : Int32).toNatClampNeg 0)), (ad0, ob 11 15 (vup fn0 1 (.int 0)))] H2 := hP2r
  have hD2 : va_D A [(ad20, arl (cy 2) 1 (vp_updL ct20 (0 : Int32).toNatClampNeg 0)), (ad0, ob 11 15 (vup fn0 1 (.int 0)))] := hD2r
  clear hP2r hD2r
  clear hP1 hD1 hS1
  clear H1 lo1
  refine lv_goto (pc := 10) (tgt := 17) hx hb dL_put_10 (by decide) ?_
  refine lv_iconst (pc := 17) (v := 0) hx hb dL_put_17 (by decide) ?_
  have hP99 := hP2.sub (ws' := [(ad20, arl (cy 2) 1 (vp_updL ct20 (0 : Int32).toNatClampNeg 0))]) [0] rfl
  have hD99 := hD2.sub (ws' := [(ad20, arl (cy 2) 1 (vp_updL ct20 (0 : Int32).toNatClampNeg 0))]) [0] (by decide) rfl
  exact W.iret (pc := 18) (v := 0) hx hb hr (fun t ht hW => ⟨⟨0, (), rfl, rfl, _, rfl, by rw [ht]; exact hP99, hD99⟩, hS2.F ht⟩) hS2.2.2 dL_put_18
set_option maxHeartbeats 4000000 in
set_option maxRecDepth 100000 in
/-- L_clear -/
theorem l_x_clear_n (l : Launch) (hst0 : l.stackTraces = false) (D : va_G) (cy : Nat → ClassId) (kv : KV) (sz : Nat) (ad0 : Nat) (xi0 : Int32) (ad20 : Nat) (fn0 : Nat → Value) (hn : xi0 < 0) : Met l yL_clear (Cond.codeWith yL_clear cL_clear 4 (some .int) [(0, 9, 12, 13)] :: GW) ({ frames := 11, cells := 1, slots := 6, locals := 240 } : Room) (va_Pc [.ref ad0, .int xi0, .ref ad20] (pcq D cy kv sz [(ad0, ob 11 15 fn0)])) (va_Qi (fun r (_ : Unit) => r = 1) (fun _ t => bq D (fun w => w = []) (va_A [(ad0, ob 11 15 fn0)] sz) t) (va_A [(ad0, ob 11 15 fn0)] sz)) 1 6 (va_A [(ad0, ob 11 15 fn0)] sz) := by
  refine va_MetW (hh := [(0, 9, 12, 13)]) (cc := cL_clear) (maxL := 4) (ret := (some .int)) (by decide) rfl ?_
  intro p e s m args below meth c s₁ B hml hv
  obtain ⟨rfl, hsz, hP, hK, hD0, hE⟩ := hv
  have hx := B.exec
  have hb := B.bytes
  have hr := B.returns
  have hG : ∀ w ∈ GW, w.before ([.ref ad0, .int xi0, .ref ad20] : List Value).toArray s = true := fun w h => atoms_spec (ws := Cond.codeWith yL_clear cL_clear 4 (some .int) [(0, 9, 12, 13)] :: GW) B.pre w (List.mem_cons_of_mem _ h)
  have hown : s.vm.findClass RL = some m.cls := findClass_of_methodNamed B.named
  have hlocks := B.notSynchronized
  subst hsz
  have hD := hD0.self (sz := s.heap.size)
  generalize hAe : va_A [(ad0, ob 11 15 fn0)] s.heap.size = A at hD hE ⊢
  have hA : ∀ q : Nat, s.heap.size ≤ q → A q := fun q h => by rw [← hAe]; exact Or.inr h
  have hS : va_S A s.heap s.heap [] := va_S.rf
  clear hAe hD0
  have hl0 := lv_entry ([.ref ad0, .int xi0, .ref ad20]) (n := 4) (Nat.le_of_ble_eq_true rfl)
  rw [lg_entry_eq]
  generalize (lg_sl ([.ref ad0, .int xi0, .ref ad20]) ++ List.replicate (4 - (lg_sl ([.ref ad0, .int xi0, .ref ad20])).length) Slot.unset).toArray = ls at hl0 ⊢
  have hl : lv_has ls 4 [(0, .ref ad0), (1, .int xi0), (2, .ref ad20)] := hl0
  clear hl0
  have htab : c.exceptionTable.toList = [⟨0, 9, 12, 13⟩] := vx_table (x := yL_clear) B (hG _ g_558)
  refine lv_aload_n (pc := 0) hx hb dL_clear_0 rfl (lv_at hl 2 rfl) ?_
  refine lv_iconst (pc := 1) (v := 0) hx hb dL_clear_1 (by decide) ?_
  refine lv_aload_n (pc := 2) hx hb dL_clear_2 rfl (lv_at hl 0 rfl) ?_
  refine lv_iload_n (pc := 3) hx hb dL_clear_3 rfl (lv_at hl 1 rfl) ?_
  refine xq_call (pc := 4) (wr := []) (k2 := 1) (n2 := 6) (vx_runV (As := [.int xi0]) (rest := [.int 0, .ref ad20]) ⟨hx, hb, hml, hown, hG⟩ (x_clear_n l hst0 D cy kv s.heap.size ad0 xi0 fn0 hn) (cwV 1 hG (gi_V g_555 g_556 g_557 g_143 g_206) rfl rfl rfl (by decide +kernel) ⟨Nat.le_of_ble_eq_true rfl, Nat.le_of_ble_eq_true rfl⟩) ⟨pq_blind, (va_recv hK hP (ci := 11) (q0 := 0) rfl rfl), (pq_pass hP hD hK hE hS hA [0] rfl (by decide))⟩ rfl rfl hl.1 rfl (lv_room (Nat.le_of_ble_eq_true rfl)) dL_clear_4 ⟨Nat.le_of_ble_eq_true rfl, Nat.le_of_ble_eq_true rfl⟩) hP hD hS hA [0] [] rfl rfl (by decide) (by decide) (by decide) (by decide) (fun ce1 q1 w1 H1 lo1 hR1 hP1r hD1r hS1 hce1 hcv1 hcl1 => ?_)
  subst hR1
  have hP1 : va_P D classes [(ad0, ob 11 15 fn0)] H1 := hP1r
  have hD1 : va_D A [(ad0, ob 11 15 fn0)] := hD1r
  clear hP1r hD1r
  clear hP hD hS
  refine vx_catch (pc := 4) (E := "java/lang/IllegalArgumentException") hown [] ⟨0, 9, 12, 13⟩ [] htab (fun z hz => nomatch hz) rfl (by decide) (hG _ g_549) (va_Nw.use rfl (nw_at hE n_10)) hce1 hcv1 hcl1 ?_
  refine W.eq (g2 := F0 m 12 ls [.ref q1]) rfl ?_
  refine lv_astore_n (pc := 12) (lv' := [(3, .ref q1), (0, .ref ad0), (1, .int xi0), (2, .ref ad20)]) hx hb dL_clear_12 rfl hl (by decide) rfl (fun ls2 hl2 => ?_)
  clear hl ls
  refine lv_iconst (pc := 13) (v := 1) hx hb dL_clear_13 (by decide) ?_
  have hP99 := hP1.sub (ws' := []) [] rfl
  have hD99 := hD1.sub (ws' := []) [] (by decide) rfl
  exact W.iret (pc := 14) (v := 1) hx hb hr (fun t ht hW => ⟨⟨1, (), rfl, rfl, _, rfl, by rw [ht]; exact hP99, hD99⟩, hS1.F ht⟩) hS1.2.2 dL_clear_14
set_option maxHeartbeats 4000000 in
set_option maxRecDepth 100000 in
/-- L_clear -/
theorem l_x_clear_b (l : Launch) (hst0 : l.stackTraces = false) (D : va_G) (cy : Nat → ClassId) (kv : KV) (sz : Nat) (ad0 : Nat) (xi0 : Int32) (ad20 : Nat) (fn0 : Nat → Value) (hn : 3 ≤ xi0) : Met l yL_clear (Cond.codeWith yL_clear cL_clear 4 (some .int) [(0, 9, 12, 13)] :: GW) ({ frames := 11, cells := 1, slots := 6, locals := 240 } : Room) (va_Pc [.ref ad0, .int xi0, .ref ad20] (pcq D cy kv sz [(ad0, ob 11 15 fn0)])) (va_Qi (fun r (_ : Unit) => r = 1) (fun _ t => bq D (fun w => w = []) (va_A [(ad0, ob 11 15 fn0)] sz) t) (va_A [(ad0, ob 11 15 fn0)] sz)) 1 6 (va_A [(ad0, ob 11 15 fn0)] sz) := by
  refine va_MetW (hh := [(0, 9, 12, 13)]) (cc := cL_clear) (maxL := 4) (ret := (some .int)) (by decide) rfl ?_
  intro p e s m args below meth c s₁ B hml hv
  obtain ⟨rfl, hsz, hP, hK, hD0, hE⟩ := hv
  have hx := B.exec
  have hb := B.bytes
  have hr := B.returns
  have hG : ∀ w ∈ GW, w.before ([.ref ad0, .int xi0, .ref ad20] : List Value).toArray s = true := fun w h => atoms_spec (ws := Cond.codeWith yL_clear cL_clear 4 (some .int) [(0, 9, 12, 13)] :: GW) B.pre w (List.mem_cons_of_mem _ h)
  have hown : s.vm.findClass RL = some m.cls := findClass_of_methodNamed B.named
  have hlocks := B.notSynchronized
  subst hsz
  have hD := hD0.self (sz := s.heap.size)
  generalize hAe : va_A [(ad0, ob 11 15 fn0)] s.heap.size = A at hD hE ⊢
  have hA : ∀ q : Nat, s.heap.size ≤ q → A q := fun q h => by rw [← hAe]; exact Or.inr h
  have hS : va_S A s.heap s.heap [] := va_S.rf
  clear hAe hD0
  have hl0 := lv_entry ([.ref ad0, .int xi0, .ref ad20]) (n := 4) (Nat.le_of_ble_eq_true rfl)
  rw [lg_entry_eq]
  generalize (lg_sl ([.ref ad0, .int xi0, .ref ad20]) ++ List.replicate (4 - (lg_sl ([.ref ad0, .int xi0, .ref ad20])).length) Slot.unset).toArray = ls at hl0 ⊢
  have hl : lv_has ls 4 [(0, .ref ad0), (1, .int xi0), (2, .ref ad20)] := hl0
  clear hl0
  have htab : c.exceptionTable.toList = [⟨0, 9, 12, 13⟩] := vx_table (x := yL_clear) B (hG _ g_558)
  refine lv_aload_n (pc := 0) hx hb dL_clear_0 rfl (lv_at hl 2 rfl) ?_
  refine lv_iconst (pc := 1) (v := 0) hx hb dL_clear_1 (by decide) ?_
  refine lv_aload_n (pc := 2) hx hb dL_clear_2 rfl (lv_at hl 0 rfl) ?_
  refine lv_iload_n (pc := 3) hx hb dL_clear_3 rfl (lv_at hl 1 rfl) ?_
  refine xq_call (pc := 4) (wr := []) (k2 := 1) (n2 := 6) (vx_runV (As := [.int xi0]) (rest := [.int 0, .ref ad20]) ⟨hx, hb, hml, hown, hG⟩ (x_clear_b l hst0 D cy kv s.heap.size ad0 xi0 fn0 hn) (cwV 1 hG (gi_V g_555 g_556 g_557 g_143 g_206) rfl rfl rfl (by decide +kernel) ⟨Nat.le_of_ble_eq_true rfl, Nat.le_of_ble_eq_true rfl⟩) ⟨pq_blind, (va_recv hK hP (ci := 11) (q0 := 0) rfl rfl), (pq_pass hP hD hK hE hS hA [0] rfl (by decide))⟩ rfl rfl hl.1 rfl (lv_room (Nat.le_of_ble_eq_true rfl)) dL_clear_4 ⟨Nat.le_of_ble_eq_true rfl, Nat.le_of_ble_eq_true rfl⟩) hP hD hS hA [0] [] rfl rfl (by decide) (by decide) (by decide) (by decide) (fun ce1 q1 w1 H1 lo1 hR1 hP1r hD1r hS1 hce1 hcv1 hcl1 => ?_)
  subst hR1
  have hP1 : va_P D classes [(ad0, ob 11 15 fn0)] H1 := hP1r
  have hD1 : va_D A [(ad0, ob 11 15 fn0)] := hD1r
  clear hP1r hD1r
  clear hP hD hS
  refine vx_catch (pc := 4) (E := "java/lang/IllegalArgumentException") hown [] ⟨0, 9, 12, 13⟩ [] htab (fun z hz => nomatch hz) rfl (by decide) (hG _ g_549) (va_Nw.use rfl (nw_at hE n_10)) hce1 hcv1 hcl1 ?_
  refine W.eq (g2 := F0 m 12 ls [.ref q1]) rfl ?_
  refine lv_astore_n (pc := 12) (lv' := [(3, .ref q1), (0, .ref ad0), (1, .int xi0), (2, .ref ad20)]) hx hb dL_clear_12 rfl hl (by decide) rfl (fun ls2 hl2 => ?_)
  clear hl ls
  refine lv_iconst (pc := 13) (v := 1) hx hb dL_clear_13 (by decide) ?_
  have hP99 := hP1.sub (ws' := []) [] rfl
  have hD99 := hD1.sub (ws' := []) [] (by decide) rfl
  exact W.iret (pc := 14) (v := 1) hx hb hr (fun t ht hW => ⟨⟨1, (), rfl, rfl, _, rfl, by rw [ht]; exact hP99, hD99⟩, hS1.F ht⟩) hS1.2.2 dL_clear_14
set_option maxHeartbeats 4000000 in
set_option maxRecDepth 100000 in
/-- L_clear -/
theorem l_c_clear_0 (l : Launch) (D : va_G) (cy : Nat → ClassId) (kv : KV) (sz : Nat) (ad0 : Nat) (ad20 : Nat) (fn0 : Nat → Value) (ad1 : Nat) (ad2 : Nat) (ad3 : Nat) (ad4 : Nat) (fn2 : Nat → Value) (ct20 : Nat → Int64) (h0_7 : fn0 7 = .ref ad1) (h2_5 : fn2 5 = .int 0) : Met l yL_clear (Cond.codeWith yL_clear cL_clear 4 (some .int) [(0, 9, 12, 13)] :: GW) ({ frames := 10, cells := 0, slots := 0, locals := 200 } : Room) (va_Pc [.ref ad0, .int 0, .ref ad20] (pcq D cy kv sz [(ad0, ob 11 15 fn0), (ad1, arq (cy 6) 3 (va_up (va_up (va_up (fun _ => none) (0 : Int32).toNatClampNeg (some ad2)) (1 : Int32).toNatClampNeg (some ad3)) (2 : Int32).toNatClampNeg (some ad4))), (ad2, ob 7 6 fn2), (ad20, arl (cy 2) 1 ct20)])) (va_Qi (fun r (_ : Unit) => r = 0) (fun _ t => bq D (fun w => w = [(ad20, arl (cy 2) 1 (vp_updL ct20 (0 : Int32).toNatClampNeg 0))]) (va_A [(ad0, ob 11 15 fn0), (ad1, arq (cy 6) 3 (va_up (va_up (va_up (fun _ => none) (0 : Int32).toNatClampNeg (some ad2)) (1 : Int32).toNatClampNeg (some ad3)) (2 : Int32).toNatClampNeg (some ad4))), (ad2, ob 7 6 fn2), (ad20, arl (cy 2) 1 ct20)] sz) t) (va_A [(ad0, ob 11 15 fn0), (ad1, arq (cy 6) 3 (va_up (va_up (va_up (fun _ => none) (0 : Int32).toNatClampNeg (some ad2)) (1 : Int32).toNatClampNeg (some ad3)) (2 : Int32).toNatClampNeg (some ad4))), (ad2, ob 7 6 fn2), (ad20, arl (cy 2) 1 ct20)] sz)) 0 0 (va_A [(ad0, ob 11 15 fn0), (ad1, arq (cy 6) 3 (va_up (va_up (va_up (fun _ => none) (0 : Int32).toNatClampNeg (some ad2)) (1 : Int32).toNatClampNeg (some ad3)) (2 : Int32).toNatClampNeg (some ad4))), (ad2, ob 7 6 fn2), (ad20, arl (cy 2) 1 ct20)] sz) := by
  refine va_MetW (hh := [(0, 9, 12, 13)]) (cc := cL_clear) (maxL := 4) (ret := (some .int)) (by decide) rfl ?_
  intro p e s m args below meth c s₁ B hml hv
  obtain ⟨rfl, hsz, hP, hK, hD0, hE⟩ := hv
  have hx := B.exec
  have hb := B.bytes
  have hr := B.returns
  have hG : ∀ w ∈ GW, w.before ([.ref ad0, .int 0, .ref ad20] : List Value).toArray s = true := fun w h => atoms_spec (ws := Cond.codeWith yL_clear cL_clear 4 (some .int) [(0, 9, 12, 13)] :: GW) B.pre w (List.mem_cons_of_mem _ h)
  have hown : s.vm.findClass RL = some m.cls := findClass_of_methodNamed B.named
  have hlocks := B.notSynchronized
  subst hsz
  have hD := hD0.self (sz := s.heap.size)
  generalize hAe : va_A [(ad0, ob 11 15 fn0), (ad1, arq (cy 6) 3 (va_up (va_up (va_up (fun _ => none) (0 : Int32).toNatClampNeg (some ad2)) (1 : Int32).toNatClampNeg (some ad3)) (2 : Int32).toNatClampNeg (some ad4))), (ad2, ob 7 6 fn2), (ad20, arl (cy 2) 1 ct20)] s.heap.size = A at hD hE ⊢
  have hA : ∀ q : Nat, s.heap.size ≤ q → A q := fun q h => by rw [← hAe]; exact Or.inr h
  have hS : va_S A s.heap s.heap [] := va_S.rf
  clear hAe hD0
  have hl0 := lv_entry ([.ref ad0, .int 0, .ref ad20]) (n := 4) (Nat.le_of_ble_eq_true rfl)
  rw [lg_entry_eq]
  generalize (lg_sl ([.ref ad0, .int 0, .ref ad20]) ++ List.replicate (4 - (lg_sl ([.ref ad0, .int 0, .ref ad20])).length) Slot.unset).toArray = ls at hl0 ⊢
  have hl : lv_has ls 4 [(0, .ref ad0), (1, .int 0), (2, .ref ad20)] := hl0
  clear hl0
  have htab : c.exceptionTable.toList = [⟨0, 9, 12, 13⟩] := vx_table (x := yL_clear) B (hG _ g_558)
  refine lv_aload_n (pc := 0) hx hb dL_clear_0 rfl (lv_at hl 2 rfl) ?_
  refine lv_iconst (pc := 1) (v := 0) hx hb dL_clear_1 (by decide) ?_
  refine lv_aload_n (pc := 2) hx hb dL_clear_2 rfl (lv_at hl 0 rfl) ?_
  refine lv_iload_n (pc := 3) hx hb dL_clear_3 rfl (lv_at hl 1 rfl) ?_
  refine cq_i (pc := 4) (wr := [(ad20, arl (cy 2) 1 ct20)]) (k2 := 0) (n2 := 0) (va_runV (As := [.int 0]) (rest := [.int 0, .ref ad20]) ⟨hx, hb, hml, hown, hG⟩ (c_clear_0 l D cy kv s.heap.size ad0 fn0 ad1 ad2 ad3 ad4 fn2 h0_7 h2_5) (cwV 1 hG (gi_V g_555 g_556 g_557 g_143 g_206) rfl rfl rfl (by decide +kernel) ⟨Nat.le_of_ble_eq_true rfl, Nat.le_of_ble_eq_true rfl⟩) ⟨pq_blind, (va_recv hK hP (ci := 11) (q0 := 0) rfl rfl), (pq_pass hP hD hK hE hS hA [0, 1, 2] rfl (by decide))⟩ rfl rfl hl.1 rfl (lv_room (Nat.le_of_ble_eq_true rfl)) dL_clear_4 ⟨Nat.le_of_ble_eq_true rfl, Nat.le_of_ble_eq_true rfl⟩) hP hD hS hA [0, 1, 2] [3] rfl rfl (by decide) (by decide) (by decide) (by decide) (fun r1 w1 H1 lo1 e1 hR1 hP1r hD1r hS1 => ?_)
  subst hR1
  subst e1
  have hP1 : va_P D classes [(ad20, arl (cy 2) 1 ct20)] H1 := hP1r
  have hD1 : va_D A [(ad20, arl (cy 2) 1 ct20)] := hD1r
  clear hP1r hD1r
  clear hP hD hS
  refine lv_i2l (pc := 7) (v := 0) hx hb dL_clear_7 (by decide) ?_
  refine va_last (pc := 8) hx hb hK hP1 hD1 hS1 0 2 rfl rfl (show ¬ ((0 : Int32) < 0 ∨ 1 ≤ (0 : Int32).toNatClampNeg) by decide) dL_clear_8 (fun H2 lo2 hP2r hD2r hS2 => ?_)
  have hP2 : va_P D classes [(ad20, arl (cy 2) 1 (vp_updL ct20 (0 : Int32).toNatClampNeg 0))] H2 := hP2r
  have hD2 : va_D A [(ad20, arl (cy 2) 1 (vp_updL ct20 (0 : Int32).toNatClampNeg 0))] := hD2r
  clear hP2r hD2r
  clear hP1 hD1 hS1
  clear H1 lo1
  refine lv_goto (pc := 9) (tgt := 15) hx hb dL_clear_9 (by decide) ?_
  refine lv_iconst (pc := 15) (v := 0) hx hb dL_clear_15 (by decide) ?_
  exact W.iret (pc := 16) (v := 0) hx hb hr (fun t ht hW => ⟨⟨0, (), rfl, rfl, _, rfl, by rw [ht]; exact hP2, hD2⟩, hS2.F ht⟩) hS2.2.2 dL_clear_16
set_option maxHeartbeats 4000000 in
set_option maxRecDepth 100000 in
/-- L_clear -/
theorem l_c_clear_1 (l : Launch) (D : va_G) (cy : Nat → ClassId) (kv : KV) (sz : Nat) (ad0 : Nat) (ad20 : Nat) (fn0 : Nat → Value) (ad1 : Nat) (ad2 : Nat) (ad3 : Nat) (ad4 : Nat) (fn3 : Nat → Value) (ct20 : Nat → Int64) (h0_7 : fn0 7 = .ref ad1) (h2_5 : fn3 5 = .int 0) : Met l yL_clear (Cond.codeWith yL_clear cL_clear 4 (some .int) [(0, 9, 12, 13)] :: GW) ({ frames := 10, cells := 0, slots := 0, locals := 200 } : Room) (va_Pc [.ref ad0, .int 1, .ref ad20] (pcq D cy kv sz [(ad0, ob 11 15 fn0), (ad1, arq (cy 6) 3 (va_up (va_up (va_up (fun _ => none) (0 : Int32).toNatClampNeg (some ad2)) (1 : Int32).toNatClampNeg (some ad3)) (2 : Int32).toNatClampNeg (some ad4))), (ad3, ob 7 6 fn3), (ad20, arl (cy 2) 1 ct20)])) (va_Qi (fun r (_ : Unit) => r = 0) (fun _ t => bq D (fun w => w = [(ad20, arl (cy 2) 1 (vp_updL ct20 (0 : Int32).toNatClampNeg 0))]) (va_A [(ad0, ob 11 15 fn0), (ad1, arq (cy 6) 3 (va_up (va_up (va_up (fun _ => none) (0 : Int32).toNatClampNeg (some ad2)) (1 : Int32).toNatClampNeg (some ad3)) (2 : Int32).toNatClampNeg (some ad4))), (ad3, ob 7 6 fn3), (ad20, arl (cy 2) 1 ct20)] sz) t) (va_A [(ad0, ob 11 15 fn0), (ad1, arq (cy 6) 3 (va_up (va_up (va_up (fun _ => none) (0 : Int32).toNatClampNeg (some ad2)) (1 : Int32).toNatClampNeg (some ad3)) (2 : Int32).toNatClampNeg (some ad4))), (ad3, ob 7 6 fn3), (ad20, arl (cy 2) 1 ct20)] sz)) 0 0 (va_A [(ad0, ob 11 15 fn0), (ad1, arq (cy 6) 3 (va_up (va_up (va_up (fun _ => none) (0 : Int32).toNatClampNeg (some ad2)) (1 : Int32).toNatClampNeg (some ad3)) (2 : Int32).toNatClampNeg (some ad4))), (ad3, ob 7 6 fn3), (ad20, arl (cy 2) 1 ct20)] sz) := by
  refine va_MetW (hh := [(0, 9, 12, 13)]) (cc := cL_clear) (maxL := 4) (ret := (some .int)) (by decide) rfl ?_
  intro p e s m args below meth c s₁ B hml hv
  obtain ⟨rfl, hsz, hP, hK, hD0, hE⟩ := hv
  have hx := B.exec
  have hb := B.bytes
  have hr := B.returns
  have hG : ∀ w ∈ GW, w.before ([.ref ad0, .int 1, .ref ad20] : List Value).toArray s = true := fun w h => atoms_spec (ws := Cond.codeWith yL_clear cL_clear 4 (some .int) [(0, 9, 12, 13)] :: GW) B.pre w (List.mem_cons_of_mem _ h)
  have hown : s.vm.findClass RL = some m.cls := findClass_of_methodNamed B.named
  have hlocks := B.notSynchronized
  subst hsz
  have hD := hD0.self (sz := s.heap.size)
  generalize hAe : va_A [(ad0, ob 11 15 fn0), (ad1, arq (cy 6) 3 (va_up (va_up (va_up (fun _ => none) (0 : Int32).toNatClampNeg (some ad2)) (1 : Int32).toNatClampNeg (some ad3)) (2 : Int32).toNatClampNeg (some ad4))), (ad3, ob 7 6 fn3), (ad20, arl (cy 2) 1 ct20)] s.heap.size = A at hD hE ⊢
  have hA : ∀ q : Nat, s.heap.size ≤ q → A q := fun q h => by rw [← hAe]; exact Or.inr h
  have hS : va_S A s.heap s.heap [] := va_S.rf
  clear hAe hD0
  have hl0 := lv_entry ([.ref ad0, .int 1, .ref ad20]) (n := 4) (Nat.le_of_ble_eq_true rfl)
  rw [lg_entry_eq]
  generalize (lg_sl ([.ref ad0, .int 1, .ref ad20]) ++ List.replicate (4 - (lg_sl ([.ref ad0, .int 1, .ref ad20])).length) Slot.unset).toArray = ls at hl0 ⊢
  have hl : lv_has ls 4 [(0, .ref ad0), (1, .int 1), (2, .ref ad20)] := hl0
  clear hl0
  have htab : c.exceptionTable.toList = [⟨0, 9, 12, 13⟩] := vx_table (x := yL_clear) B (hG _ g_558)
  refine lv_aload_n (pc := 0) hx hb dL_clear_0 rfl (lv_at hl 2 rfl) ?_
  refine lv_iconst (pc := 1) (v := 0) hx hb dL_clear_1 (by decide) ?_
  refine lv_aload_n (pc := 2) hx hb dL_clear_2 rfl (lv_at hl 0 rfl) ?_
  refine lv_iload_n (pc := 3) hx hb dL_clear_3 rfl (lv_at hl 1 rfl) ?_
  refine cq_i (pc := 4) (wr := [(ad20, arl (cy 2) 1 ct20)]) (k2 := 0) (n2 := 0) (va_runV (As := [.int 1]) (rest := [.int 0, .ref ad20]) ⟨hx, hb, hml, hown, hG⟩ (c_clear_1 l D cy kv s.heap.size ad0 fn0 ad1 ad2 ad3 ad4 fn3 h0_7 h2_5) (cwV 1 hG (gi_V g_555 g_556 g_557 g_143 g_206) rfl rfl rfl (by decide +kernel) ⟨Nat.le_of_ble_eq_true rfl, Nat.le_of_ble_eq_true rfl⟩) ⟨pq_blind, (va_recv hK hP (ci := 11) (q0 := 0) rfl rfl), (pq_pass hP hD hK hE hS hA [0, 1, 2] rfl (by decide))⟩ rfl rfl hl.1 rfl (lv_room (Nat.le_of_ble_eq_true rfl)) dL_clear_4 ⟨Nat.le_of_ble_eq_true rfl, Nat.le_of_ble_eq_true rfl⟩) hP hD hS hA [0, 1, 2] [3] rfl rfl (by decide) (by decide) (by decide) (by decide) (fun r1 w1 H1 lo1 e1 hR1 hP1r hD1r hS1 => ?_)
  subst hR1
  subst e1
  have hP1 : va_P D classes [(ad20, arl (cy 2) 1 ct20)] H1 := hP1r
  have hD1 : va_D A [(ad20, arl (cy 2) 1 ct20)] := hD1r
  clear hP1r hD1r
  clear hP hD hS
  refine lv_i2l (pc := 7) (v := 0) hx hb dL_clear_7 (by decide) ?_
  refine va_last (pc := 8) hx hb hK hP1 hD1 hS1 0 2 rfl rfl (show ¬ ((0 : Int32) < 0 ∨ 1 ≤ (0 : Int32).toNatClampNeg) by decide) dL_clear_8 (fun H2 lo2 hP2r hD2r hS2 => ?_)
  have hP2 : va_P D classes [(ad20, arl (cy 2) 1 (vp_updL ct20 (0 : Int32).toNatClampNeg 0))] H2 := hP2r
  have hD2 : va_D A [(ad20, arl (cy 2) 1 (vp_updL ct20 (0 : Int32).toNatClampNeg 0))] := hD2r
  clear hP2r hD2r
  clear hP1 hD1 hS1
  clear H1 lo1
  refine lv_goto (pc := 9) (tgt := 15) hx hb dL_clear_9 (by decide) ?_
  refine lv_iconst (pc := 15) (v := 0) hx hb dL_clear_15 (by decide) ?_
  exact W.iret (pc := 16) (v := 0) hx hb hr (fun t ht hW => ⟨⟨0, (), rfl, rfl, _, rfl, by rw [ht]; exact hP2, hD2⟩, hS2.F ht⟩) hS2.2.2 dL_clear_16
set_option maxHeartbeats 4000000 in
set_option maxRecDepth 100000 in
/-- L_clear -/
theorem l_c_clear_2 (l : Launch) (D : va_G) (cy : Nat → ClassId) (kv : KV) (sz : Nat) (ad0 : Nat) (ad20 : Nat) (fn0 : Nat → Value) (ad1 : Nat) (ad2 : Nat) (ad3 : Nat) (ad4 : Nat) (fn4 : Nat → Value) (ct20 : Nat → Int64) (h0_7 : fn0 7 = .ref ad1) (h2_5 : fn4 5 = .int 0) : Met l yL_clear (Cond.codeWith yL_clear cL_clear 4 (some .int) [(0, 9, 12, 13)] :: GW) ({ frames := 10, cells := 0, slots := 0, locals := 200 } : Room) (va_Pc [.ref ad0, .int 2, .ref ad20] (pcq D cy kv sz [(ad0, ob 11 15 fn0), (ad1, arq (cy 6) 3 (va_up (va_up (va_up (fun _ => none) (0 : Int32).toNatClampNeg (some ad2)) (1 : Int32).toNatClampNeg (some ad3)) (2 : Int32).toNatClampNeg (some ad4))), (ad4, ob 7 6 fn4), (ad20, arl (cy 2) 1 ct20)])) (va_Qi (fun r (_ : Unit) => r = 0) (fun _ t => bq D (fun w => w = [(ad20, arl (cy 2) 1 (vp_updL ct20 (0 : Int32).toNatClampNeg 0))]) (va_A [(ad0, ob 11 15 fn0), (ad1, arq (cy 6) 3 (va_up (va_up (va_up (fun _ => none) (0 : Int32).toNatClampNeg (some ad2)) (1 : Int32).toNatClampNeg (some ad3)) (2 : Int32).toNatClampNeg (some ad4))), (ad4, ob 7 6 fn4), (ad20, arl (cy 2) 1 ct20)] sz) t) (va_A [(ad0, ob 11 15 fn0), (ad1, arq (cy 6) 3 (va_up (va_up (va_up (fun _ => none) (0 : Int32).toNatClampNeg (some ad2)) (1 : Int32).toNatClampNeg (some ad3)) (2 : Int32).toNatClampNeg (some ad4))), (ad4, ob 7 6 fn4), (ad20, arl (cy 2) 1 ct20)] sz)) 0 0 (va_A [(ad0, ob 11 15 fn0), (ad1, arq (cy 6) 3 (va_up (va_up (va_up (fun _ => none) (0 : Int32).toNatClampNeg (some ad2)) (1 : Int32).toNatClampNeg (some ad3)) (2 : Int32).toNatClampNeg (some ad4))), (ad4, ob 7 6 fn4), (ad20, arl (cy 2) 1 ct20)] sz) := by
  refine va_MetW (hh := [(0, 9, 12, 13)]) (cc := cL_clear) (maxL := 4) (ret := (some .int)) (by decide) rfl ?_
  intro p e s m args below meth c s₁ B hml hv
  obtain ⟨rfl, hsz, hP, hK, hD0, hE⟩ := hv
  have hx := B.exec
  have hb := B.bytes
  have hr := B.returns
  have hG : ∀ w ∈ GW, w.before ([.ref ad0, .int 2, .ref ad20] : List Value).toArray s = true := fun w h => atoms_spec (ws := Cond.codeWith yL_clear cL_clear 4 (some .int) [(0, 9, 12, 13)] :: GW) B.pre w (List.mem_cons_of_mem _ h)
  have hown : s.vm.findClass RL = some m.cls := findClass_of_methodNamed B.named
  have hlocks := B.notSynchronized
  subst hsz
  have hD := hD0.self (sz := s.heap.size)
  generalize hAe : va_A [(ad0, ob 11 15 fn0), (ad1, arq (cy 6) 3 (va_up (va_up (va_up (fun _ => none) (0 : Int32).toNatClampNeg (some ad2)) (1 : Int32).toNatClampNeg (some ad3)) (2 : Int32).toNatClampNeg (some ad4))), (ad4, ob 7 6 fn4), (ad20, arl (cy 2) 1 ct20)] s.heap.size = A at hD hE ⊢
  have hA : ∀ q : Nat, s.heap.size ≤ q → A q := fun q h => by rw [← hAe]; exact Or.inr h
  have hS : va_S A s.heap s.heap [] := va_S.rf
  clear hAe hD0
  have hl0 := lv_entry ([.ref ad0, .int 2, .ref ad20]) (n := 4) (Nat.le_of_ble_eq_true rfl)
  rw [lg_entry_eq]
  generalize (lg_sl ([.ref ad0, .int 2, .ref ad20]) ++ List.replicate (4 - (lg_sl ([.ref ad0, .int 2, .ref ad20])).length) Slot.unset).toArray = ls at hl0 ⊢
  have hl : lv_has ls 4 [(0, .ref ad0), (1, .int 2), (2, .ref ad20)] := hl0
  clear hl0
  have htab : c.exceptionTable.toList = [⟨0, 9, 12, 13⟩] := vx_table (x := yL_clear) B (hG _ g_558)
  refine lv_aload_n (pc := 0) hx hb dL_clear_0 rfl (lv_at hl 2 rfl) ?_
  refine lv_iconst (pc := 1) (v := 0) hx hb dL_clear_1 (by decide) ?_
  refine lv_aload_n (pc := 2) hx hb dL_clear_2 rfl (lv_at hl 0 rfl) ?_
  refine lv_iload_n (pc := 3) hx hb dL_clear_3 rfl (lv_at hl 1 rfl) ?_
  refine cq_i (pc := 4) (wr := [(ad20, arl (cy 2) 1 ct20)]) (k2 := 0) (n2 := 0) (va_runV (As := [.int 2]) (rest := [.int 0, .ref ad20]) ⟨hx, hb, hml, hown, hG⟩ (c_clear_2 l D cy kv s.heap.size ad0 fn0 ad1 ad2 ad3 ad4 fn4 h0_7 h2_5) (cwV 1 hG (gi_V g_555 g_556 g_557 g_143 g_206) rfl rfl rfl (by decide +kernel) ⟨Nat.le_of_ble_eq_true rfl, Nat.le_of_ble_eq_true rfl⟩) ⟨pq_blind, (va_recv hK hP (ci := 11) (q0 := 0) rfl rfl), (pq_pass hP hD hK hE hS hA [0, 1, 2] rfl (by decide))⟩ rfl rfl hl.1 rfl (lv_room (Nat.le_of_ble_eq_true rfl)) dL_clear_4 ⟨Nat.le_of_ble_eq_true rfl, Nat.le_of_ble_eq_true rfl⟩) hP hD hS hA [0, 1, 2] [3] rfl rfl (by decide) (by decide) (by decide) (by decide) (fun r1 w1 H1 lo1 e1 hR1 hP1r hD1r hS1 => ?_)
  subst hR1
  subst e1
  have hP1 : va_P D classes [(ad20, arl (cy 2) 1 ct20)] H1 := hP1r
  have hD1 : va_D A [(ad20, arl (cy 2) 1 ct20)] := hD1r
  clear hP1r hD1r
  clear hP hD hS
  refine lv_i2l (pc := 7) (v := 0) hx hb dL_clear_7 (by decide) ?_
  refine va_last (pc := 8) hx hb hK hP1 hD1 hS1 0 2 rfl rfl (show ¬ ((0 : Int32) < 0 ∨ 1 ≤ (0 : Int32).toNatClampNeg) by decide) dL_clear_8 (fun H2 lo2 hP2r hD2r hS2 => ?_)
  have hP2 : va_P D classes [(ad20, arl (cy 2) 1 (vp_updL ct20 (0 : Int32).toNatClampNeg 0))] H2 := hP2r
  have hD2 : va_D A [(ad20, arl (cy 2) 1 (vp_updL ct20 (0 : Int32).toNatClampNeg 0))] := hD2r
  clear hP2r hD2r
  clear hP1 hD1 hS1
  clear H1 lo1
  refine lv_goto (pc := 9) (tgt := 15) hx hb dL_clear_9 (by decide) ?_
  refine lv_iconst (pc := 15) (v := 0) hx hb dL_clear_15 (by decide) ?_
  exact W.iret (pc := 16) (v := 0) hx hb hr (fun t ht hW => ⟨⟨0, (), rfl, rfl, _, rfl, by rw [ht]; exact hP2, hD2⟩, hS2.F ht⟩) hS2.2.2 dL_clear_16
set_option maxHeartbeats 4000000 in
set_option maxRecDepth 100000 in
/-- L_run -/
theorem l_x_run_n (l : Launch) (hst0 : l.stackTraces = false) (D : va_G) (cy : Nat → ClassId) (kv : KV) (sz : Nat) (ad0 : Nat) (xi0 : Int32) (ad20 : Nat) (fn0 : Nat → Value) (h0_1 : fn0 1 = .int 0) (hn : xi0 < 0) : Met l yL_run (Cond.codeWith yL_run cL_run 4 (some .int) [(0, 9, 12, 13), (0, 9, 15, 25)] :: GW) ({ frames := 12, cells := 1, slots := 6, locals := 280 } : Room) (va_Pc [.ref ad0, .int xi0, .ref ad20] (pcq D cy kv sz [(ad0, ob 11 15 fn0)])) (va_Qi (fun r (_ : Unit) => r = 1) (fun _ t => bq D (fun w => w = []) (va_A [(ad0, ob 11 15 fn0)] sz) t) (va_A [(ad0, ob 11 15 fn0)] sz)) 1 6 (va_A [(ad0, ob 11 15 fn0)] sz) := by
  refine va_MetW (hh := [(0, 9, 12, 13), (0, 9, 15, 25)]) (cc := cL_run) (maxL := 4) (ret := (some .int)) (by decide) rfl ?_
  intro p e s m args below meth c s₁ B hml hv
  obtain ⟨rfl, hsz, hP, hK, hD0, hE⟩ := hv
  have hx := B.exec
  have hb := B.bytes
  have hr := B.returns
  have hG : ∀ w ∈ GW, w.before ([.ref ad0, .int xi0, .ref ad20] : List Value).toArray s = true := fun w h => atoms_spec (ws := Cond.codeWith yL_run cL_run 4 (some .int) [(0, 9, 12, 13), (0, 9, 15, 25)] :: GW) B.pre w (List.mem_cons_of_mem _ h)
  have hown : s.vm.findClass RL = some m.cls := findClass_of_methodNamed B.named
  have hlocks := B.notSynchronized
  subst hsz
  have hD := hD0.self (sz := s.heap.size)
  generalize hAe : va_A [(ad0, ob 11 15 fn0)] s.heap.size = A at hD hE ⊢
  have hA : ∀ q : Nat, s.heap.size ≤ q → A q := fun q h => by rw [← hAe]; exact Or.inr h
  have hS : va_S A s.heap s.heap [] := va_S.rf
  clear hAe hD0
  have hl0 := lv_entry ([.ref ad0, .int xi0, .ref ad20]) (n := 4) (Nat.le_of_ble_eq_true rfl)
  rw [lg_entry_eq]
  generalize (lg_sl ([.ref ad0, .int xi0, .ref ad20]) ++ List.replicate (4 - (lg_sl ([.ref ad0, .int xi0, .ref ad20])).length) Slot.unset).toArray = ls at hl0 ⊢
  have hl : lv_has ls 4 [(0, .ref ad0), (1, .int xi0), (2, .ref ad20)] := hl0
  clear hl0
  have htab : c.exceptionTable.toList = [⟨0, 9, 12, 13⟩, ⟨0, 9, 15, 25⟩] := vx_table (x := yL_run) B (hG _ g_562)
  refine lv_aload_n (pc := 0) hx hb dL_run_0 rfl (lv_at hl 2 rfl) ?_
  refine lv_iconst (pc := 1) (v := 0) hx hb dL_run_1 (by decide) ?_
  refine lv_aload_n (pc := 2) hx hb dL_run_2 rfl (lv_at hl 0 rfl) ?_
  refine lv_iload_n (pc := 3) hx hb dL_run_3 rfl (lv_at hl 1 rfl) ?_
  refine xq_call (pc := 4) (wr := []) (k2 := 1) (n2 := 6) (vx_runV (As := [.int xi0]) (rest := [.int 0, .ref ad20]) ⟨hx, hb, hml, hown, hG⟩ (x_run_n l hst0 D cy kv s.heap.size ad0 xi0 fn0 h0_1 hn) (cwV 1 hG (gi_V g_559 g_560 g_561 g_143 g_210) rfl rfl rfl (by decide +kernel) ⟨Nat.le_of_ble_eq_true rfl, Nat.le_of_ble_eq_true rfl⟩) ⟨pq_blind, (va_recv hK hP (ci := 11) (q0 := 0) rfl rfl), (pq_pass hP hD hK hE hS hA [0] rfl (by decide))⟩ rfl rfl hl.1 rfl (lv_room (Nat.le_of_ble_eq_true rfl)) dL_run_4 ⟨Nat.le_of_ble_eq_true rfl, Nat.le_of_ble_eq_true rfl⟩) hP hD hS hA [0] [] rfl rfl (by decide) (by decide) (by decide) (by decide) (fun ce1 q1 w1 H1 lo1 hR1 hP1r hD1r hS1 hce1 hcv1 hcl1 => ?_)
  subst hR1
  have hP1 : va_P D classes [(ad0, ob 11 15 fn0)] H1 := hP1r
  have hD1 : va_D A [(ad0, ob 11 15 fn0)] := hD1r
  clear hP1r hD1r
  clear hP hD hS
  refine vx_catch (pc := 4) (E := "java/lang/IllegalArgumentException") hown [] ⟨0, 9, 12, 13⟩ [⟨0, 9, 15, 25⟩] htab (fun z hz => nomatch hz) rfl (by decide) (hG _ g_549) (va_Nw.use rfl (nw_at hE n_10)) hce1 hcv1 hcl1 ?_
  refine W.eq (g2 := F0 m 12 ls [.ref q1]) rfl ?_
  refine lv_astore_n (pc := 12) (lv' := [(3, .ref q1), (0, .ref ad0), (1, .int xi0), (2, .ref ad20)]) hx hb dL_run_12 rfl hl (by decide) rfl (fun ls2 hl2 => ?_)
  clear hl ls
  refine lv_iconst (pc := 13) (v := 1) hx hb dL_run_13 (by decide) ?_
  have hP99 := hP1.sub (ws' := []) [] rfl
  have hD99 := hD1.sub (ws' := []) [] (by decide) rfl
  exact W.iret (pc := 14) (v := 1) hx hb hr (fun t ht hW => ⟨⟨1, (), rfl, rfl, _, rfl, by rw [ht]; exact hP99, hD99⟩, hS1.F ht⟩) hS1.2.2 dL_run_14
set_option maxHeartbeats 4000000 in
set_option maxRecDepth 100000 in
/-- L_run -/
theorem l_x_run_p (l : Launch) (hst0 : l.stackTraces = false) (D : va_G) (cy : Nat → ClassId) (kv : KV) (sz : Nat) (ad0 : Nat) (xi0 : Int32) (ad20 : Nat) (fn0 : Nat → Value) (h0_1 : fn0 1 = .int 0) (hn : 0 < xi0) : Met l yL_run (Cond.codeWith yL_run cL_run 4 (some .int) [(0, 9, 12, 13), (0, 9, 15, 25)] :: GW) ({ frames := 12, cells := 1, slots := 6, locals := 280 } : Room) (va_Pc [.ref ad0, .int xi0, .ref ad20] (pcq D cy kv sz [(ad0, ob 11 15 fn0)])) (va_Qi (fun r (_ : Unit) => r = 1) (fun _ t => bq D (fun w => w = []) (va_A [(ad0, ob 11 15 fn0)] sz) t) (va_A [(ad0, ob 11 15 fn0)] sz)) 1 6 (va_A [(ad0, ob 11 15 fn0)] sz) := by
  refine va_MetW (hh := [(0, 9, 12, 13), (0, 9, 15, 25)]) (cc := cL_run) (maxL := 4) (ret := (some .int)) (by decide) rfl ?_
  intro p e s m args below meth c s₁ B hml hv
  obtain ⟨rfl, hsz, hP, hK, hD0, hE⟩ := hv
  have hx := B.exec
  have hb := B.bytes
  have hr := B.returns
  have hG : ∀ w ∈ GW, w.before ([.ref ad0, .int xi0, .ref ad20] : List Value).toArray s = true := fun w h => atoms_spec (ws := Cond.codeWith yL_run cL_run 4 (some .int) [(0, 9, 12, 13), (0, 9, 15, 25)] :: GW) B.pre w (List.mem_cons_of_mem _ h)
  have hown : s.vm.findClass RL = some m.cls := findClass_of_methodNamed B.named
  have hlocks := B.notSynchronized
  subst hsz
  have hD := hD0.self (sz := s.heap.size)
  generalize hAe : va_A [(ad0, ob 11 15 fn0)] s.heap.size = A at hD hE ⊢
  have hA : ∀ q : Nat, s.heap.size ≤ q → A q := fun q h => by rw [← hAe]; exact Or.inr h
  have hS : va_S A s.heap s.heap [] := va_S.rf
  clear hAe hD0
  have hl0 := lv_entry ([.ref ad0, .int xi0, .ref ad20]) (n := 4) (Nat.le_of_ble_eq_true rfl)
  rw [lg_entry_eq]
  generalize (lg_sl ([.ref ad0, .int xi0, .ref ad20]) ++ List.replicate (4 - (lg_sl ([.ref ad0, .int xi0, .ref ad20])).length) Slot.unset).toArray = ls at hl0 ⊢
  have hl : lv_has ls 4 [(0, .ref ad0), (1, .int xi0), (2, .ref ad20)] := hl0
  clear hl0
  have htab : c.exceptionTable.toList = [⟨0, 9, 12, 13⟩, ⟨0, 9, 15, 25⟩] := vx_table (x := yL_run) B (hG _ g_562)
  refine lv_aload_n (pc := 0) hx hb dL_run_0 rfl (lv_at hl 2 rfl) ?_
  refine lv_iconst (pc := 1) (v := 0) hx hb dL_run_1 (by decide) ?_
  refine lv_aload_n (pc := 2) hx hb dL_run_2 rfl (lv_at hl 0 rfl) ?_
  refine lv_iload_n (pc := 3) hx hb dL_run_3 rfl (lv_at hl 1 rfl) ?_
  refine xq_call (pc := 4) (wr := []) (k2 := 1) (n2 := 6) (vx_runV (As := [.int xi0]) (rest := [.int 0, .ref ad20]) ⟨hx, hb, hml, hown, hG⟩ (x_run_p l hst0 D cy kv s.heap.size ad0 xi0 fn0 h0_1 hn) (cwV 1 hG (gi_V g_559 g_560 g_561 g_143 g_210) rfl rfl rfl (by decide +kernel) ⟨Nat.le_of_ble_eq_true rfl, Nat.le_of_ble_eq_true rfl⟩) ⟨pq_blind, (va_recv hK hP (ci := 11) (q0 := 0) rfl rfl), (pq_pass hP hD hK hE hS hA [0] rfl (by decide))⟩ rfl rfl hl.1 rfl (lv_room (Nat.le_of_ble_eq_true rfl)) dL_run_4 ⟨Nat.le_of_ble_eq_true rfl, Nat.le_of_ble_eq_true rfl⟩) hP hD hS hA [0] [] rfl rfl (by decide) (by decide) (by decide) (by decide) (fun ce1 q1 w1 H1 lo1 hR1 hP1r hD1r hS1 hce1 hcv1 hcl1 => ?_)
  subst hR1
  have hP1 : va_P D classes [(ad0, ob 11 15 fn0)] H1 := hP1r
  have hD1 : va_D A [(ad0, ob 11 15 fn0)] := hD1r
  clear hP1r hD1r
  clear hP hD hS
  refine vx_catch (pc := 4) (E := "java/lang/IllegalArgumentException") hown [] ⟨0, 9, 12, 13⟩ [⟨0, 9, 15, 25⟩] htab (fun z hz => nomatch hz) rfl (by decide) (hG _ g_549) (va_Nw.use rfl (nw_at hE n_10)) hce1 hcv1 hcl1 ?_
  refine W.eq (g2 := F0 m 12 ls [.ref q1]) rfl ?_
  refine lv_astore_n (pc := 12) (lv' := [(3, .ref q1), (0, .ref ad0), (1, .int xi0), (2, .ref ad20)]) hx hb dL_run_12 rfl hl (by decide) rfl (fun ls2 hl2 => ?_)
  clear hl ls
  refine lv_iconst (pc := 13) (v := 1) hx hb dL_run_13 (by decide) ?_
  have hP99 := hP1.sub (ws' := []) [] rfl
  have hD99 := hD1.sub (ws' := []) [] (by decide) rfl
  exact W.iret (pc := 14) (v := 1) hx hb hr (fun t ht hW => ⟨⟨1, (), rfl, rfl, _, rfl, by rw [ht]; exact hP99, hD99⟩, hS1.F ht⟩) hS1.2.2 dL_run_14
set_option maxHeartbeats 4000000 in
set_option maxRecDepth 100000 in
/-- L_run -/
theorem l_c_run_z (l : Launch) (D : va_G) (cy : Nat → ClassId) (kv : KV) (sz : Nat) (ad0 : Nat) (ad20 : Nat) (fn0 : Nat → Value) (ad1 : Nat) (ad4 : Nat) (ad2 : Nat) (ad3 : Nat) (ad8 : Nat) (ct1 : Nat → Int32) (fn2 : Nat → Value) (fn3 : Nat → Value) (ad5 : Nat) (ad6 : Nat) (ad7 : Nat) (ct8 : Nat → Option Nat) (ct20 : Nat → Int64) (h0_0 : fn0 0 = .ref ad1) (h0_1 : fn0 1 = .int 0) (h0_7 : fn0 7 = .ref ad4) (h0_9 : fn0 9 = .ref ad2) (h0_11 : fn0 11 = .ref ad3) (h0_12 : fn0 12 = .ref ad8) (h0_13 : fn0 13 = .int 0) : Met l yL_run (Cond.codeWith yL_run cL_run 4 (some .int) [(0, 9, 12, 13), (0, 9, 15, 25)] :: GW) ({ frames := 11, cells := 0, slots := 0, locals := 240 } : Room) (va_Pc [.ref ad0, .int 0, .ref ad20] (pcq D cy kv sz [(ad0, ob 11 15 fn0), (ad1, ari (cy 1) 2000 ct1), (ad2, ob 3 16 fn2), (ad3, ob 6 7 fn3), (ad4, arq (cy 6) 3 (va_up (va_up (va_up (fun _ => none) (0 : Int32).toNatClampNeg (some ad5)) (1 : Int32).toNatClampNeg (some ad6)) (2 : Int32).toNatClampNeg (some ad7))), (ad8, arq (cy 7) 40 ct8), (ad20, arl (cy 2) 1 ct20)])) (va_Qi (fun r (_ : Unit) => r = 0) (fun _ t => bq D (fun w => w = [(ad20, arl (cy 2) 1 (vp_updL ct20 (0 : Int32).toNatClampNeg (-16)))]) (va_A [(ad0, ob 11 15 fn0), (ad1, ari (cy 1) 2000 ct1), (ad2, ob 3 16 fn2), (ad3, ob 6 7 fn3), (ad4, arq (cy 6) 3 (va_up (va_up (va_up (fun _ => none) (0 : Int32).toNatClampNeg (some ad5)) (1 : Int32).toNatClampNeg (some ad6)) (2 : Int32).toNatClampNeg (some ad7))), (ad8, arq (cy 7) 40 ct8), (ad20, arl (cy 2) 1 ct20)] sz) t) (va_A [(ad0, ob 11 15 fn0), (ad1, ari (cy 1) 2000 ct1), (ad2, ob 3 16 fn2), (ad3, ob 6 7 fn3), (ad4, arq (cy 6) 3 (va_up (va_up (va_up (fun _ => none) (0 : Int32).toNatClampNeg (some ad5)) (1 : Int32).toNatClampNeg (some ad6)) (2 : Int32).toNatClampNeg (some ad7))), (ad8, arq (cy 7) 40 ct8), (ad20, arl (cy 2) 1 ct20)] sz)) 0 0 (va_A [(ad0, ob 11 15 fn0), (ad1, ari (cy 1) 2000 ct1), (ad2, ob 3 16 fn2), (ad3, ob 6 7 fn3), (ad4, arq (cy 6) 3 (va_up (va_up (va_up (fun _ => none) (0 : Int32).toNatClampNeg (some ad5)) (1 : Int32).toNatClampNeg (some ad6)) (2 : Int32).toNatClampNeg (some ad7))), (ad8, arq (cy 7) 40 ct8), (ad20, arl (cy 2) 1 ct20)] sz) := by
  refine va_MetW (hh := [(0, 9, 12, 13), (0, 9, 15, 25)]) (cc := cL_run) (maxL := 4) (ret := (some .int)) (by decide) rfl ?_
  intro p e s m args below meth c s₁ B hml hv
  obtain ⟨rfl, hsz, hP, hK, hD0, hE⟩ := hv
  have hx := B.exec
  have hb := B.bytes
  have hr := B.returns
  have hG : ∀ w ∈ GW, w.before ([.ref ad0, .int 0, .ref ad20] : List Value).toArray s = true := fun w h => atoms_spec (ws := Cond.codeWith yL_run cL_run 4 (some .int) [(0, 9, 12, 13), (0, 9, 15, 25)] :: GW) B.pre w (List.mem_cons_of_mem _ h)
  have hown : s.vm.findClass RL = some m.cls := findClass_of_methodNamed B.named
  have hlocks := B.notSynchronized
  subst hsz
  have hD := hD0.self (sz := s.heap.size)
  generalize hAe : va_A [(ad0, ob 11 15 fn0), (ad1, ari (cy 1) 2000 ct1), (ad2, ob 3 16 fn2), (ad3, ob 6 7 fn3), (ad4, arq (cy 6) 3 (va_up (va_up (va_up (fun _ => none) (0 : Int32).toNatClampNeg (some ad5)) (1 : Int32).toNatClampNeg (some ad6)) (2 : Int32).toNatClampNeg (some ad7))), (ad8, arq (cy 7) 40 ct8), (ad20, arl (cy 2) 1 ct20)] s.heap.size = A at hD hE ⊢
  have hA : ∀ q : Nat, s.heap.size ≤ q → A q := fun q h => by rw [← hAe]; exact Or.inr h
  have hS : va_S A s.heap s.heap [] := va_S.rf
  clear hAe hD0
  have hl0 := lv_entry ([.ref ad0, .int 0, .ref ad20]) (n := 4) (Nat.le_of_ble_eq_true rfl)
  rw [lg_entry_eq]
  generalize (lg_sl ([.ref ad0, .int 0, .ref ad20]) ++ List.replicate (4 - (lg_sl ([.ref ad0, .int 0, .ref ad20])).length) Slot.unset).toArray = ls at hl0 ⊢
  have hl : lv_has ls 4 [(0, .ref ad0), (1, .int 0), (2, .ref ad20)] := hl0
  clear hl0
  have htab : c.exceptionTable.toList = [⟨0, 9, 12, 13⟩, ⟨0, 9, 15, 25⟩] := vx_table (x := yL_run) B (hG _ g_562)
  refine lv_aload_n (pc := 0) hx hb dL_run_0 rfl (lv_at hl 2 rfl) ?_
  refine lv_iconst (pc := 1) (v := 0) hx hb dL_run_1 (by decide) ?_
  refine lv_aload_n (pc := 2) hx hb dL_run_2 rfl (lv_at hl 0 rfl) ?_
  refine lv_iload_n (pc := 3) hx hb dL_run_3 rfl (lv_at hl 1 rfl) ?_
  refine cq_i (pc := 4) (wr := [(ad20, arl (cy 2) 1 ct20)]) (k2 := 0) (n2 := 0) (va_runV (As := [.int 0]) (rest := [.int 0, .ref ad20]) ⟨hx, hb, hml, hown, hG⟩ (c_run_z l D cy kv s.heap.size ad0 fn0 ad1 ad4 ad2 ad3 ad8 ct1 fn2 fn3 ad5 ad6 ad7 ct8 h0_0 h0_1 h0_7 h0_9 h0_11 h0_12 h0_13) (cwV 1 hG (gi_V g_559 g_560 g_561 g_143 g_210) rfl rfl rfl (by decide +kernel) ⟨Nat.le_of_ble_eq_true rfl, Nat.le_of_ble_eq_true rfl⟩) ⟨pq_blind, (va_recv hK hP (ci := 11) (q0 := 0) rfl rfl), (pq_pass hP hD hK hE hS hA [0, 1, 2, 3, 4, 5] rfl (by decide))⟩ rfl rfl hl.1 rfl (lv_room (Nat.le_of_ble_eq_true rfl)) dL_run_4 ⟨Nat.le_of_ble_eq_true rfl, Nat.le_of_ble_eq_true rfl⟩) hP hD hS hA [0, 1, 2, 3, 4, 5] [6] rfl rfl (by decide) (by decide) (by decide) (by decide) (fun r1 w1 H1 lo1 e1 hR1 hP1r hD1r hS1 => ?_)
  subst hR1
  subst e1
  have hP1 : va_P D classes [(ad20, arl (cy 2) 1 ct20)] H1 := hP1r
  have hD1 : va_D A [(ad20, arl (cy 2) 1 ct20)] := hD1r
  clear hP1r hD1r
  clear hP hD hS
  refine lv_i2l (pc := 7) (v := (-16)) hx hb dL_run_7 (by decide) ?_
  refine va_last (pc := 8) hx hb hK hP1 hD1 hS1 0 2 rfl rfl (show ¬ ((0 : Int32) < 0 ∨ 1 ≤ (0 : Int32).toNatClampNeg) by decide) dL_run_8 (fun H2 lo2 hP2r hD2r hS2 => ?_)
  have hP2 : va_P D classes [(ad20, arl (cy 2) 1 (vp_updL ct20 (0 : Int32).toNatClampNeg (-16)))] H2 := hP2r
  have hD2 : va_D A [(ad20, arl (cy 2) 1 (vp_updL ct20 (0 : Int32).toNatClampNeg (-16)))] := hD2r
  clear hP2r hD2r
  clear hP1 hD1 hS1
  clear H1 lo1
  refine lv_goto (pc := 9) (tgt := 18) hx hb dL_run_9 (by decide) ?_
  refine lv_iconst (pc := 18) (v := 0) hx hb dL_run_18 (by decide) ?_
  exact W.iret (pc := 19) (v := 0) hx hb hr (fun t ht hW => ⟨⟨0, (), rfl, rfl, _, rfl, by rw [ht]; exact hP2, hD2⟩, hS2.F ht⟩) hS2.2.2 dL_run_19
set_option maxHeartbeats 4000000 in
set_option maxRecDepth 100000 in
/-- L_record -/
theorem l_x_record_n (l : Launch) (hst0 : l.stackTraces = false) (D : va_G) (cy : Nat → ClassId) (kv : KV) (sz : Nat) (ad0 : Nat) (xi0 : Int32) (xi1 : Int32) (ad20 : Nat) (fn0 : Nat → Value) (h0_13 : fn0 13 = .int 0) (hn : xi0 < 0) : Met l yL_record (Cond.codeWith yL_record cL_record 5 (some .int) [(0, 10, 13, 30), (0, 10, 17, 13)] :: GW) ({ frames := 12, cells := 1, slots := 6, locals := 280 } : Room) (va_Pc [.ref ad0, .int xi0, .int xi1, .ref ad20] (pcq D cy kv sz [(ad0, ob 11 15 fn0)])) (va_Qi (fun r (_ : Unit) => r = 1) (fun _ t => bq D (fun w => w = []) (va_A [(ad0, ob 11 15 fn0)] sz) t) (va_A [(ad0, ob 11 15 fn0)] sz)) 1 6 (va_A [(ad0, ob 11 15 fn0)] sz) := by
  refine va_MetW (hh := [(0, 10, 13, 30), (0, 10, 17, 13)]) (cc := cL_record) (maxL := 5) (ret := (some .int)) (by decide) rfl ?_
  intro p e s m args below meth c s₁ B hml hv
  obtain ⟨rfl, hsz, hP, hK, hD0, hE⟩ := hv
  have hx := B.exec
  have hb := B.bytes
  have hr := B.returns
  have hG : ∀ w ∈ GW, w.before ([.ref ad0, .int xi0, .int xi1, .ref ad20] : List Value).toArray s = true := fun w h => atoms_spec (ws := Cond.codeWith yL_record cL_record 5 (some .int) [(0, 10, 13, 30), (0, 10, 17, 13)] :: GW) B.pre w (List.mem_cons_of_mem _ h)
  have hown : s.vm.findClass RL = some m.cls := findClass_of_methodNamed B.named
  have hlocks := B.notSynchronized
  subst hsz
  have hD := hD0.self (sz := s.heap.size)
  generalize hAe : va_A [(ad0, ob 11 15 fn0)] s.heap.size = A at hD hE ⊢
  have hA : ∀ q : Nat, s.heap.size ≤ q → A q := fun q h => by rw [← hAe]; exact Or.inr h
  have hS : va_S A s.heap s.heap [] := va_S.rf
  clear hAe hD0
  have hl0 := lv_entry ([.ref ad0, .int xi0, .int xi1, .ref ad20]) (n := 5) (Nat.le_of_ble_eq_true rfl)
  rw [lg_entry_eq]
  generalize (lg_sl ([.ref ad0, .int xi0, .int xi1, .ref ad20]) ++ List.replicate (5 - (lg_sl ([.ref ad0, .int xi0, .int xi1, .ref ad20])).length) Slot.unset).toArray = ls at hl0 ⊢
  have hl : lv_has ls 5 [(0, .ref ad0), (1, .int xi0), (2, .int xi1), (3, .ref ad20)] := hl0
  clear hl0
  have htab : c.exceptionTable.toList = [⟨0, 10, 13, 30⟩, ⟨0, 10, 17, 13⟩] := vx_table (x := yL_record) B (hG _ g_567)
  refine lv_aload_n (pc := 0) hx hb dL_record_0 rfl (lv_at hl 3 rfl) ?_
  refine lv_iconst (pc := 1) (v := 0) hx hb dL_record_1 (by decide) ?_
  refine lv_aload_n (pc := 2) hx hb dL_record_2 rfl (lv_at hl 0 rfl) ?_
  refine lv_iload_n (pc := 3) hx hb dL_record_3 rfl (lv_at hl 1 rfl) ?_
  refine lv_iload_n (pc := 4) hx hb dL_record_4 rfl (lv_at hl 2 rfl) ?_
  refine xq_call (pc := 5) (wr := []) (k2 := 1) (n2 := 6) (vx_runV (As := [.int xi0, .int xi1]) (rest := [.int 0, .ref ad20]) ⟨hx, hb, hml, hown, hG⟩ (x_record_n l hst0 D cy kv s.heap.size ad0 xi0 xi1 fn0 h0_13 hn) (cwV 2 hG (gi_V g_563 g_564 g_565 g_143 g_283) rfl rfl rfl (by decide +kernel) ⟨Nat.le_of_ble_eq_true rfl, Nat.le_of_ble_eq_true rfl⟩) ⟨pq_blind, (va_recv hK hP (ci := 11) (q0 := 0) rfl rfl), (pq_pass hP hD hK hE hS hA [0] rfl (by decide))⟩ rfl rfl hl.1 rfl (lv_room (Nat.le_of_ble_eq_true rfl)) dL_record_5 ⟨Nat.le_of_ble_eq_true rfl, Nat.le_of_ble_eq_true rfl⟩) hP hD hS hA [0] [] rfl rfl (by decide) (by decide) (by decide) (by decide) (fun ce1 q1 w1 H1 lo1 hR1 hP1r hD1r hS1 hce1 hcv1 hcl1 => ?_)
  subst hR1
  have hP1 : va_P D classes [(ad0, ob 11 15 fn0)] H1 := hP1r
  have hD1 : va_D A [(ad0, ob 11 15 fn0)] := hD1r
  clear hP1r hD1r
  clear hP hD hS
  refine vx_catch (pc := 5) (E := "java/util/NoSuchElementException") hown [] ⟨0, 10, 13, 30⟩ [⟨0, 10, 17, 13⟩] htab (fun z hz => nomatch hz) rfl (by decide) (hG _ g_566) (va_Nw.use rfl (nw_at hE n_23)) hce1 hcv1 hcl1 ?_
  refine W.eq (g2 := F0 m 13 ls [.ref q1]) rfl ?_
  refine lv_astore (pc := 13) (lv' := [(4, .ref q1), (0, .ref ad0), (1, .int xi0), (2, .int xi1), (3, .ref ad20)]) hx hb dL_record_13 hl (by decide) rfl (fun ls2 hl2 => ?_)
  clear hl ls
  refine lv_iconst (pc := 15) (v := 1) hx hb dL_record_15 (by decide) ?_
  have hP99 := hP1.sub (ws' := []) [] rfl
  have hD99 := hD1.sub (ws' := []) [] (by decide) rfl
  exact W.iret (pc := 16) (v := 1) hx hb hr (fun t ht hW => ⟨⟨1, (), rfl, rfl, _, rfl, by rw [ht]; exact hP99, hD99⟩, hS1.F ht⟩) hS1.2.2 dL_record_16
set_option maxHeartbeats 4000000 in
set_option maxRecDepth 100000 in
/-- L_record -/
theorem l_x_record_p (l : Launch) (hst0 : l.stackTraces = false) (D : va_G) (cy : Nat → ClassId) (kv : KV) (sz : Nat) (ad0 : Nat) (xi0 : Int32) (xi1 : Int32) (ad20 : Nat) (fn0 : Nat → Value) (h0_13 : fn0 13 = .int 0) (hn : 0 ≤ xi0) : Met l yL_record (Cond.codeWith yL_record cL_record 5 (some .int) [(0, 10, 13, 30), (0, 10, 17, 13)] :: GW) ({ frames := 12, cells := 1, slots := 6, locals := 280 } : Room) (va_Pc [.ref ad0, .int xi0, .int xi1, .ref ad20] (pcq D cy kv sz [(ad0, ob 11 15 fn0)])) (va_Qi (fun r (_ : Unit) => r = 1) (fun _ t => bq D (fun w => w = []) (va_A [(ad0, ob 11 15 fn0)] sz) t) (va_A [(ad0, ob 11 15 fn0)] sz)) 1 6 (va_A [(ad0, ob 11 15 fn0)] sz) := by
  refine va_MetW (hh := [(0, 10, 13, 30), (0, 10, 17, 13)]) (cc := cL_record) (maxL := 5) (ret := (some .int)) (by decide) rfl ?_
  intro p e s m args below meth c s₁ B hml hv
  obtain ⟨rfl, hsz, hP, hK, hD0, hE⟩ := hv
  have hx := B.exec
  have hb := B.bytes
  have hr := B.returns
  have hG : ∀ w ∈ GW, w.before ([.ref ad0, .int xi0, .int xi1, .ref ad20] : List Value).toArray s = true := fun w h => atoms_spec (ws := Cond.codeWith yL_record cL_record 5 (some .int) [(0, 10, 13, 30), (0, 10, 17, 13)] :: GW) B.pre w (List.mem_cons_of_mem _ h)
  have hown : s.vm.findClass RL = some m.cls := findClass_of_methodNamed B.named
  have hlocks := B.notSynchronized
  subst hsz
  have hD := hD0.self (sz := s.heap.size)
  generalize hAe : va_A [(ad0, ob 11 15 fn0)] s.heap.size = A at hD hE ⊢
  have hA : ∀ q : Nat, s.heap.size ≤ q → A q := fun q h => by rw [← hAe]; exact Or.inr h
  have hS : va_S A s.heap s.heap [] := va_S.rf
  clear hAe hD0
  have hl0 := lv_entry ([.ref ad0, .int xi0, .int xi1, .ref ad20]) (n := 5) (Nat.le_of_ble_eq_true rfl)
  rw [lg_entry_eq]
  generalize (lg_sl ([.ref ad0, .int xi0, .int xi1, .ref ad20]) ++ List.replicate (5 - (lg_sl ([.ref ad0, .int xi0, .int xi1, .ref ad20])).length) Slot.unset).toArray = ls at hl0 ⊢
  have hl : lv_has ls 5 [(0, .ref ad0), (1, .int xi0), (2, .int xi1), (3, .ref ad20)] := hl0
  clear hl0
  have htab : c.exceptionTable.toList = [⟨0, 10, 13, 30⟩, ⟨0, 10, 17, 13⟩] := vx_table (x := yL_record) B (hG _ g_567)
  refine lv_aload_n (pc := 0) hx hb dL_record_0 rfl (lv_at hl 3 rfl) ?_
  refine lv_iconst (pc := 1) (v := 0) hx hb dL_record_1 (by decide) ?_
  refine lv_aload_n (pc := 2) hx hb dL_record_2 rfl (lv_at hl 0 rfl) ?_
  refine lv_iload_n (pc := 3) hx hb dL_record_3 rfl (lv_at hl 1 rfl) ?_
  refine lv_iload_n (pc := 4) hx hb dL_record_4 rfl (lv_at hl 2 rfl) ?_
  refine xq_call (pc := 5) (wr := []) (k2 := 1) (n2 := 6) (vx_runV (As := [.int xi0, .int xi1]) (rest := [.int 0, .ref ad20]) ⟨hx, hb, hml, hown, hG⟩ (x_record_p l hst0 D cy kv s.heap.size ad0 xi0 xi1 fn0 h0_13 hn) (cwV 2 hG (gi_V g_563 g_564 g_565 g_143 g_283) rfl rfl rfl (by decide +kernel) ⟨Nat.le_of_ble_eq_true rfl, Nat.le_of_ble_eq_true rfl⟩) ⟨pq_blind, (va_recv hK hP (ci := 11) (q0 := 0) rfl rfl), (pq_pass hP hD hK hE hS hA [0] rfl (by decide))⟩ rfl rfl hl.1 rfl (lv_room (Nat.le_of_ble_eq_true rfl)) dL_record_5 ⟨Nat.le_of_ble_eq_true rfl, Nat.le_of_ble_eq_true rfl⟩) hP hD hS hA [0] [] rfl rfl (by decide) (by decide) (by decide) (by decide) (fun ce1 q1 w1 H1 lo1 hR1 hP1r hD1r hS1 hce1 hcv1 hcl1 => ?_)
  subst hR1
  have hP1 : va_P D classes [(ad0, ob 11 15 fn0)] H1 := hP1r
  have hD1 : va_D A [(ad0, ob 11 15 fn0)] := hD1r
  clear hP1r hD1r
  clear hP hD hS
  refine vx_catch (pc := 5) (E := "java/util/NoSuchElementException") hown [] ⟨0, 10, 13, 30⟩ [⟨0, 10, 17, 13⟩] htab (fun z hz => nomatch hz) rfl (by decide) (hG _ g_566) (va_Nw.use rfl (nw_at hE n_23)) hce1 hcv1 hcl1 ?_
  refine W.eq (g2 := F0 m 13 ls [.ref q1]) rfl ?_
  refine lv_astore (pc := 13) (lv' := [(4, .ref q1), (0, .ref ad0), (1, .int xi0), (2, .int xi1), (3, .ref ad20)]) hx hb dL_record_13 hl (by decide) rfl (fun ls2 hl2 => ?_)
  clear hl ls
  refine lv_iconst (pc := 15) (v := 1) hx hb dL_record_15 (by decide) ?_
  have hP99 := hP1.sub (ws' := []) [] rfl
  have hD99 := hD1.sub (ws' := []) [] (by decide) rfl
  exact W.iret (pc := 16) (v := 1) hx hb hr (fun t ht hW => ⟨⟨1, (), rfl, rfl, _, rfl, by rw [ht]; exact hP99, hD99⟩, hS1.F ht⟩) hS1.2.2 dL_record_16
set_option maxHeartbeats 4000000 in
set_option maxRecDepth 100000 in
/-- L_source -/
theorem l_x_source_n (l : Launch) (hst0 : l.stackTraces = false) (D : va_G) (cy : Nat → ClassId) (kv : KV) (sz : Nat) (ad0 : Nat) (xi0 : Int32) (xi1 : Int32) (ad20 : Nat) (fn0 : Nat → Value) (h0_13 : fn0 13 = .int 0) (hn : xi0 < 0) : Met l yL_source (Cond.codeWith yL_source cL_source 5 (some .int) [(0, 10, 13, 30)] :: GW) ({ frames := 12, cells := 1, slots := 6, locals := 280 } : Room) (va_Pc [.ref ad0, .int xi0, .int xi1, .ref ad20] (pcq D cy kv sz [(ad0, ob 11 15 fn0)])) (va_Qi (fun r (_ : Unit) => r = 1) (fun _ t => bq D (fun w => w = []) (va_A [(ad0, ob 11 15 fn0)] sz) t) (va_A [(ad0, ob 11 15 fn0)] sz)) 1 6 (va_A [(ad0, ob 11 15 fn0)] sz) := by
  refine va_MetW (hh := [(0, 10, 13, 30)]) (cc := cL_source) (maxL := 5) (ret := (some .int)) (by decide) rfl ?_
  intro p e s m args below meth c s₁ B hml hv
  obtain ⟨rfl, hsz, hP, hK, hD0, hE⟩ := hv
  have hx := B.exec
  have hb := B.bytes
  have hr := B.returns
  have hG : ∀ w ∈ GW, w.before ([.ref ad0, .int xi0, .int xi1, .ref ad20] : List Value).toArray s = true := fun w h => atoms_spec (ws := Cond.codeWith yL_source cL_source 5 (some .int) [(0, 10, 13, 30)] :: GW) B.pre w (List.mem_cons_of_mem _ h)
  have hown : s.vm.findClass RL = some m.cls := findClass_of_methodNamed B.named
  have hlocks := B.notSynchronized
  subst hsz
  have hD := hD0.self (sz := s.heap.size)
  generalize hAe : va_A [(ad0, ob 11 15 fn0)] s.heap.size = A at hD hE ⊢
  have hA : ∀ q : Nat, s.heap.size ≤ q → A q := fun q h => by rw [← hAe]; exact Or.inr h
  have hS : va_S A s.heap s.heap [] := va_S.rf
  clear hAe hD0
  have hl0 := lv_entry ([.ref ad0, .int xi0, .int xi1, .ref ad20]) (n := 5) (Nat.le_of_ble_eq_true rfl)
  rw [lg_entry_eq]
  generalize (lg_sl ([.ref ad0, .int xi0, .int xi1, .ref ad20]) ++ List.replicate (5 - (lg_sl ([.ref ad0, .int xi0, .int xi1, .ref ad20])).length) Slot.unset).toArray = ls at hl0 ⊢
  have hl : lv_has ls 5 [(0, .ref ad0), (1, .int xi0), (2, .int xi1), (3, .ref ad20)] := hl0
  clear hl0
  have htab : c.exceptionTable.toList = [⟨0, 10, 13, 30⟩] := vx_table (x := yL_source) B (hG _ g_571)
  refine lv_aload_n (pc := 0) hx hb dL_source_0 rfl (lv_at hl 3 rfl) ?_
  refine lv_iconst (pc := 1) (v := 0) hx hb dL_source_1 (by decide) ?_
  refine lv_aload_n (pc := 2) hx hb dL_source_2 rfl (lv_at hl 0 rfl) ?_
  refine lv_iload_n (pc := 3) hx hb dL_source_3 rfl (lv_at hl 1 rfl) ?_
  refine lv_iload_n (pc := 4) hx hb dL_source_4 rfl (lv_at hl 2 rfl) ?_
  refine xq_call (pc := 5) (wr := []) (k2 := 1) (n2 := 6) (vx_runV (As := [.int xi0, .int xi1]) (rest := [.int 0, .ref ad20]) ⟨hx, hb, hml, hown, hG⟩ (x_source_n l hst0 D cy kv s.heap.size ad0 xi0 xi1 fn0 h0_13 hn) (cwV 2 hG (gi_V g_568 g_569 g_570 g_143 g_284) rfl rfl rfl (by decide +kernel) ⟨Nat.le_of_ble_eq_true rfl, Nat.le_of_ble_eq_true rfl⟩) ⟨pq_blind, (va_recv hK hP (ci := 11) (q0 := 0) rfl rfl), (pq_pass hP hD hK hE hS hA [0] rfl (by decide))⟩ rfl rfl hl.1 rfl (lv_room (Nat.le_of_ble_eq_true rfl)) dL_source_5 ⟨Nat.le_of_ble_eq_true rfl, Nat.le_of_ble_eq_true rfl⟩) hP hD hS hA [0] [] rfl rfl (by decide) (by decide) (by decide) (by decide) (fun ce1 q1 w1 H1 lo1 hR1 hP1r hD1r hS1 hce1 hcv1 hcl1 => ?_)
  subst hR1
  have hP1 : va_P D classes [(ad0, ob 11 15 fn0)] H1 := hP1r
  have hD1 : va_D A [(ad0, ob 11 15 fn0)] := hD1r
  clear hP1r hD1r
  clear hP hD hS
  refine vx_catch (pc := 5) (E := "java/util/NoSuchElementException") hown [] ⟨0, 10, 13, 30⟩ [] htab (fun z hz => nomatch hz) rfl (by decide) (hG _ g_566) (va_Nw.use rfl (nw_at hE n_23)) hce1 hcv1 hcl1 ?_
  refine W.eq (g2 := F0 m 13 ls [.ref q1]) rfl ?_
  refine lv_astore (pc := 13) (lv' := [(4, .ref q1), (0, .ref ad0), (1, .int xi0), (2, .int xi1), (3, .ref ad20)]) hx hb dL_source_13 hl (by decide) rfl (fun ls2 hl2 => ?_)
  clear hl ls
  refine lv_iconst (pc := 15) (v := 1) hx hb dL_source_15 (by decide) ?_
  have hP99 := hP1.sub (ws' := []) [] rfl
  have hD99 := hD1.sub (ws' := []) [] (by decide) rfl
  exact W.iret (pc := 16) (v := 1) hx hb hr (fun t ht hW => ⟨⟨1, (), rfl, rfl, _, rfl, by rw [ht]; exact hP99, hD99⟩, hS1.F ht⟩) hS1.2.2 dL_source_16
set_option maxHeartbeats 4000000 in
set_option maxRecDepth 100000 in
/-- L_source -/
theorem l_x_source_p (l : Launch) (hst0 : l.stackTraces = false) (D : va_G) (cy : Nat → ClassId) (kv : KV) (sz : Nat) (ad0 : Nat) (xi0 : Int32) (xi1 : Int32) (ad20 : Nat) (fn0 : Nat → Value) (h0_13 : fn0 13 = .int 0) (hn : 0 ≤ xi0) : Met l yL_source (Cond.codeWith yL_source cL_source 5 (some .int) [(0, 10, 13, 30)] :: GW) ({ frames := 12, cells := 1, slots := 6, locals := 280 } : Room) (va_Pc [.ref ad0, .int xi0, .int xi1, .ref ad20] (pcq D cy kv sz [(ad0, ob 11 15 fn0)])) (va_Qi (fun r (_ : Unit) => r = 1) (fun _ t => bq D (fun w => w = []) (va_A [(ad0, ob 11 15 fn0)] sz) t) (va_A [(ad0, ob 11 15 fn0)] sz)) 1 6 (va_A [(ad0, ob 11 15 fn0)] sz) := by
  refine va_MetW (hh := [(0, 10, 13, 30)]) (cc := cL_source) (maxL := 5) (ret := (some .int)) (by decide) rfl ?_
  intro p e s m args below meth c s₁ B hml hv
  obtain ⟨rfl, hsz, hP, hK, hD0, hE⟩ := hv
  have hx := B.exec
  have hb := B.bytes
  have hr := B.returns
  have hG : ∀ w ∈ GW, w.before ([.ref ad0, .int xi0, .int xi1, .ref ad20] : List Value).toArray s = true := fun w h => atoms_spec (ws := Cond.codeWith yL_source cL_source 5 (some .int) [(0, 10, 13, 30)] :: GW) B.pre w (List.mem_cons_of_mem _ h)
  have hown : s.vm.findClass RL = some m.cls := findClass_of_methodNamed B.named
  have hlocks := B.notSynchronized
  subst hsz
  have hD := hD0.self (sz := s.heap.size)
  generalize hAe : va_A [(ad0, ob 11 15 fn0)] s.heap.size = A at hD hE ⊢
  have hA : ∀ q : Nat, s.heap.size ≤ q → A q := fun q h => by rw [← hAe]; exact Or.inr h
  have hS : va_S A s.heap s.heap [] := va_S.rf
  clear hAe hD0
  have hl0 := lv_entry ([.ref ad0, .int xi0, .int xi1, .ref ad20]) (n := 5) (Nat.le_of_ble_eq_true rfl)
  rw [lg_entry_eq]
  generalize (lg_sl ([.ref ad0, .int xi0, .int xi1, .ref ad20]) ++ List.replicate (5 - (lg_sl ([.ref ad0, .int xi0, .int xi1, .ref ad20])).length) Slot.unset).toArray = ls at hl0 ⊢
  have hl : lv_has ls 5 [(0, .ref ad0), (1, .int xi0), (2, .int xi1), (3, .ref ad20)] := hl0
  clear hl0
  have htab : c.exceptionTable.toList = [⟨0, 10, 13, 30⟩] := vx_table (x := yL_source) B (hG _ g_571)
  refine lv_aload_n (pc := 0) hx hb dL_source_0 rfl (lv_at hl 3 rfl) ?_
  refine lv_iconst (pc := 1) (v := 0) hx hb dL_source_1 (by decide) ?_
  refine lv_aload_n (pc := 2) hx hb dL_source_2 rfl (lv_at hl 0 rfl) ?_
  refine lv_iload_n (pc := 3) hx hb dL_source_3 rfl (lv_at hl 1 rfl) ?_
  refine lv_iload_n (pc := 4) hx hb dL_source_4 rfl (lv_at hl 2 rfl) ?_
  refine xq_call (pc := 5) (wr := []) (k2 := 1) (n2 := 6) (vx_runV (As := [.int xi0, .int xi1]) (rest := [.int 0, .ref ad20]) ⟨hx, hb, hml, hown, hG⟩ (x_source_p l hst0 D cy kv s.heap.size ad0 xi0 xi1 fn0 h0_13 hn) (cwV 2 hG (gi_V g_568 g_569 g_570 g_143 g_284) rfl rfl rfl (by decide +kernel) ⟨Nat.le_of_ble_eq_true rfl, Nat.le_of_ble_eq_true rfl⟩) ⟨pq_blind, (va_recv hK hP (ci := 11) (q0 := 0) rfl rfl), (pq_pass hP hD hK hE hS hA [0] rfl (by decide))⟩ rfl rfl hl.1 rfl (lv_room (Nat.le_of_ble_eq_true rfl)) dL_source_5 ⟨Nat.le_of_ble_eq_true rfl, Nat.le_of_ble_eq_true rfl⟩) hP hD hS hA [0] [] rfl rfl (by decide) (by decide) (by decide) (by decide) (fun ce1 q1 w1 H1 lo1 hR1 hP1r hD1r hS1 hce1 hcv1 hcl1 => ?_)
  subst hR1
  have hP1 : va_P D classes [(ad0, ob 11 15 fn0)] H1 := hP1r
  have hD1 : va_D A [(ad0, ob 11 15 fn0)] := hD1r
  clear hP1r hD1r
  clear hP hD hS
  refine vx_catch (pc := 5) (E := "java/util/NoSuchElementException") hown [] ⟨0, 10, 13, 30⟩ [] htab (fun z hz => nomatch hz) rfl (by decide) (hG _ g_566) (va_Nw.use rfl (nw_at hE n_23)) hce1 hcv1 hcl1 ?_
  refine W.eq (g2 := F0 m 13 ls [.ref q1]) rfl ?_
  refine lv_astore (pc := 13) (lv' := [(4, .ref q1), (0, .ref ad0), (1, .int xi0), (2, .int xi1), (3, .ref ad20)]) hx hb dL_source_13 hl (by decide) rfl (fun ls2 hl2 => ?_)
  clear hl ls
  refine lv_iconst (pc := 15) (v := 1) hx hb dL_source_15 (by decide) ?_
  have hP99 := hP1.sub (ws' := []) [] rfl
  have hD99 := hD1.sub (ws' := []) [] (by decide) rfl
  exact W.iret (pc := 16) (v := 1) hx hb hr (fun t ht hW => ⟨⟨1, (), rfl, rfl, _, rfl, by rw [ht]; exact hP99, hD99⟩, hS1.F ht⟩) hS1.2.2 dL_source_16
set_option maxHeartbeats 4000000 in
set_option maxRecDepth 100000 in
/-- L_value -/
theorem l_x_value_n (l : Launch) (hst0 : l.stackTraces = false) (D : va_G) (cy : Nat → ClassId) (kv : KV) (sz : Nat) (ad0 : Nat) (xi0 : Int32) (xi1 : Int32) (ad20 : Nat) (fn0 : Nat → Value) (h0_13 : fn0 13 = .int 0) (hn : xi0 < 0) : Met l yL_value (Cond.codeWith yL_value cL_value 5 (some .int) [(0, 10, 13, 30)] :: GW) ({ frames := 12, cells := 1, slots := 6, locals := 280 } : Room) (va_Pc [.ref ad0, .int xi0, .int xi1, .ref ad20] (pcq D cy kv sz [(ad0, ob 11 15 fn0)])) (va_Qi (fun r (_ : Unit) => r = 1) (fun _ t => bq D (fun w => w = []) (va_A [(ad0, ob 11 15 fn0)] sz) t) (va_A [(ad0, ob 11 15 fn0)] sz)) 1 6 (va_A [(ad0, ob 11 15 fn0)] sz) := by
  refine va_MetW (hh := [(0, 10, 13, 30)]) (cc := cL_value) (maxL := 5) (ret := (some .int)) (by decide) rfl ?_
  intro p e s m args below meth c s₁ B hml hv
  obtain ⟨rfl, hsz, hP, hK, hD0, hE⟩ := hv
  have hx := B.exec
  have hb := B.bytes
  have hr := B.returns
  have hG : ∀ w ∈ GW, w.before ([.ref ad0, .int xi0, .int xi1, .ref ad20] : List Value).toArray s = true := fun w h => atoms_spec (ws := Cond.codeWith yL_value cL_value 5 (some .int) [(0, 10, 13, 30)] :: GW) B.pre w (List.mem_cons_of_mem _ h)
  have hown : s.vm.findClass RL = some m.cls := findClass_of_methodNamed B.named
  have hlocks := B.notSynchronized
  subst hsz
  have hD := hD0.self (sz := s.heap.size)
  generalize hAe : va_A [(ad0, ob 11 15 fn0)] s.heap.size = A at hD hE ⊢
  have hA : ∀ q : Nat, s.heap.size ≤ q → A q := fun q h => by rw [← hAe]; exact Or.inr h
  have hS : va_S A s.heap s.heap [] := va_S.rf
  clear hAe hD0
  have hl0 := lv_entry ([.ref ad0, .int xi0, .int xi1, .ref ad20]) (n := 5) (Nat.le_of_ble_eq_true rfl)
  rw [lg_entry_eq]
  generalize (lg_sl ([.ref ad0, .int xi0, .int xi1, .ref ad20]) ++ List.replicate (5 - (lg_sl ([.ref ad0, .int xi0, .int xi1, .ref ad20])).length) Slot.unset).toArray = ls at hl0 ⊢
  have hl : lv_has ls 5 [(0, .ref ad0), (1, .int xi0), (2, .int xi1), (3, .ref ad20)] := hl0
  clear hl0
  have htab : c.exceptionTable.toList = [⟨0, 10, 13, 30⟩] := vx_table (x := yL_value) B (hG _ g_575)
  refine lv_aload_n (pc := 0) hx hb dL_value_0 rfl (lv_at hl 3 rfl) ?_
  refine lv_iconst (pc := 1) (v := 0) hx hb dL_value_1 (by decide) ?_
  refine lv_aload_n (pc := 2) hx hb dL_value_2 rfl (lv_at hl 0 rfl) ?_
  refine lv_iload_n (pc := 3) hx hb dL_value_3 rfl (lv_at hl 1 rfl) ?_
  refine lv_iload_n (pc := 4) hx hb dL_value_4 rfl (lv_at hl 2 rfl) ?_
  refine xq_call (pc := 5) (wr := []) (k2 := 1) (n2 := 6) (vx_runV (As := [.int xi0, .int xi1]) (rest := [.int 0, .ref ad20]) ⟨hx, hb, hml, hown, hG⟩ (x_value_n l hst0 D cy kv s.heap.size ad0 xi0 xi1 fn0 h0_13 hn) (cwV 2 hG (gi_V g_572 g_573 g_574 g_143 g_285) rfl rfl rfl (by decide +kernel) ⟨Nat.le_of_ble_eq_true rfl, Nat.le_of_ble_eq_true rfl⟩) ⟨pq_blind, (va_recv hK hP (ci := 11) (q0 := 0) rfl rfl), (pq_pass hP hD hK hE hS hA [0] rfl (by decide))⟩ rfl rfl hl.1 rfl (lv_room (Nat.le_of_ble_eq_true rfl)) dL_value_5 ⟨Nat.le_of_ble_eq_true rfl, Nat.le_of_ble_eq_true rfl⟩) hP hD hS hA [0] [] rfl rfl (by decide) (by decide) (by decide) (by decide) (fun ce1 q1 w1 H1 lo1 hR1 hP1r hD1r hS1 hce1 hcv1 hcl1 => ?_)
  subst hR1
  have hP1 : va_P D classes [(ad0, ob 11 15 fn0)] H1 := hP1r
  have hD1 : va_D A [(ad0, ob 11 15 fn0)] := hD1r
  clear hP1r hD1r
  clear hP hD hS
  refine vx_catch (pc := 5) (E := "java/util/NoSuchElementException") hown [] ⟨0, 10, 13, 30⟩ [] htab (fun z hz => nomatch hz) rfl (by decide) (hG _ g_566) (va_Nw.use rfl (nw_at hE n_23)) hce1 hcv1 hcl1 ?_
  refine W.eq (g2 := F0 m 13 ls [.ref q1]) rfl ?_
  refine lv_astore (pc := 13) (lv' := [(4, .ref q1), (0, .ref ad0), (1, .int xi0), (2, .int xi1), (3, .ref ad20)]) hx hb dL_value_13 hl (by decide) rfl (fun ls2 hl2 => ?_)
  clear hl ls
  refine lv_iconst (pc := 15) (v := 1) hx hb dL_value_15 (by decide) ?_
  have hP99 := hP1.sub (ws' := []) [] rfl
  have hD99 := hD1.sub (ws' := []) [] (by decide) rfl
  exact W.iret (pc := 16) (v := 1) hx hb hr (fun t ht hW => ⟨⟨1, (), rfl, rfl, _, rfl, by rw [ht]; exact hP99, hD99⟩, hS1.F ht⟩) hS1.2.2 dL_value_16
set_option maxHeartbeats 4000000 in
set_option maxRecDepth 100000 in
/-- L_value -/
theorem l_x_value_p (l : Launch) (hst0 : l.stackTraces = false) (D : va_G) (cy : Nat → ClassId) (kv : KV) (sz : Nat) (ad0 : Nat) (xi0 : Int32) (xi1 : Int32) (ad20 : Nat) (fn0 : Nat → Value) (h0_13 : fn0 13 = .int 0) (hn : 0 ≤ xi0) : Met l yL_value (Cond.codeWith yL_value cL_value 5 (some .int) [(0, 10, 13, 30)] :: GW) ({ frames := 12, cells := 1, slots := 6, locals := 280 } : Room) (va_Pc [.ref ad0, .int xi0, .int xi1, .ref ad20] (pcq D cy kv sz [(ad0, ob 11 15 fn0)])) (va_Qi (fun r (_ : Unit) => r = 1) (fun _ t => bq D (fun w => w = []) (va_A [(ad0, ob 11 15 fn0)] sz) t) (va_A [(ad0, ob 11 15 fn0)] sz)) 1 6 (va_A [(ad0, ob 11 15 fn0)] sz) := by
  refine va_MetW (hh := [(0, 10, 13, 30)]) (cc := cL_value) (maxL := 5) (ret := (some .int)) (by decide) rfl ?_
  intro p e s m args below meth c s₁ B hml hv
  obtain ⟨rfl, hsz, hP, hK, hD0, hE⟩ := hv
  have hx := B.exec
  have hb := B.bytes
  have hr := B.returns
  have hG : ∀ w ∈ GW, w.before ([.ref ad0, .int xi0, .int xi1, .ref ad20] : List Value).toArray s = true := fun w h => atoms_spec (ws := Cond.codeWith yL_value cL_value 5 (some .int) [(0, 10, 13, 30)] :: GW) B.pre w (List.mem_cons_of_mem _ h)
  have hown : s.vm.findClass RL = some m.cls := findClass_of_methodNamed B.named
  have hlocks := B.notSynchronized
  subst hsz
  have hD := hD0.self (sz := s.heap.size)
  generalize hAe : va_A [(ad0, ob 11 15 fn0)] s.heap.size = A at hD hE ⊢
  have hA : ∀ q : Nat, s.heap.size ≤ q → A q := fun q h => by rw [← hAe]; exact Or.inr h
  have hS : va_S A s.heap s.heap [] := va_S.rf
  clear hAe hD0
  have hl0 := lv_entry ([.ref ad0, .int xi0, .int xi1, .ref ad20]) (n := 5) (Nat.le_of_ble_eq_true rfl)
  rw [lg_entry_eq]
  generalize (lg_sl ([.ref ad0, .int xi0, .int xi1, .ref ad20]) ++ List.replicate (5 - (lg_sl ([.ref ad0, .int xi0, .int xi1, .ref ad20])).length) Slot.unset).toArray = ls at hl0 ⊢
  have hl : lv_has ls 5 [(0, .ref ad0), (1, .int xi0), (2, .int xi1), (3, .ref ad20)] := hl0
  clear hl0
  have htab : c.exceptionTable.toList = [⟨0, 10, 13, 30⟩] := vx_table (x := yL_value) B (hG _ g_575)
  refine lv_aload_n (pc := 0) hx hb dL_value_0 rfl (lv_at hl 3 rfl) ?_
  refine lv_iconst (pc := 1) (v := 0) hx hb dL_value_1 (by decide) ?_
  refine lv_aload_n (pc := 2) hx hb dL_value_2 rfl (lv_at hl 0 rfl) ?_
  refine lv_iload_n (pc := 3) hx hb dL_value_3 rfl (lv_at hl 1 rfl) ?_
  refine lv_iload_n (pc := 4) hx hb dL_value_4 rfl (lv_at hl 2 rfl) ?_
  refine xq_call (pc := 5) (wr := []) (k2 := 1) (n2 := 6) (vx_runV (As := [.int xi0, .int xi1]) (rest := [.int 0, .ref ad20]) ⟨hx, hb, hml, hown, hG⟩ (x_value_p l hst0 D cy kv s.heap.size ad0 xi0 xi1 fn0 h0_13 hn) (cwV 2 hG (gi_V g_572 g_573 g_574 g_143 g_285) rfl rfl rfl (by decide +kernel) ⟨Nat.le_of_ble_eq_true rfl, Nat.le_of_ble_eq_true rfl⟩) ⟨pq_blind, (va_recv hK hP (ci := 11) (q0 := 0) rfl rfl), (pq_pass hP hD hK hE hS hA [0] rfl (by decide))⟩ rfl rfl hl.1 rfl (lv_room (Nat.le_of_ble_eq_true rfl)) dL_value_5 ⟨Nat.le_of_ble_eq_true rfl, Nat.le_of_ble_eq_true rfl⟩) hP hD hS hA [0] [] rfl rfl (by decide) (by decide) (by decide) (by decide) (fun ce1 q1 w1 H1 lo1 hR1 hP1r hD1r hS1 hce1 hcv1 hcl1 => ?_)
  subst hR1
  have hP1 : va_P D classes [(ad0, ob 11 15 fn0)] H1 := hP1r
  have hD1 : va_D A [(ad0, ob 11 15 fn0)] := hD1r
  clear hP1r hD1r
  clear hP hD hS
  refine vx_catch (pc := 5) (E := "java/util/NoSuchElementException") hown [] ⟨0, 10, 13, 30⟩ [] htab (fun z hz => nomatch hz) rfl (by decide) (hG _ g_566) (va_Nw.use rfl (nw_at hE n_23)) hce1 hcv1 hcl1 ?_
  refine W.eq (g2 := F0 m 13 ls [.ref q1]) rfl ?_
  refine lv_astore (pc := 13) (lv' := [(4, .ref q1), (0, .ref ad0), (1, .int xi0), (2, .int xi1), (3, .ref ad20)]) hx hb dL_value_13 hl (by decide) rfl (fun ls2 hl2 => ?_)
  clear hl ls
  refine lv_iconst (pc := 15) (v := 1) hx hb dL_value_15 (by decide) ?_
  have hP99 := hP1.sub (ws' := []) [] rfl
  have hD99 := hD1.sub (ws' := []) [] (by decide) rfl
  exact W.iret (pc := 16) (v := 1) hx hb hr (fun t ht hW => ⟨⟨1, (), rfl, rfl, _, rfl, by rw [ht]; exact hP99, hD99⟩, hS1.F ht⟩) hS1.2.2 dL_value_16
set_option maxHeartbeats 4000000 in
set_option maxRecDepth 100000 in
/-- L_item -/
theorem l_x_item_n (l : Launch) (hst0 : l.stackTraces = false) (D : va_G) (cy : Nat → ClassId) (kv : KV) (sz : Nat) (ad0 : Nat) (xi0 : Int32) (xi1 : Int32) (xi2 : Int32) (ad20 : Nat) (fn0 : Nat → Value) (h0_13 : fn0 13 = .int 0) (hn : xi0 < 0) : Met l yL_item (Cond.codeWith yL_item cL_item 6 (some .int) [(0, 12, 15, 30)] :: GW) ({ frames := 12, cells := 1, slots := 6, locals := 280 } : Room) (va_Pc [.ref ad0, .int xi0, .int xi1, .int xi2, .ref ad20] (pcq D cy kv sz [(ad0, ob 11 15 fn0)])) (va_Qi (fun r (_ : Unit) => r = 1) (fun _ t => bq D (fun w => w = []) (va_A [(ad0, ob 11 15 fn0)] sz) t) (va_A [(ad0, ob 11 15 fn0)] sz)) 1 6 (va_A [(ad0, ob 11 15 fn0)] sz) := by
  refine va_MetW (hh := [(0, 12, 15, 30)]) (cc := cL_item) (maxL := 6) (ret := (some .int)) (by decide) rfl ?_
  intro p e s m args below meth c s₁ B hml hv
  obtain ⟨rfl, hsz, hP, hK, hD0, hE⟩ := hv
  have hx := B.exec
  have hb := B.bytes
  have hr := B.returns
  have hG : ∀ w ∈ GW, w.before ([.ref ad0, .int xi0, .int xi1, .int xi2, .ref ad20] : List Value).toArray s = true := fun w h => atoms_spec (ws := Cond.codeWith yL_item cL_item 6 (some .int) [(0, 12, 15, 30)] :: GW) B.pre w (List.mem_cons_of_mem _ h)
  have hown : s.vm.findClass RL = some m.cls := findClass_of_methodNamed B.named
  have hlocks := B.notSynchronized
  subst hsz
  have hD := hD0.self (sz := s.heap.size)
  generalize hAe : va_A [(ad0, ob 11 15 fn0)] s.heap.size = A at hD hE ⊢
  have hA : ∀ q : Nat, s.heap.size ≤ q → A q := fun q h => by rw [← hAe]; exact Or.inr h
  have hS : va_S A s.heap s.heap [] := va_S.rf
  clear hAe hD0
  have hl0 := lv_entry ([.ref ad0, .int xi0, .int xi1, .int xi2, .ref ad20]) (n := 6) (Nat.le_of_ble_eq_true rfl)
  rw [lg_entry_eq]
  generalize (lg_sl ([.ref ad0, .int xi0, .int xi1, .int xi2, .ref ad20]) ++ List.replicate (6 - (lg_sl ([.ref ad0, .int xi0, .int xi1, .int xi2, .ref ad20])).length) Slot.unset).toArray = ls at hl0 ⊢
  have hl : lv_has ls 6 [(0, .ref ad0), (1, .int xi0), (2, .int xi1), (3, .int xi2), (4, .ref ad20)] := hl0
  clear hl0
  have htab : c.exceptionTable.toList = [⟨0, 12, 15, 30⟩] := vx_table (x := yL_item) B (hG _ g_579)
  refine lv_aload (pc := 0) hx hb dL_item_0 (lv_at hl 4 rfl) ?_
  refine lv_iconst (pc := 2) (v := 0) hx hb dL_item_2 (by decide) ?_
  refine lv_aload_n (pc := 3) hx hb dL_item_3 rfl (lv_at hl 0 rfl) ?_
  refine lv_iload_n (pc := 4) hx hb dL_item_4 rfl (lv_at hl 1 rfl) ?_
  refine lv_iload_n (pc := 5) hx hb dL_item_5 rfl (lv_at hl 2 rfl) ?_
  refine lv_iload_n (pc := 6) hx hb dL_item_6 rfl (lv_at hl 3 rfl) ?_
  refine xq_call (pc := 7) (wr := []) (k2 := 1) (n2 := 6) (vx_runV (As := [.int xi0, .int xi1, .int xi2]) (rest := [.int 0, .ref ad20]) ⟨hx, hb, hml, hown, hG⟩ (x_item_n l hst0 D cy kv s.heap.size ad0 xi0 xi1 xi2 fn0 h0_13 hn) (cwV 3 hG (gi_V g_576 g_577 g_578 g_143 g_286) rfl rfl rfl (by decide +kernel) ⟨Nat.le_of_ble_eq_true rfl, Nat.le_of_ble_eq_true rfl⟩) ⟨pq_blind, (va_recv hK hP (ci := 11) (q0 := 0) rfl rfl), (pq_pass hP hD hK hE hS hA [0] rfl (by decide))⟩ rfl rfl hl.1 rfl (lv_room (Nat.le_of_ble_eq_true rfl)) dL_item_7 ⟨Nat.le_of_ble_eq_true rfl, Nat.le_of_ble_eq_true rfl⟩) hP hD hS hA [0] [] rfl rfl (by decide) (by decide) (by decide) (by decide) (fun ce1 q1 w1 H1 lo1 hR1 hP1r hD1r hS1 hce1 hcv1 hcl1 => ?_)
  subst hR1
  have hP1 : va_P D classes [(ad0, ob 11 15 fn0)] H1 := hP1r
  have hD1 : va_D A [(ad0, ob 11 15 fn0)] := hD1r
  clear hP1r hD1r
  clear hP hD hS
  refine vx_catch (pc := 7) (E := "java/util/NoSuchElementException") hown [] ⟨0, 12, 15, 30⟩ [] htab (fun z hz => nomatch hz) rfl (by decide) (hG _ g_566) (va_Nw.use rfl (nw_at hE n_23)) hce1 hcv1 hcl1 ?_
  refine W.eq (g2 := F0 m 15 ls [.ref q1]) rfl ?_
  refine lv_astore (pc := 15) (lv' := [(5, .ref q1), (0, .ref ad0), (1, .int xi0), (2, .int xi1), (3, .int xi2), (4, .ref ad20)]) hx hb dL_item_15 hl (by decide) rfl (fun ls2 hl2 => ?_)
  clear hl ls
  refine lv_iconst (pc := 17) (v := 1) hx hb dL_item_17 (by decide) ?_
  have hP99 := hP1.sub (ws' := []) [] rfl
  have hD99 := hD1.sub (ws' := []) [] (by decide) rfl
  exact W.iret (pc := 18) (v := 1) hx hb hr (fun t ht hW => ⟨⟨1, (), rfl, rfl, _, rfl, by rw [ht]; exact hP99, hD99⟩, hS1.F ht⟩) hS1.2.2 dL_item_18
set_option maxHeartbeats 4000000 in
set_option maxRecDepth 100000 in
/-- L_item -/
theorem l_x_item_p (l : Launch) (hst0 : l.stackTraces = false) (D : va_G) (cy : Nat → ClassId) (kv : KV) (sz : Nat) (ad0 : Nat) (xi0 : Int32) (xi1 : Int32) (xi2 : Int32) (ad20 : Nat) (fn0 : Nat → Value) (h0_13 : fn0 13 = .int 0) (hn : 0 ≤ xi0) : Met l yL_item (Cond.codeWith yL_item cL_item 6 (some .int) [(0, 12, 15, 30)] :: GW) ({ frames := 12, cells := 1, slots := 6, locals := 280 } : Room) (va_Pc [.ref ad0, .int xi0, .int xi1, .int xi2, .ref ad20] (pcq D cy kv sz [(ad0, ob 11 15 fn0)])) (va_Qi (fun r (_ : Unit) => r = 1) (fun _ t => bq D (fun w => w = []) (va_A [(ad0, ob 11 15 fn0)] sz) t) (va_A [(ad0, ob 11 15 fn0)] sz)) 1 6 (va_A [(ad0, ob 11 15 fn0)] sz) := by
  refine va_MetW (hh := [(0, 12, 15, 30)]) (cc := cL_item) (maxL := 6) (ret := (some .int)) (by decide) rfl ?_
  intro p e s m args below meth c s₁ B hml hv
  obtain ⟨rfl, hsz, hP, hK, hD0, hE⟩ := hv
  have hx := B.exec
  have hb := B.bytes
  have hr := B.returns
  have hG : ∀ w ∈ GW, w.before ([.ref ad0, .int xi0, .int xi1, .int xi2, .ref ad20] : List Value).toArray s = true := fun w h => atoms_spec (ws := Cond.codeWith yL_item cL_item 6 (some .int) [(0, 12, 15, 30)] :: GW) B.pre w (List.mem_cons_of_mem _ h)
  have hown : s.vm.findClass RL = some m.cls := findClass_of_methodNamed B.named
  have hlocks := B.notSynchronized
  subst hsz
  have hD := hD0.self (sz := s.heap.size)
  generalize hAe : va_A [(ad0, ob 11 15 fn0)] s.heap.size = A at hD hE ⊢
  have hA : ∀ q : Nat, s.heap.size ≤ q → A q := fun q h => by rw [← hAe]; exact Or.inr h
  have hS : va_S A s.heap s.heap [] := va_S.rf
  clear hAe hD0
  have hl0 := lv_entry ([.ref ad0, .int xi0, .int xi1, .int xi2, .ref ad20]) (n := 6) (Nat.le_of_ble_eq_true rfl)
  rw [lg_entry_eq]
  generalize (lg_sl ([.ref ad0, .int xi0, .int xi1, .int xi2, .ref ad20]) ++ List.replicate (6 - (lg_sl ([.ref ad0, .int xi0, .int xi1, .int xi2, .ref ad20])).length) Slot.unset).toArray = ls at hl0 ⊢
  have hl : lv_has ls 6 [(0, .ref ad0), (1, .int xi0), (2, .int xi1), (3, .int xi2), (4, .ref ad20)] := hl0
  clear hl0
  have htab : c.exceptionTable.toList = [⟨0, 12, 15, 30⟩] := vx_table (x := yL_item) B (hG _ g_579)
  refine lv_aload (pc := 0) hx hb dL_item_0 (lv_at hl 4 rfl) ?_
  refine lv_iconst (pc := 2) (v := 0) hx hb dL_item_2 (by decide) ?_
  refine lv_aload_n (pc := 3) hx hb dL_item_3 rfl (lv_at hl 0 rfl) ?_
  refine lv_iload_n (pc := 4) hx hb dL_item_4 rfl (lv_at hl 1 rfl) ?_
  refine lv_iload_n (pc := 5) hx hb dL_item_5 rfl (lv_at hl 2 rfl) ?_
  refine lv_iload_n (pc := 6) hx hb dL_item_6 rfl (lv_at hl 3 rfl) ?_
  refine xq_call (pc := 7) (wr := []) (k2 := 1) (n2 := 6) (vx_runV (As := [.int xi0, .int xi1, .int xi2]) (rest := [.int 0, .ref ad20]) ⟨hx, hb, hml, hown, hG⟩ (x_item_p l hst0 D cy kv s.heap.size ad0 xi0 xi1 xi2 fn0 h0_13 hn) (cwV 3 hG (gi_V g_576 g_577 g_578 g_143 g_286) rfl rfl rfl (by decide +kernel) ⟨Nat.le_of_ble_eq_true rfl, Nat.le_of_ble_eq_true rfl⟩) ⟨pq_blind, (va_recv hK hP (ci := 11) (q0 := 0) rfl rfl), (pq_pass hP hD hK hE hS hA [0] rfl (by decide))⟩ rfl rfl hl.1 rfl (lv_room (Nat.le_of_ble_eq_true rfl)) dL_item_7 ⟨Nat.le_of_ble_eq_true rfl, Nat.le_of_ble_eq_true rfl⟩) hP hD hS hA [0] [] rfl rfl (by decide) (by decide) (by decide) (by decide) (fun ce1 q1 w1 H1 lo1 hR1 hP1r hD1r hS1 hce1 hcv1 hcl1 => ?_)
  subst hR1
  have hP1 : va_P D classes [(ad0, ob 11 15 fn0)] H1 := hP1r
  have hD1 : va_D A [(ad0, ob 11 15 fn0)] := hD1r
  clear hP1r hD1r
  clear hP hD hS
  refine vx_catch (pc := 7) (E := "java/util/NoSuchElementException") hown [] ⟨0, 12, 15, 30⟩ [] htab (fun z hz => nomatch hz) rfl (by decide) (hG _ g_566) (va_Nw.use rfl (nw_at hE n_23)) hce1 hcv1 hcl1 ?_
  refine W.eq (g2 := F0 m 15 ls [.ref q1]) rfl ?_
  refine lv_astore (pc := 15) (lv' := [(5, .ref q1), (0, .ref ad0), (1, .int xi0), (2, .int xi1), (3, .int xi2), (4, .ref ad20)]) hx hb dL_item_15 hl (by decide) rfl (fun ls2 hl2 => ?_)
  clear hl ls
  refine lv_iconst (pc := 17) (v := 1) hx hb dL_item_17 (by decide) ?_
  have hP99 := hP1.sub (ws' := []) [] rfl
  have hD99 := hD1.sub (ws' := []) [] (by decide) rfl
  exact W.iret (pc := 18) (v := 1) hx hb hr (fun t ht hW => ⟨⟨1, (), rfl, rfl, _, rfl, by rw [ht]; exact hP99, hD99⟩, hS1.F ht⟩) hS1.2.2 dL_item_18
set_option maxHeartbeats 4000000 in
set_option maxRecDepth 100000 in
/-- L_same -/
theorem l_x_same_n (l : Launch) (hst0 : l.stackTraces = false) (D : va_G) (cy : Nat → ClassId) (kv : KV) (sz : Nat) (ad0 : Nat) (xi0 : Int32) (xi1 : Int32) (ad20 : Nat) (fn0 : Nat → Value) (h0_13 : fn0 13 = .int 0) (hn : xi0 < 0) : Met l yL_same (Cond.codeWith yL_same cL_same 5 (some .int) [(0, 17, 20, 30)] :: GW) ({ frames := 12, cells := 1, slots := 6, locals := 280 } : Room) (va_Pc [.ref ad0, .int xi0, .int xi1, .ref ad20] (pcq D cy kv sz [(ad0, ob 11 15 fn0)])) (va_Qi (fun r (_ : Unit) => r = 1) (fun _ t => bq D (fun w => w = []) (va_A [(ad0, ob 11 15 fn0)] sz) t) (va_A [(ad0, ob 11 15 fn0)] sz)) 1 6 (va_A [(ad0, ob 11 15 fn0)] sz) := by
  refine va_MetW (hh := [(0, 17, 20, 30)]) (cc := cL_same) (maxL := 5) (ret := (some .int)) (by decide) rfl ?_
  intro p e s m args below meth c s₁ B hml hv
  obtain ⟨rfl, hsz, hP, hK, hD0, hE⟩ := hv
  have hx := B.exec
  have hb := B.bytes
  have hr := B.returns
  have hG : ∀ w ∈ GW, w.before ([.ref ad0, .int xi0, .int xi1, .ref ad20] : List Value).toArray s = true := fun w h => atoms_spec (ws := Cond.codeWith yL_same cL_same 5 (some .int) [(0, 17, 20, 30)] :: GW) B.pre w (List.mem_cons_of_mem _ h)
  have hown : s.vm.findClass RL = some m.cls := findClass_of_methodNamed B.named
  have hlocks := B.notSynchronized
  subst hsz
  have hD := hD0.self (sz := s.heap.size)
  generalize hAe : va_A [(ad0, ob 11 15 fn0)] s.heap.size = A at hD hE ⊢
  have hA : ∀ q : Nat, s.heap.size ≤ q → A q := fun q h => by rw [← hAe]; exact Or.inr h
  have hS : va_S A s.heap s.heap [] := va_S.rf
  clear hAe hD0
  have hl0 := lv_entry ([.ref ad0, .int xi0, .int xi1, .ref ad20]) (n := 5) (Nat.le_of_ble_eq_true rfl)
  rw [lg_entry_eq]
  generalize (lg_sl ([.ref ad0, .int xi0, .int xi1, .ref ad20]) ++ List.replicate (5 - (lg_sl ([.ref ad0, .int xi0, .int xi1, .ref ad20])).length) Slot.unset).toArray = ls at hl0 ⊢
  have hl : lv_has ls 5 [(0, .ref ad0), (1, .int xi0), (2, .int xi1), (3, .ref ad20)] := hl0
  clear hl0
  have htab : c.exceptionTable.toList = [⟨0, 17, 20, 30⟩] := vx_table (x := yL_same) B (hG _ g_583)
  refine lv_aload_n (pc := 0) hx hb dL_same_0 rfl (lv_at hl 3 rfl) ?_
  refine lv_iconst (pc := 1) (v := 0) hx hb dL_same_1 (by decide) ?_
  refine lv_aload_n (pc := 2) hx hb dL_same_2 rfl (lv_at hl 0 rfl) ?_
  refine lv_iload_n (pc := 3) hx hb dL_same_3 rfl (lv_at hl 1 rfl) ?_
  refine lv_iload_n (pc := 4) hx hb dL_same_4 rfl (lv_at hl 2 rfl) ?_
  refine xq_call (pc := 5) (wr := []) (k2 := 1) (n2 := 6) (vx_runV (As := [.int xi0, .int xi1]) (rest := [.int 0, .ref ad20]) ⟨hx, hb, hml, hown, hG⟩ (x_same_n l hst0 D cy kv s.heap.size ad0 xi0 xi1 fn0 h0_13 hn) (cwV 2 hG (gi_V g_580 g_581 g_582 g_143 g_287) rfl rfl rfl (by decide +kernel) ⟨Nat.le_of_ble_eq_true rfl, Nat.le_of_ble_eq_true rfl⟩) ⟨pq_blind, (va_recv hK hP (ci := 11) (q0 := 0) rfl rfl), (pq_pass hP hD hK hE hS hA [0] rfl (by decide))⟩ rfl rfl hl.1 rfl (lv_room (Nat.le_of_ble_eq_true rfl)) dL_same_5 ⟨Nat.le_of_ble_eq_true rfl, Nat.le_of_ble_eq_true rfl⟩) hP hD hS hA [0] [] rfl rfl (by decide) (by decide) (by decide) (by decide) (fun ce1 q1 w1 H1 lo1 hR1 hP1r hD1r hS1 hce1 hcv1 hcl1 => ?_)
  subst hR1
  have hP1 : va_P D classes [(ad0, ob 11 15 fn0)] H1 := hP1r
  have hD1 : va_D A [(ad0, ob 11 15 fn0)] := hD1r
  clear hP1r hD1r
  clear hP hD hS
  refine vx_catch (pc := 5) (E := "java/util/NoSuchElementException") hown [] ⟨0, 17, 20, 30⟩ [] htab (fun z hz => nomatch hz) rfl (by decide) (hG _ g_566) (va_Nw.use rfl (nw_at hE n_23)) hce1 hcv1 hcl1 ?_
  refine W.eq (g2 := F0 m 20 ls [.ref q1]) rfl ?_
  refine lv_astore (pc := 20) (lv' := [(4, .ref q1), (0, .ref ad0), (1, .int xi0), (2, .int xi1), (3, .ref ad20)]) hx hb dL_same_20 hl (by decide) rfl (fun ls2 hl2 => ?_)
  clear hl ls
  refine lv_iconst (pc := 22) (v := 1) hx hb dL_same_22 (by decide) ?_
  have hP99 := hP1.sub (ws' := []) [] rfl
  have hD99 := hD1.sub (ws' := []) [] (by decide) rfl
  exact W.iret (pc := 23) (v := 1) hx hb hr (fun t ht hW => ⟨⟨1, (), rfl, rfl, _, rfl, by rw [ht]; exact hP99, hD99⟩, hS1.F ht⟩) hS1.2.2 dL_same_23
set_option maxHeartbeats 4000000 in
set_option maxRecDepth 100000 in
/-- L_same -/
theorem l_x_same_p (l : Launch) (hst0 : l.stackTraces = false) (D : va_G) (cy : Nat → ClassId) (kv : KV) (sz : Nat) (ad0 : Nat) (xi0 : Int32) (xi1 : Int32) (ad20 : Nat) (fn0 : Nat → Value) (h0_13 : fn0 13 = .int 0) (hn : 0 ≤ xi0) : Met l yL_same (Cond.codeWith yL_same cL_same 5 (some .int) [(0, 17, 20, 30)] :: GW) ({ frames := 12, cells := 1, slots := 6, locals := 280 } : Room) (va_Pc [.ref ad0, .int xi0, .int xi1, .ref ad20] (pcq D cy kv sz [(ad0, ob 11 15 fn0)])) (va_Qi (fun r (_ : Unit) => r = 1) (fun _ t => bq D (fun w => w = []) (va_A [(ad0, ob 11 15 fn0)] sz) t) (va_A [(ad0, ob 11 15 fn0)] sz)) 1 6 (va_A [(ad0, ob 11 15 fn0)] sz) := by
  refine va_MetW (hh := [(0, 17, 20, 30)]) (cc := cL_same) (maxL := 5) (ret := (some .int)) (by decide) rfl ?_
  intro p e s m args below meth c s₁ B hml hv
  obtain ⟨rfl, hsz, hP, hK, hD0, hE⟩ := hv
  have hx := B.exec
  have hb := B.bytes
  have hr := B.returns
  have hG : ∀ w ∈ GW, w.before ([.ref ad0, .int xi0, .int xi1, .ref ad20] : List Value).toArray s = true := fun w h => atoms_spec (ws := Cond.codeWith yL_same cL_same 5 (some .int) [(0, 17, 20, 30)] :: GW) B.pre w (List.mem_cons_of_mem _ h)
  have hown : s.vm.findClass RL = some m.cls := findClass_of_methodNamed B.named
  have hlocks := B.notSynchronized
  subst hsz
  have hD := hD0.self (sz := s.heap.size)
  generalize hAe : va_A [(ad0, ob 11 15 fn0)] s.heap.size = A at hD hE ⊢
  have hA : ∀ q : Nat, s.heap.size ≤ q → A q := fun q h => by rw [← hAe]; exact Or.inr h
  have hS : va_S A s.heap s.heap [] := va_S.rf
  clear hAe hD0
  have hl0 := lv_entry ([.ref ad0, .int xi0, .int xi1, .ref ad20]) (n := 5) (Nat.le_of_ble_eq_true rfl)
  rw [lg_entry_eq]
  generalize (lg_sl ([.ref ad0, .int xi0, .int xi1, .ref ad20]) ++ List.replicate (5 - (lg_sl ([.ref ad0, .int xi0, .int xi1, .ref ad20])).length) Slot.unset).toArray = ls at hl0 ⊢
  have hl : lv_has ls 5 [(0, .ref ad0), (1, .int xi0), (2, .int xi1), (3, .ref ad20)] := hl0
  clear hl0
  have htab : c.exceptionTable.toList = [⟨0, 17, 20, 30⟩] := vx_table (x := yL_same) B (hG _ g_583)
  refine lv_aload_n (pc := 0) hx hb dL_same_0 rfl (lv_at hl 3 rfl) ?_
  refine lv_iconst (pc := 1) (v := 0) hx hb dL_same_1 (by decide) ?_
  refine lv_aload_n (pc := 2) hx hb dL_same_2 rfl (lv_at hl 0 rfl) ?_
  refine lv_iload_n (pc := 3) hx hb dL_same_3 rfl (lv_at hl 1 rfl) ?_
  refine lv_iload_n (pc := 4) hx hb dL_same_4 rfl (lv_at hl 2 rfl) ?_
  refine xq_call (pc := 5) (wr := []) (k2 := 1) (n2 := 6) (vx_runV (As := [.int xi0, .int xi1]) (rest := [.int 0, .ref ad20]) ⟨hx, hb, hml, hown, hG⟩ (x_same_p l hst0 D cy kv s.heap.size ad0 xi0 xi1 fn0 h0_13 hn) (cwV 2 hG (gi_V g_580 g_581 g_582 g_143 g_287) rfl rfl rfl (by decide +kernel) ⟨Nat.le_of_ble_eq_true rfl, Nat.le_of_ble_eq_true rfl⟩) ⟨pq_blind, (va_recv hK hP (ci := 11) (q0 := 0) rfl rfl), (pq_pass hP hD hK hE hS hA [0] rfl (by decide))⟩ rfl rfl hl.1 rfl (lv_room (Nat.le_of_ble_eq_true rfl)) dL_same_5 ⟨Nat.le_of_ble_eq_true rfl, Nat.le_of_ble_eq_true rfl⟩) hP hD hS hA [0] [] rfl rfl (by decide) (by decide) (by decide) (by decide) (fun ce1 q1 w1 H1 lo1 hR1 hP1r hD1r hS1 hce1 hcv1 hcl1 => ?_)
  subst hR1
  have hP1 : va_P D classes [(ad0, ob 11 15 fn0)] H1 := hP1r
  have hD1 : va_D A [(ad0, ob 11 15 fn0)] := hD1r
  clear hP1r hD1r
  clear hP hD hS
  refine vx_catch (pc := 5) (E := "java/util/NoSuchElementException") hown [] ⟨0, 17, 20, 30⟩ [] htab (fun z hz => nomatch hz) rfl (by decide) (hG _ g_566) (va_Nw.use rfl (nw_at hE n_23)) hce1 hcv1 hcl1 ?_
  refine W.eq (g2 := F0 m 20 ls [.ref q1]) rfl ?_
  refine lv_astore (pc := 20) (lv' := [(4, .ref q1), (0, .ref ad0), (1, .int xi0), (2, .int xi1), (3, .ref ad20)]) hx hb dL_same_20 hl (by decide) rfl (fun ls2 hl2 => ?_)
  clear hl ls
  refine lv_iconst (pc := 22) (v := 1) hx hb dL_same_22 (by decide) ?_
  have hP99 := hP1.sub (ws' := []) [] rfl
  have hD99 := hD1.sub (ws' := []) [] (by decide) rfl
  exact W.iret (pc := 23) (v := 1) hx hb hr (fun t ht hW => ⟨⟨1, (), rfl, rfl, _, rfl, by rw [ht]; exact hP99, hD99⟩, hS1.F ht⟩) hS1.2.2 dL_same_23
set_option maxHeartbeats 4000000 in
set_option maxRecDepth 100000 in
/-- L_print -/
theorem l_x_print_n (l : Launch) (hst0 : l.stackTraces = false) (D : va_G) (cy : Nat → ClassId) (kv : KV) (sz : Nat) (ad0 : Nat) (xi0 : Int32) (ad20 : Nat) (fn0 : Nat → Value) (h0_13 : fn0 13 = .int 0) (hn : xi0 < 0) : Met l yL_print (Cond.codeWith yL_print cL_print 4 (some .int) [(0, 9, 12, 30)] :: GW) ({ frames := 12, cells := 1, slots := 6, locals := 280 } : Room) (va_Pc [.ref ad0, .int xi0, .ref ad20] (pcq D cy kv sz [(ad0, ob 11 15 fn0)])) (va_Qi (fun r (_ : Unit) => r = 1) (fun _ t => bq D (fun w => w = []) (va_A [(ad0, ob 11 15 fn0)] sz) t) (va_A [(ad0, ob 11 15 fn0)] sz)) 1 6 (va_A [(ad0, ob 11 15 fn0)] sz) := by
  refine va_MetW (hh := [(0, 9, 12, 30)]) (cc := cL_print) (maxL := 4) (ret := (some .int)) (by decide) rfl ?_
  intro p e s m args below meth c s₁ B hml hv
  obtain ⟨rfl, hsz, hP, hK, hD0, hE⟩ := hv
  have hx := B.exec
  have hb := B.bytes
  have hr := B.returns
  have hG : ∀ w ∈ GW, w.before ([.ref ad0, .int xi0, .ref ad20] : List Value).toArray s = true := fun w h => atoms_spec (ws := Cond.codeWith yL_print cL_print 4 (some .int) [(0, 9, 12, 30)] :: GW) B.pre w (List.mem_cons_of_mem _ h)
  have hown : s.vm.findClass RL = some m.cls := findClass_of_methodNamed B.named
  have hlocks := B.notSynchronized
  subst hsz
  have hD := hD0.self (sz := s.heap.size)
  generalize hAe : va_A [(ad0, ob 11 15 fn0)] s.heap.size = A at hD hE ⊢
  have hA : ∀ q : Nat, s.heap.size ≤ q → A q := fun q h => by rw [← hAe]; exact Or.inr h
  have hS : va_S A s.heap s.heap [] := va_S.rf
  clear hAe hD0
  have hl0 := lv_entry ([.ref ad0, .int xi0, .ref ad20]) (n := 4) (Nat.le_of_ble_eq_true rfl)
  rw [lg_entry_eq]
  generalize (lg_sl ([.ref ad0, .int xi0, .ref ad20]) ++ List.replicate (4 - (lg_sl ([.ref ad0, .int xi0, .ref ad20])).length) Slot.unset).toArray = ls at hl0 ⊢
  have hl : lv_has ls 4 [(0, .ref ad0), (1, .int xi0), (2, .ref ad20)] := hl0
  clear hl0
  have htab : c.exceptionTable.toList = [⟨0, 9, 12, 30⟩] := vx_table (x := yL_print) B (hG _ g_587)
  refine lv_aload_n (pc := 0) hx hb dL_print_0 rfl (lv_at hl 2 rfl) ?_
  refine lv_iconst (pc := 1) (v := 0) hx hb dL_print_1 (by decide) ?_
  refine lv_aload_n (pc := 2) hx hb dL_print_2 rfl (lv_at hl 0 rfl) ?_
  refine lv_iload_n (pc := 3) hx hb dL_print_3 rfl (lv_at hl 1 rfl) ?_
  refine xq_call (pc := 4) (wr := []) (k2 := 1) (n2 := 6) (vx_runV (As := [.int xi0]) (rest := [.int 0, .ref ad20]) ⟨hx, hb, hml, hown, hG⟩ (x_print_n l hst0 D cy kv s.heap.size ad0 xi0 fn0 h0_13 hn) (cwV 1 hG (gi_V g_584 g_585 g_586 g_143 g_288) rfl rfl rfl (by decide +kernel) ⟨Nat.le_of_ble_eq_true rfl, Nat.le_of_ble_eq_true rfl⟩) ⟨pq_blind, (va_recv hK hP (ci := 11) (q0 := 0) rfl rfl), (pq_pass hP hD hK hE hS hA [0] rfl (by decide))⟩ rfl rfl hl.1 rfl (lv_room (Nat.le_of_ble_eq_true rfl)) dL_print_4 ⟨Nat.le_of_ble_eq_true rfl, Nat.le_of_ble_eq_true rfl⟩) hP hD hS hA [0] [] rfl rfl (by decide) (by decide) (by decide) (by decide) (fun ce1 q1 w1 H1 lo1 hR1 hP1r hD1r hS1 hce1 hcv1 hcl1 => ?_)
  subst hR1
  have hP1 : va_P D classes [(ad0, ob 11 15 fn0)] H1 := hP1r
  have hD1 : va_D A [(ad0, ob 11 15 fn0)] := hD1r
  clear hP1r hD1r
  clear hP hD hS
  refine vx_catch (pc := 4) (E := "java/util/NoSuchElementException") hown [] ⟨0, 9, 12, 30⟩ [] htab (fun z hz => nomatch hz) rfl (by decide) (hG _ g_566) (va_Nw.use rfl (nw_at hE n_23)) hce1 hcv1 hcl1 ?_
  refine W.eq (g2 := F0 m 12 ls [.ref q1]) rfl ?_
  refine lv_astore_n (pc := 12) (lv' := [(3, .ref q1), (0, .ref ad0), (1, .int xi0), (2, .ref ad20)]) hx hb dL_print_12 rfl hl (by decide) rfl (fun ls2 hl2 => ?_)
  clear hl ls
  refine lv_iconst (pc := 13) (v := 1) hx hb dL_print_13 (by decide) ?_
  have hP99 := hP1.sub (ws' := []) [] rfl
  have hD99 := hD1.sub (ws' := []) [] (by decide) rfl
  exact W.iret (pc := 14) (v := 1) hx hb hr (fun t ht hW => ⟨⟨1, (), rfl, rfl, _, rfl, by rw [ht]; exact hP99, hD99⟩, hS1.F ht⟩) hS1.2.2 dL_print_14
set_option maxHeartbeats 4000000 in
set_option maxRecDepth 100000 in
/-- L_print -/
theorem l_x_print_p (l : Launch) (hst0 : l.stackTraces = false) (D : va_G) (cy : Nat → ClassId) (kv : KV) (sz : Nat) (ad0 : Nat) (xi0 : Int32) (ad20 : Nat) (fn0 : Nat → Value) (h0_13 : fn0 13 = .int 0) (hn : 0 ≤ xi0) : Met l yL_print (Cond.codeWith yL_print cL_print 4 (some .int) [(0, 9, 12, 30)] :: GW) ({ frames := 12, cells := 1, slots := 6, locals := 280 } : Room) (va_Pc [.ref ad0, .int xi0, .ref ad20] (pcq D cy kv sz [(ad0, ob 11 15 fn0)])) (va_Qi (fun r (_ : Unit) => r = 1) (fun _ t => bq D (fun w => w = []) (va_A [(ad0, ob 11 15 fn0)] sz) t) (va_A [(ad0, ob 11 15 fn0)] sz)) 1 6 (va_A [(ad0, ob 11 15 fn0)] sz) := by
  refine va_MetW (hh := [(0, 9, 12, 30)]) (cc := cL_print) (maxL := 4) (ret := (some .int)) (by decide) rfl ?_
  intro p e s m args below meth c s₁ B hml hv
  obtain ⟨rfl, hsz, hP, hK, hD0, hE⟩ := hv
  have hx := B.exec
  have hb := B.bytes
  have hr := B.returns
  have hG : ∀ w ∈ GW, w.before ([.ref ad0, .int xi0, .ref ad20] : List Value).toArray s = true := fun w h => atoms_spec (ws := Cond.codeWith yL_print cL_print 4 (some .int) [(0, 9, 12, 30)] :: GW) B.pre w (List.mem_cons_of_mem _ h)
  have hown : s.vm.findClass RL = some m.cls := findClass_of_methodNamed B.named
  have hlocks := B.notSynchronized
  subst hsz
  have hD := hD0.self (sz := s.heap.size)
  generalize hAe : va_A [(ad0, ob 11 15 fn0)] s.heap.size = A at hD hE ⊢
  have hA : ∀ q : Nat, s.heap.size ≤ q → A q := fun q h => by rw [← hAe]; exact Or.inr h
  have hS : va_S A s.heap s.heap [] := va_S.rf
  clear hAe hD0
  have hl0 := lv_entry ([.ref ad0, .int xi0, .ref ad20]) (n := 4) (Nat.le_of_ble_eq_true rfl)
  rw [lg_entry_eq]
  generalize (lg_sl ([.ref ad0, .int xi0, .ref ad20]) ++ List.replicate (4 - (lg_sl ([.ref ad0, .int xi0, .ref ad20])).length) Slot.unset).toArray = ls at hl0 ⊢
  have hl : lv_has ls 4 [(0, .ref ad0), (1, .int xi0), (2, .ref ad20)] := hl0
  clear hl0
  have htab : c.exceptionTable.toList = [⟨0, 9, 12, 30⟩] := vx_table (x := yL_print) B (hG _ g_587)
  refine lv_aload_n (pc := 0) hx hb dL_print_0 rfl (lv_at hl 2 rfl) ?_
  refine lv_iconst (pc := 1) (v := 0) hx hb dL_print_1 (by decide) ?_
  refine lv_aload_n (pc := 2) hx hb dL_print_2 rfl (lv_at hl 0 rfl) ?_
  refine lv_iload_n (pc := 3) hx hb dL_print_3 rfl (lv_at hl 1 rfl) ?_
  refine xq_call (pc := 4) (wr := []) (k2 := 1) (n2 := 6) (vx_runV (As := [.int xi0]) (rest := [.int 0, .ref ad20]) ⟨hx, hb, hml, hown, hG⟩ (x_print_p l hst0 D cy kv s.heap.size ad0 xi0 fn0 h0_13 hn) (cwV 1 hG (gi_V g_584 g_585 g_586 g_143 g_288) rfl rfl rfl (by decide +kernel) ⟨Nat.le_of_ble_eq_true rfl, Nat.le_of_ble_eq_true rfl⟩) ⟨pq_blind, (va_recv hK hP (ci := 11) (q0 := 0) rfl rfl), (pq_pass hP hD hK hE hS hA [0] rfl (by decide))⟩ rfl rfl hl.1 rfl (lv_room (Nat.le_of_ble_eq_true rfl)) dL_print_4 ⟨Nat.le_of_ble_eq_true rfl, Nat.le_of_ble_eq_true rfl⟩) hP hD hS hA [0] [] rfl rfl (by decide) (by decide) (by decide) (by decide) (fun ce1 q1 w1 H1 lo1 hR1 hP1r hD1r hS1 hce1 hcv1 hcl1 => ?_)
  subst hR1
  have hP1 : va_P D classes [(ad0, ob 11 15 fn0)] H1 := hP1r
  have hD1 : va_D A [(ad0, ob 11 15 fn0)] := hD1r
  clear hP1r hD1r
  clear hP hD hS
  refine vx_catch (pc := 4) (E := "java/util/NoSuchElementException") hown [] ⟨0, 9, 12, 30⟩ [] htab (fun z hz => nomatch hz) rfl (by decide) (hG _ g_566) (va_Nw.use rfl (nw_at hE n_23)) hce1 hcv1 hcl1 ?_
  refine W.eq (g2 := F0 m 12 ls [.ref q1]) rfl ?_
  refine lv_astore_n (pc := 12) (lv' := [(3, .ref q1), (0, .ref ad0), (1, .int xi0), (2, .ref ad20)]) hx hb dL_print_12 rfl hl (by decide) rfl (fun ls2 hl2 => ?_)
  clear hl ls
  refine lv_iconst (pc := 13) (v := 1) hx hb dL_print_13 (by decide) ?_
  have hP99 := hP1.sub (ws' := []) [] rfl
  have hD99 := hD1.sub (ws' := []) [] (by decide) rfl
  exact W.iret (pc := 14) (v := 1) hx hb hr (fun t ht hW => ⟨⟨1, (), rfl, rfl, _, rfl, by rw [ht]; exact hP99, hD99⟩, hS1.F ht⟩) hS1.2.2 dL_print_14
set_option maxHeartbeats 4000000 in
set_option maxRecDepth 100000 in
/-- L_ends -/
theorem l_x_ends_n (l : Launch) (hst0 : l.stackTraces = false) (D : va_G) (cy : Nat → ClassId) (kv : KV) (sz : Nat) (ad0 : Nat) (xi0 : Int32) (ad20 : Nat) (fn0 : Nat → Value) (h0_1 : fn0 1 = .int 0) (hn : xi0 < 0) : Met l yL_ends (Cond.codeWith yL_ends cL_ends 4 (some .int) [(0, 9, 12, 13)] :: GW) ({ frames := 12, cells := 1, slots := 6, locals := 280 } : Room) (va_Pc [.ref ad0, .int xi0, .ref ad20] (pcq D cy kv sz [(ad0, ob 11 15 fn0)])) (va_Qi (fun r (_ : Unit) => r = 1) (fun _ t => bq D (fun w => w = []) (va_A [(ad0, ob 11 15 fn0)] sz) t) (va_A [(ad0, ob 11 15 fn0)] sz)) 1 6 (va_A [(ad0, ob 11 15 fn0)] sz) := by
  refine va_MetW (hh := [(0, 9, 12, 13)]) (cc := cL_ends) (maxL := 4) (ret := (some .int)) (by decide) rfl ?_
  intro p e s m args below meth c s₁ B hml hv
  obtain ⟨rfl, hsz, hP, hK, hD0, hE⟩ := hv
  have hx := B.exec
  have hb := B.bytes
  have hr := B.returns
  have hG : ∀ w ∈ GW, w.before ([.ref ad0, .int xi0, .ref ad20] : List Value).toArray s = true := fun w h => atoms_spec (ws := Cond.codeWith yL_ends cL_ends 4 (some .int) [(0, 9, 12, 13)] :: GW) B.pre w (List.mem_cons_of_mem _ h)
  have hown : s.vm.findClass RL = some m.cls := findClass_of_methodNamed B.named
  have hlocks := B.notSynchronized
  subst hsz
  have hD := hD0.self (sz := s.heap.size)
  generalize hAe : va_A [(ad0, ob 11 15 fn0)] s.heap.size = A at hD hE ⊢
  have hA : ∀ q : Nat, s.heap.size ≤ q → A q := fun q h => by rw [← hAe]; exact Or.inr h
  have hS : va_S A s.heap s.heap [] := va_S.rf
  clear hAe hD0
  have hl0 := lv_entry ([.ref ad0, .int xi0, .ref ad20]) (n := 4) (Nat.le_of_ble_eq_true rfl)
  rw [lg_entry_eq]
  generalize (lg_sl ([.ref ad0, .int xi0, .ref ad20]) ++ List.replicate (4 - (lg_sl ([.ref ad0, .int xi0, .ref ad20])).length) Slot.unset).toArray = ls at hl0 ⊢
  have hl : lv_has ls 4 [(0, .ref ad0), (1, .int xi0), (2, .ref ad20)] := hl0
  clear hl0
  have htab : c.exceptionTable.toList = [⟨0, 9, 12, 13⟩] := vx_table (x := yL_ends) B (hG _ g_591)
  refine lv_aload_n (pc := 0) hx hb dL_ends_0 rfl (lv_at hl 2 rfl) ?_
  refine lv_iconst (pc := 1) (v := 0) hx hb dL_ends_1 (by decide) ?_
  refine lv_aload_n (pc := 2) hx hb dL_ends_2 rfl (lv_at hl 0 rfl) ?_
  refine lv_iload_n (pc := 3) hx hb dL_ends_3 rfl (lv_at hl 1 rfl) ?_
  refine xq_call (pc := 4) (wr := []) (k2 := 1) (n2 := 6) (vx_runV (As := [.int xi0]) (rest := [.int 0, .ref ad20]) ⟨hx, hb, hml, hown, hG⟩ (x_ends_n l hst0 D cy kv s.heap.size ad0 xi0 fn0 h0_1 hn) (cwV 1 hG (gi_V g_588 g_589 g_590 g_143 g_211) rfl rfl rfl (by decide +kernel) ⟨Nat.le_of_ble_eq_true rfl, Nat.le_of_ble_eq_true rfl⟩) ⟨pq_blind, (va_recv hK hP (ci := 11) (q0 := 0) rfl rfl), (pq_pass hP hD hK hE hS hA [0] rfl (by decide))⟩ rfl rfl hl.1 rfl (lv_room (Nat.le_of_ble_eq_true rfl)) dL_ends_4 ⟨Nat.le_of_ble_eq_true rfl, Nat.le_of_ble_eq_true rfl⟩) hP hD hS hA [0] [] rfl rfl (by decide) (by decide) (by decide) (by decide) (fun ce1 q1 w1 H1 lo1 hR1 hP1r hD1r hS1 hce1 hcv1 hcl1 => ?_)
  subst hR1
  have hP1 : va_P D classes [(ad0, ob 11 15 fn0)] H1 := hP1r
  have hD1 : va_D A [(ad0, ob 11 15 fn0)] := hD1r
  clear hP1r hD1r
  clear hP hD hS
  refine vx_catch (pc := 4) (E := "java/lang/IllegalArgumentException") hown [] ⟨0, 9, 12, 13⟩ [] htab (fun z hz => nomatch hz) rfl (by decide) (hG _ g_549) (va_Nw.use rfl (nw_at hE n_10)) hce1 hcv1 hcl1 ?_
  refine W.eq (g2 := F0 m 12 ls [.ref q1]) rfl ?_
  refine lv_astore_n (pc := 12) (lv' := [(3, .ref q1), (0, .ref ad0), (1, .int xi0), (2, .ref ad20)]) hx hb dL_ends_12 rfl hl (by decide) rfl (fun ls2 hl2 => ?_)
  clear hl ls
  refine lv_iconst (pc := 13) (v := 1) hx hb dL_ends_13 (by decide) ?_
  have hP99 := hP1.sub (ws' := []) [] rfl
  have hD99 := hD1.sub (ws' := []) [] (by decide) rfl
  exact W.iret (pc := 14) (v := 1) hx hb hr (fun t ht hW => ⟨⟨1, (), rfl, rfl, _, rfl, by rw [ht]; exact hP99, hD99⟩, hS1.F ht⟩) hS1.2.2 dL_ends_14
set_option maxHeartbeats 4000000 in
set_option maxRecDepth 100000 in
/-- L_ends -/
theorem l_x_ends_p (l : Launch) (hst0 : l.stackTraces = false) (D : va_G) (cy : Nat → ClassId) (kv : KV) (sz : Nat) (ad0 : Nat) (xi0 : Int32) (ad20 : Nat) (fn0 : Nat → Value) (h0_1 : fn0 1 = .int 0) (hn : 0 < xi0) : Met l yL_ends (Cond.codeWith yL_ends cL_ends 4 (some .int) [(0, 9, 12, 13)] :: GW) ({ frames := 12, cells := 1, slots := 6, locals := 280 } : Room) (va_Pc [.ref ad0, .int xi0, .ref ad20] (pcq D cy kv sz [(ad0, ob 11 15 fn0)])) (va_Qi (fun r (_ : Unit) => r = 1) (fun _ t => bq D (fun w => w = []) (va_A [(ad0, ob 11 15 fn0)] sz) t) (va_A [(ad0, ob 11 15 fn0)] sz)) 1 6 (va_A [(ad0, ob 11 15 fn0)] sz) := by
  refine va_MetW (hh := [(0, 9, 12, 13)]) (cc := cL_ends) (maxL := 4) (ret := (some .int)) (by decide) rfl ?_
  intro p e s m args below meth c s₁ B hml hv
  obtain ⟨rfl, hsz, hP, hK, hD0, hE⟩ := hv
  have hx := B.exec
  have hb := B.bytes
  have hr := B.returns
  have hG : ∀ w ∈ GW, w.before ([.ref ad0, .int xi0, .ref ad20] : List Value).toArray s = true := fun w h => atoms_spec (ws := Cond.codeWith yL_ends cL_ends 4 (some .int) [(0, 9, 12, 13)] :: GW) B.pre w (List.mem_cons_of_mem _ h)
  have hown : s.vm.findClass RL = some m.cls := findClass_of_methodNamed B.named
  have hlocks := B.notSynchronized
  subst hsz
  have hD := hD0.self (sz := s.heap.size)
  generalize hAe : va_A [(ad0, ob 11 15 fn0)] s.heap.size = A at hD hE ⊢
  have hA : ∀ q : Nat, s.heap.size ≤ q → A q := fun q h => by rw [← hAe]; exact Or.inr h
  have hS : va_S A s.heap s.heap [] := va_S.rf
  clear hAe hD0
  have hl0 := lv_entry ([.ref ad0, .int xi0, .ref ad20]) (n := 4) (Nat.le_of_ble_eq_true rfl)
  rw [lg_entry_eq]
  generalize (lg_sl ([.ref ad0, .int xi0, .ref ad20]) ++ List.replicate (4 - (lg_sl ([.ref ad0, .int xi0, .ref ad20])).length) Slot.unset).toArray = ls at hl0 ⊢
  have hl : lv_has ls 4 [(0, .ref ad0), (1, .int xi0), (2, .ref ad20)] := hl0
  clear hl0
  have htab : c.exceptionTable.toList = [⟨0, 9, 12, 13⟩] := vx_table (x := yL_ends) B (hG _ g_591)
  refine lv_aload_n (pc := 0) hx hb dL_ends_0 rfl (lv_at hl 2 rfl) ?_
  refine lv_iconst (pc := 1) (v := 0) hx hb dL_ends_1 (by decide) ?_
  refine lv_aload_n (pc := 2) hx hb dL_ends_2 rfl (lv_at hl 0 rfl) ?_
  refine lv_iload_n (pc := 3) hx hb dL_ends_3 rfl (lv_at hl 1 rfl) ?_
  refine xq_call (pc := 4) (wr := []) (k2 := 1) (n2 := 6) (vx_runV (As := [.int xi0]) (rest := [.int 0, .ref ad20]) ⟨hx, hb, hml, hown, hG⟩ (x_ends_p l hst0 D cy kv s.heap.size ad0 xi0 fn0 h0_1 hn) (cwV 1 hG (gi_V g_588 g_589 g_590 g_143 g_211) rfl rfl rfl (by decide +kernel) ⟨Nat.le_of_ble_eq_true rfl, Nat.le_of_ble_eq_true rfl⟩) ⟨pq_blind, (va_recv hK hP (ci := 11) (q0 := 0) rfl rfl), (pq_pass hP hD hK hE hS hA [0] rfl (by decide))⟩ rfl rfl hl.1 rfl (lv_room (Nat.le_of_ble_eq_true rfl)) dL_ends_4 ⟨Nat.le_of_ble_eq_true rfl, Nat.le_of_ble_eq_true rfl⟩) hP hD hS hA [0] [] rfl rfl (by decide) (by decide) (by decide) (by decide) (fun ce1 q1 w1 H1 lo1 hR1 hP1r hD1r hS1 hce1 hcv1 hcl1 => ?_)
  subst hR1
  have hP1 : va_P D classes [(ad0, ob 11 15 fn0)] H1 := hP1r
  have hD1 : va_D A [(ad0, ob 11 15 fn0)] := hD1r
  clear hP1r hD1r
  clear hP hD hS
  refine vx_catch (pc := 4) (E := "java/lang/IllegalArgumentException") hown [] ⟨0, 9, 12, 13⟩ [] htab (fun z hz => nomatch hz) rfl (by decide) (hG _ g_549) (va_Nw.use rfl (nw_at hE n_10)) hce1 hcv1 hcl1 ?_
  refine W.eq (g2 := F0 m 12 ls [.ref q1]) rfl ?_
  refine lv_astore_n (pc := 12) (lv' := [(3, .ref q1), (0, .ref ad0), (1, .int xi0), (2, .ref ad20)]) hx hb dL_ends_12 rfl hl (by decide) rfl (fun ls2 hl2 => ?_)
  clear hl ls
  refine lv_iconst (pc := 13) (v := 1) hx hb dL_ends_13 (by decide) ?_
  have hP99 := hP1.sub (ws' := []) [] rfl
  have hD99 := hD1.sub (ws' := []) [] (by decide) rfl
  exact W.iret (pc := 14) (v := 1) hx hb hr (fun t ht hW => ⟨⟨1, (), rfl, rfl, _, rfl, by rw [ht]; exact hP99, hD99⟩, hS1.F ht⟩) hS1.2.2 dL_ends_14
set_option maxHeartbeats 4000000 in
set_option maxRecDepth 100000 in
/-- L_ends -/
theorem l_c_ends_z (l : Launch) (D : va_G) (cy : Nat → ClassId) (kv : KV) (sz : Nat) (ad0 : Nat) (ad20 : Nat) (fn0 : Nat → Value) (ad1 : Nat) (ad8 : Nat) (ad4 : Nat) (ad2 : Nat) (ad3 : Nat) (ct1 : Nat → Int32) (fn2 : Nat → Value) (ad9 : Nat) (fn3 : Nat → Value) (ad5 : Nat) (ad6 : Nat) (ad7 : Nat) (fn7 : Nat → Value) (ct9 : Nat → Int32) (ct20 : Nat → Int64) (h0_0 : fn0 0 = .ref ad1) (h0_1 : fn0 1 = .int 0) (h0_3 : fn0 3 = .ref ad8) (h0_4 : fn0 4 = .int 0) (h0_7 : fn0 7 = .ref ad4) (h0_9 : fn0 9 = .ref ad2) (h0_11 : fn0 11 = .ref ad3) (h2_14 : fn2 14 = .ref ad9) (h5_5 : fn7 5 = .int 0) : Met l yL_ends (Cond.codeWith yL_ends cL_ends 4 (some .int) [(0, 9, 12, 13)] :: GW) ({ frames := 11, cells := 2, slots := 1, locals := 240 } : Room) (va_Pc [.ref ad0, .int 0, .ref ad20] (pcq D cy kv sz [(ad0, ob 11 15 fn0), (ad1, ari (cy 1) 2000 ct1), (ad2, ob 3 16 fn2), (ad3, ob 6 7 fn3), (ad4, arq (cy 6) 3 (va_up (va_up (va_up (fun _ => none) (0 : Int32).toNatClampNeg (some ad5)) (1 : Int32).toNatClampNeg (some ad6)) (2 : Int32).toNatClampNeg (some ad7))), (ad7, ob 7 6 fn7), (ad9, ari (cy 1) 40 ct9), (ad20, arl (cy 2) 1 ct20)])) (va_Qi (fun r (_ : Unit) => r = 0) (fun _ t => bq D (fun w => w = [(ad20, arl (cy 2) 1 (vp_updL ct20 (0 : Int32).toNatClampNeg 0))]) (va_A [(ad0, ob 11 15 fn0), (ad1, ari (cy 1) 2000 ct1), (ad2, ob 3 16 fn2), (ad3, ob 6 7 fn3), (ad4, arq (cy 6) 3 (va_up (va_up (va_up (fun _ => none) (0 : Int32).toNatClampNeg (some ad5)) (1 : Int32).toNatClampNeg (some ad6)) (2 : Int32).toNatClampNeg (some ad7))), (ad7, ob 7 6 fn7), (ad9, ari (cy 1) 40 ct9), (ad20, arl (cy 2) 1 ct20)] sz) t) (va_A [(ad0, ob 11 15 fn0), (ad1, ari (cy 1) 2000 ct1), (ad2, ob 3 16 fn2), (ad3, ob 6 7 fn3), (ad4, arq (cy 6) 3 (va_up (va_up (va_up (fun _ => none) (0 : Int32).toNatClampNeg (some ad5)) (1 : Int32).toNatClampNeg (some ad6)) (2 : Int32).toNatClampNeg (some ad7))), (ad7, ob 7 6 fn7), (ad9, ari (cy 1) 40 ct9), (ad20, arl (cy 2) 1 ct20)] sz)) 2 1 (va_A [(ad0, ob 11 15 fn0), (ad1, ari (cy 1) 2000 ct1), (ad2, ob 3 16 fn2), (ad3, ob 6 7 fn3), (ad4, arq (cy 6) 3 (va_up (va_up (va_up (fun _ => none) (0 : Int32).toNatClampNeg (some ad5)) (1 : Int32).toNatClampNeg (some ad6)) (2 : Int32).toNatClampNeg (some ad7))), (ad7, ob 7 6 fn7), (ad9, ari (cy 1) 40 ct9), (ad20, arl (cy 2) 1 ct20)] sz) := by
  refine va_MetW (hh := [(0, 9, 12, 13)]) (cc := cL_ends) (maxL := 4) (ret := (some .int)) (by decide) rfl ?_
  intro p e s m args below meth c s₁ B hml hv
  obtain ⟨rfl, hsz, hP, hK, hD0, hE⟩ := hv
  have hx := B.exec
  have hb := B.bytes
  have hr := B.returns
  have hG : ∀ w ∈ GW, w.before ([.ref ad0, .int 0, .ref ad20] : List Value).toArray s = true := fun w h => atoms_spec (ws := Cond.codeWith yL_ends cL_ends 4 (some .int) [(0, 9, 12, 13)] :: GW) B.pre w (List.mem_cons_of_mem _ h)
  have hown : s.vm.findClass RL = some m.cls := findClass_of_methodNamed B.named
  have hlocks := B.notSynchronized
  subst hsz
  have hD := hD0.self (sz := s.heap.size)
  generalize hAe : va_A [(ad0, ob 11 15 fn0), (ad1, ari (cy 1) 2000 ct1), (ad2, ob 3 16 fn2), (ad3, ob 6 7 fn3), (ad4, arq (cy 6) 3 (va_up (va_up (va_up (fun _ => none) (0 : Int32).toNatClampNeg (some ad5)) (1 : Int32).toNatClampNeg (some ad6)) (2 : Int32).toNatClampNeg (some ad7))), (ad7, ob 7 6 fn7), (ad9, ari (cy 1) 40 ct9), (ad20, arl (cy 2) 1 ct20)] s.heap.size = A at hD hE ⊢
  have hA : ∀ q : Nat, s.heap.size ≤ q → A q := fun q h => by rw [← hAe]; exact Or.inr h
  have hS : va_S A s.heap s.heap [] := va_S.rf
  clear hAe hD0
  have hl0 := lv_entry ([.ref ad0, .int 0, .ref ad20]) (n := 4) (Nat.le_of_ble_eq_true rfl)
  rw [lg_entry_eq]
  generalize (lg_sl ([.ref ad0, .int 0, .ref ad20]) ++ List.replicate (4 - (lg_sl ([.ref ad0, .int 0, .ref ad20])).length) Slot.unset).toArray = ls at hl0 ⊢
  have hl : lv_has ls 4 [(0, .ref ad0), (1, .int 0), (2, .ref ad20)] := hl0
  clear hl0
  have htab : c.exceptionTable.toList = [⟨0, 9, 12, 13⟩] := vx_table (x := yL_ends) B (hG _ g_591)
  refine lv_aload_n (pc := 0) hx hb dL_ends_0 rfl (lv_at hl 2 rfl) ?_
  refine lv_iconst (pc := 1) (v := 0) hx hb dL_ends_1 (by decide) ?_
  refine lv_aload_n (pc := 2) hx hb dL_ends_2 rfl (lv_at hl 0 rfl) ?_
  refine lv_iload_n (pc := 3) hx hb dL_ends_3 rfl (lv_at hl 1 rfl) ?_
  refine cq_i (pc := 4) (wr := [(ad20, arl (cy 2) 1 ct20)]) (k2 := 2) (n2 := 1) (va_runV (As := [.int 0]) (rest := [.int 0, .ref ad20]) ⟨hx, hb, hml, hown, hG⟩ (c_ends_z l D cy kv s.heap.size ad0 fn0 ad1 ad8 ad4 ad2 ad3 ct1 fn2 ad9 fn3 ad5 ad6 ad7 fn7 ct9 h0_0 h0_1 h0_3 h0_4 h0_7 h0_9 h0_11 h2_14 h5_5) (cwV 1 hG (gi_V g_588 g_589 g_590 g_143 g_211) rfl rfl rfl (by decide +kernel) ⟨Nat.le_of_ble_eq_true rfl, Nat.le_of_ble_eq_true rfl⟩) ⟨pq_blind, (va_recv hK hP (ci := 11) (q0 := 0) rfl rfl), (pq_pass hP hD hK hE hS hA [0, 1, 2, 3, 4, 5, 6] rfl (by decide))⟩ rfl rfl hl.1 rfl (lv_room (Nat.le_of_ble_eq_true rfl)) dL_ends_4 ⟨Nat.le_of_ble_eq_true rfl, Nat.le_of_ble_eq_true rfl⟩) hP hD hS hA [0, 1, 2, 3, 4, 5, 6] [7] rfl rfl (by decide) (by decide) (by decide) (by decide) (fun r1 w1 H1 lo1 e1 hR1 hP1r hD1r hS1 => ?_)
  subst hR1
  subst e1
  have hP1 : va_P D classes [(ad20, arl (cy 2) 1 ct20)] H1 := hP1r
  have hD1 : va_D A [(ad20, arl (cy 2) 1 ct20)] := hD1r
  clear hP1r hD1r
  clear hP hD hS
  refine lv_i2l (pc := 7) (v := 0) hx hb dL_ends_7 (by decide) ?_
  refine va_last (pc := 8) hx hb hK hP1 hD1 hS1 0 2 rfl rfl (show ¬ ((0 : Int32) < 0 ∨ 1 ≤ (0 : Int32).toNatClampNeg) by decide) dL_ends_8 (fun H2 lo2 hP2r hD2r hS2 => ?_)
  have hP2 : va_P D classes [(ad20, arl (cy 2) 1 (vp_updL ct20 (0 : Int32).toNatClampNeg 0))] H2 := hP2r
  have hD2 : va_D A [(ad20, arl (cy 2) 1 (vp_updL ct20 (0 : Int32).toNatClampNeg 0))] := hD2r
  clear hP2r hD2r
  clear hP1 hD1 hS1
  clear H1 lo1
  refine lv_goto (pc := 9) (tgt := 15) hx hb dL_ends_9 (by decide) ?_
  refine lv_iconst (pc := 15) (v := 0) hx hb dL_ends_15 (by decide) ?_
  exact W.iret (pc := 16) (v := 0) hx hb hr (fun t ht hW => ⟨⟨0, (), rfl, rfl, _, rfl, by rw [ht]; exact hP2, hD2⟩, hS2.F ht⟩) hS2.2.2 dL_ends_16
set_option maxHeartbeats 4000000 in
set_option maxRecDepth 100000 in
/-- L_show -/
theorem l_x_show (l : Launch) (hst0 : l.stackTraces = false) (D : va_G) (cy : Nat → ClassId) (kv : KV) (sz : Nat) (ad0 : Nat) (xi0 : Int32) (xi1 : Int32) (ad20 : Nat) (fn0 : Nat → Value) (hn : ¬ xi0 = 0) (hm : ¬ xi0 = 1) : Met l yL_show (Cond.codeWith yL_show cL_show 5 (some .int) [(0, 10, 13, 13)] :: GW) ({ frames := 10, cells := 1, slots := 6, locals := 200 } : Room) (va_Pc [.ref ad0, .int xi0, .int xi1, .ref ad20] (pcq D cy kv sz [(ad0, ob 11 15 fn0)])) (va_Qi (fun r (_ : Unit) => r = 1) (fun _ t => bq D (fun w => w = []) (va_A [(ad0, ob 11 15 fn0)] sz) t) (va_A [(ad0, ob 11 15 fn0)] sz)) 1 6 (va_A [(ad0, ob 11 15 fn0)] sz) := by
  refine va_MetW (hh := [(0, 10, 13, 13)]) (cc := cL_show) (maxL := 5) (ret := (some .int)) (by decide) rfl ?_
  intro p e s m args below meth c s₁ B hml hv
  obtain ⟨rfl, hsz, hP, hK, hD0, hE⟩ := hv
  have hx := B.exec
  have hb := B.bytes
  have hr := B.returns
  have hG : ∀ w ∈ GW, w.before ([.ref ad0, .int xi0, .int xi1, .ref ad20] : List Value).toArray s = true := fun w h => atoms_spec (ws := Cond.codeWith yL_show cL_show 5 (some .int) [(0, 10, 13, 13)] :: GW) B.pre w (List.mem_cons_of_mem _ h)
  have hown : s.vm.findClass RL = some m.cls := findClass_of_methodNamed B.named
  have hlocks := B.notSynchronized
  subst hsz
  have hD := hD0.self (sz := s.heap.size)
  generalize hAe : va_A [(ad0, ob 11 15 fn0)] s.heap.size = A at hD hE ⊢
  have hA : ∀ q : Nat, s.heap.size ≤ q → A q := fun q h => by rw [← hAe]; exact Or.inr h
  have hS : va_S A s.heap s.heap [] := va_S.rf
  clear hAe hD0
  have hl0 := lv_entry ([.ref ad0, .int xi0, .int xi1, .ref ad20]) (n := 5) (Nat.le_of_ble_eq_true rfl)
  rw [lg_entry_eq]
  generalize (lg_sl ([.ref ad0, .int xi0, .int xi1, .ref ad20]) ++ List.replicate (5 - (lg_sl ([.ref ad0, .int xi0, .int xi1, .ref ad20])).length) Slot.unset).toArray = ls at hl0 ⊢
  have hl : lv_has ls 5 [(0, .ref ad0), (1, .int xi0), (2, .int xi1), (3, .ref ad20)] := hl0
  clear hl0
  have htab : c.exceptionTable.toList = [⟨0, 10, 13, 13⟩] := vx_table (x := yL_show) B (hG _ g_595)
  refine lv_aload_n (pc := 0) hx hb dL_show_0 rfl (lv_at hl 3 rfl) ?_
  refine lv_iconst (pc := 1) (v := 0) hx hb dL_show_1 (by decide) ?_
  refine lv_aload_n (pc := 2) hx hb dL_show_2 rfl (lv_at hl 0 rfl) ?_
  refine lv_iload_n (pc := 3) hx hb dL_show_3 rfl (lv_at hl 1 rfl) ?_
  refine lv_iload_n (pc := 4) hx hb dL_show_4 rfl (lv_at hl 2 rfl) ?_
  refine xq_call (pc := 5) (wr := []) (k2 := 1) (n2 := 6) (vx_runV (As := [.int xi0, .int xi1]) (rest := [.int 0, .ref ad20]) ⟨hx, hb, hml, hown, hG⟩ (x_show l hst0 D cy kv s.heap.size ad0 xi0 xi1 fn0 hn hm) (cwV 2 hG (gi_V g_592 g_593 g_594 g_143 g_290) rfl rfl rfl (by decide +kernel) ⟨Nat.le_of_ble_eq_true rfl, Nat.le_of_ble_eq_true rfl⟩) ⟨pq_blind, (va_recv hK hP (ci := 11) (q0 := 0) rfl rfl), (pq_pass hP hD hK hE hS hA [0] rfl (by decide))⟩ rfl rfl hl.1 rfl (lv_room (Nat.le_of_ble_eq_true rfl)) dL_show_5 ⟨Nat.le_of_ble_eq_true rfl, Nat.le_of_ble_eq_true rfl⟩) hP hD hS hA [0] [] rfl rfl (by decide) (by decide) (by decide) (by decide) (fun ce1 q1 w1 H1 lo1 hR1 hP1r hD1r hS1 hce1 hcv1 hcl1 => ?_)
  subst hR1
  have hP1 : va_P D classes [(ad0, ob 11 15 fn0)] H1 := hP1r
  have hD1 : va_D A [(ad0, ob 11 15 fn0)] := hD1r
  clear hP1r hD1r
  clear hP hD hS
  refine vx_catch (pc := 5) (E := "java/lang/IllegalArgumentException") hown [] ⟨0, 10, 13, 13⟩ [] htab (fun z hz => nomatch hz) rfl (by decide) (hG _ g_549) (va_Nw.use rfl (nw_at hE n_10)) hce1 hcv1 hcl1 ?_
  refine W.eq (g2 := F0 m 13 ls [.ref q1]) rfl ?_
  refine lv_astore (pc := 13) (lv' := [(4, .ref q1), (0, .ref ad0), (1, .int xi0), (2, .int xi1), (3, .ref ad20)]) hx hb dL_show_13 hl (by decide) rfl (fun ls2 hl2 => ?_)
  clear hl ls
  refine lv_iconst (pc := 15) (v := 1) hx hb dL_show_15 (by decide) ?_
  have hP99 := hP1.sub (ws' := []) [] rfl
  have hD99 := hD1.sub (ws' := []) [] (by decide) rfl
  exact W.iret (pc := 16) (v := 1) hx hb hr (fun t ht hW => ⟨⟨1, (), rfl, rfl, _, rfl, by rw [ht]; exact hP99, hD99⟩, hS1.F ht⟩) hS1.2.2 dL_show_16
set_option maxHeartbeats 4000000 in
set_option maxRecDepth 100000 in
/-- L_show -/
theorem l_c_show0_n (l : Launch) (D : va_G) (cy : Nat → ClassId) (kv : KV) (sz : Nat) (ad0 : Nat) (xi0 : Int32) (ad20 : Nat) (fn0 : Nat → Value) (ad1 : Nat) (fn1 : Nat → Value) (ct20 : Nat → Int64) (h0_11 : fn0 11 = .ref ad1) (h1_1 : fn1 1 = .int 0) (hn : xi0 < 0) : Met l yL_show (Cond.codeWith yL_show cL_show 5 (some .int) [(0, 10, 13, 13)] :: GW) ({ frames := 10, cells := 0, slots := 0, locals := 200 } : Room) (va_Pc [.ref ad0, .int 0, .int xi0, .ref ad20] (pcq D cy kv sz [(ad0, ob 11 15 fn0), (ad1, ob 6 7 fn1), (ad20, arl (cy 2) 1 ct20)])) (va_Qi (fun r (_ : Unit) => r = 0) (fun _ t => bq D (fun w => w = [(ad20, arl (cy 2) 1 (vp_updL ct20 (0 : Int32).toNatClampNeg (-1)))]) (va_A [(ad0, ob 11 15 fn0), (ad1, ob 6 7 fn1), (ad20, arl (cy 2) 1 ct20)] sz) t) (va_A [(ad0, ob 11 15 fn0), (ad1, ob 6 7 fn1), (ad20, arl (cy 2) 1 ct20)] sz)) 0 0 (va_A [(ad0, ob 11 15 fn0), (ad1, ob 6 7 fn1), (ad20, arl (cy 2) 1 ct20)] sz) := by
  refine va_MetW (hh := [(0, 10, 13, 13)]) (cc := cL_show) (maxL := 5) (ret := (some .int)) (by decide) rfl ?_
  intro p e s m args below meth c s₁ B hml hv
  obtain ⟨rfl, hsz, hP, hK, hD0, hE⟩ := hv
  have hx := B.exec
  have hb := B.bytes
  have hr := B.returns
  have hG : ∀ w ∈ GW, w.before ([.ref ad0, .int 0, .int xi0, .ref ad20] : List Value).toArray s = true := fun w h => atoms_spec (ws := Cond.codeWith yL_show cL_show 5 (some .int) [(0, 10, 13, 13)] :: GW) B.pre w (List.mem_cons_of_mem _ h)
  have hown : s.vm.findClass RL = some m.cls := findClass_of_methodNamed B.named
  have hlocks := B.notSynchronized
  subst hsz
  have hD := hD0.self (sz := s.heap.size)
  generalize hAe : va_A [(ad0, ob 11 15 fn0), (ad1, ob 6 7 fn1), (ad20, arl (cy 2) 1 ct20)] s.heap.size = A at hD hE ⊢
  have hA : ∀ q : Nat, s.heap.size ≤ q → A q := fun q h => by rw [← hAe]; exact Or.inr h
  have hS : va_S A s.heap s.heap [] := va_S.rf
  clear hAe hD0
  have hl0 := lv_entry ([.ref ad0, .int 0, .int xi0, .ref ad20]) (n := 5) (Nat.le_of_ble_eq_true rfl)
  rw [lg_entry_eq]
  generalize (lg_sl ([.ref ad0, .int 0, .int xi0, .ref ad20]) ++ List.replicate (5 - (lg_sl ([.ref ad0, .int 0, .int xi0, .ref ad20])).length) Slot.unset).toArray = ls at hl0 ⊢
  have hl : lv_has ls 5 [(0, .ref ad0), (1, .int 0), (2, .int xi0), (3, .ref ad20)] := hl0
  clear hl0
  have htab : c.exceptionTable.toList = [⟨0, 10, 13, 13⟩] := vx_table (x := yL_show) B (hG _ g_595)
  refine lv_aload_n (pc := 0) hx hb dL_show_0 rfl (lv_at hl 3 rfl) ?_
  refine lv_iconst (pc := 1) (v := 0) hx hb dL_show_1 (by decide) ?_
  refine lv_aload_n (pc := 2) hx hb dL_show_2 rfl (lv_at hl 0 rfl) ?_
  refine lv_iload_n (pc := 3) hx hb dL_show_3 rfl (lv_at hl 1 rfl) ?_
  refine lv_iload_n (pc := 4) hx hb dL_show_4 rfl (lv_at hl 2 rfl) ?_
  refine cq_i (pc := 5) (wr := [(ad20, arl (cy 2) 1 ct20)]) (k2 := 0) (n2 := 0) (va_runV (As := [.int 0, .int xi0]) (rest := [.int 0, .ref ad20]) ⟨hx, hb, hml, hown, hG⟩ (c_show0_n l D cy kv s.heap.size ad0 xi0 fn0 ad1 fn1 h0_11 h1_1 hn) (cwV 2 hG (gi_V g_592 g_593 g_594 g_143 g_290) rfl rfl rfl (by decide +kernel) ⟨Nat.le_of_ble_eq_true rfl, Nat.le_of_ble_eq_true rfl⟩) ⟨pq_blind, (va_recv hK hP (ci := 11) (q0 := 0) rfl rfl), (pq_pass hP hD hK hE hS hA [0, 1] rfl (by decide))⟩ rfl rfl hl.1 rfl (lv_room (Nat.le_of_ble_eq_true rfl)) dL_show_5 ⟨Nat.le_of_ble_eq_true rfl, Nat.le_of_ble_eq_true rfl⟩) hP hD hS hA [0, 1] [2] rfl rfl (by decide) (by decide) (by decide) (by decide) (fun r1 w1 H1 lo1 e1 hR1 hP1r hD1r hS1 => ?_)
  subst hR1
  subst e1
  have hP1 : va_P D classes [(ad20, arl (cy 2) 1 ct20), (ad0, ob 11 15 fn0), (ad1, ob 6 7 fn1)] H1 := hP1r
  have hD1 : va_D A [(ad20, arl (cy 2) 1 ct20), (ad0, ob 11 15 fn0), (ad1, ob 6 7 fn1)] := hD1r
  clear hP1r hD1r
  clear hP hD hS
  refine lv_i2l (pc := 8) (v := (-1)) hx hb dL_show_8 (by decide) ?_
  refine va_last (pc := 9) hx hb hK hP1 hD1 hS1 0 2 rfl rfl (show ¬ ((0 : Int32) < 0 ∨ 1 ≤ (0 : Int32).toNatClampNeg) by decide) dL_show_9 (fun H2 lo2 hP2r hD2r hS2 => ?_)
  have hP2 : va_P D classes [(ad20, arl (cy 2) 1 (vp_updL ct20 (0 : Int32).toNatClampNeg (-1))), (ad0, ob 11 15 fn0), (ad1, ob 6 7 fn1)] H2 := hP2r
  have hD2 : va_D A [(ad20, arl (cy 2) 1 (vp_updL ct20 (0 : Int32).toNatClampNeg (-1))), (ad0, ob 11 15 fn0), (ad1, ob 6 7 fn1)] := hD2r
  clear hP2r hD2r
  clear hP1 hD1 hS1
  clear H1 lo1
  refine lv_goto (pc := 10) (tgt := 17) hx hb dL_show_10 (by decide) ?_
  refine lv_iconst (pc := 17) (v := 0) hx hb dL_show_17 (by decide) ?_
  have hP99 := hP2.sub (ws' := [(ad20, arl (cy 2) 1 (vp_updL ct20 (0 : Int32).toNatClampNeg (-1)))]) [0] rfl
  have hD99 := hD2.sub (ws' := [(ad20, arl (cy 2) 1 (vp_updL ct20 (0 : Int32).toNatClampNeg (-1)))]) [0] (by decide) rfl
  exact W.iret (pc := 18) (v := 0) hx hb hr (fun t ht hW => ⟨⟨0, (), rfl, rfl, _, rfl, by rw [ht]; exact hP99, hD99⟩, hS2.F ht⟩) hS2.2.2 dL_show_18
set_option maxHeartbeats 4000000 in
set_option maxRecDepth 100000 in
/-- L_show -/
theorem l_c_show1_n (l : Launch) (D : va_G) (cy : Nat → ClassId) (kv : KV) (sz : Nat) (ad0 : Nat) (xi0 : Int32) (ad20 : Nat) (fn0 : Nat → Value) (ad1 : Nat) (fn1 : Nat → Value) (ct20 : Nat → Int64) (h0_11 : fn0 11 = .ref ad1) (h1_3 : fn1 3 = .int 0) (hn : xi0 < 0) : Met l yL_show (Cond.codeWith yL_show cL_show 5 (some .int) [(0, 10, 13, 13)] :: GW) ({ frames := 10, cells := 0, slots := 0, locals := 200 } : Room) (va_Pc [.ref ad0, .int 1, .int xi0, .ref ad20] (pcq D cy kv sz [(ad0, ob 11 15 fn0), (ad1, ob 6 7 fn1), (ad20, arl (cy 2) 1 ct20)])) (va_Qi (fun r (_ : Unit) => r = 0) (fun _ t => bq D (fun w => w = [(ad20, arl (cy 2) 1 (vp_updL ct20 (0 : Int32).toNatClampNeg (-1)))]) (va_A [(ad0, ob 11 15 fn0), (ad1, ob 6 7 fn1), (ad20, arl (cy 2) 1 ct20)] sz) t) (va_A [(ad0, ob 11 15 fn0), (ad1, ob 6 7 fn1), (ad20, arl (cy 2) 1 ct20)] sz)) 0 0 (va_A [(ad0, ob 11 15 fn0), (ad1, ob 6 7 fn1), (ad20, arl (cy 2) 1 ct20)] sz) := by
  refine va_MetW (hh := [(0, 10, 13, 13)]) (cc := cL_show) (maxL := 5) (ret := (some .int)) (by decide) rfl ?_
  intro p e s m args below meth c s₁ B hml hv
  obtain ⟨rfl, hsz, hP, hK, hD0, hE⟩ := hv
  have hx := B.exec
  have hb := B.bytes
  have hr := B.returns
  have hG : ∀ w ∈ GW, w.before ([.ref ad0, .int 1, .int xi0, .ref ad20] : List Value).toArray s = true := fun w h => atoms_spec (ws := Cond.codeWith yL_show cL_show 5 (some .int) [(0, 10, 13, 13)] :: GW) B.pre w (List.mem_cons_of_mem _ h)
  have hown : s.vm.findClass RL = some m.cls := findClass_of_methodNamed B.named
  have hlocks := B.notSynchronized
  subst hsz
  have hD := hD0.self (sz := s.heap.size)
  generalize hAe : va_A [(ad0, ob 11 15 fn0), (ad1, ob 6 7 fn1), (ad20, arl (cy 2) 1 ct20)] s.heap.size = A at hD hE ⊢
  have hA : ∀ q : Nat, s.heap.size ≤ q → A q := fun q h => by rw [← hAe]; exact Or.inr h
  have hS : va_S A s.heap s.heap [] := va_S.rf
  clear hAe hD0
  have hl0 := lv_entry ([.ref ad0, .int 1, .int xi0, .ref ad20]) (n := 5) (Nat.le_of_ble_eq_true rfl)
  rw [lg_entry_eq]
  generalize (lg_sl ([.ref ad0, .int 1, .int xi0, .ref ad20]) ++ List.replicate (5 - (lg_sl ([.ref ad0, .int 1, .int xi0, .ref ad20])).length) Slot.unset).toArray = ls at hl0 ⊢
  have hl : lv_has ls 5 [(0, .ref ad0), (1, .int 1), (2, .int xi0), (3, .ref ad20)] := hl0
  clear hl0
  have htab : c.exceptionTable.toList = [⟨0, 10, 13, 13⟩] := vx_table (x := yL_show) B (hG _ g_595)
  refine lv_aload_n (pc := 0) hx hb dL_show_0 rfl (lv_at hl 3 rfl) ?_
  refine lv_iconst (pc := 1) (v := 0) hx hb dL_show_1 (by decide) ?_
  refine lv_aload_n (pc := 2) hx hb dL_show_2 rfl (lv_at hl 0 rfl) ?_
  refine lv_iload_n (pc := 3) hx hb dL_show_3 rfl (lv_at hl 1 rfl) ?_
  refine lv_iload_n (pc := 4) hx hb dL_show_4 rfl (lv_at hl 2 rfl) ?_
  refine cq_i (pc := 5) (wr := [(ad20, arl (cy 2) 1 ct20)]) (k2 := 0) (n2 := 0) (va_runV (As := [.int 1, .int xi0]) (rest := [.int 0, .ref ad20]) ⟨hx, hb, hml, hown, hG⟩ (c_show1_n l D cy kv s.heap.size ad0 xi0 fn0 ad1 fn1 h0_11 h1_3 hn) (cwV 2 hG (gi_V g_592 g_593 g_594 g_143 g_290) rfl rfl rfl (by decide +kernel) ⟨Nat.le_of_ble_eq_true rfl, Nat.le_of_ble_eq_true rfl⟩) ⟨pq_blind, (va_recv hK hP (ci := 11) (q0 := 0) rfl rfl), (pq_pass hP hD hK hE hS hA [0, 1] rfl (by decide))⟩ rfl rfl hl.1 rfl (lv_room (Nat.le_of_ble_eq_true rfl)) dL_show_5 ⟨Nat.le_of_ble_eq_true rfl, Nat.le_of_ble_eq_true rfl⟩) hP hD hS hA [0, 1] [2] rfl rfl (by decide) (by decide) (by decide) (by decide) (fun r1 w1 H1 lo1 e1 hR1 hP1r hD1r hS1 => ?_)
  subst hR1
  subst e1
  have hP1 : va_P D classes [(ad20, arl (cy 2) 1 ct20), (ad0, ob 11 15 fn0), (ad1, ob 6 7 fn1)] H1 := hP1r
  have hD1 : va_D A [(ad20, arl (cy 2) 1 ct20), (ad0, ob 11 15 fn0), (ad1, ob 6 7 fn1)] := hD1r
  clear hP1r hD1r
  clear hP hD hS
  refine lv_i2l (pc := 8) (v := (-1)) hx hb dL_show_8 (by decide) ?_
  refine va_last (pc := 9) hx hb hK hP1 hD1 hS1 0 2 rfl rfl (show ¬ ((0 : Int32) < 0 ∨ 1 ≤ (0 : Int32).toNatClampNeg) by decide) dL_show_9 (fun H2 lo2 hP2r hD2r hS2 => ?_)
  have hP2 : va_P D classes [(ad20, arl (cy 2) 1 (vp_updL ct20 (0 : Int32).toNatClampNeg (-1))), (ad0, ob 11 15 fn0), (ad1, ob 6 7 fn1)] H2 := hP2r
  have hD2 : va_D A [(ad20, arl (cy 2) 1 (vp_updL ct20 (0 : Int32).toNatClampNeg (-1))), (ad0, ob 11 15 fn0), (ad1, ob 6 7 fn1)] := hD2r
  clear hP2r hD2r
  clear hP1 hD1 hS1
  clear H1 lo1
  refine lv_goto (pc := 10) (tgt := 17) hx hb dL_show_10 (by decide) ?_
  refine lv_iconst (pc := 17) (v := 0) hx hb dL_show_17 (by decide) ?_
  have hP99 := hP2.sub (ws' := [(ad20, arl (cy 2) 1 (vp_updL ct20 (0 : Int32).toNatClampNeg (-1)))]) [0] rfl
  have hD99 := hD2.sub (ws' := [(ad20, arl (cy 2) 1 (vp_updL ct20 (0 : Int32).toNatClampNeg (-1)))]) [0] (by decide) rfl
  exact W.iret (pc := 18) (v := 0) hx hb hr (fun t ht hW => ⟨⟨0, (), rfl, rfl, _, rfl, by rw [ht]; exact hP99, hD99⟩, hS2.F ht⟩) hS2.2.2 dL_show_18
set_option maxHeartbeats 4000000 in
set_option maxRecDepth 100000 in
/-- L_show -/
theorem l_c_show0_p (l : Launch) (D : va_G) (cy : Nat → ClassId) (kv : KV) (sz : Nat) (ad0 : Nat) (xi0 : Int32) (ad20 : Nat) (fn0 : Nat → Value) (ad1 : Nat) (fn1 : Nat → Value) (ct20 : Nat → Int64) (h0_11 : fn0 11 = .ref ad1) (h1_1 : fn1 1 = .int 0) (hn : 0 ≤ xi0) : Met l yL_show (Cond.codeWith yL_show cL_show 5 (some .int) [(0, 10, 13, 13)] :: GW) ({ frames := 10, cells := 0, slots := 0, locals := 200 } : Room) (va_Pc [.ref ad0, .int 0, .int xi0, .ref ad20] (pcq D cy kv sz [(ad0, ob 11 15 fn0), (ad1, ob 6 7 fn1), (ad20, arl (cy 2) 1 ct20)])) (va_Qi (fun r (_ : Unit) => r = 0) (fun _ t => bq D (fun w => w = [(ad20, arl (cy 2) 1 (vp_updL ct20 (0 : Int32).toNatClampNeg (-1)))]) (va_A [(ad0, ob 11 15 fn0), (ad1, ob 6 7 fn1), (ad20, arl (cy 2) 1 ct20)] sz) t) (va_A [(ad0, ob 11 15 fn0), (ad1, ob 6 7 fn1), (ad20, arl (cy 2) 1 ct20)] sz)) 0 0 (va_A [(ad0, ob 11 15 fn0), (ad1, ob 6 7 fn1), (ad20, arl (cy 2) 1 ct20)] sz) := by
  refine va_MetW (hh := [(0, 10, 13, 13)]) (cc := cL_show) (maxL := 5) (ret := (some .int)) (by decide) rfl ?_
  intro p e s m args below meth c s₁ B hml hv
  obtain ⟨rfl, hsz, hP, hK, hD0, hE⟩ := hv
  have hx := B.exec
  have hb := B.bytes
  have hr := B.returns
  have hG : ∀ w ∈ GW, w.before ([.ref ad0, .int 0, .int xi0, .ref ad20] : List Value).toArray s = true := fun w h => atoms_spec (ws := Cond.codeWith yL_show cL_show 5 (some .int) [(0, 10, 13, 13)] :: GW) B.pre w (List.mem_cons_of_mem _ h)
  have hown : s.vm.findClass RL = some m.cls := findClass_of_methodNamed B.named
  have hlocks := B.notSynchronized
  subst hsz
  have hD := hD0.self (sz := s.heap.size)
  generalize hAe : va_A [(ad0, ob 11 15 fn0), (ad1, ob 6 7 fn1), (ad20, arl (cy 2) 1 ct20)] s.heap.size = A at hD hE ⊢
  have hA : ∀ q : Nat, s.heap.size ≤ q → A q := fun q h => by rw [← hAe]; exact Or.inr h
  have hS : va_S A s.heap s.heap [] := va_S.rf
  clear hAe hD0
  have hl0 := lv_entry ([.ref ad0, .int 0, .int xi0, .ref ad20]) (n := 5) (Nat.le_of_ble_eq_true rfl)
  rw [lg_entry_eq]
  generalize (lg_sl ([.ref ad0, .int 0, .int xi0, .ref ad20]) ++ List.replicate (5 - (lg_sl ([.ref ad0, .int 0, .int xi0, .ref ad20])).length) Slot.unset).toArray = ls at hl0 ⊢
  have hl : lv_has ls 5 [(0, .ref ad0), (1, .int 0), (2, .int xi0), (3, .ref ad20)] := hl0
  clear hl0
  have htab : c.exceptionTable.toList = [⟨0, 10, 13, 13⟩] := vx_table (x := yL_show) B (hG _ g_595)
  refine lv_aload_n (pc := 0) hx hb dL_show_0 rfl (lv_at hl 3 rfl) ?_
  refine lv_iconst (pc := 1) (v := 0) hx hb dL_show_1 (by decide) ?_
  refine lv_aload_n (pc := 2) hx hb dL_show_2 rfl (lv_at hl 0 rfl) ?_
  refine lv_iload_n (pc := 3) hx hb dL_show_3 rfl (lv_at hl 1 rfl) ?_
  refine lv_iload_n (pc := 4) hx hb dL_show_4 rfl (lv_at hl 2 rfl) ?_
  refine cq_i (pc := 5) (wr := [(ad20, arl (cy 2) 1 ct20)]) (k2 := 0) (n2 := 0) (va_runV (As := [.int 0, .int xi0]) (rest := [.int 0, .ref ad20]) ⟨hx, hb, hml, hown, hG⟩ (c_show0_p l D cy kv s.heap.size ad0 xi0 fn0 ad1 fn1 h0_11 h1_1 hn) (cwV 2 hG (gi_V g_592 g_593 g_594 g_143 g_290) rfl rfl rfl (by decide +kernel) ⟨Nat.le_of_ble_eq_true rfl, Nat.le_of_ble_eq_true rfl⟩) ⟨pq_blind, (va_recv hK hP (ci := 11) (q0 := 0) rfl rfl), (pq_pass hP hD hK hE hS hA [0, 1] rfl (by decide))⟩ rfl rfl hl.1 rfl (lv_room (Nat.le_of_ble_eq_true rfl)) dL_show_5 ⟨Nat.le_of_ble_eq_true rfl, Nat.le_of_ble_eq_true rfl⟩) hP hD hS hA [0, 1] [2] rfl rfl (by decide) (by decide) (by decide) (by decide) (fun r1 w1 H1 lo1 e1 hR1 hP1r hD1r hS1 => ?_)
  subst hR1
  subst e1
  have hP1 : va_P D classes [(ad20, arl (cy 2) 1 ct20), (ad0, ob 11 15 fn0), (ad1, ob 6 7 fn1)] H1 := hP1r
  have hD1 : va_D A [(ad20, arl (cy 2) 1 ct20), (ad0, ob 11 15 fn0), (ad1, ob 6 7 fn1)] := hD1r
  clear hP1r hD1r
  clear hP hD hS
  refine lv_i2l (pc := 8) (v := (-1)) hx hb dL_show_8 (by decide) ?_
  refine va_last (pc := 9) hx hb hK hP1 hD1 hS1 0 2 rfl rfl (show ¬ ((0 : Int32) < 0 ∨ 1 ≤ (0 : Int32).toNatClampNeg) by decide) dL_show_9 (fun H2 lo2 hP2r hD2r hS2 => ?_)
  have hP2 : va_P D classes [(ad20, arl (cy 2) 1 (vp_updL ct20 (0 : Int32).toNatClampNeg (-1))), (ad0, ob 11 15 fn0), (ad1, ob 6 7 fn1)] H2 := hP2r
  have hD2 : va_D A [(ad20, arl (cy 2) 1 (vp_updL ct20 (0 : Int32).toNatClampNeg (-1))), (ad0, ob 11 15 fn0), (ad1, ob 6 7 fn1)] := hD2r
  clear hP2r hD2r
  clear hP1 hD1 hS1
  clear H1 lo1
  refine lv_goto (pc := 10) (tgt := 17) hx hb dL_show_10 (by decide) ?_
  refine lv_iconst (pc := 17) (v := 0) hx hb dL_show_17 (by decide) ?_
  have hP99 := hP2.sub (ws' := [(ad20, arl (cy 2) 1 (vp_updL ct20 (0 : Int32).toNatClampNeg (-1)))]) [0] rfl
  have hD99 := hD2.sub (ws' := [(ad20, arl (cy 2) 1 (vp_updL ct20 (0 : Int32).toNatClampNeg (-1)))]) [0] (by decide) rfl
  exact W.iret (pc := 18) (v := 0) hx hb hr (fun t ht hW => ⟨⟨0, (), rfl, rfl, _, rfl, by rw [ht]; exact hP99, hD99⟩, hS2.F ht⟩) hS2.2.2 dL_show_18
set_option maxHeartbeats 4000000 in
set_option maxRecDepth 100000 in
/-- L_show -/
theorem l_c_show1_p (l : Launch) (D : va_G) (cy : Nat → ClassId) (kv : KV) (sz : Nat) (ad0 : Nat) (xi0 : Int32) (ad20 : Nat) (fn0 : Nat → Value) (ad1 : Nat) (fn1 : Nat → Value) (ct20 : Nat → Int64) (h0_11 : fn0 11 = .ref ad1) (h1_3 : fn1 3 = .int 0) (hn : 0 ≤ xi0) : Met l yL_show (Cond.codeWith yL_show cL_show 5 (some .int) [(0, 10, 13, 13)] :: GW) ({ frames := 10, cells := 0, slots := 0, locals := 200 } : Room) (va_Pc [.ref ad0, .int 1, .int xi0, .ref ad20] (pcq D cy kv sz [(ad0, ob 11 15 fn0), (ad1, ob 6 7 fn1), (ad20, arl (cy 2) 1 ct20)])) (va_Qi (fun r (_ : Unit) => r = 0) (fun _ t => bq D (fun w => w = [(ad20, arl (cy 2) 1 (vp_updL ct20 (0 : Int32).toNatClampNeg (-1)))]) (va_A [(ad0, ob 11 15 fn0), (ad1, ob 6 7 fn1), (ad20, arl (cy 2) 1 ct20)] sz) t) (va_A [(ad0, ob 11 15 fn0), (ad1, ob 6 7 fn1), (ad20, arl (cy 2) 1 ct20)] sz)) 0 0 (va_A [(ad0, ob 11 15 fn0), (ad1, ob 6 7 fn1), (ad20, arl (cy 2) 1 ct20)] sz) := by
  refine va_MetW (hh := [(0, 10, 13, 13)]) (cc := cL_show) (maxL := 5) (ret := (some .int)) (by decide) rfl ?_
  intro p e s m args below meth c s₁ B hml hv
  obtain ⟨rfl, hsz, hP, hK, hD0, hE⟩ := hv
  have hx := B.exec
  have hb := B.bytes
  have hr := B.returns
  have hG : ∀ w ∈ GW, w.before ([.ref ad0, .int 1, .int xi0, .ref ad20] : List Value).toArray s = true := fun w h => atoms_spec (ws := Cond.codeWith yL_show cL_show 5 (some .int) [(0, 10, 13, 13)] :: GW) B.pre w (List.mem_cons_of_mem _ h)
  have hown : s.vm.findClass RL = some m.cls := findClass_of_methodNamed B.named
  have hlocks := B.notSynchronized
  subst hsz
  have hD := hD0.self (sz := s.heap.size)
  generalize hAe : va_A [(ad0, ob 11 15 fn0), (ad1, ob 6 7 fn1), (ad20, arl (cy 2) 1 ct20)] s.heap.size = A at hD hE ⊢
  have hA : ∀ q : Nat, s.heap.size ≤ q → A q := fun q h => by rw [← hAe]; exact Or.inr h
  have hS : va_S A s.heap s.heap [] := va_S.rf
  clear hAe hD0
  have hl0 := lv_entry ([.ref ad0, .int 1, .int xi0, .ref ad20]) (n := 5) (Nat.le_of_ble_eq_true rfl)
  rw [lg_entry_eq]
  generalize (lg_sl ([.ref ad0, .int 1, .int xi0, .ref ad20]) ++ List.replicate (5 - (lg_sl ([.ref ad0, .int 1, .int xi0, .ref ad20])).length) Slot.unset).toArray = ls at hl0 ⊢
  have hl : lv_has ls 5 [(0, .ref ad0), (1, .int 1), (2, .int xi0), (3, .ref ad20)] := hl0
  clear hl0
  have htab : c.exceptionTable.toList = [⟨0, 10, 13, 13⟩] := vx_table (x := yL_show) B (hG _ g_595)
  refine lv_aload_n (pc := 0) hx hb dL_show_0 rfl (lv_at hl 3 rfl) ?_
  refine lv_iconst (pc := 1) (v := 0) hx hb dL_show_1 (by decide) ?_
  refine lv_aload_n (pc := 2) hx hb dL_show_2 rfl (lv_at hl 0 rfl) ?_
  refine lv_iload_n (pc := 3) hx hb dL_show_3 rfl (lv_at hl 1 rfl) ?_
  refine lv_iload_n (pc := 4) hx hb dL_show_4 rfl (lv_at hl 2 rfl) ?_
  refine cq_i (pc := 5) (wr := [(ad20, arl (cy 2) 1 ct20)]) (k2 := 0) (n2 := 0) (va_runV (As := [.int 1, .int xi0]) (rest := [.int 0, .ref ad20]) ⟨hx, hb, hml, hown, hG⟩ (c_show1_p l D cy kv s.heap.size ad0 xi0 fn0 ad1 fn1 h0_11 h1_3 hn) (cwV 2 hG (gi_V g_592 g_593 g_594 g_143 g_290) rfl rfl rfl (by decide +kernel) ⟨Nat.le_of_ble_eq_true rfl, Nat.le_of_ble_eq_true rfl⟩) ⟨pq_blind, (va_recv hK hP (ci := 11) (q0 := 0) rfl rfl), (pq_pass hP hD hK hE hS hA [0, 1] rfl (by decide))⟩ rfl rfl hl.1 rfl (lv_room (Nat.le_of_ble_eq_true rfl)) dL_show_5 ⟨Nat.le_of_ble_eq_true rfl, Nat.le_of_ble_eq_true rfl⟩) hP hD hS hA [0, 1] [2] rfl rfl (by decide) (by decide) (by decide) (by decide) (fun r1 w1 H1 lo1 e1 hR1 hP1r hD1r hS1 => ?_)
  subst hR1
  subst e1
  have hP1 : va_P D classes [(ad20, arl (cy 2) 1 ct20), (ad0, ob 11 15 fn0), (ad1, ob 6 7 fn1)] H1 := hP1r
  have hD1 : va_D A [(ad20, arl (cy 2) 1 ct20), (ad0, ob 11 15 fn0), (ad1, ob 6 7 fn1)] := hD1r
  clear hP1r hD1r
  clear hP hD hS
  refine lv_i2l (pc := 8) (v := (-1)) hx hb dL_show_8 (by decide) ?_
  refine va_last (pc := 9) hx hb hK hP1 hD1 hS1 0 2 rfl rfl (show ¬ ((0 : Int32) < 0 ∨ 1 ≤ (0 : Int32).toNatClampNeg) by decide) dL_show_9 (fun H2 lo2 hP2r hD2r hS2 => ?_)
  have hP2 : va_P D classes [(ad20, arl (cy 2) 1 (vp_updL ct20 (0 : Int32).toNatClampNeg (-1))), (ad0, ob 11 15 fn0), (ad1, ob 6 7 fn1)] H2 := hP2r
  have hD2 : va_D A [(ad20, arl (cy 2) 1 (vp_updL ct20 (0 : Int32).toNatClampNeg (-1))), (ad0, ob 11 15 fn0), (ad1, ob 6 7 fn1)] := hD2r
  clear hP2r hD2r
  clear hP1 hD1 hS1
  clear H1 lo1
  refine lv_goto (pc := 10) (tgt := 17) hx hb dL_show_10 (by decide) ?_
  refine lv_iconst (pc := 17) (v := 0) hx hb dL_show_17 (by decide) ?_
  have hP99 := hP2.sub (ws' := [(ad20, arl (cy 2) 1 (vp_updL ct20 (0 : Int32).toNatClampNeg (-1)))]) [0] rfl
  have hD99 := hD2.sub (ws' := [(ad20, arl (cy 2) 1 (vp_updL ct20 (0 : Int32).toNatClampNeg (-1)))]) [0] (by decide) rfl
  exact W.iret (pc := 18) (v := 0) hx hb hr (fun t ht hW => ⟨⟨0, (), rfl, rfl, _, rfl, by rw [ht]; exact hP99, hD99⟩, hS2.F ht⟩) hS2.2.2 dL_show_18
