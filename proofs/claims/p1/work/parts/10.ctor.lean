set_option maxHeartbeats 4000000 in
set_option maxRecDepth 100000 in
/-- J5_init_d00df -/
theorem c_ASB (l : Launch) (D : va_G) (cy : Nat → ClassId) (kv : KV) (sz : Nat) (ad0 : Nat) : Met l yJ5_init_d00df (Cond.code yJ5_init_d00df cJ5_init_d00df 2 none :: GW) ({ frames := 8, cells := 1, slots := 16, locals := 120 } : Room) (va_Pc [.ref ad0, .int 16] (pcq D cy kv sz [(ad0, ob 13 4 (dfl tyJ4))])) (va_Qv (fun (_ : Unit) => True) (fun _ t => bq D (fun w => ∃ (nw900 : Nat), w = [(ad0, ob 13 4 (vup (vup (dfl tyJ4) 0 (.ref nw900)) 1 (.int 0)))]) (va_A [(ad0, ob 13 4 (dfl tyJ4))] sz) t) (va_A [(ad0, ob 13 4 (dfl tyJ4))] sz)) 1 16 (va_A [(ad0, ob 13 4 (dfl tyJ4))] sz) := by
  refine Met.ofW (cc := cJ5_init_d00df) (maxL := 2) (ret := none) (by decide) rfl ?_
  intro p e s m args below meth c s₁ B hml hv
  obtain ⟨rfl, hsz, hP, hK, hD0, hE⟩ := hv
  have hx := B.exec
  have hb := B.bytes
  have hr := B.returns
  have hG : ∀ w ∈ GW, w.before ([.ref ad0, .int 16] : List Value).toArray s = true := fun w h => atoms_spec (ws := Cond.code yJ5_init_d00df cJ5_init_d00df 2 none :: GW) B.pre w (List.mem_cons_of_mem _ h)
  have hown : s.vm.findClass RJ5 = some m.cls := findClass_of_methodNamed B.named
  have hlocks := B.notSynchronized
  have hin : meth.name = "<init>" := (name_of_methodNamed B.named B.method).1
  subst hsz
  have hD := hD0.self (sz := s.heap.size)
  generalize hAe : va_A [(ad0, ob 13 4 (dfl tyJ4))] s.heap.size = A at hD hE ⊢
  have hA : ∀ q : Nat, s.heap.size ≤ q → A q := fun q h => by rw [← hAe]; exact Or.inr h
  have hS : va_S A s.heap s.heap [] := va_S.rf
  clear hAe hD0
  have hl0 := lv_entry ([.ref ad0, .int 16]) (n := 2) (Nat.le_of_ble_eq_true rfl)
  rw [lg_entry_eq]
  generalize (lg_sl ([.ref ad0, .int 16]) ++ List.replicate (2 - (lg_sl ([.ref ad0, .int 16])).length) Slot.unset).toArray = ls at hl0 ⊢
  have hl : lv_has ls 2 [(0, .ref ad0), (1, .int 16)] := hl0
  clear hl0
  refine lv_aload_n (pc := 0) hx hb dJ5_init_d00df_0 rfl (lv_at hl 0 rfl) ?_
  refine W.objInit hx hb hown (hG _ g_0) (hG _ g_1) (hG _ g_2) rfl (by rw [hml]; exact hl.1) rfl dJ5_init_d00df_1 (Nat.le_of_ble_eq_true rfl) (Nat.le_of_ble_eq_true rfl) ?_
  refine W.eq (g2 := F0 m 4 ls []) rfl ?_
  refine va_gets (pc := 4) hx hb hE.2.2.2.2.1 hS hown (hG _ g_3) (fun _ h9 => h9) dJ5_init_d00df_4 ?_
  refine lv_if_eq (pc := 7) (tgt := 25) hx hb dJ5_init_d00df_7 (by decide) (fun c1 => absurd c1 (by decide)) (fun c1 => ?_)
  refine lv_aload_n (pc := 10) hx hb dJ5_init_d00df_10 rfl (lv_at hl 0 rfl) ?_
  refine lv_iload_n (pc := 11) hx hb dJ5_init_d00df_11 rfl (lv_at hl 1 rfl) ?_
  refine ar_new (pc := 12) (atype := .byte) (N' := 16) (ty := .byte) (a0 := (16, .inl (fun _ => 0))) (k2 := 1) (n2 := 16) hx hb (hG _ g_4) rfl hK hP hD hS hA 4 rfl (fun _ => rfl) (by decide) (by decide) (by decide) (by decide) (by decide) (Nat.le_of_ble_eq_true rfl) (Nat.le_of_ble_eq_true rfl) dJ5_init_d00df_12 (fun qn2 H2 hP2r hD2r hS2 => ?_)
  have hP2 : va_P D classes [(ad0, ob 13 4 (dfl tyJ4)), (qn2, ari (cy 4) 16 (fun _ => 0))] H2 := hP2r
  have hD2 : va_D A [(ad0, ob 13 4 (dfl tyJ4)), (qn2, ari (cy 4) 16 (fun _ => 0))] := hD2r
  clear hP2r hD2r
  clear hP hD hS
  refine ob_put (pc := 14) (v := .ref qn2) (ci := 13) (C := RJ4) (T := TJ4) (N := 4) hx hb hG in_J4 tyJ4 tyJ4_ok nmJ4 hown hK hP2 hD2 hS2 0 rfl rfl 0 (by decide) (hG _ g_5) rfl rfl rfl rfl dJ5_init_d00df_14 (ws' := [(ad0, ob 13 4 (vup (dfl tyJ4) 0 (.ref qn2))), (qn2, ari (cy 4) 16 (fun _ => 0))]) rfl (fun H3 lo3 hP3 hD3 hS3 => ?_)
  clear hP2 hD2 hS2
  clear H2
  refine lv_aload_n (pc := 17) hx hb dJ5_init_d00df_17 rfl (lv_at hl 0 rfl) ?_
  refine lv_iconst (pc := 18) (v := 0) hx hb dJ5_init_d00df_18 (by decide) ?_
  refine ob_put (pc := 19) (v := .int 0) (ci := 13) (C := RJ4) (T := TJ4) (N := 4) hx hb hG in_J4 tyJ4 tyJ4_ok nmJ4 hown hK hP3 hD3 hS3 0 rfl rfl 1 (by decide) (hG _ g_6) rfl rfl rfl rfl dJ5_init_d00df_19 (ws' := [(ad0, ob 13 4 (vup (vup (dfl tyJ4) 0 (.ref qn2)) 1 (.int 0))), (qn2, ari (cy 4) 16 (fun _ => 0))]) rfl (fun H4 lo4 hP4 hD4 hS4 => ?_)
  clear hP3 hD3 hS3
  clear H3 lo3
  refine lv_goto (pc := 22) (tgt := 38) hx hb dJ5_init_d00df_22 (by decide) ?_
  have hP99 := hP4.sub (ws' := [(ad0, ob 13 4 (vup (vup (dfl tyJ4) 0 (.ref qn2)) 1 (.int 0)))]) [0] rfl
  have hD99 := hD4.sub (ws' := [(ad0, ob 13 4 (vup (vup (dfl tyJ4) 0 (.ref qn2)) 1 (.int 0)))]) [0] (by decide) rfl
  exact W.vret (pc := 38) hx hb hr (fun t ht hW => ⟨⟨(), rfl, trivial, _, ⟨qn2, rfl⟩, by rw [ht]; exact hP99, hD99⟩, hS4.F ht⟩) hS4.2.2 dJ5_init_d00df_38
set_option maxHeartbeats 4000000 in
set_option maxRecDepth 100000 in
/-- J4_init_da8c8 -/
theorem c_SB (l : Launch) (D : va_G) (cy : Nat → ClassId) (kv : KV) (sz : Nat) (ad0 : Nat) : Met l yJ4_init_da8c8 (Cond.code yJ4_init_da8c8 cJ4_init_da8c8 1 none :: GW) ({ frames := 9, cells := 1, slots := 16, locals := 160 } : Room) (va_Pc [.ref ad0] (pcq D cy kv sz [(ad0, ob 13 4 (dfl tyJ4))])) (va_Qv (fun (_ : Unit) => True) (fun _ t => bq D (fun w => ∃ (nc901 : Nat → Value), w = [(ad0, ob 13 4 nc901)] ∧ nc901 3 = .int 0) (va_A [(ad0, ob 13 4 (dfl tyJ4))] sz) t) (va_A [(ad0, ob 13 4 (dfl tyJ4))] sz)) 1 16 (va_A [(ad0, ob 13 4 (dfl tyJ4))] sz) := by
  refine Met.ofW (cc := cJ4_init_da8c8) (maxL := 1) (ret := none) (by decide) rfl ?_
  intro p e s m args below meth c s₁ B hml hv
  obtain ⟨rfl, hsz, hP, hK, hD0, hE⟩ := hv
  have hx := B.exec
  have hb := B.bytes
  have hr := B.returns
  have hG : ∀ w ∈ GW, w.before ([.ref ad0] : List Value).toArray s = true := fun w h => atoms_spec (ws := Cond.code yJ4_init_da8c8 cJ4_init_da8c8 1 none :: GW) B.pre w (List.mem_cons_of_mem _ h)
  have hown : s.vm.findClass RJ4 = some m.cls := findClass_of_methodNamed B.named
  have hlocks := B.notSynchronized
  have hin : meth.name = "<init>" := (name_of_methodNamed B.named B.method).1
  subst hsz
  have hD := hD0.self (sz := s.heap.size)
  generalize hAe : va_A [(ad0, ob 13 4 (dfl tyJ4))] s.heap.size = A at hD hE ⊢
  have hA : ∀ q : Nat, s.heap.size ≤ q → A q := fun q h => by rw [← hAe]; exact Or.inr h
  have hS : va_S A s.heap s.heap [] := va_S.rf
  clear hAe hD0
  have hl0 := lv_entry ([.ref ad0]) (n := 1) (Nat.le_of_ble_eq_true rfl)
  rw [lg_entry_eq]
  generalize (lg_sl ([.ref ad0]) ++ List.replicate (1 - (lg_sl ([.ref ad0])).length) Slot.unset).toArray = ls at hl0 ⊢
  have hl : lv_has ls 1 [(0, .ref ad0)] := hl0
  clear hl0
  refine lv_aload_n (pc := 0) hx hb dJ4_init_da8c8_0 rfl (lv_at hl 0 rfl) ?_
  refine lv_bipush (pc := 1) (v := 16) hx hb dJ4_init_da8c8_1 (by decide) ?_
  refine cq_v (pc := 3) (wr := []) (k2 := 1) (n2 := 16) (va_runI (As := [.int 16]) (rest := []) ⟨hx, hb, hml, hown, hG⟩ (c_ASB l D cy kv s.heap.size ad0) (cwI 1 hG (gi_c g_7) rfl rfl rfl (hG _ g_8) (hG _ g_9) (hG _ g_10) rfl (by decide +kernel) ⟨Nat.le_of_ble_eq_true rfl, Nat.le_of_ble_eq_true rfl⟩) ⟨pq_blind, (pq_pass hP hD hK hE hS hA [0] rfl (by decide))⟩ rfl rfl hl.1 rfl (lv_room (Nat.le_of_ble_eq_true rfl)) dJ4_init_da8c8_3 ⟨Nat.le_of_ble_eq_true rfl, Nat.le_of_ble_eq_true rfl⟩) hP hD hS hA [0] [] rfl rfl (by decide) (by decide) (by decide) (by decide) (fun w1 H1 lo1 hR1 hP1r hD1r hS1 => ?_)
  obtain ⟨qn1_0, rfl⟩ := hR1
  have hP1 : va_P D classes [(ad0, ob 13 4 (vup (vup (dfl tyJ4) 0 (.ref qn1_0)) 1 (.int 0)))] H1 := hP1r
  have hD1 : va_D A [(ad0, ob 13 4 (vup (vup (dfl tyJ4) 0 (.ref qn1_0)) 1 (.int 0)))] := hD1r
  clear hP1r hD1r
  clear hP hD hS
  exact W.vret (pc := 6) hx hb hr (fun t ht hW => ⟨⟨(), rfl, trivial, _, ⟨(vup (vup (dfl tyJ4) 0 (.ref qn1_0)) 1 (.int 0)), rfl, rfl⟩, by rw [ht]; exact hP1, hD1⟩, hS1.F ht⟩) hS1.2.2 dJ4_init_da8c8_6
set_option maxHeartbeats 4000000 in
set_option maxRecDepth 100000 in
/-- X10_init -/
theorem c_Tool (l : Launch) (D : va_G) (cy : Nat → ClassId) (kv : KV) (sz : Nat) (ad0 : Nat) : Met l yX10_init (Cond.code yX10_init cX10_init 1 none :: GW) ({ frames := 8, cells := 2, slots := 57, locals := 120 } : Room) (va_Pc [.ref ad0] (pcq D cy kv sz [(ad0, ob 10 5 (dfl tyX10))])) (va_Qv (fun (_ : Unit) => True) (fun _ t => bq D (fun w => ∃ (nc902 : Nat → Value), w = [(ad0, ob 10 5 nc902)]) (va_A [(ad0, ob 10 5 (dfl tyX10))] sz) t) (va_A [(ad0, ob 10 5 (dfl tyX10))] sz)) 2 57 (va_A [(ad0, ob 10 5 (dfl tyX10))] sz) := by
  refine Met.ofW (cc := cX10_init) (maxL := 1) (ret := none) (by decide) rfl ?_
  intro p e s m args below meth c s₁ B hml hv
  obtain ⟨rfl, hsz, hP, hK, hD0, hE⟩ := hv
  have hx := B.exec
  have hb := B.bytes
  have hr := B.returns
  have hG : ∀ w ∈ GW, w.before ([.ref ad0] : List Value).toArray s = true := fun w h => atoms_spec (ws := Cond.code yX10_init cX10_init 1 none :: GW) B.pre w (List.mem_cons_of_mem _ h)
  have hown : s.vm.findClass RX10 = some m.cls := findClass_of_methodNamed B.named
  have hlocks := B.notSynchronized
  have hin : meth.name = "<init>" := (name_of_methodNamed B.named B.method).1
  subst hsz
  have hD := hD0.self (sz := s.heap.size)
  generalize hAe : va_A [(ad0, ob 10 5 (dfl tyX10))] s.heap.size = A at hD hE ⊢
  have hA : ∀ q : Nat, s.heap.size ≤ q → A q := fun q h => by rw [← hAe]; exact Or.inr h
  have hS : va_S A s.heap s.heap [] := va_S.rf
  clear hAe hD0
  have hl0 := lv_entry ([.ref ad0]) (n := 1) (Nat.le_of_ble_eq_true rfl)
  rw [lg_entry_eq]
  generalize (lg_sl ([.ref ad0]) ++ List.replicate (1 - (lg_sl ([.ref ad0])).length) Slot.unset).toArray = ls at hl0 ⊢
  have hl : lv_has ls 1 [(0, .ref ad0)] := hl0
  clear hl0
  refine lv_aload_n (pc := 0) hx hb dX10_init_0 rfl (lv_at hl 0 rfl) ?_
  refine W.objInit hx hb hown (hG _ g_12) (hG _ g_1) (hG _ g_2) rfl (by rw [hml]; exact hl.1) rfl dX10_init_1 (Nat.le_of_ble_eq_true rfl) (Nat.le_of_ble_eq_true rfl) ?_
  refine W.eq (g2 := F0 m 4 ls []) rfl ?_
  refine lv_aload_n (pc := 4) hx hb dX10_init_4 rfl (lv_at hl 0 rfl) ?_
  refine lv_iconst (pc := 5) (v := (-1)) hx hb dX10_init_5 (by decide) ?_
  refine ob_put (pc := 6) (v := .int (-1)) (ci := 10) (C := RX10) (T := TX10) (N := 5) hx hb hG in_X10 tyX10 tyX10_ok nmX10 hown hK hP hD hS 0 rfl rfl 0 (by decide) (hG _ g_13) rfl rfl rfl rfl dX10_init_6 (ws' := [(ad0, ob 10 5 (vup (dfl tyX10) 0 (.int (-1))))]) rfl (fun H1 lo1 hP1 hD1 hS1 => ?_)
  clear hP hD hS
  refine lv_aload_n (pc := 9) hx hb dX10_init_9 rfl (lv_at hl 0 rfl) ?_
  refine lv_bipush (pc := 10) (v := 17) hx hb dX10_init_10 (by decide) ?_
  refine aq_new (pc := 12) (N' := 17) (C := RX5) (k2 := 1) (n2 := 17) hx hb hown (hG _ g_14) (hE.2.1 _ (by decide +kernel)) hK hP1 hD1 hS1 hA 9 rfl (by decide) (by decide) (by decide) (by decide) (by decide) (Nat.le_of_ble_eq_true rfl) (Nat.le_of_ble_eq_true rfl) dX10_init_12 (fun qn2 H2 hP2r hD2r hS2 => ?_)
  have hP2 : va_P D classes [(ad0, ob 10 5 (vup (dfl tyX10) 0 (.int (-1)))), (qn2, arq (cy 9) 17 (fun _ => none))] H2 := hP2r
  have hD2 : va_D A [(ad0, ob 10 5 (vup (dfl tyX10) 0 (.int (-1)))), (qn2, arq (cy 9) 17 (fun _ => none))] := hD2r
  clear hP2r hD2r
  clear hP1 hD1 hS1
  clear H1
  refine ob_putF (pc := 15) (v := .ref qn2) (ci := 10) (C := RX10) (T := TX10) (N := 5) hx hb hG in_X10 tyX10 tyX10_ok nmX10 hown hK hP2 hD2 hS2 0 rfl rfl 1 (by decide) (hG _ g_15) rfl rfl hin rfl rfl rfl dX10_init_15 (ws' := [(ad0, ob 10 5 (vup (vup (dfl tyX10) 0 (.int (-1))) 1 (.ref qn2))), (qn2, arq (cy 9) 17 (fun _ => none))]) rfl (fun H3 lo3 hP3 hD3 hS3 => ?_)
  clear hP2 hD2 hS2
  clear H2 lo1
  refine lv_aload_n (pc := 18) hx hb dX10_init_18 rfl (lv_at hl 0 rfl) ?_
  refine lv_iconst (pc := 19) (v := 0) hx hb dX10_init_19 (by decide) ?_
  refine ob_put (pc := 20) (v := .int 0) (ci := 10) (C := RX10) (T := TX10) (N := 5) hx hb hG in_X10 tyX10 tyX10_ok nmX10 hown hK hP3 hD3 hS3 0 rfl rfl 2 (by decide) (hG _ g_16) rfl rfl rfl rfl dX10_init_20 (ws' := [(ad0, ob 10 5 (vup (vup (vup (dfl tyX10) 0 (.int (-1))) 1 (.ref qn2)) 2 (.int 0))), (qn2, arq (cy 9) 17 (fun _ => none))]) rfl (fun H4 lo4 hP4 hD4 hS4 => ?_)
  clear hP3 hD3 hS3
  clear H3 lo3
  refine lv_aload_n (pc := 23) hx hb dX10_init_23 rfl (lv_at hl 0 rfl) ?_
  refine lv_bipush (pc := 24) (v := 40) hx hb dX10_init_24 (by decide) ?_
  refine aq_new (pc := 26) (N' := 40) (C := RX4) (k2 := 2) (n2 := 57) hx hb hown (hG _ g_17) (hE.2.1 _ (by decide +kernel)) hK hP4 hD4 hS4 hA 10 rfl (by decide) (by decide) (by decide) (by decide) (by decide) (Nat.le_of_ble_eq_true rfl) (Nat.le_of_ble_eq_true rfl) dX10_init_26 (fun qn5 H5 hP5r hD5r hS5 => ?_)
  have hP5 : va_P D classes [(ad0, ob 10 5 (vup (vup (vup (dfl tyX10) 0 (.int (-1))) 1 (.ref qn2)) 2 (.int 0))), (qn2, arq (cy 9) 17 (fun _ => none)), (qn5, arq (cy 10) 40 (fun _ => none))] H5 := hP5r
  have hD5 : va_D A [(ad0, ob 10 5 (vup (vup (vup (dfl tyX10) 0 (.int (-1))) 1 (.ref qn2)) 2 (.int 0))), (qn2, arq (cy 9) 17 (fun _ => none)), (qn5, arq (cy 10) 40 (fun _ => none))] := hD5r
  clear hP5r hD5r
  clear hP4 hD4 hS4
  clear H4
  refine ob_putF (pc := 29) (v := .ref qn5) (ci := 10) (C := RX10) (T := TX10) (N := 5) hx hb hG in_X10 tyX10 tyX10_ok nmX10 hown hK hP5 hD5 hS5 0 rfl rfl 3 (by decide) (hG _ g_18) rfl rfl hin rfl rfl rfl dX10_init_29 (ws' := [(ad0, ob 10 5 (vup (vup (vup (vup (dfl tyX10) 0 (.int (-1))) 1 (.ref qn2)) 2 (.int 0)) 3 (.ref qn5))), (qn2, arq (cy 9) 17 (fun _ => none)), (qn5, arq (cy 10) 40 (fun _ => none))]) rfl (fun H6 lo6 hP6 hD6 hS6 => ?_)
  clear hP5 hD5 hS5
  clear H5 lo4
  refine lv_aload_n (pc := 32) hx hb dX10_init_32 rfl (lv_at hl 0 rfl) ?_
  refine lv_iconst (pc := 33) (v := 0) hx hb dX10_init_33 (by decide) ?_
  refine ob_put (pc := 34) (v := .int 0) (ci := 10) (C := RX10) (T := TX10) (N := 5) hx hb hG in_X10 tyX10 tyX10_ok nmX10 hown hK hP6 hD6 hS6 0 rfl rfl 4 (by decide) (hG _ g_19) rfl rfl rfl rfl dX10_init_34 (ws' := [(ad0, ob 10 5 (vup (vup (vup (vup (vup (dfl tyX10) 0 (.int (-1))) 1 (.ref qn2)) 2 (.int 0)) 3 (.ref qn5)) 4 (.int 0))), (qn2, arq (cy 9) 17 (fun _ => none)), (qn5, arq (cy 10) 40 (fun _ => none))]) rfl (fun H7 lo7 hP7 hD7 hS7 => ?_)
  clear hP6 hD6 hS6
  clear H6 lo6
  have hP99 := hP7.sub (ws' := [(ad0, ob 10 5 (vup (vup (vup (vup (vup (dfl tyX10) 0 (.int (-1))) 1 (.ref qn2)) 2 (.int 0)) 3 (.ref qn5)) 4 (.int 0)))]) [0] rfl
  have hD99 := hD7.sub (ws' := [(ad0, ob 10 5 (vup (vup (vup (vup (vup (dfl tyX10) 0 (.int (-1))) 1 (.ref qn2)) 2 (.int 0)) 3 (.ref qn5)) 4 (.int 0)))]) [0] (by decide) rfl
  exact W.vret (pc := 37) hx hb hr (fun t ht hW => ⟨⟨(), rfl, trivial, _, ⟨(vup (vup (vup (vup (vup (dfl tyX10) 0 (.int (-1))) 1 (.ref qn2)) 2 (.int 0)) 3 (.ref qn5)) 4 (.int 0)), rfl⟩, by rw [ht]; exact hP99, hD99⟩, hS7.F ht⟩) hS7.2.2 dX10_init_37
set_option maxHeartbeats 4000000 in
set_option maxRecDepth 100000 in
/-- X8_init -/
theorem c_Scanner (l : Launch) (D : va_G) (cy : Nat → ClassId) (kv : KV) (sz : Nat) (ad0 : Nat) : Met l yX8_init (Cond.code yX8_init cX8_init 1 none :: GW) ({ frames := 8, cells := 4, slots := 8004, locals := 120 } : Room) (va_Pc [.ref ad0] (pcq D cy kv sz [(ad0, ob 8 7 (dfl tyX8))])) (va_Qv (fun (_ : Unit) => True) (fun _ t => bq D (fun w => ∃ (nw900 : Nat) (nw901 : Nat) (nw902 : Nat) (nw903 : Nat) (nc904 : Nat → Value), w = [(ad0, ob 8 7 nc904), (nw900, ari (cy 0) 2001 (fun _ => 0)), (nw901, ari (cy 0) 2001 (fun _ => 0)), (nw902, ari (cy 0) 2001 (fun _ => 0)), (nw903, ari (cy 0) 2001 (fun _ => 0))] ∧ nc904 0 = .ref nw900 ∧ nc904 1 = .ref nw901 ∧ nc904 2 = .ref nw902 ∧ nc904 3 = .ref nw903) (va_A [(ad0, ob 8 7 (dfl tyX8))] sz) t) (va_A [(ad0, ob 8 7 (dfl tyX8))] sz)) 4 8004 (va_A [(ad0, ob 8 7 (dfl tyX8))] sz) := by
  refine Met.ofW (cc := cX8_init) (maxL := 1) (ret := none) (by decide) rfl ?_
  intro p e s m args below meth c s₁ B hml hv
  obtain ⟨rfl, hsz, hP, hK, hD0, hE⟩ := hv
  have hx := B.exec
  have hb := B.bytes
  have hr := B.returns
  have hG : ∀ w ∈ GW, w.before ([.ref ad0] : List Value).toArray s = true := fun w h => atoms_spec (ws := Cond.code yX8_init cX8_init 1 none :: GW) B.pre w (List.mem_cons_of_mem _ h)
  have hown : s.vm.findClass RX8 = some m.cls := findClass_of_methodNamed B.named
  have hlocks := B.notSynchronized
  have hin : meth.name = "<init>" := (name_of_methodNamed B.named B.method).1
  subst hsz
  have hD := hD0.self (sz := s.heap.size)
  generalize hAe : va_A [(ad0, ob 8 7 (dfl tyX8))] s.heap.size = A at hD hE ⊢
  have hA : ∀ q : Nat, s.heap.size ≤ q → A q := fun q h => by rw [← hAe]; exact Or.inr h
  have hS : va_S A s.heap s.heap [] := va_S.rf
  clear hAe hD0
  have hl0 := lv_entry ([.ref ad0]) (n := 1) (Nat.le_of_ble_eq_true rfl)
  rw [lg_entry_eq]
  generalize (lg_sl ([.ref ad0]) ++ List.replicate (1 - (lg_sl ([.ref ad0])).length) Slot.unset).toArray = ls at hl0 ⊢
  have hl : lv_has ls 1 [(0, .ref ad0)] := hl0
  clear hl0
  refine lv_aload_n (pc := 0) hx hb dX8_init_0 rfl (lv_at hl 0 rfl) ?_
  refine W.objInit hx hb hown (hG _ g_21) (hG _ g_1) (hG _ g_2) rfl (by rw [hml]; exact hl.1) rfl dX8_init_1 (Nat.le_of_ble_eq_true rfl) (Nat.le_of_ble_eq_true rfl) ?_
  refine W.eq (g2 := F0 m 4 ls []) rfl ?_
  refine lv_aload_n (pc := 4) hx hb dX8_init_4 rfl (lv_at hl 0 rfl) ?_
  refine lv_sipush (pc := 5) (v := 2001) hx hb dX8_init_5 (by decide) ?_
  refine ar_new (pc := 8) (atype := .int) (N' := 2001) (ty := .int) (a0 := (2001, .inl (fun _ => 0))) (k2 := 1) (n2 := 2001) hx hb (hG _ g_22) rfl hK hP hD hS hA 0 rfl (fun _ => rfl) (by decide) (by decide) (by decide) (by decide) (by decide) (Nat.le_of_ble_eq_true rfl) (Nat.le_of_ble_eq_true rfl) dX8_init_8 (fun qn1 H1 hP1r hD1r hS1 => ?_)
  have hP1 : va_P D classes [(ad0, ob 8 7 (dfl tyX8)), (qn1, ari (cy 0) 2001 (fun _ => 0))] H1 := hP1r
  have hD1 : va_D A [(ad0, ob 8 7 (dfl tyX8)), (qn1, ari (cy 0) 2001 (fun _ => 0))] := hD1r
  clear hP1r hD1r
  clear hP hD hS
  refine ob_putF (pc := 10) (v := .ref qn1) (ci := 8) (C := RX8) (T := TX8) (N := 7) hx hb hG in_X8 tyX8 tyX8_ok nmX8 hown hK hP1 hD1 hS1 0 rfl rfl 0 (by decide) (hG _ g_23) rfl rfl hin rfl rfl rfl dX8_init_10 (ws' := [(ad0, ob 8 7 (vup (dfl tyX8) 0 (.ref qn1))), (qn1, ari (cy 0) 2001 (fun _ => 0))]) rfl (fun H2 lo2 hP2 hD2 hS2 => ?_)
  clear hP1 hD1 hS1
  clear H1
  refine lv_aload_n (pc := 13) hx hb dX8_init_13 rfl (lv_at hl 0 rfl) ?_
  refine lv_sipush (pc := 14) (v := 2001) hx hb dX8_init_14 (by decide) ?_
  refine ar_new (pc := 17) (atype := .int) (N' := 2001) (ty := .int) (a0 := (2001, .inl (fun _ => 0))) (k2 := 2) (n2 := 4002) hx hb (hG _ g_22) rfl hK hP2 hD2 hS2 hA 0 rfl (fun _ => rfl) (by decide) (by decide) (by decide) (by decide) (by decide) (Nat.le_of_ble_eq_true rfl) (Nat.le_of_ble_eq_true rfl) dX8_init_17 (fun qn3 H3 hP3r hD3r hS3 => ?_)
  have hP3 : va_P D classes [(ad0, ob 8 7 (vup (dfl tyX8) 0 (.ref qn1))), (qn1, ari (cy 0) 2001 (fun _ => 0)), (qn3, ari (cy 0) 2001 (fun _ => 0))] H3 := hP3r
  have hD3 : va_D A [(ad0, ob 8 7 (vup (dfl tyX8) 0 (.ref qn1))), (qn1, ari (cy 0) 2001 (fun _ => 0)), (qn3, ari (cy 0) 2001 (fun _ => 0))] := hD3r
  clear hP3r hD3r
  clear hP2 hD2 hS2
  clear H2
  refine ob_putF (pc := 19) (v := .ref qn3) (ci := 8) (C := RX8) (T := TX8) (N := 7) hx hb hG in_X8 tyX8 tyX8_ok nmX8 hown hK hP3 hD3 hS3 0 rfl rfl 1 (by decide) (hG _ g_24) rfl rfl hin rfl rfl rfl dX8_init_19 (ws' := [(ad0, ob 8 7 (vup (vup (dfl tyX8) 0 (.ref qn1)) 1 (.ref qn3))), (qn1, ari (cy 0) 2001 (fun _ => 0)), (qn3, ari (cy 0) 2001 (fun _ => 0))]) rfl (fun H4 lo4 hP4 hD4 hS4 => ?_)
  clear hP3 hD3 hS3
  clear H3 lo2
  refine lv_aload_n (pc := 22) hx hb dX8_init_22 rfl (lv_at hl 0 rfl) ?_
  refine lv_sipush (pc := 23) (v := 2001) hx hb dX8_init_23 (by decide) ?_
  refine ar_new (pc := 26) (atype := .int) (N' := 2001) (ty := .int) (a0 := (2001, .inl (fun _ => 0))) (k2 := 3) (n2 := 6003) hx hb (hG _ g_22) rfl hK hP4 hD4 hS4 hA 0 rfl (fun _ => rfl) (by decide) (by decide) (by decide) (by decide) (by decide) (Nat.le_of_ble_eq_true rfl) (Nat.le_of_ble_eq_true rfl) dX8_init_26 (fun qn5 H5 hP5r hD5r hS5 => ?_)
  have hP5 : va_P D classes [(ad0, ob 8 7 (vup (vup (dfl tyX8) 0 (.ref qn1)) 1 (.ref qn3))), (qn1, ari (cy 0) 2001 (fun _ => 0)), (qn3, ari (cy 0) 2001 (fun _ => 0)), (qn5, ari (cy 0) 2001 (fun _ => 0))] H5 := hP5r
  have hD5 : va_D A [(ad0, ob 8 7 (vup (vup (dfl tyX8) 0 (.ref qn1)) 1 (.ref qn3))), (qn1, ari (cy 0) 2001 (fun _ => 0)), (qn3, ari (cy 0) 2001 (fun _ => 0)), (qn5, ari (cy 0) 2001 (fun _ => 0))] := hD5r
  clear hP5r hD5r
  clear hP4 hD4 hS4
  clear H4
  refine ob_putF (pc := 28) (v := .ref qn5) (ci := 8) (C := RX8) (T := TX8) (N := 7) hx hb hG in_X8 tyX8 tyX8_ok nmX8 hown hK hP5 hD5 hS5 0 rfl rfl 2 (by decide) (hG _ g_25) rfl rfl hin rfl rfl rfl dX8_init_28 (ws' := [(ad0, ob 8 7 (vup (vup (vup (dfl tyX8) 0 (.ref qn1)) 1 (.ref qn3)) 2 (.ref qn5))), (qn1, ari (cy 0) 2001 (fun _ => 0)), (qn3, ari (cy 0) 2001 (fun _ => 0)), (qn5, ari (cy 0) 2001 (fun _ => 0))]) rfl (fun H6 lo6 hP6 hD6 hS6 => ?_)
  clear hP5 hD5 hS5
  clear H5 lo4
  refine lv_aload_n (pc := 31) hx hb dX8_init_31 rfl (lv_at hl 0 rfl) ?_
  refine lv_sipush (pc := 32) (v := 2001) hx hb dX8_init_32 (by decide) ?_
  refine ar_new (pc := 35) (atype := .int) (N' := 2001) (ty := .int) (a0 := (2001, .inl (fun _ => 0))) (k2 := 4) (n2 := 8004) hx hb (hG _ g_22) rfl hK hP6 hD6 hS6 hA 0 rfl (fun _ => rfl) (by decide) (by decide) (by decide) (by decide) (by decide) (Nat.le_of_ble_eq_true rfl) (Nat.le_of_ble_eq_true rfl) dX8_init_35 (fun qn7 H7 hP7r hD7r hS7 => ?_)
  have hP7 : va_P D classes [(ad0, ob 8 7 (vup (vup (vup (dfl tyX8) 0 (.ref qn1)) 1 (.ref qn3)) 2 (.ref qn5))), (qn1, ari (cy 0) 2001 (fun _ => 0)), (qn3, ari (cy 0) 2001 (fun _ => 0)), (qn5, ari (cy 0) 2001 (fun _ => 0)), (qn7, ari (cy 0) 2001 (fun _ => 0))] H7 := hP7r
  have hD7 : va_D A [(ad0, ob 8 7 (vup (vup (vup (dfl tyX8) 0 (.ref qn1)) 1 (.ref qn3)) 2 (.ref qn5))), (qn1, ari (cy 0) 2001 (fun _ => 0)), (qn3, ari (cy 0) 2001 (fun _ => 0)), (qn5, ari (cy 0) 2001 (fun _ => 0)), (qn7, ari (cy 0) 2001 (fun _ => 0))] := hD7r
  clear hP7r hD7r
  clear hP6 hD6 hS6
  clear H6
  refine ob_putF (pc := 37) (v := .ref qn7) (ci := 8) (C := RX8) (T := TX8) (N := 7) hx hb hG in_X8 tyX8 tyX8_ok nmX8 hown hK hP7 hD7 hS7 0 rfl rfl 3 (by decide) (hG _ g_26) rfl rfl hin rfl rfl rfl dX8_init_37 (ws' := [(ad0, ob 8 7 (vup (vup (vup (vup (dfl tyX8) 0 (.ref qn1)) 1 (.ref qn3)) 2 (.ref qn5)) 3 (.ref qn7))), (qn1, ari (cy 0) 2001 (fun _ => 0)), (qn3, ari (cy 0) 2001 (fun _ => 0)), (qn5, ari (cy 0) 2001 (fun _ => 0)), (qn7, ari (cy 0) 2001 (fun _ => 0))]) rfl (fun H8 lo8 hP8 hD8 hS8 => ?_)
  clear hP7 hD7 hS7
  clear H7 lo6
  exact W.vret (pc := 40) hx hb hr (fun t ht hW => ⟨⟨(), rfl, trivial, _, ⟨qn1, qn3, qn5, qn7, (vup (vup (vup (vup (dfl tyX8) 0 (.ref qn1)) 1 (.ref qn3)) 2 (.ref qn5)) 3 (.ref qn7)), rfl, rfl, rfl, rfl, rfl⟩, by rw [ht]; exact hP8, hD8⟩, hS8.F ht⟩) hS8.2.2 dX8_init_40
set_option maxHeartbeats 4000000 in
set_option maxRecDepth 100000 in
/-- X1_init -/
theorem c_Describer (l : Launch) (D : va_G) (cy : Nat → ClassId) (kv : KV) (sz : Nat) (ad0 : Nat) : Met l yX1_init (Cond.code yX1_init cX1_init 1 none :: GW) ({ frames := 9, cells := 10, slots := 8811, locals := 160 } : Room) (va_Pc [.ref ad0] (pcq D cy kv sz [(ad0, ob 1 15 (dfl tyX1))])) (va_Qv (fun (_ : Unit) => True) (fun _ t => bq D (fun w => ∃ (nw900 : Nat) (nw901 : Nat) (nw902 : Nat) (nw903 : Nat) (nw904 : Nat) (nc911 : Nat → Value) (nc912 : Nat → Value), w = [(ad0, ob 1 15 nc911), (nw900, ob 8 7 nc912), (nw901, ari (cy 0) 2001 (fun _ => 0)), (nw902, ari (cy 0) 2001 (fun _ => 0)), (nw903, ari (cy 0) 2001 (fun _ => 0)), (nw904, ari (cy 0) 2001 (fun _ => 0))] ∧ nc911 0 = .ref nw900 ∧ nc911 8 = .int (-1) ∧ nc912 0 = .ref nw901 ∧ nc912 1 = .ref nw902 ∧ nc912 2 = .ref nw903 ∧ nc912 3 = .ref nw904) (va_A [(ad0, ob 1 15 (dfl tyX1))] sz) t) (va_A [(ad0, ob 1 15 (dfl tyX1))] sz)) 10 8811 (va_A [(ad0, ob 1 15 (dfl tyX1))] sz) := by
  refine Met.ofW (cc := cX1_init) (maxL := 1) (ret := none) (by decide) rfl ?_
  intro p e s m args below meth c s₁ B hml hv
  obtain ⟨rfl, hsz, hP, hK, hD0, hE⟩ := hv
  have hx := B.exec
  have hb := B.bytes
  have hr := B.returns
  have hG : ∀ w ∈ GW, w.before ([.ref ad0] : List Value).toArray s = true := fun w h => atoms_spec (ws := Cond.code yX1_init cX1_init 1 none :: GW) B.pre w (List.mem_cons_of_mem _ h)
  have hown : s.vm.findClass RX1 = some m.cls := findClass_of_methodNamed B.named
  have hlocks := B.notSynchronized
  have hin : meth.name = "<init>" := (name_of_methodNamed B.named B.method).1
  subst hsz
  have hD := hD0.self (sz := s.heap.size)
  generalize hAe : va_A [(ad0, ob 1 15 (dfl tyX1))] s.heap.size = A at hD hE ⊢
  have hA : ∀ q : Nat, s.heap.size ≤ q → A q := fun q h => by rw [← hAe]; exact Or.inr h
  have hS : va_S A s.heap s.heap [] := va_S.rf
  clear hAe hD0
  have hl0 := lv_entry ([.ref ad0]) (n := 1) (Nat.le_of_ble_eq_true rfl)
  rw [lg_entry_eq]
  generalize (lg_sl ([.ref ad0]) ++ List.replicate (1 - (lg_sl ([.ref ad0])).length) Slot.unset).toArray = ls at hl0 ⊢
  have hl : lv_has ls 1 [(0, .ref ad0)] := hl0
  clear hl0
  refine lv_aload_n (pc := 0) hx hb dX1_init_0 rfl (lv_at hl 0 rfl) ?_
  refine W.objInit hx hb hown (hG _ g_28) (hG _ g_1) (hG _ g_2) rfl (by rw [hml]; exact hl.1) rfl dX1_init_1 (Nat.le_of_ble_eq_true rfl) (Nat.le_of_ble_eq_true rfl) ?_
  refine W.eq (g2 := F0 m 4 ls []) rfl ?_
  refine lv_aload_n (pc := 4) hx hb dX1_init_4 rfl (lv_at hl 0 rfl) ?_
  refine ob_new (pc := 5) (ci := 8) (C := RX8) (T := TX8) (N := 7) (k2 := 1) (n2 := 7) hx hb hG in_X8 tyX8 tyX8_ok hown (hG _ g_29) (hG _ g_30) (hG _ g_31) hK hP hD hS hA rfl (by decide) (by decide) (Nat.le_of_ble_eq_true rfl) (Nat.le_of_ble_eq_true rfl) dX1_init_5 (fun qn1 H1 hP1r hD1r hS1 => ?_)
  have hP1 : va_P D classes [(ad0, ob 1 15 (dfl tyX1)), (qn1, ob 8 7 (dfl tyX8))] H1 := hP1r
  have hD1 : va_D A [(ad0, ob 1 15 (dfl tyX1)), (qn1, ob 8 7 (dfl tyX8))] := hD1r
  clear hP1r hD1r
  clear hP hD hS
  refine lv_dup (pc := 8) hx hb dX1_init_8 rfl ?_
  refine cq_v (pc := 9) (wr := [(ad0, ob 1 15 (dfl tyX1))]) (k2 := 5) (n2 := 8011) (va_runIN (As := []) (rest := [.ref qn1, .ref ad0]) ⟨hx, hb, hml, hown, hG⟩ (c_Scanner l D cy kv H1.size qn1) ⟨va_cnB 0 hG (gi_c g_27) rfl rfl rfl (nw_at hE n_0) (hG _ g_31) (by decide +kernel) ⟨Nat.le_of_ble_eq_true rfl, Nat.le_of_ble_eq_true rfl⟩, rfl, hG _ g_32⟩ ⟨pq_blind, (pq_pass hP1 hD1 hK hE hS1 hA [1] rfl (by decide))⟩ rfl rfl hl.1 rfl (lv_room (Nat.le_of_ble_eq_true rfl)) dX1_init_9 ⟨Nat.le_of_ble_eq_true rfl, Nat.le_of_ble_eq_true rfl⟩) hP1 hD1 hS1 hA [1] [0] rfl rfl (by decide) (by decide) (by decide) (by decide) (fun w2 H2 lo2 hR2 hP2r hD2r hS2 => ?_)
  obtain ⟨qn2_0, qn2_1, qn2_2, qn2_3, nc2004, rfl, hf2_0, hf2_1, hf2_2, hf2_3⟩ := hR2
  have hP2 : va_P D classes [(ad0, ob 1 15 (dfl tyX1)), (qn1, ob 8 7 nc2004), (qn2_0, ari (cy 0) 2001 (fun _ => 0)), (qn2_1, ari (cy 0) 2001 (fun _ => 0)), (qn2_2, ari (cy 0) 2001 (fun _ => 0)), (qn2_3, ari (cy 0) 2001 (fun _ => 0))] H2 := hP2r
  have hD2 : va_D A [(ad0, ob 1 15 (dfl tyX1)), (qn1, ob 8 7 nc2004), (qn2_0, ari (cy 0) 2001 (fun _ => 0)), (qn2_1, ari (cy 0) 2001 (fun _ => 0)), (qn2_2, ari (cy 0) 2001 (fun _ => 0)), (qn2_3, ari (cy 0) 2001 (fun _ => 0))] := hD2r
  clear hP2r hD2r
  clear hP1 hD1 hS1
  clear H1
  refine ob_putF (pc := 12) (v := .ref qn1) (ci := 1) (C := RX1) (T := TX1) (N := 15) hx hb hG in_X1 tyX1 tyX1_ok nmX1 hown hK hP2 hD2 hS2 0 rfl rfl 0 (by decide) (hG _ g_33) rfl rfl hin rfl rfl rfl dX1_init_12 (ws' := [(ad0, ob 1 15 (vup (dfl tyX1) 0 (.ref qn1))), (qn1, ob 8 7 nc2004), (qn2_0, ari (cy 0) 2001 (fun _ => 0)), (qn2_1, ari (cy 0) 2001 (fun _ => 0)), (qn2_2, ari (cy 0) 2001 (fun _ => 0)), (qn2_3, ari (cy 0) 2001 (fun _ => 0))]) rfl (fun H3 lo3 hP3 hD3 hS3 => ?_)
  clear hP2 hD2 hS2
  clear H2 lo2
  refine lv_aload_n (pc := 15) hx hb dX1_init_15 rfl (lv_at hl 0 rfl) ?_
  refine lv_iconst (pc := 16) (v := 0) hx hb dX1_init_16 (by decide) ?_
  refine ob_put (pc := 17) (v := .int 0) (ci := 1) (C := RX1) (T := TX1) (N := 15) hx hb hG in_X1 tyX1 tyX1_ok nmX1 hown hK hP3 hD3 hS3 0 rfl rfl 7 (by decide) (hG _ g_34) rfl rfl rfl rfl dX1_init_17 (ws' := [(ad0, ob 1 15 (vup (vup (dfl tyX1) 0 (.ref qn1)) 7 (.int 0))), (qn1, ob 8 7 nc2004), (qn2_0, ari (cy 0) 2001 (fun _ => 0)), (qn2_1, ari (cy 0) 2001 (fun _ => 0)), (qn2_2, ari (cy 0) 2001 (fun _ => 0)), (qn2_3, ari (cy 0) 2001 (fun _ => 0))]) rfl (fun H4 lo4 hP4 hD4 hS4 => ?_)
  clear hP3 hD3 hS3
  clear H3 lo3
  refine lv_aload_n (pc := 20) hx hb dX1_init_20 rfl (lv_at hl 0 rfl) ?_
  refine lv_iconst (pc := 21) (v := (-1)) hx hb dX1_init_21 (by decide) ?_
  refine ob_put (pc := 22) (v := .int (-1)) (ci := 1) (C := RX1) (T := TX1) (N := 15) hx hb hG in_X1 tyX1 tyX1_ok nmX1 hown hK hP4 hD4 hS4 0 rfl rfl 8 (by decide) (hG _ g_35) rfl rfl rfl rfl dX1_init_22 (ws' := [(ad0, ob 1 15 (vup (vup (vup (dfl tyX1) 0 (.ref qn1)) 7 (.int 0)) 8 (.int (-1)))), (qn1, ob 8 7 nc2004), (qn2_0, ari (cy 0) 2001 (fun _ => 0)), (qn2_1, ari (cy 0) 2001 (fun _ => 0)), (qn2_2, ari (cy 0) 2001 (fun _ => 0)), (qn2_3, ari (cy 0) 2001 (fun _ => 0))]) rfl (fun H5 lo5 hP5 hD5 hS5 => ?_)
  clear hP4 hD4 hS4
  clear H4 lo4
  refine lv_aload_n (pc := 25) hx hb dX1_init_25 rfl (lv_at hl 0 rfl) ?_
  refine lv_sipush (pc := 26) (v := 160) hx hb dX1_init_26 (by decide) ?_
  refine aq_new (pc := 29) (N' := 160) (C := RX9) (k2 := 6) (n2 := 8171) hx hb hown (hG _ g_36) (hE.2.1 _ (by decide +kernel)) hK hP5 hD5 hS5 hA 8 rfl (by decide) (by decide) (by decide) (by decide) (by decide) (Nat.le_of_ble_eq_true rfl) (Nat.le_of_ble_eq_true rfl) dX1_init_29 (fun qn6 H6 hP6r hD6r hS6 => ?_)
  have hP6 : va_P D classes [(ad0, ob 1 15 (vup (vup (vup (dfl tyX1) 0 (.ref qn1)) 7 (.int 0)) 8 (.int (-1)))), (qn1, ob 8 7 nc2004), (qn2_0, ari (cy 0) 2001 (fun _ => 0)), (qn2_1, ari (cy 0) 2001 (fun _ => 0)), (qn2_2, ari (cy 0) 2001 (fun _ => 0)), (qn2_3, ari (cy 0) 2001 (fun _ => 0)), (qn6, arq (cy 8) 160 (fun _ => none))] H6 := hP6r
  have hD6 : va_D A [(ad0, ob 1 15 (vup (vup (vup (dfl tyX1) 0 (.ref qn1)) 7 (.int 0)) 8 (.int (-1)))), (qn1, ob 8 7 nc2004), (qn2_0, ari (cy 0) 2001 (fun _ => 0)), (qn2_1, ari (cy 0) 2001 (fun _ => 0)), (qn2_2, ari (cy 0) 2001 (fun _ => 0)), (qn2_3, ari (cy 0) 2001 (fun _ => 0)), (qn6, arq (cy 8) 160 (fun _ => none))] := hD6r
  clear hP6r hD6r
  clear hP5 hD5 hS5
  clear H5
  refine ob_putF (pc := 32) (v := .ref qn6) (ci := 1) (C := RX1) (T := TX1) (N := 15) hx hb hG in_X1 tyX1 tyX1_ok nmX1 hown hK hP6 hD6 hS6 0 rfl rfl 9 (by decide) (hG _ g_37) rfl rfl hin rfl rfl rfl dX1_init_32 (ws' := [(ad0, ob 1 15 (vup (vup (vup (vup (dfl tyX1) 0 (.ref qn1)) 7 (.int 0)) 8 (.int (-1))) 9 (.ref qn6))), (qn1, ob 8 7 nc2004), (qn2_0, ari (cy 0) 2001 (fun _ => 0)), (qn2_1, ari (cy 0) 2001 (fun _ => 0)), (qn2_2, ari (cy 0) 2001 (fun _ => 0)), (qn2_3, ari (cy 0) 2001 (fun _ => 0)), (qn6, arq (cy 8) 160 (fun _ => none))]) rfl (fun H7 lo7 hP7 hD7 hS7 => ?_)
  clear hP6 hD6 hS6
  clear H6 lo5
  refine lv_aload_n (pc := 35) hx hb dX1_init_35 rfl (lv_at hl 0 rfl) ?_
  refine lv_sipush (pc := 36) (v := 160) hx hb dX1_init_36 (by decide) ?_
  refine ar_new (pc := 39) (atype := .int) (N' := 160) (ty := .int) (a0 := (160, .inl (fun _ => 0))) (k2 := 7) (n2 := 8331) hx hb (hG _ g_22) rfl hK hP7 hD7 hS7 hA 0 rfl (fun _ => rfl) (by decide) (by decide) (by decide) (by decide) (by decide) (Nat.le_of_ble_eq_true rfl) (Nat.le_of_ble_eq_true rfl) dX1_init_39 (fun qn8 H8 hP8r hD8r hS8 => ?_)
  have hP8 : va_P D classes [(ad0, ob 1 15 (vup (vup (vup (vup (dfl tyX1) 0 (.ref qn1)) 7 (.int 0)) 8 (.int (-1))) 9 (.ref qn6))), (qn1, ob 8 7 nc2004), (qn2_0, ari (cy 0) 2001 (fun _ => 0)), (qn2_1, ari (cy 0) 2001 (fun _ => 0)), (qn2_2, ari (cy 0) 2001 (fun _ => 0)), (qn2_3, ari (cy 0) 2001 (fun _ => 0)), (qn6, arq (cy 8) 160 (fun _ => none)), (qn8, ari (cy 0) 160 (fun _ => 0))] H8 := hP8r
  have hD8 : va_D A [(ad0, ob 1 15 (vup (vup (vup (vup (dfl tyX1) 0 (.ref qn1)) 7 (.int 0)) 8 (.int (-1))) 9 (.ref qn6))), (qn1, ob 8 7 nc2004), (qn2_0, ari (cy 0) 2001 (fun _ => 0)), (qn2_1, ari (cy 0) 2001 (fun _ => 0)), (qn2_2, ari (cy 0) 2001 (fun _ => 0)), (qn2_3, ari (cy 0) 2001 (fun _ => 0)), (qn6, arq (cy 8) 160 (fun _ => none)), (qn8, ari (cy 0) 160 (fun _ => 0))] := hD8r
  clear hP8r hD8r
  clear hP7 hD7 hS7
  clear H7
  refine ob_putF (pc := 41) (v := .ref qn8) (ci := 1) (C := RX1) (T := TX1) (N := 15) hx hb hG in_X1 tyX1 tyX1_ok nmX1 hown hK hP8 hD8 hS8 0 rfl rfl 10 (by decide) (hG _ g_38) rfl rfl hin rfl rfl rfl dX1_init_41 (ws' := [(ad0, ob 1 15 (vup (vup (vup (vup (vup (dfl tyX1) 0 (.ref qn1)) 7 (.int 0)) 8 (.int (-1))) 9 (.ref qn6)) 10 (.ref qn8))), (qn1, ob 8 7 nc2004), (qn2_0, ari (cy 0) 2001 (fun _ => 0)), (qn2_1, ari (cy 0) 2001 (fun _ => 0)), (qn2_2, ari (cy 0) 2001 (fun _ => 0)), (qn2_3, ari (cy 0) 2001 (fun _ => 0)), (qn6, arq (cy 8) 160 (fun _ => none)), (qn8, ari (cy 0) 160 (fun _ => 0))]) rfl (fun H9 lo9 hP9 hD9 hS9 => ?_)
  clear hP8 hD8 hS8
  clear H8 lo7
  refine lv_aload_n (pc := 44) hx hb dX1_init_44 rfl (lv_at hl 0 rfl) ?_
  refine lv_sipush (pc := 45) (v := 160) hx hb dX1_init_45 (by decide) ?_
  refine ar_new (pc := 48) (atype := .int) (N' := 160) (ty := .int) (a0 := (160, .inl (fun _ => 0))) (k2 := 8) (n2 := 8491) hx hb (hG _ g_22) rfl hK hP9 hD9 hS9 hA 0 rfl (fun _ => rfl) (by decide) (by decide) (by decide) (by decide) (by decide) (Nat.le_of_ble_eq_true rfl) (Nat.le_of_ble_eq_true rfl) dX1_init_48 (fun qn10 H10 hP10r hD10r hS10 => ?_)
  have hP10 : va_P D classes [(ad0, ob 1 15 (vup (vup (vup (vup (vup (dfl tyX1) 0 (.ref qn1)) 7 (.int 0)) 8 (.int (-1))) 9 (.ref qn6)) 10 (.ref qn8))), (qn1, ob 8 7 nc2004), (qn2_0, ari (cy 0) 2001 (fun _ => 0)), (qn2_1, ari (cy 0) 2001 (fun _ => 0)), (qn2_2, ari (cy 0) 2001 (fun _ => 0)), (qn2_3, ari (cy 0) 2001 (fun _ => 0)), (qn6, arq (cy 8) 160 (fun _ => none)), (qn8, ari (cy 0) 160 (fun _ => 0)), (qn10, ari (cy 0) 160 (fun _ => 0))] H10 := hP10r
  have hD10 : va_D A [(ad0, ob 1 15 (vup (vup (vup (vup (vup (dfl tyX1) 0 (.ref qn1)) 7 (.int 0)) 8 (.int (-1))) 9 (.ref qn6)) 10 (.ref qn8))), (qn1, ob 8 7 nc2004), (qn2_0, ari (cy 0) 2001 (fun _ => 0)), (qn2_1, ari (cy 0) 2001 (fun _ => 0)), (qn2_2, ari (cy 0) 2001 (fun _ => 0)), (qn2_3, ari (cy 0) 2001 (fun _ => 0)), (qn6, arq (cy 8) 160 (fun _ => none)), (qn8, ari (cy 0) 160 (fun _ => 0)), (qn10, ari (cy 0) 160 (fun _ => 0))] := hD10r
  clear hP10r hD10r
  clear hP9 hD9 hS9
  clear H9
  refine ob_putF (pc := 50) (v := .ref qn10) (ci := 1) (C := RX1) (T := TX1) (N := 15) hx hb hG in_X1 tyX1 tyX1_ok nmX1 hown hK hP10 hD10 hS10 0 rfl rfl 11 (by decide) (hG _ g_39) rfl rfl hin rfl rfl rfl dX1_init_50 (ws' := [(ad0, ob 1 15 (vup (vup (vup (vup (vup (vup (dfl tyX1) 0 (.ref qn1)) 7 (.int 0)) 8 (.int (-1))) 9 (.ref qn6)) 10 (.ref qn8)) 11 (.ref qn10))), (qn1, ob 8 7 nc2004), (qn2_0, ari (cy 0) 2001 (fun _ => 0)), (qn2_1, ari (cy 0) 2001 (fun _ => 0)), (qn2_2, ari (cy 0) 2001 (fun _ => 0)), (qn2_3, ari (cy 0) 2001 (fun _ => 0)), (qn6, arq (cy 8) 160 (fun _ => none)), (qn8, ari (cy 0) 160 (fun _ => 0)), (qn10, ari (cy 0) 160 (fun _ => 0))]) rfl (fun H11 lo11 hP11 hD11 hS11 => ?_)
  clear hP10 hD10 hS10
  clear H10 lo9
  refine lv_aload_n (pc := 53) hx hb dX1_init_53 rfl (lv_at hl 0 rfl) ?_
  refine lv_sipush (pc := 54) (v := 160) hx hb dX1_init_54 (by decide) ?_
  refine ar_new (pc := 57) (atype := .int) (N' := 160) (ty := .int) (a0 := (160, .inl (fun _ => 0))) (k2 := 9) (n2 := 8651) hx hb (hG _ g_22) rfl hK hP11 hD11 hS11 hA 0 rfl (fun _ => rfl) (by decide) (by decide) (by decide) (by decide) (by decide) (Nat.le_of_ble_eq_true rfl) (Nat.le_of_ble_eq_true rfl) dX1_init_57 (fun qn12 H12 hP12r hD12r hS12 => ?_)
  have hP12 : va_P D classes [(ad0, ob 1 15 (vup (vup (vup (vup (vup (vup (dfl tyX1) 0 (.ref qn1)) 7 (.int 0)) 8 (.int (-1))) 9 (.ref qn6)) 10 (.ref qn8)) 11 (.ref qn10))), (qn1, ob 8 7 nc2004), (qn2_0, ari (cy 0) 2001 (fun _ => 0)), (qn2_1, ari (cy 0) 2001 (fun _ => 0)), (qn2_2, ari (cy 0) 2001 (fun _ => 0)), (qn2_3, ari (cy 0) 2001 (fun _ => 0)), (qn6, arq (cy 8) 160 (fun _ => none)), (qn8, ari (cy 0) 160 (fun _ => 0)), (qn10, ari (cy 0) 160 (fun _ => 0)), (qn12, ari (cy 0) 160 (fun _ => 0))] H12 := hP12r
  have hD12 : va_D A [(ad0, ob 1 15 (vup (vup (vup (vup (vup (vup (dfl tyX1) 0 (.ref qn1)) 7 (.int 0)) 8 (.int (-1))) 9 (.ref qn6)) 10 (.ref qn8)) 11 (.ref qn10))), (qn1, ob 8 7 nc2004), (qn2_0, ari (cy 0) 2001 (fun _ => 0)), (qn2_1, ari (cy 0) 2001 (fun _ => 0)), (qn2_2, ari (cy 0) 2001 (fun _ => 0)), (qn2_3, ari (cy 0) 2001 (fun _ => 0)), (qn6, arq (cy 8) 160 (fun _ => none)), (qn8, ari (cy 0) 160 (fun _ => 0)), (qn10, ari (cy 0) 160 (fun _ => 0)), (qn12, ari (cy 0) 160 (fun _ => 0))] := hD12r
  clear hP12r hD12r
  clear hP11 hD11 hS11
  clear H11
  refine ob_putF (pc := 59) (v := .ref qn12) (ci := 1) (C := RX1) (T := TX1) (N := 15) hx hb hG in_X1 tyX1 tyX1_ok nmX1 hown hK hP12 hD12 hS12 0 rfl rfl 12 (by decide) (hG _ g_40) rfl rfl hin rfl rfl rfl dX1_init_59 (ws' := [(ad0, ob 1 15 (vup (vup (vup (vup (vup (vup (vup (dfl tyX1) 0 (.ref qn1)) 7 (.int 0)) 8 (.int (-1))) 9 (.ref qn6)) 10 (.ref qn8)) 11 (.ref qn10)) 12 (.ref qn12))), (qn1, ob 8 7 nc2004), (qn2_0, ari (cy 0) 2001 (fun _ => 0)), (qn2_1, ari (cy 0) 2001 (fun _ => 0)), (qn2_2, ari (cy 0) 2001 (fun _ => 0)), (qn2_3, ari (cy 0) 2001 (fun _ => 0)), (qn6, arq (cy 8) 160 (fun _ => none)), (qn8, ari (cy 0) 160 (fun _ => 0)), (qn10, ari (cy 0) 160 (fun _ => 0)), (qn12, ari (cy 0) 160 (fun _ => 0))]) rfl (fun H13 lo13 hP13 hD13 hS13 => ?_)
  clear hP12 hD12 hS12
  clear H12 lo11
  refine lv_aload_n (pc := 62) hx hb dX1_init_62 rfl (lv_at hl 0 rfl) ?_
  refine lv_sipush (pc := 63) (v := 160) hx hb dX1_init_63 (by decide) ?_
  refine ar_new (pc := 66) (atype := .int) (N' := 160) (ty := .int) (a0 := (160, .inl (fun _ => 0))) (k2 := 10) (n2 := 8811) hx hb (hG _ g_22) rfl hK hP13 hD13 hS13 hA 0 rfl (fun _ => rfl) (by decide) (by decide) (by decide) (by decide) (by decide) (Nat.le_of_ble_eq_true rfl) (Nat.le_of_ble_eq_true rfl) dX1_init_66 (fun qn14 H14 hP14r hD14r hS14 => ?_)
  have hP14 : va_P D classes [(ad0, ob 1 15 (vup (vup (vup (vup (vup (vup (vup (dfl tyX1) 0 (.ref qn1)) 7 (.int 0)) 8 (.int (-1))) 9 (.ref qn6)) 10 (.ref qn8)) 11 (.ref qn10)) 12 (.ref qn12))), (qn1, ob 8 7 nc2004), (qn2_0, ari (cy 0) 2001 (fun _ => 0)), (qn2_1, ari (cy 0) 2001 (fun _ => 0)), (qn2_2, ari (cy 0) 2001 (fun _ => 0)), (qn2_3, ari (cy 0) 2001 (fun _ => 0)), (qn6, arq (cy 8) 160 (fun _ => none)), (qn8, ari (cy 0) 160 (fun _ => 0)), (qn10, ari (cy 0) 160 (fun _ => 0)), (qn12, ari (cy 0) 160 (fun _ => 0)), (qn14, ari (cy 0) 160 (fun _ => 0))] H14 := hP14r
  have hD14 : va_D A [(ad0, ob 1 15 (vup (vup (vup (vup (vup (vup (vup (dfl tyX1) 0 (.ref qn1)) 7 (.int 0)) 8 (.int (-1))) 9 (.ref qn6)) 10 (.ref qn8)) 11 (.ref qn10)) 12 (.ref qn12))), (qn1, ob 8 7 nc2004), (qn2_0, ari (cy 0) 2001 (fun _ => 0)), (qn2_1, ari (cy 0) 2001 (fun _ => 0)), (qn2_2, ari (cy 0) 2001 (fun _ => 0)), (qn2_3, ari (cy 0) 2001 (fun _ => 0)), (qn6, arq (cy 8) 160 (fun _ => none)), (qn8, ari (cy 0) 160 (fun _ => 0)), (qn10, ari (cy 0) 160 (fun _ => 0)), (qn12, ari (cy 0) 160 (fun _ => 0)), (qn14, ari (cy 0) 160 (fun _ => 0))] := hD14r
  clear hP14r hD14r
  clear hP13 hD13 hS13
  clear H13
  refine ob_putF (pc := 68) (v := .ref qn14) (ci := 1) (C := RX1) (T := TX1) (N := 15) hx hb hG in_X1 tyX1 tyX1_ok nmX1 hown hK hP14 hD14 hS14 0 rfl rfl 13 (by decide) (hG _ g_41) rfl rfl hin rfl rfl rfl dX1_init_68 (ws' := [(ad0, ob 1 15 (vup (vup (vup (vup (vup (vup (vup (vup (dfl tyX1) 0 (.ref qn1)) 7 (.int 0)) 8 (.int (-1))) 9 (.ref qn6)) 10 (.ref qn8)) 11 (.ref qn10)) 12 (.ref qn12)) 13 (.ref qn14))), (qn1, ob 8 7 nc2004), (qn2_0, ari (cy 0) 2001 (fun _ => 0)), (qn2_1, ari (cy 0) 2001 (fun _ => 0)), (qn2_2, ari (cy 0) 2001 (fun _ => 0)), (qn2_3, ari (cy 0) 2001 (fun _ => 0)), (qn6, arq (cy 8) 160 (fun _ => none)), (qn8, ari (cy 0) 160 (fun _ => 0)), (qn10, ari (cy 0) 160 (fun _ => 0)), (qn12, ari (cy 0) 160 (fun _ => 0)), (qn14, ari (cy 0) 160 (fun _ => 0))]) rfl (fun H15 lo15 hP15 hD15 hS15 => ?_)
  clear hP14 hD14 hS14
  clear H14 lo13
  have hP99 := hP15.sub (ws' := [(ad0, ob 1 15 (vup (vup (vup (vup (vup (vup (vup (vup (dfl tyX1) 0 (.ref qn1)) 7 (.int 0)) 8 (.int (-1))) 9 (.ref qn6)) 10 (.ref qn8)) 11 (.ref qn10)) 12 (.ref qn12)) 13 (.ref qn14))), (qn1, ob 8 7 nc2004), (qn2_0, ari (cy 0) 2001 (fun _ => 0)), (qn2_1, ari (cy 0) 2001 (fun _ => 0)), (qn2_2, ari (cy 0) 2001 (fun _ => 0)), (qn2_3, ari (cy 0) 2001 (fun _ => 0))]) [0, 1, 2, 3, 4, 5] rfl
  have hD99 := hD15.sub (ws' := [(ad0, ob 1 15 (vup (vup (vup (vup (vup (vup (vup (vup (dfl tyX1) 0 (.ref qn1)) 7 (.int 0)) 8 (.int (-1))) 9 (.ref qn6)) 10 (.ref qn8)) 11 (.ref qn10)) 12 (.ref qn12)) 13 (.ref qn14))), (qn1, ob 8 7 nc2004), (qn2_0, ari (cy 0) 2001 (fun _ => 0)), (qn2_1, ari (cy 0) 2001 (fun _ => 0)), (qn2_2, ari (cy 0) 2001 (fun _ => 0)), (qn2_3, ari (cy 0) 2001 (fun _ => 0))]) [0, 1, 2, 3, 4, 5] (by decide) rfl
  exact W.vret (pc := 71) hx hb hr (fun t ht hW => ⟨⟨(), rfl, trivial, _, ⟨qn1, qn2_0, qn2_1, qn2_2, qn2_3, (vup (vup (vup (vup (vup (vup (vup (vup (dfl tyX1) 0 (.ref qn1)) 7 (.int 0)) 8 (.int (-1))) 9 (.ref qn6)) 10 (.ref qn8)) 11 (.ref qn10)) 12 (.ref qn12)) 13 (.ref qn14)), (nc2004), rfl, rfl, rfl, hf2_0, hf2_1, hf2_2, hf2_3⟩, by rw [ht]; exact hP99, hD99⟩, hS15.F ht⟩) hS15.2.2 dX1_init_71
set_option maxHeartbeats 4000000 in
set_option maxRecDepth 100000 in
/-- X3_init -/
theorem c_Line (l : Launch) (D : va_G) (cy : Nat → ClassId) (kv : KV) (sz : Nat) (ad0 : Nat) : Met l yX3_init (Cond.code yX3_init cX3_init 1 none :: GW) ({ frames := 8, cells := 2, slots := 100, locals := 120 } : Room) (va_Pc [.ref ad0] (pcq D cy kv sz [(ad0, ob 3 16 (dfl tyX3))])) (va_Qv (fun (_ : Unit) => True) (fun _ t => bq D (fun w => ∃ (nw901 : Nat) (nc902 : Nat → Value), w = [(ad0, ob 3 16 nc902), (nw901, ari (cy 1) 40 (fun _ => 0))] ∧ nc902 1 = .int 0 ∧ nc902 2 = .int 0 ∧ nc902 3 = .int 0 ∧ nc902 4 = .int 0 ∧ nc902 14 = .ref nw901) (va_A [(ad0, ob 3 16 (dfl tyX3))] sz) t) (va_A [(ad0, ob 3 16 (dfl tyX3))] sz)) 2 100 (va_A [(ad0, ob 3 16 (dfl tyX3))] sz) := by
  refine Met.ofW (cc := cX3_init) (maxL := 1) (ret := none) (by decide) rfl ?_
  intro p e s m args below meth c s₁ B hml hv
  obtain ⟨rfl, hsz, hP, hK, hD0, hE⟩ := hv
  have hx := B.exec
  have hb := B.bytes
  have hr := B.returns
  have hG : ∀ w ∈ GW, w.before ([.ref ad0] : List Value).toArray s = true := fun w h => atoms_spec (ws := Cond.code yX3_init cX3_init 1 none :: GW) B.pre w (List.mem_cons_of_mem _ h)
  have hown : s.vm.findClass RX3 = some m.cls := findClass_of_methodNamed B.named
  have hlocks := B.notSynchronized
  have hin : meth.name = "<init>" := (name_of_methodNamed B.named B.method).1
  subst hsz
  have hD := hD0.self (sz := s.heap.size)
  generalize hAe : va_A [(ad0, ob 3 16 (dfl tyX3))] s.heap.size = A at hD hE ⊢
  have hA : ∀ q : Nat, s.heap.size ≤ q → A q := fun q h => by rw [← hAe]; exact Or.inr h
  have hS : va_S A s.heap s.heap [] := va_S.rf
  clear hAe hD0
  have hl0 := lv_entry ([.ref ad0]) (n := 1) (Nat.le_of_ble_eq_true rfl)
  rw [lg_entry_eq]
  generalize (lg_sl ([.ref ad0]) ++ List.replicate (1 - (lg_sl ([.ref ad0])).length) Slot.unset).toArray = ls at hl0 ⊢
  have hl : lv_has ls 1 [(0, .ref ad0)] := hl0
  clear hl0
  refine lv_aload_n (pc := 0) hx hb dX3_init_0 rfl (lv_at hl 0 rfl) ?_
  refine W.objInit hx hb hown (hG _ g_43) (hG _ g_1) (hG _ g_2) rfl (by rw [hml]; exact hl.1) rfl dX3_init_1 (Nat.le_of_ble_eq_true rfl) (Nat.le_of_ble_eq_true rfl) ?_
  refine W.eq (g2 := F0 m 4 ls []) rfl ?_
  refine lv_aload_n (pc := 4) hx hb dX3_init_4 rfl (lv_at hl 0 rfl) ?_
  refine lv_bipush (pc := 5) (v := 60) hx hb dX3_init_5 (by decide) ?_
  refine aq_new (pc := 7) (N' := 60) (C := RX9) (k2 := 1) (n2 := 60) hx hb hown (hG _ g_44) (hE.2.1 _ (by decide +kernel)) hK hP hD hS hA 8 rfl (by decide) (by decide) (by decide) (by decide) (by decide) (Nat.le_of_ble_eq_true rfl) (Nat.le_of_ble_eq_true rfl) dX3_init_7 (fun qn1 H1 hP1r hD1r hS1 => ?_)
  have hP1 : va_P D classes [(ad0, ob 3 16 (dfl tyX3)), (qn1, arq (cy 8) 60 (fun _ => none))] H1 := hP1r
  have hD1 : va_D A [(ad0, ob 3 16 (dfl tyX3)), (qn1, arq (cy 8) 60 (fun _ => none))] := hD1r
  clear hP1r hD1r
  clear hP hD hS
  refine ob_putF (pc := 10) (v := .ref qn1) (ci := 3) (C := RX3) (T := TX3) (N := 16) hx hb hG in_X3 tyX3 tyX3_ok nmX3 hown hK hP1 hD1 hS1 0 rfl rfl 0 (by decide) (hG _ g_45) rfl rfl hin rfl rfl rfl dX3_init_10 (ws' := [(ad0, ob 3 16 (vup (dfl tyX3) 0 (.ref qn1))), (qn1, arq (cy 8) 60 (fun _ => none))]) rfl (fun H2 lo2 hP2 hD2 hS2 => ?_)
  clear hP1 hD1 hS1
  clear H1
  refine lv_aload_n (pc := 13) hx hb dX3_init_13 rfl (lv_at hl 0 rfl) ?_
  refine lv_iconst (pc := 14) (v := 0) hx hb dX3_init_14 (by decide) ?_
  refine ob_put (pc := 15) (v := .int 0) (ci := 3) (C := RX3) (T := TX3) (N := 16) hx hb hG in_X3 tyX3 tyX3_ok nmX3 hown hK hP2 hD2 hS2 0 rfl rfl 1 (by decide) (hG _ g_46) rfl rfl rfl rfl dX3_init_15 (ws' := [(ad0, ob 3 16 (vup (vup (dfl tyX3) 0 (.ref qn1)) 1 (.int 0))), (qn1, arq (cy 8) 60 (fun _ => none))]) rfl (fun H3 lo3 hP3 hD3 hS3 => ?_)
  clear hP2 hD2 hS2
  clear H2 lo2
  refine lv_aload_n (pc := 18) hx hb dX3_init_18 rfl (lv_at hl 0 rfl) ?_
  refine lv_iconst (pc := 19) (v := 0) hx hb dX3_init_19 (by decide) ?_
  refine ob_put (pc := 20) (v := .int 0) (ci := 3) (C := RX3) (T := TX3) (N := 16) hx hb hG in_X3 tyX3 tyX3_ok nmX3 hown hK hP3 hD3 hS3 0 rfl rfl 2 (by decide) (hG _ g_47) rfl rfl rfl rfl dX3_init_20 (ws' := [(ad0, ob 3 16 (vup (vup (vup (dfl tyX3) 0 (.ref qn1)) 1 (.int 0)) 2 (.int 0))), (qn1, arq (cy 8) 60 (fun _ => none))]) rfl (fun H4 lo4 hP4 hD4 hS4 => ?_)
  clear hP3 hD3 hS3
  clear H3 lo3
  refine lv_aload_n (pc := 23) hx hb dX3_init_23 rfl (lv_at hl 0 rfl) ?_
  refine lv_iconst (pc := 24) (v := 0) hx hb dX3_init_24 (by decide) ?_
  refine ob_put (pc := 25) (v := .int 0) (ci := 3) (C := RX3) (T := TX3) (N := 16) hx hb hG in_X3 tyX3 tyX3_ok nmX3 hown hK hP4 hD4 hS4 0 rfl rfl 3 (by decide) (hG _ g_48) rfl rfl rfl rfl dX3_init_25 (ws' := [(ad0, ob 3 16 (vup (vup (vup (vup (dfl tyX3) 0 (.ref qn1)) 1 (.int 0)) 2 (.int 0)) 3 (.int 0))), (qn1, arq (cy 8) 60 (fun _ => none))]) rfl (fun H5 lo5 hP5 hD5 hS5 => ?_)
  clear hP4 hD4 hS4
  clear H4 lo4
  refine lv_aload_n (pc := 28) hx hb dX3_init_28 rfl (lv_at hl 0 rfl) ?_
  refine lv_iconst (pc := 29) (v := 0) hx hb dX3_init_29 (by decide) ?_
  refine ob_put (pc := 30) (v := .int 0) (ci := 3) (C := RX3) (T := TX3) (N := 16) hx hb hG in_X3 tyX3 tyX3_ok nmX3 hown hK hP5 hD5 hS5 0 rfl rfl 4 (by decide) (hG _ g_49) rfl rfl rfl rfl dX3_init_30 (ws' := [(ad0, ob 3 16 (vup (vup (vup (vup (vup (dfl tyX3) 0 (.ref qn1)) 1 (.int 0)) 2 (.int 0)) 3 (.int 0)) 4 (.int 0))), (qn1, arq (cy 8) 60 (fun _ => none))]) rfl (fun H6 lo6 hP6 hD6 hS6 => ?_)
  clear hP5 hD5 hS5
  clear H5 lo5
  refine lv_aload_n (pc := 33) hx hb dX3_init_33 rfl (lv_at hl 0 rfl) ?_
  refine lv_iconst (pc := 34) (v := (-1)) hx hb dX3_init_34 (by decide) ?_
  refine ob_put (pc := 35) (v := .int (-1)) (ci := 3) (C := RX3) (T := TX3) (N := 16) hx hb hG in_X3 tyX3 tyX3_ok nmX3 hown hK hP6 hD6 hS6 0 rfl rfl 5 (by decide) (hG _ g_50) rfl rfl rfl rfl dX3_init_35 (ws' := [(ad0, ob 3 16 (vup (vup (vup (vup (vup (vup (dfl tyX3) 0 (.ref qn1)) 1 (.int 0)) 2 (.int 0)) 3 (.int 0)) 4 (.int 0)) 5 (.int (-1)))), (qn1, arq (cy 8) 60 (fun _ => none))]) rfl (fun H7 lo7 hP7 hD7 hS7 => ?_)
  clear hP6 hD6 hS6
  clear H6 lo6
  refine lv_aload_n (pc := 38) hx hb dX3_init_38 rfl (lv_at hl 0 rfl) ?_
  refine lv_iconst (pc := 39) (v := 0) hx hb dX3_init_39 (by decide) ?_
  refine ob_put (pc := 40) (v := .int 0) (ci := 3) (C := RX3) (T := TX3) (N := 16) hx hb hG in_X3 tyX3 tyX3_ok nmX3 hown hK hP7 hD7 hS7 0 rfl rfl 6 (by decide) (hG _ g_51) rfl rfl rfl rfl dX3_init_40 (ws' := [(ad0, ob 3 16 (vup (vup (vup (vup (vup (vup (vup (dfl tyX3) 0 (.ref qn1)) 1 (.int 0)) 2 (.int 0)) 3 (.int 0)) 4 (.int 0)) 5 (.int (-1))) 6 (.int 0))), (qn1, arq (cy 8) 60 (fun _ => none))]) rfl (fun H8 lo8 hP8 hD8 hS8 => ?_)
  clear hP7 hD7 hS7
  clear H7 lo7
  refine lv_aload_n (pc := 43) hx hb dX3_init_43 rfl (lv_at hl 0 rfl) ?_
  refine lv_iconst (pc := 44) (v := (-1)) hx hb dX3_init_44 (by decide) ?_
  refine ob_put (pc := 45) (v := .int (-1)) (ci := 3) (C := RX3) (T := TX3) (N := 16) hx hb hG in_X3 tyX3 tyX3_ok nmX3 hown hK hP8 hD8 hS8 0 rfl rfl 7 (by decide) (hG _ g_52) rfl rfl rfl rfl dX3_init_45 (ws' := [(ad0, ob 3 16 (vup (vup (vup (vup (vup (vup (vup (vup (dfl tyX3) 0 (.ref qn1)) 1 (.int 0)) 2 (.int 0)) 3 (.int 0)) 4 (.int 0)) 5 (.int (-1))) 6 (.int 0)) 7 (.int (-1)))), (qn1, arq (cy 8) 60 (fun _ => none))]) rfl (fun H9 lo9 hP9 hD9 hS9 => ?_)
  clear hP8 hD8 hS8
  clear H8 lo8
  refine lv_aload_n (pc := 48) hx hb dX3_init_48 rfl (lv_at hl 0 rfl) ?_
  refine lv_iconst (pc := 49) (v := (-1)) hx hb dX3_init_49 (by decide) ?_
  refine ob_put (pc := 50) (v := .int (-1)) (ci := 3) (C := RX3) (T := TX3) (N := 16) hx hb hG in_X3 tyX3 tyX3_ok nmX3 hown hK hP9 hD9 hS9 0 rfl rfl 8 (by decide) (hG _ g_53) rfl rfl rfl rfl dX3_init_50 (ws' := [(ad0, ob 3 16 (vup (vup (vup (vup (vup (vup (vup (vup (vup (dfl tyX3) 0 (.ref qn1)) 1 (.int 0)) 2 (.int 0)) 3 (.int 0)) 4 (.int 0)) 5 (.int (-1))) 6 (.int 0)) 7 (.int (-1))) 8 (.int (-1)))), (qn1, arq (cy 8) 60 (fun _ => none))]) rfl (fun H10 lo10 hP10 hD10 hS10 => ?_)
  clear hP9 hD9 hS9
  clear H9 lo9
  refine lv_aload_n (pc := 53) hx hb dX3_init_53 rfl (lv_at hl 0 rfl) ?_
  refine lv_bipush (pc := 54) (v := 40) hx hb dX3_init_54 (by decide) ?_
  refine ar_new (pc := 56) (atype := .char) (N' := 40) (ty := .char) (a0 := (40, .inl (fun _ => 0))) (k2 := 2) (n2 := 100) hx hb (hG _ g_54) rfl hK hP10 hD10 hS10 hA 1 rfl (fun _ => rfl) (by decide) (by decide) (by decide) (by decide) (by decide) (Nat.le_of_ble_eq_true rfl) (Nat.le_of_ble_eq_true rfl) dX3_init_56 (fun qn11 H11 hP11r hD11r hS11 => ?_)
  have hP11 : va_P D classes [(ad0, ob 3 16 (vup (vup (vup (vup (vup (vup (vup (vup (vup (dfl tyX3) 0 (.ref qn1)) 1 (.int 0)) 2 (.int 0)) 3 (.int 0)) 4 (.int 0)) 5 (.int (-1))) 6 (.int 0)) 7 (.int (-1))) 8 (.int (-1)))), (qn1, arq (cy 8) 60 (fun _ => none)), (qn11, ari (cy 1) 40 (fun _ => 0))] H11 := hP11r
  have hD11 : va_D A [(ad0, ob 3 16 (vup (vup (vup (vup (vup (vup (vup (vup (vup (dfl tyX3) 0 (.ref qn1)) 1 (.int 0)) 2 (.int 0)) 3 (.int 0)) 4 (.int 0)) 5 (.int (-1))) 6 (.int 0)) 7 (.int (-1))) 8 (.int (-1)))), (qn1, arq (cy 8) 60 (fun _ => none)), (qn11, ari (cy 1) 40 (fun _ => 0))] := hD11r
  clear hP11r hD11r
  clear hP10 hD10 hS10
  clear H10
  refine ob_putF (pc := 58) (v := .ref qn11) (ci := 3) (C := RX3) (T := TX3) (N := 16) hx hb hG in_X3 tyX3 tyX3_ok nmX3 hown hK hP11 hD11 hS11 0 rfl rfl 14 (by decide) (hG _ g_55) rfl rfl hin rfl rfl rfl dX3_init_58 (ws' := [(ad0, ob 3 16 (vup (vup (vup (vup (vup (vup (vup (vup (vup (vup (dfl tyX3) 0 (.ref qn1)) 1 (.int 0)) 2 (.int 0)) 3 (.int 0)) 4 (.int 0)) 5 (.int (-1))) 6 (.int 0)) 7 (.int (-1))) 8 (.int (-1))) 14 (.ref qn11))), (qn1, arq (cy 8) 60 (fun _ => none)), (qn11, ari (cy 1) 40 (fun _ => 0))]) rfl (fun H12 lo12 hP12 hD12 hS12 => ?_)
  clear hP11 hD11 hS11
  clear H11 lo10
  have hP99 := hP12.sub (ws' := [(ad0, ob 3 16 (vup (vup (vup (vup (vup (vup (vup (vup (vup (vup (dfl tyX3) 0 (.ref qn1)) 1 (.int 0)) 2 (.int 0)) 3 (.int 0)) 4 (.int 0)) 5 (.int (-1))) 6 (.int 0)) 7 (.int (-1))) 8 (.int (-1))) 14 (.ref qn11))), (qn11, ari (cy 1) 40 (fun _ => 0))]) [0, 2] rfl
  have hD99 := hD12.sub (ws' := [(ad0, ob 3 16 (vup (vup (vup (vup (vup (vup (vup (vup (vup (vup (dfl tyX3) 0 (.ref qn1)) 1 (.int 0)) 2 (.int 0)) 3 (.int 0)) 4 (.int 0)) 5 (.int (-1))) 6 (.int 0)) 7 (.int (-1))) 8 (.int (-1))) 14 (.ref qn11))), (qn11, ari (cy 1) 40 (fun _ => 0))]) [0, 2] (by decide) rfl
  exact W.vret (pc := 61) hx hb hr (fun t ht hW => ⟨⟨(), rfl, trivial, _, ⟨qn11, (vup (vup (vup (vup (vup (vup (vup (vup (vup (vup (dfl tyX3) 0 (.ref qn1)) 1 (.int 0)) 2 (.int 0)) 3 (.int 0)) 4 (.int 0)) 5 (.int (-1))) 6 (.int 0)) 7 (.int (-1))) 8 (.int (-1))) 14 (.ref qn11)), rfl, rfl, rfl, rfl, rfl, rfl⟩, by rw [ht]; exact hP99, hD99⟩, hS12.F ht⟩) hS12.2.2 dX3_init_61
set_option maxHeartbeats 4000000 in
set_option maxRecDepth 100000 in
/-- X0_init -/
theorem c_Binder (l : Launch) (D : va_G) (cy : Nat → ClassId) (kv : KV) (sz : Nat) (ad0 : Nat) : Met l yX0_init (Cond.code yX0_init cX0_init 1 none :: GW) ({ frames := 8, cells := 2, slots := 120, locals := 120 } : Room) (va_Pc [.ref ad0] (pcq D cy kv sz [(ad0, ob 0 12 (dfl tyX0))])) (va_Qv (fun (_ : Unit) => True) (fun _ t => bq D (fun w => w = []) (va_A [(ad0, ob 0 12 (dfl tyX0))] sz) t) (va_A [(ad0, ob 0 12 (dfl tyX0))] sz)) 2 120 (va_A [(ad0, ob 0 12 (dfl tyX0))] sz) := by
  refine Met.ofW (cc := cX0_init) (maxL := 1) (ret := none) (by decide) rfl ?_
  intro p e s m args below meth c s₁ B hml hv
  obtain ⟨rfl, hsz, hP, hK, hD0, hE⟩ := hv
  have hx := B.exec
  have hb := B.bytes
  have hr := B.returns
  have hG : ∀ w ∈ GW, w.before ([.ref ad0] : List Value).toArray s = true := fun w h => atoms_spec (ws := Cond.code yX0_init cX0_init 1 none :: GW) B.pre w (List.mem_cons_of_mem _ h)
  have hown : s.vm.findClass RX0 = some m.cls := findClass_of_methodNamed B.named
  have hlocks := B.notSynchronized
  have hin : meth.name = "<init>" := (name_of_methodNamed B.named B.method).1
  subst hsz
  have hD := hD0.self (sz := s.heap.size)
  generalize hAe : va_A [(ad0, ob 0 12 (dfl tyX0))] s.heap.size = A at hD hE ⊢
  have hA : ∀ q : Nat, s.heap.size ≤ q → A q := fun q h => by rw [← hAe]; exact Or.inr h
  have hS : va_S A s.heap s.heap [] := va_S.rf
  clear hAe hD0
  have hl0 := lv_entry ([.ref ad0]) (n := 1) (Nat.le_of_ble_eq_true rfl)
  rw [lg_entry_eq]
  generalize (lg_sl ([.ref ad0]) ++ List.replicate (1 - (lg_sl ([.ref ad0])).length) Slot.unset).toArray = ls at hl0 ⊢
  have hl : lv_has ls 1 [(0, .ref ad0)] := hl0
  clear hl0
  refine lv_aload_n (pc := 0) hx hb dX0_init_0 rfl (lv_at hl 0 rfl) ?_
  refine W.objInit hx hb hown (hG _ g_57) (hG _ g_1) (hG _ g_2) rfl (by rw [hml]; exact hl.1) rfl dX0_init_1 (Nat.le_of_ble_eq_true rfl) (Nat.le_of_ble_eq_true rfl) ?_
  refine W.eq (g2 := F0 m 4 ls []) rfl ?_
  refine lv_aload_n (pc := 4) hx hb dX0_init_4 rfl (lv_at hl 0 rfl) ?_
  refine lv_bipush (pc := 5) (v := 60) hx hb dX0_init_5 (by decide) ?_
  refine ar_new (pc := 7) (atype := .int) (N' := 60) (ty := .int) (a0 := (60, .inl (fun _ => 0))) (k2 := 1) (n2 := 60) hx hb (hG _ g_22) rfl hK hP hD hS hA 0 rfl (fun _ => rfl) (by decide) (by decide) (by decide) (by decide) (by decide) (Nat.le_of_ble_eq_true rfl) (Nat.le_of_ble_eq_true rfl) dX0_init_7 (fun qn1 H1 hP1r hD1r hS1 => ?_)
  have hP1 : va_P D classes [(ad0, ob 0 12 (dfl tyX0)), (qn1, ari (cy 0) 60 (fun _ => 0))] H1 := hP1r
  have hD1 : va_D A [(ad0, ob 0 12 (dfl tyX0)), (qn1, ari (cy 0) 60 (fun _ => 0))] := hD1r
  clear hP1r hD1r
  clear hP hD hS
  refine ob_putF (pc := 9) (v := .ref qn1) (ci := 0) (C := RX0) (T := TX0) (N := 12) hx hb hG in_X0 tyX0 tyX0_ok nmX0 hown hK hP1 hD1 hS1 0 rfl rfl 5 (by decide) (hG _ g_58) rfl rfl hin rfl rfl rfl dX0_init_9 (ws' := [(ad0, ob 0 12 (vup (dfl tyX0) 5 (.ref qn1))), (qn1, ari (cy 0) 60 (fun _ => 0))]) rfl (fun H2 lo2 hP2 hD2 hS2 => ?_)
  clear hP1 hD1 hS1
  clear H1
  refine lv_aload_n (pc := 12) hx hb dX0_init_12 rfl (lv_at hl 0 rfl) ?_
  refine lv_bipush (pc := 13) (v := 60) hx hb dX0_init_13 (by decide) ?_
  refine aq_new (pc := 15) (N' := 60) (C := RX9) (k2 := 2) (n2 := 120) hx hb hown (hG _ g_59) (hE.2.1 _ (by decide +kernel)) hK hP2 hD2 hS2 hA 8 rfl (by decide) (by decide) (by decide) (by decide) (by decide) (Nat.le_of_ble_eq_true rfl) (Nat.le_of_ble_eq_true rfl) dX0_init_15 (fun qn3 H3 hP3r hD3r hS3 => ?_)
  have hP3 : va_P D classes [(ad0, ob 0 12 (vup (dfl tyX0) 5 (.ref qn1))), (qn1, ari (cy 0) 60 (fun _ => 0)), (qn3, arq (cy 8) 60 (fun _ => none))] H3 := hP3r
  have hD3 : va_D A [(ad0, ob 0 12 (vup (dfl tyX0) 5 (.ref qn1))), (qn1, ari (cy 0) 60 (fun _ => 0)), (qn3, arq (cy 8) 60 (fun _ => none))] := hD3r
  clear hP3r hD3r
  clear hP2 hD2 hS2
  clear H2
  refine ob_putF (pc := 18) (v := .ref qn3) (ci := 0) (C := RX0) (T := TX0) (N := 12) hx hb hG in_X0 tyX0 tyX0_ok nmX0 hown hK hP3 hD3 hS3 0 rfl rfl 6 (by decide) (hG _ g_60) rfl rfl hin rfl rfl rfl dX0_init_18 (ws' := [(ad0, ob 0 12 (vup (vup (dfl tyX0) 5 (.ref qn1)) 6 (.ref qn3))), (qn1, ari (cy 0) 60 (fun _ => 0)), (qn3, arq (cy 8) 60 (fun _ => none))]) rfl (fun H4 lo4 hP4 hD4 hS4 => ?_)
  clear hP3 hD3 hS3
  clear H3 lo2
  have hP99 := hP4.sub (ws' := []) [] rfl
  have hD99 := hD4.sub (ws' := []) [] (by decide) rfl
  exact W.vret (pc := 21) hx hb hr (fun t ht hW => ⟨⟨(), rfl, trivial, _, rfl, by rw [ht]; exact hP99, hD99⟩, hS4.F ht⟩) hS4.2.2 dX0_init_21
set_option maxHeartbeats 4000000 in
set_option maxRecDepth 100000 in
/-- X6_init -/
theorem c_Proposals (l : Launch) (D : va_G) (cy : Nat → ClassId) (kv : KV) (sz : Nat) (ad0 : Nat) : Met l yX6_init (Cond.code yX6_init cX6_init 1 none :: GW) ({ frames := 8, cells := 4, slots := 118, locals := 120 } : Room) (va_Pc [.ref ad0] (pcq D cy kv sz [(ad0, ob 6 7 (dfl tyX6))])) (va_Qv (fun (_ : Unit) => True) (fun _ t => bq D (fun w => ∃ (nc904 : Nat → Value), w = [(ad0, ob 6 7 nc904)] ∧ nc904 1 = .int 0 ∧ nc904 3 = .int 0) (va_A [(ad0, ob 6 7 (dfl tyX6))] sz) t) (va_A [(ad0, ob 6 7 (dfl tyX6))] sz)) 4 118 (va_A [(ad0, ob 6 7 (dfl tyX6))] sz) := by
  refine Met.ofW (cc := cX6_init) (maxL := 1) (ret := none) (by decide) rfl ?_
  intro p e s m args below meth c s₁ B hml hv
  obtain ⟨rfl, hsz, hP, hK, hD0, hE⟩ := hv
  have hx := B.exec
  have hb := B.bytes
  have hr := B.returns
  have hG : ∀ w ∈ GW, w.before ([.ref ad0] : List Value).toArray s = true := fun w h => atoms_spec (ws := Cond.code yX6_init cX6_init 1 none :: GW) B.pre w (List.mem_cons_of_mem _ h)
  have hown : s.vm.findClass RX6 = some m.cls := findClass_of_methodNamed B.named
  have hlocks := B.notSynchronized
  have hin : meth.name = "<init>" := (name_of_methodNamed B.named B.method).1
  subst hsz
  have hD := hD0.self (sz := s.heap.size)
  generalize hAe : va_A [(ad0, ob 6 7 (dfl tyX6))] s.heap.size = A at hD hE ⊢
  have hA : ∀ q : Nat, s.heap.size ≤ q → A q := fun q h => by rw [← hAe]; exact Or.inr h
  have hS : va_S A s.heap s.heap [] := va_S.rf
  clear hAe hD0
  have hl0 := lv_entry ([.ref ad0]) (n := 1) (Nat.le_of_ble_eq_true rfl)
  rw [lg_entry_eq]
  generalize (lg_sl ([.ref ad0]) ++ List.replicate (1 - (lg_sl ([.ref ad0])).length) Slot.unset).toArray = ls at hl0 ⊢
  have hl : lv_has ls 1 [(0, .ref ad0)] := hl0
  clear hl0
  refine lv_aload_n (pc := 0) hx hb dX6_init_0 rfl (lv_at hl 0 rfl) ?_
  refine W.objInit hx hb hown (hG _ g_62) (hG _ g_1) (hG _ g_2) rfl (by rw [hml]; exact hl.1) rfl dX6_init_1 (Nat.le_of_ble_eq_true rfl) (Nat.le_of_ble_eq_true rfl) ?_
  refine W.eq (g2 := F0 m 4 ls []) rfl ?_
  refine lv_aload_n (pc := 4) hx hb dX6_init_4 rfl (lv_at hl 0 rfl) ?_
  refine lv_bipush (pc := 5) (v := 56) hx hb dX6_init_5 (by decide) ?_
  refine aq_new (pc := 7) (N' := 56) (C := RX9) (k2 := 1) (n2 := 56) hx hb hown (hG _ g_63) (hE.2.1 _ (by decide +kernel)) hK hP hD hS hA 8 rfl (by decide) (by decide) (by decide) (by decide) (by decide) (Nat.le_of_ble_eq_true rfl) (Nat.le_of_ble_eq_true rfl) dX6_init_7 (fun qn1 H1 hP1r hD1r hS1 => ?_)
  have hP1 : va_P D classes [(ad0, ob 6 7 (dfl tyX6)), (qn1, arq (cy 8) 56 (fun _ => none))] H1 := hP1r
  have hD1 : va_D A [(ad0, ob 6 7 (dfl tyX6)), (qn1, arq (cy 8) 56 (fun _ => none))] := hD1r
  clear hP1r hD1r
  clear hP hD hS
  refine ob_putF (pc := 10) (v := .ref qn1) (ci := 6) (C := RX6) (T := TX6) (N := 7) hx hb hG in_X6 tyX6 tyX6_ok nmX6 hown hK hP1 hD1 hS1 0 rfl rfl 0 (by decide) (hG _ g_64) rfl rfl hin rfl rfl rfl dX6_init_10 (ws' := [(ad0, ob 6 7 (vup (dfl tyX6) 0 (.ref qn1))), (qn1, arq (cy 8) 56 (fun _ => none))]) rfl (fun H2 lo2 hP2 hD2 hS2 => ?_)
  clear hP1 hD1 hS1
  clear H1
  refine lv_aload_n (pc := 13) hx hb dX6_init_13 rfl (lv_at hl 0 rfl) ?_
  refine lv_iconst (pc := 14) (v := 0) hx hb dX6_init_14 (by decide) ?_
  refine ob_put (pc := 15) (v := .int 0) (ci := 6) (C := RX6) (T := TX6) (N := 7) hx hb hG in_X6 tyX6 tyX6_ok nmX6 hown hK hP2 hD2 hS2 0 rfl rfl 1 (by decide) (hG _ g_65) rfl rfl rfl rfl dX6_init_15 (ws' := [(ad0, ob 6 7 (vup (vup (dfl tyX6) 0 (.ref qn1)) 1 (.int 0))), (qn1, arq (cy 8) 56 (fun _ => none))]) rfl (fun H3 lo3 hP3 hD3 hS3 => ?_)
  clear hP2 hD2 hS2
  clear H2 lo2
  refine lv_aload_n (pc := 18) hx hb dX6_init_18 rfl (lv_at hl 0 rfl) ?_
  refine lv_bipush (pc := 19) (v := 40) hx hb dX6_init_19 (by decide) ?_
  refine aq_new (pc := 21) (N' := 40) (C := RX9) (k2 := 2) (n2 := 96) hx hb hown (hG _ g_63) (hE.2.1 _ (by decide +kernel)) hK hP3 hD3 hS3 hA 8 rfl (by decide) (by decide) (by decide) (by decide) (by decide) (Nat.le_of_ble_eq_true rfl) (Nat.le_of_ble_eq_true rfl) dX6_init_21 (fun qn4 H4 hP4r hD4r hS4 => ?_)
  have hP4 : va_P D classes [(ad0, ob 6 7 (vup (vup (dfl tyX6) 0 (.ref qn1)) 1 (.int 0))), (qn1, arq (cy 8) 56 (fun _ => none)), (qn4, arq (cy 8) 40 (fun _ => none))] H4 := hP4r
  have hD4 : va_D A [(ad0, ob 6 7 (vup (vup (dfl tyX6) 0 (.ref qn1)) 1 (.int 0))), (qn1, arq (cy 8) 56 (fun _ => none)), (qn4, arq (cy 8) 40 (fun _ => none))] := hD4r
  clear hP4r hD4r
  clear hP3 hD3 hS3
  clear H3
  refine ob_putF (pc := 24) (v := .ref qn4) (ci := 6) (C := RX6) (T := TX6) (N := 7) hx hb hG in_X6 tyX6 tyX6_ok nmX6 hown hK hP4 hD4 hS4 0 rfl rfl 2 (by decide) (hG _ g_66) rfl rfl hin rfl rfl rfl dX6_init_24 (ws' := [(ad0, ob 6 7 (vup (vup (vup (dfl tyX6) 0 (.ref qn1)) 1 (.int 0)) 2 (.ref qn4))), (qn1, arq (cy 8) 56 (fun _ => none)), (qn4, arq (cy 8) 40 (fun _ => none))]) rfl (fun H5 lo5 hP5 hD5 hS5 => ?_)
  clear hP4 hD4 hS4
  clear H4 lo3
  refine lv_aload_n (pc := 27) hx hb dX6_init_27 rfl (lv_at hl 0 rfl) ?_
  refine lv_iconst (pc := 28) (v := 0) hx hb dX6_init_28 (by decide) ?_
  refine ob_put (pc := 29) (v := .int 0) (ci := 6) (C := RX6) (T := TX6) (N := 7) hx hb hG in_X6 tyX6 tyX6_ok nmX6 hown hK hP5 hD5 hS5 0 rfl rfl 3 (by decide) (hG _ g_67) rfl rfl rfl rfl dX6_init_29 (ws' := [(ad0, ob 6 7 (vup (vup (vup (vup (dfl tyX6) 0 (.ref qn1)) 1 (.int 0)) 2 (.ref qn4)) 3 (.int 0))), (qn1, arq (cy 8) 56 (fun _ => none)), (qn4, arq (cy 8) 40 (fun _ => none))]) rfl (fun H6 lo6 hP6 hD6 hS6 => ?_)
  clear hP5 hD5 hS5
  clear H5 lo5
  refine lv_aload_n (pc := 32) hx hb dX6_init_32 rfl (lv_at hl 0 rfl) ?_
  refine lv_bipush (pc := 33) (v := 11) hx hb dX6_init_33 (by decide) ?_
  refine ar_new (pc := 35) (atype := .int) (N' := 11) (ty := .int) (a0 := (11, .inl (fun _ => 0))) (k2 := 3) (n2 := 107) hx hb (hG _ g_22) rfl hK hP6 hD6 hS6 hA 0 rfl (fun _ => rfl) (by decide) (by decide) (by decide) (by decide) (by decide) (Nat.le_of_ble_eq_true rfl) (Nat.le_of_ble_eq_true rfl) dX6_init_35 (fun qn7 H7 hP7r hD7r hS7 => ?_)
  have hP7 : va_P D classes [(ad0, ob 6 7 (vup (vup (vup (vup (dfl tyX6) 0 (.ref qn1)) 1 (.int 0)) 2 (.ref qn4)) 3 (.int 0))), (qn1, arq (cy 8) 56 (fun _ => none)), (qn4, arq (cy 8) 40 (fun _ => none)), (qn7, ari (cy 0) 11 (fun _ => 0))] H7 := hP7r
  have hD7 : va_D A [(ad0, ob 6 7 (vup (vup (vup (vup (dfl tyX6) 0 (.ref qn1)) 1 (.int 0)) 2 (.ref qn4)) 3 (.int 0))), (qn1, arq (cy 8) 56 (fun _ => none)), (qn4, arq (cy 8) 40 (fun _ => none)), (qn7, ari (cy 0) 11 (fun _ => 0))] := hD7r
  clear hP7r hD7r
  clear hP6 hD6 hS6
  clear H6
  refine ob_put (pc := 37) (v := .ref qn7) (ci := 6) (C := RX6) (T := TX6) (N := 7) hx hb hG in_X6 tyX6 tyX6_ok nmX6 hown hK hP7 hD7 hS7 0 rfl rfl 5 (by decide) (hG _ g_68) rfl rfl rfl rfl dX6_init_37 (ws' := [(ad0, ob 6 7 (vup (vup (vup (vup (vup (dfl tyX6) 0 (.ref qn1)) 1 (.int 0)) 2 (.ref qn4)) 3 (.int 0)) 5 (.ref qn7))), (qn1, arq (cy 8) 56 (fun _ => none)), (qn4, arq (cy 8) 40 (fun _ => none)), (qn7, ari (cy 0) 11 (fun _ => 0))]) rfl (fun H8 lo8 hP8 hD8 hS8 => ?_)
  clear hP7 hD7 hS7
  clear H7 lo6
  refine lv_aload_n (pc := 40) hx hb dX6_init_40 rfl (lv_at hl 0 rfl) ?_
  refine lv_bipush (pc := 41) (v := 11) hx hb dX6_init_41 (by decide) ?_
  refine ar_new (pc := 43) (atype := .int) (N' := 11) (ty := .int) (a0 := (11, .inl (fun _ => 0))) (k2 := 4) (n2 := 118) hx hb (hG _ g_22) rfl hK hP8 hD8 hS8 hA 0 rfl (fun _ => rfl) (by decide) (by decide) (by decide) (by decide) (by decide) (Nat.le_of_ble_eq_true rfl) (Nat.le_of_ble_eq_true rfl) dX6_init_43 (fun qn9 H9 hP9r hD9r hS9 => ?_)
  have hP9 : va_P D classes [(ad0, ob 6 7 (vup (vup (vup (vup (vup (dfl tyX6) 0 (.ref qn1)) 1 (.int 0)) 2 (.ref qn4)) 3 (.int 0)) 5 (.ref qn7))), (qn1, arq (cy 8) 56 (fun _ => none)), (qn4, arq (cy 8) 40 (fun _ => none)), (qn7, ari (cy 0) 11 (fun _ => 0)), (qn9, ari (cy 0) 11 (fun _ => 0))] H9 := hP9r
  have hD9 : va_D A [(ad0, ob 6 7 (vup (vup (vup (vup (vup (dfl tyX6) 0 (.ref qn1)) 1 (.int 0)) 2 (.ref qn4)) 3 (.int 0)) 5 (.ref qn7))), (qn1, arq (cy 8) 56 (fun _ => none)), (qn4, arq (cy 8) 40 (fun _ => none)), (qn7, ari (cy 0) 11 (fun _ => 0)), (qn9, ari (cy 0) 11 (fun _ => 0))] := hD9r
  clear hP9r hD9r
  clear hP8 hD8 hS8
  clear H8
  refine ob_put (pc := 45) (v := .ref qn9) (ci := 6) (C := RX6) (T := TX6) (N := 7) hx hb hG in_X6 tyX6 tyX6_ok nmX6 hown hK hP9 hD9 hS9 0 rfl rfl 6 (by decide) (hG _ g_69) rfl rfl rfl rfl dX6_init_45 (ws' := [(ad0, ob 6 7 (vup (vup (vup (vup (vup (vup (dfl tyX6) 0 (.ref qn1)) 1 (.int 0)) 2 (.ref qn4)) 3 (.int 0)) 5 (.ref qn7)) 6 (.ref qn9))), (qn1, arq (cy 8) 56 (fun _ => none)), (qn4, arq (cy 8) 40 (fun _ => none)), (qn7, ari (cy 0) 11 (fun _ => 0)), (qn9, ari (cy 0) 11 (fun _ => 0))]) rfl (fun H10 lo10 hP10 hD10 hS10 => ?_)
  clear hP9 hD9 hS9
  clear H9 lo8
  have hP99 := hP10.sub (ws' := [(ad0, ob 6 7 (vup (vup (vup (vup (vup (vup (dfl tyX6) 0 (.ref qn1)) 1 (.int 0)) 2 (.ref qn4)) 3 (.int 0)) 5 (.ref qn7)) 6 (.ref qn9)))]) [0] rfl
  have hD99 := hD10.sub (ws' := [(ad0, ob 6 7 (vup (vup (vup (vup (vup (vup (dfl tyX6) 0 (.ref qn1)) 1 (.int 0)) 2 (.ref qn4)) 3 (.int 0)) 5 (.ref qn7)) 6 (.ref qn9)))]) [0] (by decide) rfl
  exact W.vret (pc := 48) hx hb hr (fun t ht hW => ⟨⟨(), rfl, trivial, _, ⟨(vup (vup (vup (vup (vup (vup (dfl tyX6) 0 (.ref qn1)) 1 (.int 0)) 2 (.ref qn4)) 3 (.int 0)) 5 (.ref qn7)) 6 (.ref qn9)), rfl, rfl, rfl⟩, by rw [ht]; exact hP99, hD99⟩, hS10.F ht⟩) hS10.2.2 dX6_init_48
set_option maxHeartbeats 4000000 in
set_option maxRecDepth 100000 in
/-- X2_init -/
theorem c_DeskRecord (l : Launch) (D : va_G) (cy : Nat → ClassId) (kv : KV) (sz : Nat) (ad0 : Nat) : Met l yX2_init (Cond.code yX2_init cX2_init 1 none :: GW) ({ frames := 8, cells := 5, slots := 580, locals := 120 } : Room) (va_Pc [.ref ad0] (pcq D cy kv sz [(ad0, ob 2 8 (dfl tyX2))])) (va_Qv (fun (_ : Unit) => True) (fun _ t => bq D (fun w => w = []) (va_A [(ad0, ob 2 8 (dfl tyX2))] sz) t) (va_A [(ad0, ob 2 8 (dfl tyX2))] sz)) 5 580 (va_A [(ad0, ob 2 8 (dfl tyX2))] sz) := by
  refine Met.ofW (cc := cX2_init) (maxL := 1) (ret := none) (by decide) rfl ?_
  intro p e s m args below meth c s₁ B hml hv
  obtain ⟨rfl, hsz, hP, hK, hD0, hE⟩ := hv
  have hx := B.exec
  have hb := B.bytes
  have hr := B.returns
  have hG : ∀ w ∈ GW, w.before ([.ref ad0] : List Value).toArray s = true := fun w h => atoms_spec (ws := Cond.code yX2_init cX2_init 1 none :: GW) B.pre w (List.mem_cons_of_mem _ h)
  have hown : s.vm.findClass RX2 = some m.cls := findClass_of_methodNamed B.named
  have hlocks := B.notSynchronized
  have hin : meth.name = "<init>" := (name_of_methodNamed B.named B.method).1
  subst hsz
  have hD := hD0.self (sz := s.heap.size)
  generalize hAe : va_A [(ad0, ob 2 8 (dfl tyX2))] s.heap.size = A at hD hE ⊢
  have hA : ∀ q : Nat, s.heap.size ≤ q → A q := fun q h => by rw [← hAe]; exact Or.inr h
  have hS : va_S A s.heap s.heap [] := va_S.rf
  clear hAe hD0
  have hl0 := lv_entry ([.ref ad0]) (n := 1) (Nat.le_of_ble_eq_true rfl)
  rw [lg_entry_eq]
  generalize (lg_sl ([.ref ad0]) ++ List.replicate (1 - (lg_sl ([.ref ad0])).length) Slot.unset).toArray = ls at hl0 ⊢
  have hl : lv_has ls 1 [(0, .ref ad0)] := hl0
  clear hl0
  refine lv_aload_n (pc := 0) hx hb dX2_init_0 rfl (lv_at hl 0 rfl) ?_
  refine W.objInit hx hb hown (hG _ g_71) (hG _ g_1) (hG _ g_2) rfl (by rw [hml]; exact hl.1) rfl dX2_init_1 (Nat.le_of_ble_eq_true rfl) (Nat.le_of_ble_eq_true rfl) ?_
  refine W.eq (g2 := F0 m 4 ls []) rfl ?_
  refine lv_aload_n (pc := 4) hx hb dX2_init_4 rfl (lv_at hl 0 rfl) ?_
  refine lv_bipush (pc := 5) (v := 40) hx hb dX2_init_5 (by decide) ?_
  refine ar_new (pc := 7) (atype := .int) (N' := 40) (ty := .int) (a0 := (40, .inl (fun _ => 0))) (k2 := 1) (n2 := 40) hx hb (hG _ g_22) rfl hK hP hD hS hA 0 rfl (fun _ => rfl) (by decide) (by decide) (by decide) (by decide) (by decide) (Nat.le_of_ble_eq_true rfl) (Nat.le_of_ble_eq_true rfl) dX2_init_7 (fun qn1 H1 hP1r hD1r hS1 => ?_)
  have hP1 : va_P D classes [(ad0, ob 2 8 (dfl tyX2)), (qn1, ari (cy 0) 40 (fun _ => 0))] H1 := hP1r
  have hD1 : va_D A [(ad0, ob 2 8 (dfl tyX2)), (qn1, ari (cy 0) 40 (fun _ => 0))] := hD1r
  clear hP1r hD1r
  clear hP hD hS
  refine ob_putF (pc := 9) (v := .ref qn1) (ci := 2) (C := RX2) (T := TX2) (N := 8) hx hb hG in_X2 tyX2 tyX2_ok nmX2 hown hK hP1 hD1 hS1 0 rfl rfl 2 (by decide) (hG _ g_72) rfl rfl hin rfl rfl rfl dX2_init_9 (ws' := [(ad0, ob 2 8 (vup (dfl tyX2) 2 (.ref qn1))), (qn1, ari (cy 0) 40 (fun _ => 0))]) rfl (fun H2 lo2 hP2 hD2 hS2 => ?_)
  clear hP1 hD1 hS1
  clear H1
  refine lv_aload_n (pc := 12) hx hb dX2_init_12 rfl (lv_at hl 0 rfl) ?_
  refine lv_bipush (pc := 13) (v := 40) hx hb dX2_init_13 (by decide) ?_
  refine ar_new (pc := 15) (atype := .int) (N' := 40) (ty := .int) (a0 := (40, .inl (fun _ => 0))) (k2 := 2) (n2 := 80) hx hb (hG _ g_22) rfl hK hP2 hD2 hS2 hA 0 rfl (fun _ => rfl) (by decide) (by decide) (by decide) (by decide) (by decide) (Nat.le_of_ble_eq_true rfl) (Nat.le_of_ble_eq_true rfl) dX2_init_15 (fun qn3 H3 hP3r hD3r hS3 => ?_)
  have hP3 : va_P D classes [(ad0, ob 2 8 (vup (dfl tyX2) 2 (.ref qn1))), (qn1, ari (cy 0) 40 (fun _ => 0)), (qn3, ari (cy 0) 40 (fun _ => 0))] H3 := hP3r
  have hD3 : va_D A [(ad0, ob 2 8 (vup (dfl tyX2) 2 (.ref qn1))), (qn1, ari (cy 0) 40 (fun _ => 0)), (qn3, ari (cy 0) 40 (fun _ => 0))] := hD3r
  clear hP3r hD3r
  clear hP2 hD2 hS2
  clear H2
  refine ob_putF (pc := 17) (v := .ref qn3) (ci := 2) (C := RX2) (T := TX2) (N := 8) hx hb hG in_X2 tyX2 tyX2_ok nmX2 hown hK hP3 hD3 hS3 0 rfl rfl 3 (by decide) (hG _ g_73) rfl rfl hin rfl rfl rfl dX2_init_17 (ws' := [(ad0, ob 2 8 (vup (vup (dfl tyX2) 2 (.ref qn1)) 3 (.ref qn3))), (qn1, ari (cy 0) 40 (fun _ => 0)), (qn3, ari (cy 0) 40 (fun _ => 0))]) rfl (fun H4 lo4 hP4 hD4 hS4 => ?_)
  clear hP3 hD3 hS3
  clear H3 lo2
  refine lv_aload_n (pc := 20) hx hb dX2_init_20 rfl (lv_at hl 0 rfl) ?_
  refine lv_bipush (pc := 21) (v := 40) hx hb dX2_init_21 (by decide) ?_
  refine aq_new (pc := 23) (N' := 40) (C := RX9) (k2 := 3) (n2 := 120) hx hb hown (hG _ g_74) (hE.2.1 _ (by decide +kernel)) hK hP4 hD4 hS4 hA 8 rfl (by decide) (by decide) (by decide) (by decide) (by decide) (Nat.le_of_ble_eq_true rfl) (Nat.le_of_ble_eq_true rfl) dX2_init_23 (fun qn5 H5 hP5r hD5r hS5 => ?_)
  have hP5 : va_P D classes [(ad0, ob 2 8 (vup (vup (dfl tyX2) 2 (.ref qn1)) 3 (.ref qn3))), (qn1, ari (cy 0) 40 (fun _ => 0)), (qn3, ari (cy 0) 40 (fun _ => 0)), (qn5, arq (cy 8) 40 (fun _ => none))] H5 := hP5r
  have hD5 : va_D A [(ad0, ob 2 8 (vup (vup (dfl tyX2) 2 (.ref qn1)) 3 (.ref qn3))), (qn1, ari (cy 0) 40 (fun _ => 0)), (qn3, ari (cy 0) 40 (fun _ => 0)), (qn5, arq (cy 8) 40 (fun _ => none))] := hD5r
  clear hP5r hD5r
  clear hP4 hD4 hS4
  clear H4
  refine ob_putF (pc := 26) (v := .ref qn5) (ci := 2) (C := RX2) (T := TX2) (N := 8) hx hb hG in_X2 tyX2 tyX2_ok nmX2 hown hK hP5 hD5 hS5 0 rfl rfl 4 (by decide) (hG _ g_75) rfl rfl hin rfl rfl rfl dX2_init_26 (ws' := [(ad0, ob 2 8 (vup (vup (vup (dfl tyX2) 2 (.ref qn1)) 3 (.ref qn3)) 4 (.ref qn5))), (qn1, ari (cy 0) 40 (fun _ => 0)), (qn3, ari (cy 0) 40 (fun _ => 0)), (qn5, arq (cy 8) 40 (fun _ => none))]) rfl (fun H6 lo6 hP6 hD6 hS6 => ?_)
  clear hP5 hD5 hS5
  clear H5 lo4
  refine lv_aload_n (pc := 29) hx hb dX2_init_29 rfl (lv_at hl 0 rfl) ?_
  refine lv_sipush (pc := 30) (v := 400) hx hb dX2_init_30 (by decide) ?_
  refine ar_new (pc := 33) (atype := .int) (N' := 400) (ty := .int) (a0 := (400, .inl (fun _ => 0))) (k2 := 4) (n2 := 520) hx hb (hG _ g_22) rfl hK hP6 hD6 hS6 hA 0 rfl (fun _ => rfl) (by decide) (by decide) (by decide) (by decide) (by decide) (Nat.le_of_ble_eq_true rfl) (Nat.le_of_ble_eq_true rfl) dX2_init_33 (fun qn7 H7 hP7r hD7r hS7 => ?_)
  have hP7 : va_P D classes [(ad0, ob 2 8 (vup (vup (vup (dfl tyX2) 2 (.ref qn1)) 3 (.ref qn3)) 4 (.ref qn5))), (qn1, ari (cy 0) 40 (fun _ => 0)), (qn3, ari (cy 0) 40 (fun _ => 0)), (qn5, arq (cy 8) 40 (fun _ => none)), (qn7, ari (cy 0) 400 (fun _ => 0))] H7 := hP7r
  have hD7 : va_D A [(ad0, ob 2 8 (vup (vup (vup (dfl tyX2) 2 (.ref qn1)) 3 (.ref qn3)) 4 (.ref qn5))), (qn1, ari (cy 0) 40 (fun _ => 0)), (qn3, ari (cy 0) 40 (fun _ => 0)), (qn5, arq (cy 8) 40 (fun _ => none)), (qn7, ari (cy 0) 400 (fun _ => 0))] := hD7r
  clear hP7r hD7r
  clear hP6 hD6 hS6
  clear H6
  refine ob_putF (pc := 35) (v := .ref qn7) (ci := 2) (C := RX2) (T := TX2) (N := 8) hx hb hG in_X2 tyX2 tyX2_ok nmX2 hown hK hP7 hD7 hS7 0 rfl rfl 5 (by decide) (hG _ g_76) rfl rfl hin rfl rfl rfl dX2_init_35 (ws' := [(ad0, ob 2 8 (vup (vup (vup (vup (dfl tyX2) 2 (.ref qn1)) 3 (.ref qn3)) 4 (.ref qn5)) 5 (.ref qn7))), (qn1, ari (cy 0) 40 (fun _ => 0)), (qn3, ari (cy 0) 40 (fun _ => 0)), (qn5, arq (cy 8) 40 (fun _ => none)), (qn7, ari (cy 0) 400 (fun _ => 0))]) rfl (fun H8 lo8 hP8 hD8 hS8 => ?_)
  clear hP7 hD7 hS7
  clear H7 lo6
  refine lv_aload_n (pc := 38) hx hb dX2_init_38 rfl (lv_at hl 0 rfl) ?_
  refine lv_bipush (pc := 39) (v := 60) hx hb dX2_init_39 (by decide) ?_
  refine aq_new (pc := 41) (N' := 60) (C := RX9) (k2 := 5) (n2 := 580) hx hb hown (hG _ g_74) (hE.2.1 _ (by decide +kernel)) hK hP8 hD8 hS8 hA 8 rfl (by decide) (by decide) (by decide) (by decide) (by decide) (Nat.le_of_ble_eq_true rfl) (Nat.le_of_ble_eq_true rfl) dX2_init_41 (fun qn9 H9 hP9r hD9r hS9 => ?_)
  have hP9 : va_P D classes [(ad0, ob 2 8 (vup (vup (vup (vup (dfl tyX2) 2 (.ref qn1)) 3 (.ref qn3)) 4 (.ref qn5)) 5 (.ref qn7))), (qn1, ari (cy 0) 40 (fun _ => 0)), (qn3, ari (cy 0) 40 (fun _ => 0)), (qn5, arq (cy 8) 40 (fun _ => none)), (qn7, ari (cy 0) 400 (fun _ => 0)), (qn9, arq (cy 8) 60 (fun _ => none))] H9 := hP9r
  have hD9 : va_D A [(ad0, ob 2 8 (vup (vup (vup (vup (dfl tyX2) 2 (.ref qn1)) 3 (.ref qn3)) 4 (.ref qn5)) 5 (.ref qn7))), (qn1, ari (cy 0) 40 (fun _ => 0)), (qn3, ari (cy 0) 40 (fun _ => 0)), (qn5, arq (cy 8) 40 (fun _ => none)), (qn7, ari (cy 0) 400 (fun _ => 0)), (qn9, arq (cy 8) 60 (fun _ => none))] := hD9r
  clear hP9r hD9r
  clear hP8 hD8 hS8
  clear H8
  refine ob_putF (pc := 44) (v := .ref qn9) (ci := 2) (C := RX2) (T := TX2) (N := 8) hx hb hG in_X2 tyX2 tyX2_ok nmX2 hown hK hP9 hD9 hS9 0 rfl rfl 6 (by decide) (hG _ g_77) rfl rfl hin rfl rfl rfl dX2_init_44 (ws' := [(ad0, ob 2 8 (vup (vup (vup (vup (vup (dfl tyX2) 2 (.ref qn1)) 3 (.ref qn3)) 4 (.ref qn5)) 5 (.ref qn7)) 6 (.ref qn9))), (qn1, ari (cy 0) 40 (fun _ => 0)), (qn3, ari (cy 0) 40 (fun _ => 0)), (qn5, arq (cy 8) 40 (fun _ => none)), (qn7, ari (cy 0) 400 (fun _ => 0)), (qn9, arq (cy 8) 60 (fun _ => none))]) rfl (fun H10 lo10 hP10 hD10 hS10 => ?_)
  clear hP9 hD9 hS9
  clear H9 lo8
  have hP99 := hP10.sub (ws' := []) [] rfl
  have hD99 := hD10.sub (ws' := []) [] (by decide) rfl
  exact W.vret (pc := 47) hx hb hr (fun t ht hW => ⟨⟨(), rfl, trivial, _, rfl, by rw [ht]; exact hP99, hD99⟩, hS10.F ht⟩) hS10.2.2 dX2_init_47
set_option maxHeartbeats 4000000 in
set_option maxRecDepth 100000 in
/-- X7_init -/
theorem c_Rows0 (l : Launch) (D : va_G) (cy : Nat → ClassId) (kv : KV) (sz : Nat) (ad0 : Nat) : Met l yX7_init (Cond.code yX7_init cX7_init 2 none :: GW) ({ frames := 8, cells := 4, slots := 60, locals := 120 } : Room) (va_Pc [.ref ad0, .int 0] (pcq D cy kv sz [(ad0, ob 7 6 (dfl tyX7))])) (va_Qv (fun (_ : Unit) => True) (fun _ t => bq D (fun w => ∃ (nc904 : Nat → Value), w = [(ad0, ob 7 6 nc904)] ∧ nc904 5 = .int 0) (va_A [(ad0, ob 7 6 (dfl tyX7))] sz) t) (va_A [(ad0, ob 7 6 (dfl tyX7))] sz)) 4 60 (va_A [(ad0, ob 7 6 (dfl tyX7))] sz) := by
  refine Met.ofW (cc := cX7_init) (maxL := 2) (ret := none) (by decide) rfl ?_
  intro p e s m args below meth c s₁ B hml hv
  obtain ⟨rfl, hsz, hP, hK, hD0, hE⟩ := hv
  have hx := B.exec
  have hb := B.bytes
  have hr := B.returns
  have hG : ∀ w ∈ GW, w.before ([.ref ad0, .int 0] : List Value).toArray s = true := fun w h => atoms_spec (ws := Cond.code yX7_init cX7_init 2 none :: GW) B.pre w (List.mem_cons_of_mem _ h)
  have hown : s.vm.findClass RX7 = some m.cls := findClass_of_methodNamed B.named
  have hlocks := B.notSynchronized
  have hin : meth.name = "<init>" := (name_of_methodNamed B.named B.method).1
  subst hsz
  have hD := hD0.self (sz := s.heap.size)
  generalize hAe : va_A [(ad0, ob 7 6 (dfl tyX7))] s.heap.size = A at hD hE ⊢
  have hA : ∀ q : Nat, s.heap.size ≤ q → A q := fun q h => by rw [← hAe]; exact Or.inr h
  have hS : va_S A s.heap s.heap [] := va_S.rf
  clear hAe hD0
  have hl0 := lv_entry ([.ref ad0, .int 0]) (n := 2) (Nat.le_of_ble_eq_true rfl)
  rw [lg_entry_eq]
  generalize (lg_sl ([.ref ad0, .int 0]) ++ List.replicate (2 - (lg_sl ([.ref ad0, .int 0])).length) Slot.unset).toArray = ls at hl0 ⊢
  have hl : lv_has ls 2 [(0, .ref ad0), (1, .int 0)] := hl0
  clear hl0
  refine lv_aload_n (pc := 0) hx hb dX7_init_0 rfl (lv_at hl 0 rfl) ?_
  refine W.objInit hx hb hown (hG _ g_79) (hG _ g_1) (hG _ g_2) rfl (by rw [hml]; exact hl.1) rfl dX7_init_1 (Nat.le_of_ble_eq_true rfl) (Nat.le_of_ble_eq_true rfl) ?_
  refine W.eq (g2 := F0 m 4 ls []) rfl ?_
  refine lv_aload_n (pc := 4) hx hb dX7_init_4 rfl (lv_at hl 0 rfl) ?_
  refine lv_bipush (pc := 5) (v := 20) hx hb dX7_init_5 (by decide) ?_
  refine aq_new (pc := 7) (N' := 20) (C := RX9) (k2 := 1) (n2 := 20) hx hb hown (hG _ g_80) (hE.2.1 _ (by decide +kernel)) hK hP hD hS hA 8 rfl (by decide) (by decide) (by decide) (by decide) (by decide) (Nat.le_of_ble_eq_true rfl) (Nat.le_of_ble_eq_true rfl) dX7_init_7 (fun qn1 H1 hP1r hD1r hS1 => ?_)
  have hP1 : va_P D classes [(ad0, ob 7 6 (dfl tyX7)), (qn1, arq (cy 8) 20 (fun _ => none))] H1 := hP1r
  have hD1 : va_D A [(ad0, ob 7 6 (dfl tyX7)), (qn1, arq (cy 8) 20 (fun _ => none))] := hD1r
  clear hP1r hD1r
  clear hP hD hS
  refine ob_putF (pc := 10) (v := .ref qn1) (ci := 7) (C := RX7) (T := TX7) (N := 6) hx hb hG in_X7 tyX7 tyX7_ok nmX7 hown hK hP1 hD1 hS1 0 rfl rfl 0 (by decide) (hG _ g_81) rfl rfl hin rfl rfl rfl dX7_init_10 (ws' := [(ad0, ob 7 6 (vup (dfl tyX7) 0 (.ref qn1))), (qn1, arq (cy 8) 20 (fun _ => none))]) rfl (fun H2 lo2 hP2 hD2 hS2 => ?_)
  clear hP1 hD1 hS1
  clear H1
  refine lv_aload_n (pc := 13) hx hb dX7_init_13 rfl (lv_at hl 0 rfl) ?_
  refine lv_bipush (pc := 14) (v := 20) hx hb dX7_init_14 (by decide) ?_
  refine aq_new (pc := 16) (N' := 20) (C := RX9) (k2 := 2) (n2 := 40) hx hb hown (hG _ g_80) (hE.2.1 _ (by decide +kernel)) hK hP2 hD2 hS2 hA 8 rfl (by decide) (by decide) (by decide) (by decide) (by decide) (Nat.le_of_ble_eq_true rfl) (Nat.le_of_ble_eq_true rfl) dX7_init_16 (fun qn3 H3 hP3r hD3r hS3 => ?_)
  have hP3 : va_P D classes [(ad0, ob 7 6 (vup (dfl tyX7) 0 (.ref qn1))), (qn1, arq (cy 8) 20 (fun _ => none)), (qn3, arq (cy 8) 20 (fun _ => none))] H3 := hP3r
  have hD3 : va_D A [(ad0, ob 7 6 (vup (dfl tyX7) 0 (.ref qn1))), (qn1, arq (cy 8) 20 (fun _ => none)), (qn3, arq (cy 8) 20 (fun _ => none))] := hD3r
  clear hP3r hD3r
  clear hP2 hD2 hS2
  clear H2
  refine ob_putF (pc := 19) (v := .ref qn3) (ci := 7) (C := RX7) (T := TX7) (N := 6) hx hb hG in_X7 tyX7 tyX7_ok nmX7 hown hK hP3 hD3 hS3 0 rfl rfl 1 (by decide) (hG _ g_82) rfl rfl hin rfl rfl rfl dX7_init_19 (ws' := [(ad0, ob 7 6 (vup (vup (dfl tyX7) 0 (.ref qn1)) 1 (.ref qn3))), (qn1, arq (cy 8) 20 (fun _ => none)), (qn3, arq (cy 8) 20 (fun _ => none))]) rfl (fun H4 lo4 hP4 hD4 hS4 => ?_)
  clear hP3 hD3 hS3
  clear H3 lo2
  refine lv_aload_n (pc := 22) hx hb dX7_init_22 rfl (lv_at hl 0 rfl) ?_
  refine lv_bipush (pc := 23) (v := 20) hx hb dX7_init_23 (by decide) ?_
  refine ar_new (pc := 25) (atype := .int) (N' := 20) (ty := .int) (a0 := (20, .inl (fun _ => 0))) (k2 := 3) (n2 := 60) hx hb (hG _ g_22) rfl hK hP4 hD4 hS4 hA 0 rfl (fun _ => rfl) (by decide) (by decide) (by decide) (by decide) (by decide) (Nat.le_of_ble_eq_true rfl) (Nat.le_of_ble_eq_true rfl) dX7_init_25 (fun qn5 H5 hP5r hD5r hS5 => ?_)
  have hP5 : va_P D classes [(ad0, ob 7 6 (vup (vup (dfl tyX7) 0 (.ref qn1)) 1 (.ref qn3))), (qn1, arq (cy 8) 20 (fun _ => none)), (qn3, arq (cy 8) 20 (fun _ => none)), (qn5, ari (cy 0) 20 (fun _ => 0))] H5 := hP5r
  have hD5 : va_D A [(ad0, ob 7 6 (vup (vup (dfl tyX7) 0 (.ref qn1)) 1 (.ref qn3))), (qn1, arq (cy 8) 20 (fun _ => none)), (qn3, arq (cy 8) 20 (fun _ => none)), (qn5, ari (cy 0) 20 (fun _ => 0))] := hD5r
  clear hP5r hD5r
  clear hP4 hD4 hS4
  clear H4
  refine ob_putF (pc := 27) (v := .ref qn5) (ci := 7) (C := RX7) (T := TX7) (N := 6) hx hb hG in_X7 tyX7 tyX7_ok nmX7 hown hK hP5 hD5 hS5 0 rfl rfl 4 (by decide) (hG _ g_83) rfl rfl hin rfl rfl rfl dX7_init_27 (ws' := [(ad0, ob 7 6 (vup (vup (vup (dfl tyX7) 0 (.ref qn1)) 1 (.ref qn3)) 4 (.ref qn5))), (qn1, arq (cy 8) 20 (fun _ => none)), (qn3, arq (cy 8) 20 (fun _ => none)), (qn5, ari (cy 0) 20 (fun _ => 0))]) rfl (fun H6 lo6 hP6 hD6 hS6 => ?_)
  clear hP5 hD5 hS5
  clear H5 lo4
  refine lv_aload_n (pc := 30) hx hb dX7_init_30 rfl (lv_at hl 0 rfl) ?_
  refine lv_iconst (pc := 31) (v := 0) hx hb dX7_init_31 (by decide) ?_
  refine ob_put (pc := 32) (v := .int 0) (ci := 7) (C := RX7) (T := TX7) (N := 6) hx hb hG in_X7 tyX7 tyX7_ok nmX7 hown hK hP6 hD6 hS6 0 rfl rfl 5 (by decide) (hG _ g_84) rfl rfl rfl rfl dX7_init_32 (ws' := [(ad0, ob 7 6 (vup (vup (vup (vup (dfl tyX7) 0 (.ref qn1)) 1 (.ref qn3)) 4 (.ref qn5)) 5 (.int 0))), (qn1, arq (cy 8) 20 (fun _ => none)), (qn3, arq (cy 8) 20 (fun _ => none)), (qn5, ari (cy 0) 20 (fun _ => 0))]) rfl (fun H7 lo7 hP7 hD7 hS7 => ?_)
  clear hP6 hD6 hS6
  clear H6 lo6
  refine lv_aload_n (pc := 35) hx hb dX7_init_35 rfl (lv_at hl 0 rfl) ?_
  refine lv_iload_n (pc := 36) hx hb dX7_init_36 rfl (lv_at hl 1 rfl) ?_
  refine ob_putF (pc := 37) (v := .int 0) (ci := 7) (C := RX7) (T := TX7) (N := 6) hx hb hG in_X7 tyX7 tyX7_ok nmX7 hown hK hP7 hD7 hS7 0 rfl rfl 2 (by decide) (hG _ g_85) rfl rfl hin rfl rfl rfl dX7_init_37 (ws' := [(ad0, ob 7 6 (vup (vup (vup (vup (vup (dfl tyX7) 0 (.ref qn1)) 1 (.ref qn3)) 4 (.ref qn5)) 5 (.int 0)) 2 (.int 0))), (qn1, arq (cy 8) 20 (fun _ => none)), (qn3, arq (cy 8) 20 (fun _ => none)), (qn5, ari (cy 0) 20 (fun _ => 0))]) rfl (fun H8 lo8 hP8 hD8 hS8 => ?_)
  clear hP7 hD7 hS7
  clear H7 lo7
  refine lv_aload_n (pc := 40) hx hb dX7_init_40 rfl (lv_at hl 0 rfl) ?_
  refine lv_iload_n (pc := 41) hx hb dX7_init_41 rfl (lv_at hl 1 rfl) ?_
  refine lv_bipush (pc := 42) (v := 20) hx hb dX7_init_42 (by decide) ?_
  refine lv_imul (pc := 44) hx hb dX7_init_44 ?_
  refine tp_i (y := 0) (by decide) ?_
  refine aq_new (pc := 45) (N' := 0) (C := RX9) (k2 := 4) (n2 := 60) hx hb hown (hG _ g_80) (hE.2.1 _ (by decide +kernel)) hK hP8 hD8 hS8 hA 8 rfl (by decide) (by decide) (by decide) (by decide) (by decide) (Nat.le_of_ble_eq_true rfl) (Nat.le_of_ble_eq_true rfl) dX7_init_45 (fun qn9 H9 hP9r hD9r hS9 => ?_)
  have hP9 : va_P D classes [(ad0, ob 7 6 (vup (vup (vup (vup (vup (dfl tyX7) 0 (.ref qn1)) 1 (.ref qn3)) 4 (.ref qn5)) 5 (.int 0)) 2 (.int 0))), (qn1, arq (cy 8) 20 (fun _ => none)), (qn3, arq (cy 8) 20 (fun _ => none)), (qn5, ari (cy 0) 20 (fun _ => 0)), (qn9, arq (cy 8) 0 (fun _ => none))] H9 := hP9r
  have hD9 : va_D A [(ad0, ob 7 6 (vup (vup (vup (vup (vup (dfl tyX7) 0 (.ref qn1)) 1 (.ref qn3)) 4 (.ref qn5)) 5 (.int 0)) 2 (.int 0))), (qn1, arq (cy 8) 20 (fun _ => none)), (qn3, arq (cy 8) 20 (fun _ => none)), (qn5, ari (cy 0) 20 (fun _ => 0)), (qn9, arq (cy 8) 0 (fun _ => none))] := hD9r
  clear hP9r hD9r
  clear hP8 hD8 hS8
  clear H8
  refine ob_putF (pc := 48) (v := .ref qn9) (ci := 7) (C := RX7) (T := TX7) (N := 6) hx hb hG in_X7 tyX7 tyX7_ok nmX7 hown hK hP9 hD9 hS9 0 rfl rfl 3 (by decide) (hG _ g_86) rfl rfl hin rfl rfl rfl dX7_init_48 (ws' := [(ad0, ob 7 6 (vup (vup (vup (vup (vup (vup (dfl tyX7) 0 (.ref qn1)) 1 (.ref qn3)) 4 (.ref qn5)) 5 (.int 0)) 2 (.int 0)) 3 (.ref qn9))), (qn1, arq (cy 8) 20 (fun _ => none)), (qn3, arq (cy 8) 20 (fun _ => none)), (qn5, ari (cy 0) 20 (fun _ => 0)), (qn9, arq (cy 8) 0 (fun _ => none))]) rfl (fun H10 lo10 hP10 hD10 hS10 => ?_)
  clear hP9 hD9 hS9
  clear H9 lo8
  have hP99 := hP10.sub (ws' := [(ad0, ob 7 6 (vup (vup (vup (vup (vup (vup (dfl tyX7) 0 (.ref qn1)) 1 (.ref qn3)) 4 (.ref qn5)) 5 (.int 0)) 2 (.int 0)) 3 (.ref qn9)))]) [0] rfl
  have hD99 := hD10.sub (ws' := [(ad0, ob 7 6 (vup (vup (vup (vup (vup (vup (dfl tyX7) 0 (.ref qn1)) 1 (.ref qn3)) 4 (.ref qn5)) 5 (.int 0)) 2 (.int 0)) 3 (.ref qn9)))]) [0] (by decide) rfl
  exact W.vret (pc := 51) hx hb hr (fun t ht hW => ⟨⟨(), rfl, trivial, _, ⟨(vup (vup (vup (vup (vup (vup (dfl tyX7) 0 (.ref qn1)) 1 (.ref qn3)) 4 (.ref qn5)) 5 (.int 0)) 2 (.int 0)) 3 (.ref qn9)), rfl, rfl⟩, by rw [ht]; exact hP99, hD99⟩, hS10.F ht⟩) hS10.2.2 dX7_init_51
set_option maxHeartbeats 4000000 in
set_option maxRecDepth 100000 in
/-- X7_init -/
theorem c_Rows30 (l : Launch) (D : va_G) (cy : Nat → ClassId) (kv : KV) (sz : Nat) (ad0 : Nat) : Met l yX7_init (Cond.code yX7_init cX7_init 2 none :: GW) ({ frames := 8, cells := 4, slots := 660, locals := 120 } : Room) (va_Pc [.ref ad0, .int 30] (pcq D cy kv sz [(ad0, ob 7 6 (dfl tyX7))])) (va_Qv (fun (_ : Unit) => True) (fun _ t => bq D (fun w => ∃ (nc904 : Nat → Value), w = [(ad0, ob 7 6 nc904)] ∧ nc904 5 = .int 0) (va_A [(ad0, ob 7 6 (dfl tyX7))] sz) t) (va_A [(ad0, ob 7 6 (dfl tyX7))] sz)) 4 660 (va_A [(ad0, ob 7 6 (dfl tyX7))] sz) := by
  refine Met.ofW (cc := cX7_init) (maxL := 2) (ret := none) (by decide) rfl ?_
  intro p e s m args below meth c s₁ B hml hv
  obtain ⟨rfl, hsz, hP, hK, hD0, hE⟩ := hv
  have hx := B.exec
  have hb := B.bytes
  have hr := B.returns
  have hG : ∀ w ∈ GW, w.before ([.ref ad0, .int 30] : List Value).toArray s = true := fun w h => atoms_spec (ws := Cond.code yX7_init cX7_init 2 none :: GW) B.pre w (List.mem_cons_of_mem _ h)
  have hown : s.vm.findClass RX7 = some m.cls := findClass_of_methodNamed B.named
  have hlocks := B.notSynchronized
  have hin : meth.name = "<init>" := (name_of_methodNamed B.named B.method).1
  subst hsz
  have hD := hD0.self (sz := s.heap.size)
  generalize hAe : va_A [(ad0, ob 7 6 (dfl tyX7))] s.heap.size = A at hD hE ⊢
  have hA : ∀ q : Nat, s.heap.size ≤ q → A q := fun q h => by rw [← hAe]; exact Or.inr h
  have hS : va_S A s.heap s.heap [] := va_S.rf
  clear hAe hD0
  have hl0 := lv_entry ([.ref ad0, .int 30]) (n := 2) (Nat.le_of_ble_eq_true rfl)
  rw [lg_entry_eq]
  generalize (lg_sl ([.ref ad0, .int 30]) ++ List.replicate (2 - (lg_sl ([.ref ad0, .int 30])).length) Slot.unset).toArray = ls at hl0 ⊢
  have hl : lv_has ls 2 [(0, .ref ad0), (1, .int 30)] := hl0
  clear hl0
  refine lv_aload_n (pc := 0) hx hb dX7_init_0 rfl (lv_at hl 0 rfl) ?_
  refine W.objInit hx hb hown (hG _ g_79) (hG _ g_1) (hG _ g_2) rfl (by rw [hml]; exact hl.1) rfl dX7_init_1 (Nat.le_of_ble_eq_true rfl) (Nat.le_of_ble_eq_true rfl) ?_
  refine W.eq (g2 := F0 m 4 ls []) rfl ?_
  refine lv_aload_n (pc := 4) hx hb dX7_init_4 rfl (lv_at hl 0 rfl) ?_
  refine lv_bipush (pc := 5) (v := 20) hx hb dX7_init_5 (by decide) ?_
  refine aq_new (pc := 7) (N' := 20) (C := RX9) (k2 := 1) (n2 := 20) hx hb hown (hG _ g_80) (hE.2.1 _ (by decide +kernel)) hK hP hD hS hA 8 rfl (by decide) (by decide) (by decide) (by decide) (by decide) (Nat.le_of_ble_eq_true rfl) (Nat.le_of_ble_eq_true rfl) dX7_init_7 (fun qn1 H1 hP1r hD1r hS1 => ?_)
  have hP1 : va_P D classes [(ad0, ob 7 6 (dfl tyX7)), (qn1, arq (cy 8) 20 (fun _ => none))] H1 := hP1r
  have hD1 : va_D A [(ad0, ob 7 6 (dfl tyX7)), (qn1, arq (cy 8) 20 (fun _ => none))] := hD1r
  clear hP1r hD1r
  clear hP hD hS
  refine ob_putF (pc := 10) (v := .ref qn1) (ci := 7) (C := RX7) (T := TX7) (N := 6) hx hb hG in_X7 tyX7 tyX7_ok nmX7 hown hK hP1 hD1 hS1 0 rfl rfl 0 (by decide) (hG _ g_81) rfl rfl hin rfl rfl rfl dX7_init_10 (ws' := [(ad0, ob 7 6 (vup (dfl tyX7) 0 (.ref qn1))), (qn1, arq (cy 8) 20 (fun _ => none))]) rfl (fun H2 lo2 hP2 hD2 hS2 => ?_)
  clear hP1 hD1 hS1
  clear H1
  refine lv_aload_n (pc := 13) hx hb dX7_init_13 rfl (lv_at hl 0 rfl) ?_
  refine lv_bipush (pc := 14) (v := 20) hx hb dX7_init_14 (by decide) ?_
  refine aq_new (pc := 16) (N' := 20) (C := RX9) (k2 := 2) (n2 := 40) hx hb hown (hG _ g_80) (hE.2.1 _ (by decide +kernel)) hK hP2 hD2 hS2 hA 8 rfl (by decide) (by decide) (by decide) (by decide) (by decide) (Nat.le_of_ble_eq_true rfl) (Nat.le_of_ble_eq_true rfl) dX7_init_16 (fun qn3 H3 hP3r hD3r hS3 => ?_)
  have hP3 : va_P D classes [(ad0, ob 7 6 (vup (dfl tyX7) 0 (.ref qn1))), (qn1, arq (cy 8) 20 (fun _ => none)), (qn3, arq (cy 8) 20 (fun _ => none))] H3 := hP3r
  have hD3 : va_D A [(ad0, ob 7 6 (vup (dfl tyX7) 0 (.ref qn1))), (qn1, arq (cy 8) 20 (fun _ => none)), (qn3, arq (cy 8) 20 (fun _ => none))] := hD3r
  clear hP3r hD3r
  clear hP2 hD2 hS2
  clear H2
  refine ob_putF (pc := 19) (v := .ref qn3) (ci := 7) (C := RX7) (T := TX7) (N := 6) hx hb hG in_X7 tyX7 tyX7_ok nmX7 hown hK hP3 hD3 hS3 0 rfl rfl 1 (by decide) (hG _ g_82) rfl rfl hin rfl rfl rfl dX7_init_19 (ws' := [(ad0, ob 7 6 (vup (vup (dfl tyX7) 0 (.ref qn1)) 1 (.ref qn3))), (qn1, arq (cy 8) 20 (fun _ => none)), (qn3, arq (cy 8) 20 (fun _ => none))]) rfl (fun H4 lo4 hP4 hD4 hS4 => ?_)
  clear hP3 hD3 hS3
  clear H3 lo2
  refine lv_aload_n (pc := 22) hx hb dX7_init_22 rfl (lv_at hl 0 rfl) ?_
  refine lv_bipush (pc := 23) (v := 20) hx hb dX7_init_23 (by decide) ?_
  refine ar_new (pc := 25) (atype := .int) (N' := 20) (ty := .int) (a0 := (20, .inl (fun _ => 0))) (k2 := 3) (n2 := 60) hx hb (hG _ g_22) rfl hK hP4 hD4 hS4 hA 0 rfl (fun _ => rfl) (by decide) (by decide) (by decide) (by decide) (by decide) (Nat.le_of_ble_eq_true rfl) (Nat.le_of_ble_eq_true rfl) dX7_init_25 (fun qn5 H5 hP5r hD5r hS5 => ?_)
  have hP5 : va_P D classes [(ad0, ob 7 6 (vup (vup (dfl tyX7) 0 (.ref qn1)) 1 (.ref qn3))), (qn1, arq (cy 8) 20 (fun _ => none)), (qn3, arq (cy 8) 20 (fun _ => none)), (qn5, ari (cy 0) 20 (fun _ => 0))] H5 := hP5r
  have hD5 : va_D A [(ad0, ob 7 6 (vup (vup (dfl tyX7) 0 (.ref qn1)) 1 (.ref qn3))), (qn1, arq (cy 8) 20 (fun _ => none)), (qn3, arq (cy 8) 20 (fun _ => none)), (qn5, ari (cy 0) 20 (fun _ => 0))] := hD5r
  clear hP5r hD5r
  clear hP4 hD4 hS4
  clear H4
  refine ob_putF (pc := 27) (v := .ref qn5) (ci := 7) (C := RX7) (T := TX7) (N := 6) hx hb hG in_X7 tyX7 tyX7_ok nmX7 hown hK hP5 hD5 hS5 0 rfl rfl 4 (by decide) (hG _ g_83) rfl rfl hin rfl rfl rfl dX7_init_27 (ws' := [(ad0, ob 7 6 (vup (vup (vup (dfl tyX7) 0 (.ref qn1)) 1 (.ref qn3)) 4 (.ref qn5))), (qn1, arq (cy 8) 20 (fun _ => none)), (qn3, arq (cy 8) 20 (fun _ => none)), (qn5, ari (cy 0) 20 (fun _ => 0))]) rfl (fun H6 lo6 hP6 hD6 hS6 => ?_)
  clear hP5 hD5 hS5
  clear H5 lo4
  refine lv_aload_n (pc := 30) hx hb dX7_init_30 rfl (lv_at hl 0 rfl) ?_
  refine lv_iconst (pc := 31) (v := 0) hx hb dX7_init_31 (by decide) ?_
  refine ob_put (pc := 32) (v := .int 0) (ci := 7) (C := RX7) (T := TX7) (N := 6) hx hb hG in_X7 tyX7 tyX7_ok nmX7 hown hK hP6 hD6 hS6 0 rfl rfl 5 (by decide) (hG _ g_84) rfl rfl rfl rfl dX7_init_32 (ws' := [(ad0, ob 7 6 (vup (vup (vup (vup (dfl tyX7) 0 (.ref qn1)) 1 (.ref qn3)) 4 (.ref qn5)) 5 (.int 0))), (qn1, arq (cy 8) 20 (fun _ => none)), (qn3, arq (cy 8) 20 (fun _ => none)), (qn5, ari (cy 0) 20 (fun _ => 0))]) rfl (fun H7 lo7 hP7 hD7 hS7 => ?_)
  clear hP6 hD6 hS6
  clear H6 lo6
  refine lv_aload_n (pc := 35) hx hb dX7_init_35 rfl (lv_at hl 0 rfl) ?_
  refine lv_iload_n (pc := 36) hx hb dX7_init_36 rfl (lv_at hl 1 rfl) ?_
  refine ob_putF (pc := 37) (v := .int 30) (ci := 7) (C := RX7) (T := TX7) (N := 6) hx hb hG in_X7 tyX7 tyX7_ok nmX7 hown hK hP7 hD7 hS7 0 rfl rfl 2 (by decide) (hG _ g_85) rfl rfl hin rfl rfl rfl dX7_init_37 (ws' := [(ad0, ob 7 6 (vup (vup (vup (vup (vup (dfl tyX7) 0 (.ref qn1)) 1 (.ref qn3)) 4 (.ref qn5)) 5 (.int 0)) 2 (.int 30))), (qn1, arq (cy 8) 20 (fun _ => none)), (qn3, arq (cy 8) 20 (fun _ => none)), (qn5, ari (cy 0) 20 (fun _ => 0))]) rfl (fun H8 lo8 hP8 hD8 hS8 => ?_)
  clear hP7 hD7 hS7
  clear H7 lo7
  refine lv_aload_n (pc := 40) hx hb dX7_init_40 rfl (lv_at hl 0 rfl) ?_
  refine lv_iload_n (pc := 41) hx hb dX7_init_41 rfl (lv_at hl 1 rfl) ?_
  refine lv_bipush (pc := 42) (v := 20) hx hb dX7_init_42 (by decide) ?_
  refine lv_imul (pc := 44) hx hb dX7_init_44 ?_
  refine tp_i (y := 600) (by decide) ?_
  refine aq_new (pc := 45) (N' := 600) (C := RX9) (k2 := 4) (n2 := 660) hx hb hown (hG _ g_80) (hE.2.1 _ (by decide +kernel)) hK hP8 hD8 hS8 hA 8 rfl (by decide) (by decide) (by decide) (by decide) (by decide) (Nat.le_of_ble_eq_true rfl) (Nat.le_of_ble_eq_true rfl) dX7_init_45 (fun qn9 H9 hP9r hD9r hS9 => ?_)
  have hP9 : va_P D classes [(ad0, ob 7 6 (vup (vup (vup (vup (vup (dfl tyX7) 0 (.ref qn1)) 1 (.ref qn3)) 4 (.ref qn5)) 5 (.int 0)) 2 (.int 30))), (qn1, arq (cy 8) 20 (fun _ => none)), (qn3, arq (cy 8) 20 (fun _ => none)), (qn5, ari (cy 0) 20 (fun _ => 0)), (qn9, arq (cy 8) 600 (fun _ => none))] H9 := hP9r
  have hD9 : va_D A [(ad0, ob 7 6 (vup (vup (vup (vup (vup (dfl tyX7) 0 (.ref qn1)) 1 (.ref qn3)) 4 (.ref qn5)) 5 (.int 0)) 2 (.int 30))), (qn1, arq (cy 8) 20 (fun _ => none)), (qn3, arq (cy 8) 20 (fun _ => none)), (qn5, ari (cy 0) 20 (fun _ => 0)), (qn9, arq (cy 8) 600 (fun _ => none))] := hD9r
  clear hP9r hD9r
  clear hP8 hD8 hS8
  clear H8
  refine ob_putF (pc := 48) (v := .ref qn9) (ci := 7) (C := RX7) (T := TX7) (N := 6) hx hb hG in_X7 tyX7 tyX7_ok nmX7 hown hK hP9 hD9 hS9 0 rfl rfl 3 (by decide) (hG _ g_86) rfl rfl hin rfl rfl rfl dX7_init_48 (ws' := [(ad0, ob 7 6 (vup (vup (vup (vup (vup (vup (dfl tyX7) 0 (.ref qn1)) 1 (.ref qn3)) 4 (.ref qn5)) 5 (.int 0)) 2 (.int 30)) 3 (.ref qn9))), (qn1, arq (cy 8) 20 (fun _ => none)), (qn3, arq (cy 8) 20 (fun _ => none)), (qn5, ari (cy 0) 20 (fun _ => 0)), (qn9, arq (cy 8) 600 (fun _ => none))]) rfl (fun H10 lo10 hP10 hD10 hS10 => ?_)
  clear hP9 hD9 hS9
  clear H9 lo8
  have hP99 := hP10.sub (ws' := [(ad0, ob 7 6 (vup (vup (vup (vup (vup (vup (dfl tyX7) 0 (.ref qn1)) 1 (.ref qn3)) 4 (.ref qn5)) 5 (.int 0)) 2 (.int 30)) 3 (.ref qn9)))]) [0] rfl
  have hD99 := hD10.sub (ws' := [(ad0, ob 7 6 (vup (vup (vup (vup (vup (vup (dfl tyX7) 0 (.ref qn1)) 1 (.ref qn3)) 4 (.ref qn5)) 5 (.int 0)) 2 (.int 30)) 3 (.ref qn9)))]) [0] (by decide) rfl
  exact W.vret (pc := 51) hx hb hr (fun t ht hW => ⟨⟨(), rfl, trivial, _, ⟨(vup (vup (vup (vup (vup (vup (dfl tyX7) 0 (.ref qn1)) 1 (.ref qn3)) 4 (.ref qn5)) 5 (.int 0)) 2 (.int 30)) 3 (.ref qn9)), rfl, rfl⟩, by rw [ht]; exact hP99, hD99⟩, hS10.F ht⟩) hS10.2.2 dX7_init_51
set_option maxHeartbeats 4000000 in
set_option maxRecDepth 100000 in
/-- X11_init -/
theorem c_HD (l : Launch) (D : va_G) (cy : Nat → ClassId) (kv : KV) (sz : Nat) (ad0 : Nat) : Met l yX11_init (Cond.code yX11_init cX11_init 2 none :: GW) ({ frames := 10, cells := 55, slots := 12838, locals := 200 } : Room) (va_Pc [.ref ad0] (pcq D cy kv sz [(ad0, ob 11 15 (dfl tyX11))])) (va_Qv (fun (_ : Unit) => True) (fun _ t => bq D (fun w => ∃ (nw900 : Nat) (nw901 : Nat) (nw903 : Nat) (nw904 : Nat) (nw906 : Nat) (nw907 : Nat) (nw908 : Nat) (nw909 : Nat) (nw910 : Nat) (nw911 : Nat) (nw914 : Nat) (nw915 : Nat) (nw916 : Nat) (nw918 : Nat) (nw919 : Nat) (nw922 : Nat) (nw924 : Nat) (nw926 : Nat) (nw928 : Nat) (nw930 : Nat) (nc932 : Nat → Value) (nc933 : Nat → Value) (nc934 : Nat → Value) (nc935 : Nat → Value) (nc936 : Nat → Value) (nc937 : Nat → Value) (nc938 : Nat → Value) (nc939 : Nat → Value) (nc940 : Nat → Value) (nc941 : Nat → Value) (nc942 : Nat → Value), w = [(ad0, ob 11 15 nc932), (nw900, ari (cy 1) 2000 (fun _ => 0)), (nw901, ob 13 4 nc933), (nw904, ob 10 5 nc934), (nw906, ob 1 15 nc935), (nw907, ob 8 7 nc936), (nw908, ari (cy 0) 2001 (fun _ => 0)), (nw909, ari (cy 0) 2001 (fun _ => 0)), (nw910, ari (cy 0) 2001 (fun _ => 0)), (nw911, ari (cy 0) 2001 (fun _ => 0)), (nw914, arq (cy 6) 3 (va_up (va_up (va_up (fun _ => none) (0 : Int32).toNatClampNeg (some nw926)) (1 : Int32).toNatClampNeg (some nw928)) (2 : Int32).toNatClampNeg (some nw930))), (nw915, ob 3 16 nc937), (nw916, ari (cy 1) 40 (fun _ => 0)), (nw918, ob 3 16 nc938), (nw919, ari (cy 1) 40 (fun _ => 0)), (nw922, ob 6 7 nc939), (nw924, arq (cy 7) 40 (fun _ => none)), (nw926, ob 7 6 nc940), (nw928, ob 7 6 nc941), (nw930, ob 7 6 nc942)] ∧ nc932 0 = .ref nw900 ∧ nc932 1 = .int 0 ∧ nc932 2 = .ref nw901 ∧ nc932 3 = .ref nw903 ∧ nc932 4 = .int 0 ∧ nc932 5 = .ref nw904 ∧ nc932 6 = .ref nw906 ∧ nc932 7 = .ref nw914 ∧ nc932 9 = .ref nw918 ∧ nc932 11 = .ref nw922 ∧ nc932 13 = .int 0 ∧ nc932 12 = .ref nw924 ∧ nc933 3 = .int 0 ∧ nc935 0 = .ref nw907 ∧ nc935 8 = .int (-1) ∧ nc936 0 = .ref nw908 ∧ nc936 1 = .ref nw909 ∧ nc936 2 = .ref nw910 ∧ nc936 3 = .ref nw911 ∧ nc937 1 = .int 0 ∧ nc937 2 = .int 0 ∧ nc937 3 = .int 0 ∧ nc937 4 = .int 0 ∧ nc937 14 = .ref nw916 ∧ nc938 1 = .int 0 ∧ nc938 2 = .int 0 ∧ nc938 3 = .int 0 ∧ nc938 4 = .int 0 ∧ nc938 14 = .ref nw919 ∧ nc939 1 = .int 0 ∧ nc939 3 = .int 0 ∧ nc940 5 = .int 0 ∧ nc941 5 = .int 0 ∧ nc942 5 = .int 0) (va_A [(ad0, ob 11 15 (dfl tyX11))] sz) t) (va_A [(ad0, ob 11 15 (dfl tyX11))] sz)) 55 12838 (va_A [(ad0, ob 11 15 (dfl tyX11))] sz) := by
  refine Met.ofW (cc := cX11_init) (maxL := 2) (ret := none) (by decide) rfl ?_
  intro p e s m args below meth c s₁ B hml hv
  obtain ⟨rfl, hsz, hP, hK, hD0, hE⟩ := hv
  have hx := B.exec
  have hb := B.bytes
  have hr := B.returns
  have hG : ∀ w ∈ GW, w.before ([.ref ad0] : List Value).toArray s = true := fun w h => atoms_spec (ws := Cond.code yX11_init cX11_init 2 none :: GW) B.pre w (List.mem_cons_of_mem _ h)
  have hown : s.vm.findClass RX11 = some m.cls := findClass_of_methodNamed B.named
  have hlocks := B.notSynchronized
  have hin : meth.name = "<init>" := (name_of_methodNamed B.named B.method).1
  subst hsz
  have hD := hD0.self (sz := s.heap.size)
  generalize hAe : va_A [(ad0, ob 11 15 (dfl tyX11))] s.heap.size = A at hD hE ⊢
  have hA : ∀ q : Nat, s.heap.size ≤ q → A q := fun q h => by rw [← hAe]; exact Or.inr h
  have hS : va_S A s.heap s.heap [] := va_S.rf
  clear hAe hD0
  have hl0 := lv_entry ([.ref ad0]) (n := 2) (Nat.le_of_ble_eq_true rfl)
  rw [lg_entry_eq]
  generalize (lg_sl ([.ref ad0]) ++ List.replicate (2 - (lg_sl ([.ref ad0])).length) Slot.unset).toArray = ls at hl0 ⊢
  have hl : lv_has ls 2 [(0, .ref ad0)] := hl0
  clear hl0
  refine lv_aload_n (pc := 0) hx hb dX11_init_0 rfl (lv_at hl 0 rfl) ?_
  refine W.objInit hx hb hown (hG _ g_88) (hG _ g_1) (hG _ g_2) rfl (by rw [hml]; exact hl.1) rfl dX11_init_1 (Nat.le_of_ble_eq_true rfl) (Nat.le_of_ble_eq_true rfl) ?_
  refine W.eq (g2 := F0 m 4 ls []) rfl ?_
  refine lv_aload_n (pc := 4) hx hb dX11_init_4 rfl (lv_at hl 0 rfl) ?_
  refine lv_sipush (pc := 5) (v := 2000) hx hb dX11_init_5 (by decide) ?_
  refine ar_new (pc := 8) (atype := .char) (N' := 2000) (ty := .char) (a0 := (2000, .inl (fun _ => 0))) (k2 := 1) (n2 := 2000) hx hb (hG _ g_54) rfl hK hP hD hS hA 1 rfl (fun _ => rfl) (by decide) (by decide) (by decide) (by decide) (by decide) (Nat.le_of_ble_eq_true rfl) (Nat.le_of_ble_eq_true rfl) dX11_init_8 (fun qn1 H1 hP1r hD1r hS1 => ?_)
  have hP1 : va_P D classes [(ad0, ob 11 15 (dfl tyX11)), (qn1, ari (cy 1) 2000 (fun _ => 0))] H1 := hP1r
  have hD1 : va_D A [(ad0, ob 11 15 (dfl tyX11)), (qn1, ari (cy 1) 2000 (fun _ => 0))] := hD1r
  clear hP1r hD1r
  clear hP hD hS
  refine ob_putF (pc := 10) (v := .ref qn1) (ci := 11) (C := RX11) (T := TX11) (N := 15) hx hb hG in_X11 tyX11 tyX11_ok nmX11 hown hK hP1 hD1 hS1 0 rfl rfl 0 (by decide) (hG _ g_89) rfl rfl hin rfl rfl rfl dX11_init_10 (ws' := [(ad0, ob 11 15 (vup (dfl tyX11) 0 (.ref qn1))), (qn1, ari (cy 1) 2000 (fun _ => 0))]) rfl (fun H2 lo2 hP2 hD2 hS2 => ?_)
  clear hP1 hD1 hS1
  clear H1
  refine lv_aload_n (pc := 13) hx hb dX11_init_13 rfl (lv_at hl 0 rfl) ?_
  refine lv_iconst (pc := 14) (v := 0) hx hb dX11_init_14 (by decide) ?_
  refine ob_put (pc := 15) (v := .int 0) (ci := 11) (C := RX11) (T := TX11) (N := 15) hx hb hG in_X11 tyX11 tyX11_ok nmX11 hown hK hP2 hD2 hS2 0 rfl rfl 1 (by decide) (hG _ g_90) rfl rfl rfl rfl dX11_init_15 (ws' := [(ad0, ob 11 15 (vup (vup (dfl tyX11) 0 (.ref qn1)) 1 (.int 0))), (qn1, ari (cy 1) 2000 (fun _ => 0))]) rfl (fun H3 lo3 hP3 hD3 hS3 => ?_)
  clear hP2 hD2 hS2
  clear H2 lo2
  refine lv_aload_n (pc := 18) hx hb dX11_init_18 rfl (lv_at hl 0 rfl) ?_
  refine ob_new (pc := 19) (ci := 13) (C := RJ4) (T := TJ4) (N := 4) (k2 := 2) (n2 := 2004) hx hb hG in_J4 tyJ4 tyJ4_ok hown (hG _ g_91) (hG _ g_92) (hG _ g_93) hK hP3 hD3 hS3 hA rfl (by decide) (by decide) (Nat.le_of_ble_eq_true rfl) (Nat.le_of_ble_eq_true rfl) dX11_init_19 (fun qn4 H4 hP4r hD4r hS4 => ?_)
  have hP4 : va_P D classes [(ad0, ob 11 15 (vup (vup (dfl tyX11) 0 (.ref qn1)) 1 (.int 0))), (qn1, ari (cy 1) 2000 (fun _ => 0)), (qn4, ob 13 4 (dfl tyJ4))] H4 := hP4r
  have hD4 : va_D A [(ad0, ob 11 15 (vup (vup (dfl tyX11) 0 (.ref qn1)) 1 (.int 0))), (qn1, ari (cy 1) 2000 (fun _ => 0)), (qn4, ob 13 4 (dfl tyJ4))] := hD4r
  clear hP4r hD4r
  clear hP3 hD3 hS3
  clear H3
  refine lv_dup (pc := 22) hx hb dX11_init_22 rfl ?_
  refine cq_v (pc := 23) (wr := [(ad0, ob 11 15 (vup (vup (dfl tyX11) 0 (.ref qn1)) 1 (.int 0))), (qn1, ari (cy 1) 2000 (fun _ => 0))]) (k2 := 3) (n2 := 2020) (va_runI (As := []) (rest := [.ref qn4, .ref ad0]) ⟨hx, hb, hml, hown, hG⟩ (c_SB l D cy kv H4.size qn4) (cwI 0 hG (gi_c g_11) rfl rfl rfl (hG _ g_93) (hG _ g_94) (hG _ g_95) rfl (by decide +kernel) ⟨Nat.le_of_ble_eq_true rfl, Nat.le_of_ble_eq_true rfl⟩) ⟨pq_blind, (pq_pass hP4 hD4 hK hE hS4 hA [2] rfl (by decide))⟩ rfl rfl hl.1 rfl (lv_room (Nat.le_of_ble_eq_true rfl)) dX11_init_23 ⟨Nat.le_of_ble_eq_true rfl, Nat.le_of_ble_eq_true rfl⟩) hP4 hD4 hS4 hA [2] [0, 1] rfl rfl (by decide) (by decide) (by decide) (by decide) (fun w5 H5 lo5 hR5 hP5r hD5r hS5 => ?_)
  obtain ⟨nc5000, rfl, hf5_0⟩ := hR5
  have hP5 : va_P D classes [(ad0, ob 11 15 (vup (vup (dfl tyX11) 0 (.ref qn1)) 1 (.int 0))), (qn1, ari (cy 1) 2000 (fun _ => 0)), (qn4, ob 13 4 nc5000)] H5 := hP5r
  have hD5 : va_D A [(ad0, ob 11 15 (vup (vup (dfl tyX11) 0 (.ref qn1)) 1 (.int 0))), (qn1, ari (cy 1) 2000 (fun _ => 0)), (qn4, ob 13 4 nc5000)] := hD5r
  clear hP5r hD5r
  clear hP4 hD4 hS4
  clear H4 lo3
  refine ob_putF (pc := 26) (v := .ref qn4) (ci := 11) (C := RX11) (T := TX11) (N := 15) hx hb hG in_X11 tyX11 tyX11_ok nmX11 hown hK hP5 hD5 hS5 0 rfl rfl 2 (by decide) (hG _ g_96) rfl rfl hin rfl rfl rfl dX11_init_26 (ws' := [(ad0, ob 11 15 (vup (vup (vup (dfl tyX11) 0 (.ref qn1)) 1 (.int 0)) 2 (.ref qn4))), (qn1, ari (cy 1) 2000 (fun _ => 0)), (qn4, ob 13 4 nc5000)]) rfl (fun H6 lo6 hP6 hD6 hS6 => ?_)
  clear hP5 hD5 hS5
  clear H5 lo5
  refine lv_aload_n (pc := 29) hx hb dX11_init_29 rfl (lv_at hl 0 rfl) ?_
  refine lv_bipush (pc := 30) (v := 12) hx hb dX11_init_30 (by decide) ?_
  refine aq_new (pc := 32) (N' := 12) (C := RX10) (k2 := 4) (n2 := 2032) hx hb hown (hG _ g_97) (hE.2.1 _ (by decide +kernel)) hK hP6 hD6 hS6 hA 5 rfl (by decide) (by decide) (by decide) (by decide) (by decide) (Nat.le_of_ble_eq_true rfl) (Nat.le_of_ble_eq_true rfl) dX11_init_32 (fun qn7 H7 hP7r hD7r hS7 => ?_)
  have hP7 : va_P D classes [(ad0, ob 11 15 (vup (vup (vup (dfl tyX11) 0 (.ref qn1)) 1 (.int 0)) 2 (.ref qn4))), (qn1, ari (cy 1) 2000 (fun _ => 0)), (qn4, ob 13 4 nc5000), (qn7, arq (cy 5) 12 (fun _ => none))] H7 := hP7r
  have hD7 : va_D A [(ad0, ob 11 15 (vup (vup (vup (dfl tyX11) 0 (.ref qn1)) 1 (.int 0)) 2 (.ref qn4))), (qn1, ari (cy 1) 2000 (fun _ => 0)), (qn4, ob 13 4 nc5000), (qn7, arq (cy 5) 12 (fun _ => none))] := hD7r
  clear hP7r hD7r
  clear hP6 hD6 hS6
  clear H6
  refine ob_putF (pc := 35) (v := .ref qn7) (ci := 11) (C := RX11) (T := TX11) (N := 15) hx hb hG in_X11 tyX11 tyX11_ok nmX11 hown hK hP7 hD7 hS7 0 rfl rfl 3 (by decide) (hG _ g_98) rfl rfl hin rfl rfl rfl dX11_init_35 (ws' := [(ad0, ob 11 15 (vup (vup (vup (vup (dfl tyX11) 0 (.ref qn1)) 1 (.int 0)) 2 (.ref qn4)) 3 (.ref qn7))), (qn1, ari (cy 1) 2000 (fun _ => 0)), (qn4, ob 13 4 nc5000), (qn7, arq (cy 5) 12 (fun _ => none))]) rfl (fun H8 lo8 hP8 hD8 hS8 => ?_)
  clear hP7 hD7 hS7
  clear H7 lo6
  refine lv_aload_n (pc := 38) hx hb dX11_init_38 rfl (lv_at hl 0 rfl) ?_
  refine lv_iconst (pc := 39) (v := 0) hx hb dX11_init_39 (by decide) ?_
  refine ob_put (pc := 40) (v := .int 0) (ci := 11) (C := RX11) (T := TX11) (N := 15) hx hb hG in_X11 tyX11 tyX11_ok nmX11 hown hK hP8 hD8 hS8 0 rfl rfl 4 (by decide) (hG _ g_99) rfl rfl rfl rfl dX11_init_40 (ws' := [(ad0, ob 11 15 (vup (vup (vup (vup (vup (dfl tyX11) 0 (.ref qn1)) 1 (.int 0)) 2 (.ref qn4)) 3 (.ref qn7)) 4 (.int 0))), (qn1, ari (cy 1) 2000 (fun _ => 0)), (qn4, ob 13 4 nc5000), (qn7, arq (cy 5) 12 (fun _ => none))]) rfl (fun H9 lo9 hP9 hD9 hS9 => ?_)
  clear hP8 hD8 hS8
  clear H8 lo8
  refine lv_aload_n (pc := 43) hx hb dX11_init_43 rfl (lv_at hl 0 rfl) ?_
  refine ob_new (pc := 44) (ci := 10) (C := RX10) (T := TX10) (N := 5) (k2 := 5) (n2 := 2037) hx hb hG in_X10 tyX10 tyX10_ok hown (hG _ g_97) (hG _ g_100) (hG _ g_101) hK hP9 hD9 hS9 hA rfl (by decide) (by decide) (Nat.le_of_ble_eq_true rfl) (Nat.le_of_ble_eq_true rfl) dX11_init_44 (fun qn10 H10 hP10r hD10r hS10 => ?_)
  have hP10 : va_P D classes [(ad0, ob 11 15 (vup (vup (vup (vup (vup (dfl tyX11) 0 (.ref qn1)) 1 (.int 0)) 2 (.ref qn4)) 3 (.ref qn7)) 4 (.int 0))), (qn1, ari (cy 1) 2000 (fun _ => 0)), (qn4, ob 13 4 nc5000), (qn7, arq (cy 5) 12 (fun _ => none)), (qn10, ob 10 5 (dfl tyX10))] H10 := hP10r
  have hD10 : va_D A [(ad0, ob 11 15 (vup (vup (vup (vup (vup (dfl tyX11) 0 (.ref qn1)) 1 (.int 0)) 2 (.ref qn4)) 3 (.ref qn7)) 4 (.int 0))), (qn1, ari (cy 1) 2000 (fun _ => 0)), (qn4, ob 13 4 nc5000), (qn7, arq (cy 5) 12 (fun _ => none)), (qn10, ob 10 5 (dfl tyX10))] := hD10r
  clear hP10r hD10r
  clear hP9 hD9 hS9
  clear H9
  refine lv_dup (pc := 47) hx hb dX11_init_47 rfl ?_
  refine cq_v (pc := 48) (wr := [(ad0, ob 11 15 (vup (vup (vup (vup (vup (dfl tyX11) 0 (.ref qn1)) 1 (.int 0)) 2 (.ref qn4)) 3 (.ref qn7)) 4 (.int 0))), (qn1, ari (cy 1) 2000 (fun _ => 0)), (qn4, ob 13 4 nc5000), (qn7, arq (cy 5) 12 (fun _ => none))]) (k2 := 7) (n2 := 2094) (va_runIN (As := []) (rest := [.ref qn10, .ref ad0]) ⟨hx, hb, hml, hown, hG⟩ (c_Tool l D cy kv H10.size qn10) ⟨va_cnB 0 hG (gi_c g_20) rfl rfl rfl (nw_at hE n_1) (hG _ g_101) (by decide +kernel) ⟨Nat.le_of_ble_eq_true rfl, Nat.le_of_ble_eq_true rfl⟩, rfl, hG _ g_102⟩ ⟨pq_blind, (pq_pass hP10 hD10 hK hE hS10 hA [4] rfl (by decide))⟩ rfl rfl hl.1 rfl (lv_room (Nat.le_of_ble_eq_true rfl)) dX11_init_48 ⟨Nat.le_of_ble_eq_true rfl, Nat.le_of_ble_eq_true rfl⟩) hP10 hD10 hS10 hA [4] [0, 1, 2, 3] rfl rfl (by decide) (by decide) (by decide) (by decide) (fun w11 H11 lo11 hR11 hP11r hD11r hS11 => ?_)
  obtain ⟨nc11000, rfl⟩ := hR11
  have hP11 : va_P D classes [(ad0, ob 11 15 (vup (vup (vup (vup (vup (dfl tyX11) 0 (.ref qn1)) 1 (.int 0)) 2 (.ref qn4)) 3 (.ref qn7)) 4 (.int 0))), (qn1, ari (cy 1) 2000 (fun _ => 0)), (qn4, ob 13 4 nc5000), (qn7, arq (cy 5) 12 (fun _ => none)), (qn10, ob 10 5 nc11000)] H11 := hP11r
  have hD11 : va_D A [(ad0, ob 11 15 (vup (vup (vup (vup (vup (dfl tyX11) 0 (.ref qn1)) 1 (.int 0)) 2 (.ref qn4)) 3 (.ref qn7)) 4 (.int 0))), (qn1, ari (cy 1) 2000 (fun _ => 0)), (qn4, ob 13 4 nc5000), (qn7, arq (cy 5) 12 (fun _ => none)), (qn10, ob 10 5 nc11000)] := hD11r
  clear hP11r hD11r
  clear hP10 hD10 hS10
  clear H10 lo9
  refine ob_put (pc := 51) (v := .ref qn10) (ci := 11) (C := RX11) (T := TX11) (N := 15) hx hb hG in_X11 tyX11 tyX11_ok nmX11 hown hK hP11 hD11 hS11 0 rfl rfl 5 (by decide) (hG _ g_103) rfl rfl rfl rfl dX11_init_51 (ws' := [(ad0, ob 11 15 (vup (vup (vup (vup (vup (vup (dfl tyX11) 0 (.ref qn1)) 1 (.int 0)) 2 (.ref qn4)) 3 (.ref qn7)) 4 (.int 0)) 5 (.ref qn10))), (qn1, ari (cy 1) 2000 (fun _ => 0)), (qn4, ob 13 4 nc5000), (qn7, arq (cy 5) 12 (fun _ => none)), (qn10, ob 10 5 nc11000)]) rfl (fun H12 lo12 hP12 hD12 hS12 => ?_)
  clear hP11 hD11 hS11
  clear H11 lo11
  refine lv_aload_n (pc := 54) hx hb dX11_init_54 rfl (lv_at hl 0 rfl) ?_
  refine ob_new (pc := 55) (ci := 1) (C := RX1) (T := TX1) (N := 15) (k2 := 8) (n2 := 2109) hx hb hG in_X1 tyX1 tyX1_ok hown (hG _ g_104) (hG _ g_105) (hG _ g_106) hK hP12 hD12 hS12 hA rfl (by decide) (by decide) (Nat.le_of_ble_eq_true rfl) (Nat.le_of_ble_eq_true rfl) dX11_init_55 (fun qn13 H13 hP13r hD13r hS13 => ?_)
  have hP13 : va_P D classes [(ad0, ob 11 15 (vup (vup (vup (vup (vup (vup (dfl tyX11) 0 (.ref qn1)) 1 (.int 0)) 2 (.ref qn4)) 3 (.ref qn7)) 4 (.int 0)) 5 (.ref qn10))), (qn1, ari (cy 1) 2000 (fun _ => 0)), (qn4, ob 13 4 nc5000), (qn7, arq (cy 5) 12 (fun _ => none)), (qn10, ob 10 5 nc11000), (qn13, ob 1 15 (dfl tyX1))] H13 := hP13r
  have hD13 : va_D A [(ad0, ob 11 15 (vup (vup (vup (vup (vup (vup (dfl tyX11) 0 (.ref qn1)) 1 (.int 0)) 2 (.ref qn4)) 3 (.ref qn7)) 4 (.int 0)) 5 (.ref qn10))), (qn1, ari (cy 1) 2000 (fun _ => 0)), (qn4, ob 13 4 nc5000), (qn7, arq (cy 5) 12 (fun _ => none)), (qn10, ob 10 5 nc11000), (qn13, ob 1 15 (dfl tyX1))] := hD13r
  clear hP13r hD13r
  clear hP12 hD12 hS12
  clear H12
  refine lv_dup (pc := 58) hx hb dX11_init_58 rfl ?_
  refine cq_v (pc := 59) (wr := [(ad0, ob 11 15 (vup (vup (vup (vup (vup (vup (dfl tyX11) 0 (.ref qn1)) 1 (.int 0)) 2 (.ref qn4)) 3 (.ref qn7)) 4 (.int 0)) 5 (.ref qn10))), (qn1, ari (cy 1) 2000 (fun _ => 0)), (qn4, ob 13 4 nc5000), (qn7, arq (cy 5) 12 (fun _ => none)), (qn10, ob 10 5 nc11000)]) (k2 := 18) (n2 := 10920) (va_runIN (As := []) (rest := [.ref qn13, .ref ad0]) ⟨hx, hb, hml, hown, hG⟩ (c_Describer l D cy kv H13.size qn13) ⟨va_cnB 0 hG (gi_c g_42) rfl rfl rfl (nw_at hE n_2) (hG _ g_106) (by decide +kernel) ⟨Nat.le_of_ble_eq_true rfl, Nat.le_of_ble_eq_true rfl⟩, rfl, hG _ g_107⟩ ⟨pq_blind, (pq_pass hP13 hD13 hK hE hS13 hA [5] rfl (by decide))⟩ rfl rfl hl.1 rfl (lv_room (Nat.le_of_ble_eq_true rfl)) dX11_init_59 ⟨Nat.le_of_ble_eq_true rfl, Nat.le_of_ble_eq_true rfl⟩) hP13 hD13 hS13 hA [5] [0, 1, 2, 3, 4] rfl rfl (by decide) (by decide) (by decide) (by decide) (fun w14 H14 lo14 hR14 hP14r hD14r hS14 => ?_)
  obtain ⟨qn14_0, qn14_1, qn14_2, qn14_3, qn14_4, nc14005, nc14006, rfl, hf14_0, hf14_1, hf14_2, hf14_3, hf14_4, hf14_5⟩ := hR14
  have hP14 : va_P D classes [(ad0, ob 11 15 (vup (vup (vup (vup (vup (vup (dfl tyX11) 0 (.ref qn1)) 1 (.int 0)) 2 (.ref qn4)) 3 (.ref qn7)) 4 (.int 0)) 5 (.ref qn10))), (qn1, ari (cy 1) 2000 (fun _ => 0)), (qn4, ob 13 4 nc5000), (qn7, arq (cy 5) 12 (fun _ => none)), (qn10, ob 10 5 nc11000), (qn13, ob 1 15 nc14005), (qn14_0, ob 8 7 nc14006), (qn14_1, ari (cy 0) 2001 (fun _ => 0)), (qn14_2, ari (cy 0) 2001 (fun _ => 0)), (qn14_3, ari (cy 0) 2001 (fun _ => 0)), (qn14_4, ari (cy 0) 2001 (fun _ => 0))] H14 := hP14r
  have hD14 : va_D A [(ad0, ob 11 15 (vup (vup (vup (vup (vup (vup (dfl tyX11) 0 (.ref qn1)) 1 (.int 0)) 2 (.ref qn4)) 3 (.ref qn7)) 4 (.int 0)) 5 (.ref qn10))), (qn1, ari (cy 1) 2000 (fun _ => 0)), (qn4, ob 13 4 nc5000), (qn7, arq (cy 5) 12 (fun _ => none)), (qn10, ob 10 5 nc11000), (qn13, ob 1 15 nc14005), (qn14_0, ob 8 7 nc14006), (qn14_1, ari (cy 0) 2001 (fun _ => 0)), (qn14_2, ari (cy 0) 2001 (fun _ => 0)), (qn14_3, ari (cy 0) 2001 (fun _ => 0)), (qn14_4, ari (cy 0) 2001 (fun _ => 0))] := hD14r
  clear hP14r hD14r
  clear hP13 hD13 hS13
  clear H13 lo12
  refine ob_putF (pc := 62) (v := .ref qn13) (ci := 11) (C := RX11) (T := TX11) (N := 15) hx hb hG in_X11 tyX11 tyX11_ok nmX11 hown hK hP14 hD14 hS14 0 rfl rfl 6 (by decide) (hG _ g_108) rfl rfl hin rfl rfl rfl dX11_init_62 (ws' := [(ad0, ob 11 15 (vup (vup (vup (vup (vup (vup (vup (dfl tyX11) 0 (.ref qn1)) 1 (.int 0)) 2 (.ref qn4)) 3 (.ref qn7)) 4 (.int 0)) 5 (.ref qn10)) 6 (.ref qn13))), (qn1, ari (cy 1) 2000 (fun _ => 0)), (qn4, ob 13 4 nc5000), (qn7, arq (cy 5) 12 (fun _ => none)), (qn10, ob 10 5 nc11000), (qn13, ob 1 15 nc14005), (qn14_0, ob 8 7 nc14006), (qn14_1, ari (cy 0) 2001 (fun _ => 0)), (qn14_2, ari (cy 0) 2001 (fun _ => 0)), (qn14_3, ari (cy 0) 2001 (fun _ => 0)), (qn14_4, ari (cy 0) 2001 (fun _ => 0))]) rfl (fun H15 lo15 hP15 hD15 hS15 => ?_)
  clear hP14 hD14 hS14
  clear H14 lo14
  refine lv_aload_n (pc := 65) hx hb dX11_init_65 rfl (lv_at hl 0 rfl) ?_
  refine lv_iconst (pc := 66) (v := 3) hx hb dX11_init_66 (by decide) ?_
  refine aq_new (pc := 67) (N' := 3) (C := RX7) (k2 := 19) (n2 := 10923) hx hb hown (hG _ g_109) (hE.2.1 _ (by decide +kernel)) hK hP15 hD15 hS15 hA 6 rfl (by decide) (by decide) (by decide) (by decide) (by decide) (Nat.le_of_ble_eq_true rfl) (Nat.le_of_ble_eq_true rfl) dX11_init_67 (fun qn16 H16 hP16r hD16r hS16 => ?_)
  have hP16 : va_P D classes [(ad0, ob 11 15 (vup (vup (vup (vup (vup (vup (vup (dfl tyX11) 0 (.ref qn1)) 1 (.int 0)) 2 (.ref qn4)) 3 (.ref qn7)) 4 (.int 0)) 5 (.ref qn10)) 6 (.ref qn13))), (qn1, ari (cy 1) 2000 (fun _ => 0)), (qn4, ob 13 4 nc5000), (qn7, arq (cy 5) 12 (fun _ => none)), (qn10, ob 10 5 nc11000), (qn13, ob 1 15 nc14005), (qn14_0, ob 8 7 nc14006), (qn14_1, ari (cy 0) 2001 (fun _ => 0)), (qn14_2, ari (cy 0) 2001 (fun _ => 0)), (qn14_3, ari (cy 0) 2001 (fun _ => 0)), (qn14_4, ari (cy 0) 2001 (fun _ => 0)), (qn16, arq (cy 6) 3 (fun _ => none))] H16 := hP16r
  have hD16 : va_D A [(ad0, ob 11 15 (vup (vup (vup (vup (vup (vup (vup (dfl tyX11) 0 (.ref qn1)) 1 (.int 0)) 2 (.ref qn4)) 3 (.ref qn7)) 4 (.int 0)) 5 (.ref qn10)) 6 (.ref qn13))), (qn1, ari (cy 1) 2000 (fun _ => 0)), (qn4, ob 13 4 nc5000), (qn7, arq (cy 5) 12 (fun _ => none)), (qn10, ob 10 5 nc11000), (qn13, ob 1 15 nc14005), (qn14_0, ob 8 7 nc14006), (qn14_1, ari (cy 0) 2001 (fun _ => 0)), (qn14_2, ari (cy 0) 2001 (fun _ => 0)), (qn14_3, ari (cy 0) 2001 (fun _ => 0)), (qn14_4, ari (cy 0) 2001 (fun _ => 0)), (qn16, arq (cy 6) 3 (fun _ => none))] := hD16r
  clear hP16r hD16r
  clear hP15 hD15 hS15
  clear H15
  refine ob_putF (pc := 70) (v := .ref qn16) (ci := 11) (C := RX11) (T := TX11) (N := 15) hx hb hG in_X11 tyX11 tyX11_ok nmX11 hown hK hP16 hD16 hS16 0 rfl rfl 7 (by decide) (hG _ g_110) rfl rfl hin rfl rfl rfl dX11_init_70 (ws' := [(ad0, ob 11 15 (vup (vup (vup (vup (vup (vup (vup (vup (dfl tyX11) 0 (.ref qn1)) 1 (.int 0)) 2 (.ref qn4)) 3 (.ref qn7)) 4 (.int 0)) 5 (.ref qn10)) 6 (.ref qn13)) 7 (.ref qn16))), (qn1, ari (cy 1) 2000 (fun _ => 0)), (qn4, ob 13 4 nc5000), (qn7, arq (cy 5) 12 (fun _ => none)), (qn10, ob 10 5 nc11000), (qn13, ob 1 15 nc14005), (qn14_0, ob 8 7 nc14006), (qn14_1, ari (cy 0) 2001 (fun _ => 0)), (qn14_2, ari (cy 0) 2001 (fun _ => 0)), (qn14_3, ari (cy 0) 2001 (fun _ => 0)), (qn14_4, ari (cy 0) 2001 (fun _ => 0)), (qn16, arq (cy 6) 3 (fun _ => none))]) rfl (fun H17 lo17 hP17 hD17 hS17 => ?_)
  clear hP16 hD16 hS16
  clear H16 lo15
  refine lv_aload_n (pc := 73) hx hb dX11_init_73 rfl (lv_at hl 0 rfl) ?_
  refine ob_new (pc := 74) (ci := 3) (C := RX3) (T := TX3) (N := 16) (k2 := 20) (n2 := 10939) hx hb hG in_X3 tyX3 tyX3_ok hown (hG _ g_111) (hG _ g_112) (hG _ g_113) hK hP17 hD17 hS17 hA rfl (by decide) (by decide) (Nat.le_of_ble_eq_true rfl) (Nat.le_of_ble_eq_true rfl) dX11_init_74 (fun qn18 H18 hP18r hD18r hS18 => ?_)
  have hP18 : va_P D classes [(ad0, ob 11 15 (vup (vup (vup (vup (vup (vup (vup (vup (dfl tyX11) 0 (.ref qn1)) 1 (.int 0)) 2 (.ref qn4)) 3 (.ref qn7)) 4 (.int 0)) 5 (.ref qn10)) 6 (.ref qn13)) 7 (.ref qn16))), (qn1, ari (cy 1) 2000 (fun _ => 0)), (qn4, ob 13 4 nc5000), (qn7, arq (cy 5) 12 (fun _ => none)), (qn10, ob 10 5 nc11000), (qn13, ob 1 15 nc14005), (qn14_0, ob 8 7 nc14006), (qn14_1, ari (cy 0) 2001 (fun _ => 0)), (qn14_2, ari (cy 0) 2001 (fun _ => 0)), (qn14_3, ari (cy 0) 2001 (fun _ => 0)), (qn14_4, ari (cy 0) 2001 (fun _ => 0)), (qn16, arq (cy 6) 3 (fun _ => none)), (qn18, ob 3 16 (dfl tyX3))] H18 := hP18r
  have hD18 : va_D A [(ad0, ob 11 15 (vup (vup (vup (vup (vup (vup (vup (vup (dfl tyX11) 0 (.ref qn1)) 1 (.int 0)) 2 (.ref qn4)) 3 (.ref qn7)) 4 (.int 0)) 5 (.ref qn10)) 6 (.ref qn13)) 7 (.ref qn16))), (qn1, ari (cy 1) 2000 (fun _ => 0)), (qn4, ob 13 4 nc5000), (qn7, arq (cy 5) 12 (fun _ => none)), (qn10, ob 10 5 nc11000), (qn13, ob 1 15 nc14005), (qn14_0, ob 8 7 nc14006), (qn14_1, ari (cy 0) 2001 (fun _ => 0)), (qn14_2, ari (cy 0) 2001 (fun _ => 0)), (qn14_3, ari (cy 0) 2001 (fun _ => 0)), (qn14_4, ari (cy 0) 2001 (fun _ => 0)), (qn16, arq (cy 6) 3 (fun _ => none)), (qn18, ob 3 16 (dfl tyX3))] := hD18r
  clear hP18r hD18r
  clear hP17 hD17 hS17
  clear H17
  refine lv_dup (pc := 77) hx hb dX11_init_77 rfl ?_
  refine cq_v (pc := 78) (wr := [(ad0, ob 11 15 (vup (vup (vup (vup (vup (vup (vup (vup (dfl tyX11) 0 (.ref qn1)) 1 (.int 0)) 2 (.ref qn4)) 3 (.ref qn7)) 4 (.int 0)) 5 (.ref qn10)) 6 (.ref qn13)) 7 (.ref qn16))), (qn1, ari (cy 1) 2000 (fun _ => 0)), (qn4, ob 13 4 nc5000), (qn7, arq (cy 5) 12 (fun _ => none)), (qn10, ob 10 5 nc11000), (qn13, ob 1 15 nc14005), (qn14_0, ob 8 7 nc14006), (qn14_1, ari (cy 0) 2001 (fun _ => 0)), (qn14_2, ari (cy 0) 2001 (fun _ => 0)), (qn14_3, ari (cy 0) 2001 (fun _ => 0)), (qn14_4, ari (cy 0) 2001 (fun _ => 0)), (qn16, arq (cy 6) 3 (fun _ => none))]) (k2 := 22) (n2 := 11039) (va_runIN (As := []) (rest := [.ref qn18, .ref ad0]) ⟨hx, hb, hml, hown, hG⟩ (c_Line l D cy kv H18.size qn18) ⟨va_cnB 0 hG (gi_c g_56) rfl rfl rfl (nw_at hE n_3) (hG _ g_113) (by decide +kernel) ⟨Nat.le_of_ble_eq_true rfl, Nat.le_of_ble_eq_true rfl⟩, rfl, hG _ g_114⟩ ⟨pq_blind, (pq_pass hP18 hD18 hK hE hS18 hA [12] rfl (by decide))⟩ rfl rfl hl.1 rfl (lv_room (Nat.le_of_ble_eq_true rfl)) dX11_init_78 ⟨Nat.le_of_ble_eq_true rfl, Nat.le_of_ble_eq_true rfl⟩) hP18 hD18 hS18 hA [12] [0, 1, 2, 3, 4, 5, 6, 7, 8, 9, 10, 11] rfl rfl (by decide) (by decide) (by decide) (by decide) (fun w19 H19 lo19 hR19 hP19r hD19r hS19 => ?_)
  obtain ⟨qn19_0, nc19001, rfl, hf19_0, hf19_1, hf19_2, hf19_3, hf19_4⟩ := hR19
  have hP19 : va_P D classes [(ad0, ob 11 15 (vup (vup (vup (vup (vup (vup (vup (vup (dfl tyX11) 0 (.ref qn1)) 1 (.int 0)) 2 (.ref qn4)) 3 (.ref qn7)) 4 (.int 0)) 5 (.ref qn10)) 6 (.ref qn13)) 7 (.ref qn16))), (qn1, ari (cy 1) 2000 (fun _ => 0)), (qn4, ob 13 4 nc5000), (qn7, arq (cy 5) 12 (fun _ => none)), (qn10, ob 10 5 nc11000), (qn13, ob 1 15 nc14005), (qn14_0, ob 8 7 nc14006), (qn14_1, ari (cy 0) 2001 (fun _ => 0)), (qn14_2, ari (cy 0) 2001 (fun _ => 0)), (qn14_3, ari (cy 0) 2001 (fun _ => 0)), (qn14_4, ari (cy 0) 2001 (fun _ => 0)), (qn16, arq (cy 6) 3 (fun _ => none)), (qn18, ob 3 16 nc19001), (qn19_0, ari (cy 1) 40 (fun _ => 0))] H19 := hP19r
  have hD19 : va_D A [(ad0, ob 11 15 (vup (vup (vup (vup (vup (vup (vup (vup (dfl tyX11) 0 (.ref qn1)) 1 (.int 0)) 2 (.ref qn4)) 3 (.ref qn7)) 4 (.int 0)) 5 (.ref qn10)) 6 (.ref qn13)) 7 (.ref qn16))), (qn1, ari (cy 1) 2000 (fun _ => 0)), (qn4, ob 13 4 nc5000), (qn7, arq (cy 5) 12 (fun _ => none)), (qn10, ob 10 5 nc11000), (qn13, ob 1 15 nc14005), (qn14_0, ob 8 7 nc14006), (qn14_1, ari (cy 0) 2001 (fun _ => 0)), (qn14_2, ari (cy 0) 2001 (fun _ => 0)), (qn14_3, ari (cy 0) 2001 (fun _ => 0)), (qn14_4, ari (cy 0) 2001 (fun _ => 0)), (qn16, arq (cy 6) 3 (fun _ => none)), (qn18, ob 3 16 nc19001), (qn19_0, ari (cy 1) 40 (fun _ => 0))] := hD19r
  clear hP19r hD19r
  clear hP18 hD18 hS18
  clear H18 lo17
  refine ob_putF (pc := 81) (v := .ref qn18) (ci := 11) (C := RX11) (T := TX11) (N := 15) hx hb hG in_X11 tyX11 tyX11_ok nmX11 hown hK hP19 hD19 hS19 0 rfl rfl 8 (by decide) (hG _ g_115) rfl rfl hin rfl rfl rfl dX11_init_81 (ws' := [(ad0, ob 11 15 (vup (vup (vup (vup (vup (vup (vup (vup (vup (dfl tyX11) 0 (.ref qn1)) 1 (.int 0)) 2 (.ref qn4)) 3 (.ref qn7)) 4 (.int 0)) 5 (.ref qn10)) 6 (.ref qn13)) 7 (.ref qn16)) 8 (.ref qn18))), (qn1, ari (cy 1) 2000 (fun _ => 0)), (qn4, ob 13 4 nc5000), (qn7, arq (cy 5) 12 (fun _ => none)), (qn10, ob 10 5 nc11000), (qn13, ob 1 15 nc14005), (qn14_0, ob 8 7 nc14006), (qn14_1, ari (cy 0) 2001 (fun _ => 0)), (qn14_2, ari (cy 0) 2001 (fun _ => 0)), (qn14_3, ari (cy 0) 2001 (fun _ => 0)), (qn14_4, ari (cy 0) 2001 (fun _ => 0)), (qn16, arq (cy 6) 3 (fun _ => none)), (qn18, ob 3 16 nc19001), (qn19_0, ari (cy 1) 40 (fun _ => 0))]) rfl (fun H20 lo20 hP20 hD20 hS20 => ?_)
  clear hP19 hD19 hS19
  clear H19 lo19
  refine lv_aload_n (pc := 84) hx hb dX11_init_84 rfl (lv_at hl 0 rfl) ?_
  refine ob_new (pc := 85) (ci := 3) (C := RX3) (T := TX3) (N := 16) (k2 := 23) (n2 := 11055) hx hb hG in_X3 tyX3 tyX3_ok hown (hG _ g_111) (hG _ g_112) (hG _ g_113) hK hP20 hD20 hS20 hA rfl (by decide) (by decide) (Nat.le_of_ble_eq_true rfl) (Nat.le_of_ble_eq_true rfl) dX11_init_85 (fun qn21 H21 hP21r hD21r hS21 => ?_)
  have hP21 : va_P D classes [(ad0, ob 11 15 (vup (vup (vup (vup (vup (vup (vup (vup (vup (dfl tyX11) 0 (.ref qn1)) 1 (.int 0)) 2 (.ref qn4)) 3 (.ref qn7)) 4 (.int 0)) 5 (.ref qn10)) 6 (.ref qn13)) 7 (.ref qn16)) 8 (.ref qn18))), (qn1, ari (cy 1) 2000 (fun _ => 0)), (qn4, ob 13 4 nc5000), (qn7, arq (cy 5) 12 (fun _ => none)), (qn10, ob 10 5 nc11000), (qn13, ob 1 15 nc14005), (qn14_0, ob 8 7 nc14006), (qn14_1, ari (cy 0) 2001 (fun _ => 0)), (qn14_2, ari (cy 0) 2001 (fun _ => 0)), (qn14_3, ari (cy 0) 2001 (fun _ => 0)), (qn14_4, ari (cy 0) 2001 (fun _ => 0)), (qn16, arq (cy 6) 3 (fun _ => none)), (qn18, ob 3 16 nc19001), (qn19_0, ari (cy 1) 40 (fun _ => 0)), (qn21, ob 3 16 (dfl tyX3))] H21 := hP21r
  have hD21 : va_D A [(ad0, ob 11 15 (vup (vup (vup (vup (vup (vup (vup (vup (vup (dfl tyX11) 0 (.ref qn1)) 1 (.int 0)) 2 (.ref qn4)) 3 (.ref qn7)) 4 (.int 0)) 5 (.ref qn10)) 6 (.ref qn13)) 7 (.ref qn16)) 8 (.ref qn18))), (qn1, ari (cy 1) 2000 (fun _ => 0)), (qn4, ob 13 4 nc5000), (qn7, arq (cy 5) 12 (fun _ => none)), (qn10, ob 10 5 nc11000), (qn13, ob 1 15 nc14005), (qn14_0, ob 8 7 nc14006), (qn14_1, ari (cy 0) 2001 (fun _ => 0)), (qn14_2, ari (cy 0) 2001 (fun _ => 0)), (qn14_3, ari (cy 0) 2001 (fun _ => 0)), (qn14_4, ari (cy 0) 2001 (fun _ => 0)), (qn16, arq (cy 6) 3 (fun _ => none)), (qn18, ob 3 16 nc19001), (qn19_0, ari (cy 1) 40 (fun _ => 0)), (qn21, ob 3 16 (dfl tyX3))] := hD21r
  clear hP21r hD21r
  clear hP20 hD20 hS20
  clear H20
  refine lv_dup (pc := 88) hx hb dX11_init_88 rfl ?_
  refine cq_v (pc := 89) (wr := [(ad0, ob 11 15 (vup (vup (vup (vup (vup (vup (vup (vup (vup (dfl tyX11) 0 (.ref qn1)) 1 (.int 0)) 2 (.ref qn4)) 3 (.ref qn7)) 4 (.int 0)) 5 (.ref qn10)) 6 (.ref qn13)) 7 (.ref qn16)) 8 (.ref qn18))), (qn1, ari (cy 1) 2000 (fun _ => 0)), (qn4, ob 13 4 nc5000), (qn7, arq (cy 5) 12 (fun _ => none)), (qn10, ob 10 5 nc11000), (qn13, ob 1 15 nc14005), (qn14_0, ob 8 7 nc14006), (qn14_1, ari (cy 0) 2001 (fun _ => 0)), (qn14_2, ari (cy 0) 2001 (fun _ => 0)), (qn14_3, ari (cy 0) 2001 (fun _ => 0)), (qn14_4, ari (cy 0) 2001 (fun _ => 0)), (qn16, arq (cy 6) 3 (fun _ => none)), (qn18, ob 3 16 nc19001), (qn19_0, ari (cy 1) 40 (fun _ => 0))]) (k2 := 25) (n2 := 11155) (va_runIN (As := []) (rest := [.ref qn21, .ref ad0]) ⟨hx, hb, hml, hown, hG⟩ (c_Line l D cy kv H21.size qn21) ⟨va_cnB 0 hG (gi_c g_56) rfl rfl rfl (nw_at hE n_3) (hG _ g_113) (by decide +kernel) ⟨Nat.le_of_ble_eq_true rfl, Nat.le_of_ble_eq_true rfl⟩, rfl, hG _ g_114⟩ ⟨pq_blind, (pq_pass hP21 hD21 hK hE hS21 hA [14] rfl (by decide))⟩ rfl rfl hl.1 rfl (lv_room (Nat.le_of_ble_eq_true rfl)) dX11_init_89 ⟨Nat.le_of_ble_eq_true rfl, Nat.le_of_ble_eq_true rfl⟩) hP21 hD21 hS21 hA [14] [0, 1, 2, 3, 4, 5, 6, 7, 8, 9, 10, 11, 12, 13] rfl rfl (by decide) (by decide) (by decide) (by decide) (fun w22 H22 lo22 hR22 hP22r hD22r hS22 => ?_)
  obtain ⟨qn22_0, nc22001, rfl, hf22_0, hf22_1, hf22_2, hf22_3, hf22_4⟩ := hR22
  have hP22 : va_P D classes [(ad0, ob 11 15 (vup (vup (vup (vup (vup (vup (vup (vup (vup (dfl tyX11) 0 (.ref qn1)) 1 (.int 0)) 2 (.ref qn4)) 3 (.ref qn7)) 4 (.int 0)) 5 (.ref qn10)) 6 (.ref qn13)) 7 (.ref qn16)) 8 (.ref qn18))), (qn1, ari (cy 1) 2000 (fun _ => 0)), (qn4, ob 13 4 nc5000), (qn7, arq (cy 5) 12 (fun _ => none)), (qn10, ob 10 5 nc11000), (qn13, ob 1 15 nc14005), (qn14_0, ob 8 7 nc14006), (qn14_1, ari (cy 0) 2001 (fun _ => 0)), (qn14_2, ari (cy 0) 2001 (fun _ => 0)), (qn14_3, ari (cy 0) 2001 (fun _ => 0)), (qn14_4, ari (cy 0) 2001 (fun _ => 0)), (qn16, arq (cy 6) 3 (fun _ => none)), (qn18, ob 3 16 nc19001), (qn19_0, ari (cy 1) 40 (fun _ => 0)), (qn21, ob 3 16 nc22001), (qn22_0, ari (cy 1) 40 (fun _ => 0))] H22 := hP22r
  have hD22 : va_D A [(ad0, ob 11 15 (vup (vup (vup (vup (vup (vup (vup (vup (vup (dfl tyX11) 0 (.ref qn1)) 1 (.int 0)) 2 (.ref qn4)) 3 (.ref qn7)) 4 (.int 0)) 5 (.ref qn10)) 6 (.ref qn13)) 7 (.ref qn16)) 8 (.ref qn18))), (qn1, ari (cy 1) 2000 (fun _ => 0)), (qn4, ob 13 4 nc5000), (qn7, arq (cy 5) 12 (fun _ => none)), (qn10, ob 10 5 nc11000), (qn13, ob 1 15 nc14005), (qn14_0, ob 8 7 nc14006), (qn14_1, ari (cy 0) 2001 (fun _ => 0)), (qn14_2, ari (cy 0) 2001 (fun _ => 0)), (qn14_3, ari (cy 0) 2001 (fun _ => 0)), (qn14_4, ari (cy 0) 2001 (fun _ => 0)), (qn16, arq (cy 6) 3 (fun _ => none)), (qn18, ob 3 16 nc19001), (qn19_0, ari (cy 1) 40 (fun _ => 0)), (qn21, ob 3 16 nc22001), (qn22_0, ari (cy 1) 40 (fun _ => 0))] := hD22r
  clear hP22r hD22r
  clear hP21 hD21 hS21
  clear H21 lo20
  refine ob_putF (pc := 92) (v := .ref qn21) (ci := 11) (C := RX11) (T := TX11) (N := 15) hx hb hG in_X11 tyX11 tyX11_ok nmX11 hown hK hP22 hD22 hS22 0 rfl rfl 9 (by decide) (hG _ g_116) rfl rfl hin rfl rfl rfl dX11_init_92 (ws' := [(ad0, ob 11 15 (vup (vup (vup (vup (vup (vup (vup (vup (vup (vup (dfl tyX11) 0 (.ref qn1)) 1 (.int 0)) 2 (.ref qn4)) 3 (.ref qn7)) 4 (.int 0)) 5 (.ref qn10)) 6 (.ref qn13)) 7 (.ref qn16)) 8 (.ref qn18)) 9 (.ref qn21))), (qn1, ari (cy 1) 2000 (fun _ => 0)), (qn4, ob 13 4 nc5000), (qn7, arq (cy 5) 12 (fun _ => none)), (qn10, ob 10 5 nc11000), (qn13, ob 1 15 nc14005), (qn14_0, ob 8 7 nc14006), (qn14_1, ari (cy 0) 2001 (fun _ => 0)), (qn14_2, ari (cy 0) 2001 (fun _ => 0)), (qn14_3, ari (cy 0) 2001 (fun _ => 0)), (qn14_4, ari (cy 0) 2001 (fun _ => 0)), (qn16, arq (cy 6) 3 (fun _ => none)), (qn18, ob 3 16 nc19001), (qn19_0, ari (cy 1) 40 (fun _ => 0)), (qn21, ob 3 16 nc22001), (qn22_0, ari (cy 1) 40 (fun _ => 0))]) rfl (fun H23 lo23 hP23 hD23 hS23 => ?_)
  clear hP22 hD22 hS22
  clear H22 lo22
  refine lv_aload_n (pc := 95) hx hb dX11_init_95 rfl (lv_at hl 0 rfl) ?_
  refine ob_new (pc := 96) (ci := 0) (C := RX0) (T := TX0) (N := 12) (k2 := 26) (n2 := 11167) hx hb hG in_X0 tyX0 tyX0_ok hown (hG _ g_117) (hG _ g_118) (hG _ g_119) hK hP23 hD23 hS23 hA rfl (by decide) (by decide) (Nat.le_of_ble_eq_true rfl) (Nat.le_of_ble_eq_true rfl) dX11_init_96 (fun qn24 H24 hP24r hD24r hS24 => ?_)
  have hP24 : va_P D classes [(ad0, ob 11 15 (vup (vup (vup (vup (vup (vup (vup (vup (vup (vup (dfl tyX11) 0 (.ref qn1)) 1 (.int 0)) 2 (.ref qn4)) 3 (.ref qn7)) 4 (.int 0)) 5 (.ref qn10)) 6 (.ref qn13)) 7 (.ref qn16)) 8 (.ref qn18)) 9 (.ref qn21))), (qn1, ari (cy 1) 2000 (fun _ => 0)), (qn4, ob 13 4 nc5000), (qn7, arq (cy 5) 12 (fun _ => none)), (qn10, ob 10 5 nc11000), (qn13, ob 1 15 nc14005), (qn14_0, ob 8 7 nc14006), (qn14_1, ari (cy 0) 2001 (fun _ => 0)), (qn14_2, ari (cy 0) 2001 (fun _ => 0)), (qn14_3, ari (cy 0) 2001 (fun _ => 0)), (qn14_4, ari (cy 0) 2001 (fun _ => 0)), (qn16, arq (cy 6) 3 (fun _ => none)), (qn18, ob 3 16 nc19001), (qn19_0, ari (cy 1) 40 (fun _ => 0)), (qn21, ob 3 16 nc22001), (qn22_0, ari (cy 1) 40 (fun _ => 0)), (qn24, ob 0 12 (dfl tyX0))] H24 := hP24r
  have hD24 : va_D A [(ad0, ob 11 15 (vup (vup (vup (vup (vup (vup (vup (vup (vup (vup (dfl tyX11) 0 (.ref qn1)) 1 (.int 0)) 2 (.ref qn4)) 3 (.ref qn7)) 4 (.int 0)) 5 (.ref qn10)) 6 (.ref qn13)) 7 (.ref qn16)) 8 (.ref qn18)) 9 (.ref qn21))), (qn1, ari (cy 1) 2000 (fun _ => 0)), (qn4, ob 13 4 nc5000), (qn7, arq (cy 5) 12 (fun _ => none)), (qn10, ob 10 5 nc11000), (qn13, ob 1 15 nc14005), (qn14_0, ob 8 7 nc14006), (qn14_1, ari (cy 0) 2001 (fun _ => 0)), (qn14_2, ari (cy 0) 2001 (fun _ => 0)), (qn14_3, ari (cy 0) 2001 (fun _ => 0)), (qn14_4, ari (cy 0) 2001 (fun _ => 0)), (qn16, arq (cy 6) 3 (fun _ => none)), (qn18, ob 3 16 nc19001), (qn19_0, ari (cy 1) 40 (fun _ => 0)), (qn21, ob 3 16 nc22001), (qn22_0, ari (cy 1) 40 (fun _ => 0)), (qn24, ob 0 12 (dfl tyX0))] := hD24r
  clear hP24r hD24r
  clear hP23 hD23 hS23
  clear H23
  refine lv_dup (pc := 99) hx hb dX11_init_99 rfl ?_
  refine cq_v (pc := 100) (wr := [(ad0, ob 11 15 (vup (vup (vup (vup (vup (vup (vup (vup (vup (vup (dfl tyX11) 0 (.ref qn1)) 1 (.int 0)) 2 (.ref qn4)) 3 (.ref qn7)) 4 (.int 0)) 5 (.ref qn10)) 6 (.ref qn13)) 7 (.ref qn16)) 8 (.ref qn18)) 9 (.ref qn21))), (qn1, ari (cy 1) 2000 (fun _ => 0)), (qn4, ob 13 4 nc5000), (qn7, arq (cy 5) 12 (fun _ => none)), (qn10, ob 10 5 nc11000), (qn13, ob 1 15 nc14005), (qn14_0, ob 8 7 nc14006), (qn14_1, ari (cy 0) 2001 (fun _ => 0)), (qn14_2, ari (cy 0) 2001 (fun _ => 0)), (qn14_3, ari (cy 0) 2001 (fun _ => 0)), (qn14_4, ari (cy 0) 2001 (fun _ => 0)), (qn16, arq (cy 6) 3 (fun _ => none)), (qn18, ob 3 16 nc19001), (qn19_0, ari (cy 1) 40 (fun _ => 0)), (qn21, ob 3 16 nc22001), (qn22_0, ari (cy 1) 40 (fun _ => 0))]) (k2 := 28) (n2 := 11287) (va_runIN (As := []) (rest := [.ref qn24, .ref ad0]) ⟨hx, hb, hml, hown, hG⟩ (c_Binder l D cy kv H24.size qn24) ⟨va_cnB 0 hG (gi_c g_61) rfl rfl rfl (nw_at hE n_4) (hG _ g_119) (by decide +kernel) ⟨Nat.le_of_ble_eq_true rfl, Nat.le_of_ble_eq_true rfl⟩, rfl, hG _ g_120⟩ ⟨pq_blind, (pq_pass hP24 hD24 hK hE hS24 hA [16] rfl (by decide))⟩ rfl rfl hl.1 rfl (lv_room (Nat.le_of_ble_eq_true rfl)) dX11_init_100 ⟨Nat.le_of_ble_eq_true rfl, Nat.le_of_ble_eq_true rfl⟩) hP24 hD24 hS24 hA [16] [0, 1, 2, 3, 4, 5, 6, 7, 8, 9, 10, 11, 12, 13, 14, 15] rfl rfl (by decide) (by decide) (by decide) (by decide) (fun w25 H25 lo25 hR25 hP25r hD25r hS25 => ?_)
  subst hR25
  have hP25 : va_P D classes [(ad0, ob 11 15 (vup (vup (vup (vup (vup (vup (vup (vup (vup (vup (dfl tyX11) 0 (.ref qn1)) 1 (.int 0)) 2 (.ref qn4)) 3 (.ref qn7)) 4 (.int 0)) 5 (.ref qn10)) 6 (.ref qn13)) 7 (.ref qn16)) 8 (.ref qn18)) 9 (.ref qn21))), (qn1, ari (cy 1) 2000 (fun _ => 0)), (qn4, ob 13 4 nc5000), (qn7, arq (cy 5) 12 (fun _ => none)), (qn10, ob 10 5 nc11000), (qn13, ob 1 15 nc14005), (qn14_0, ob 8 7 nc14006), (qn14_1, ari (cy 0) 2001 (fun _ => 0)), (qn14_2, ari (cy 0) 2001 (fun _ => 0)), (qn14_3, ari (cy 0) 2001 (fun _ => 0)), (qn14_4, ari (cy 0) 2001 (fun _ => 0)), (qn16, arq (cy 6) 3 (fun _ => none)), (qn18, ob 3 16 nc19001), (qn19_0, ari (cy 1) 40 (fun _ => 0)), (qn21, ob 3 16 nc22001), (qn22_0, ari (cy 1) 40 (fun _ => 0))] H25 := hP25r
  have hD25 : va_D A [(ad0, ob 11 15 (vup (vup (vup (vup (vup (vup (vup (vup (vup (vup (dfl tyX11) 0 (.ref qn1)) 1 (.int 0)) 2 (.ref qn4)) 3 (.ref qn7)) 4 (.int 0)) 5 (.ref qn10)) 6 (.ref qn13)) 7 (.ref qn16)) 8 (.ref qn18)) 9 (.ref qn21))), (qn1, ari (cy 1) 2000 (fun _ => 0)), (qn4, ob 13 4 nc5000), (qn7, arq (cy 5) 12 (fun _ => none)), (qn10, ob 10 5 nc11000), (qn13, ob 1 15 nc14005), (qn14_0, ob 8 7 nc14006), (qn14_1, ari (cy 0) 2001 (fun _ => 0)), (qn14_2, ari (cy 0) 2001 (fun _ => 0)), (qn14_3, ari (cy 0) 2001 (fun _ => 0)), (qn14_4, ari (cy 0) 2001 (fun _ => 0)), (qn16, arq (cy 6) 3 (fun _ => none)), (qn18, ob 3 16 nc19001), (qn19_0, ari (cy 1) 40 (fun _ => 0)), (qn21, ob 3 16 nc22001), (qn22_0, ari (cy 1) 40 (fun _ => 0))] := hD25r
  clear hP25r hD25r
  clear hP24 hD24 hS24
  clear H24 lo23
  refine ob_putF (pc := 103) (v := .ref qn24) (ci := 11) (C := RX11) (T := TX11) (N := 15) hx hb hG in_X11 tyX11 tyX11_ok nmX11 hown hK hP25 hD25 hS25 0 rfl rfl 10 (by decide) (hG _ g_121) rfl rfl hin rfl rfl rfl dX11_init_103 (ws' := [(ad0, ob 11 15 (vup (vup (vup (vup (vup (vup (vup (vup (vup (vup (vup (dfl tyX11) 0 (.ref qn1)) 1 (.int 0)) 2 (.ref qn4)) 3 (.ref qn7)) 4 (.int 0)) 5 (.ref qn10)) 6 (.ref qn13)) 7 (.ref qn16)) 8 (.ref qn18)) 9 (.ref qn21)) 10 (.ref qn24))), (qn1, ari (cy 1) 2000 (fun _ => 0)), (qn4, ob 13 4 nc5000), (qn7, arq (cy 5) 12 (fun _ => none)), (qn10, ob 10 5 nc11000), (qn13, ob 1 15 nc14005), (qn14_0, ob 8 7 nc14006), (qn14_1, ari (cy 0) 2001 (fun _ => 0)), (qn14_2, ari (cy 0) 2001 (fun _ => 0)), (qn14_3, ari (cy 0) 2001 (fun _ => 0)), (qn14_4, ari (cy 0) 2001 (fun _ => 0)), (qn16, arq (cy 6) 3 (fun _ => none)), (qn18, ob 3 16 nc19001), (qn19_0, ari (cy 1) 40 (fun _ => 0)), (qn21, ob 3 16 nc22001), (qn22_0, ari (cy 1) 40 (fun _ => 0))]) rfl (fun H26 lo26 hP26 hD26 hS26 => ?_)
  clear hP25 hD25 hS25
  clear H25 lo25
  refine lv_aload_n (pc := 106) hx hb dX11_init_106 rfl (lv_at hl 0 rfl) ?_
  refine ob_new (pc := 107) (ci := 6) (C := RX6) (T := TX6) (N := 7) (k2 := 29) (n2 := 11294) hx hb hG in_X6 tyX6 tyX6_ok hown (hG _ g_122) (hG _ g_123) (hG _ g_124) hK hP26 hD26 hS26 hA rfl (by decide) (by decide) (Nat.le_of_ble_eq_true rfl) (Nat.le_of_ble_eq_true rfl) dX11_init_107 (fun qn27 H27 hP27r hD27r hS27 => ?_)
  have hP27 : va_P D classes [(ad0, ob 11 15 (vup (vup (vup (vup (vup (vup (vup (vup (vup (vup (vup (dfl tyX11) 0 (.ref qn1)) 1 (.int 0)) 2 (.ref qn4)) 3 (.ref qn7)) 4 (.int 0)) 5 (.ref qn10)) 6 (.ref qn13)) 7 (.ref qn16)) 8 (.ref qn18)) 9 (.ref qn21)) 10 (.ref qn24))), (qn1, ari (cy 1) 2000 (fun _ => 0)), (qn4, ob 13 4 nc5000), (qn7, arq (cy 5) 12 (fun _ => none)), (qn10, ob 10 5 nc11000), (qn13, ob 1 15 nc14005), (qn14_0, ob 8 7 nc14006), (qn14_1, ari (cy 0) 2001 (fun _ => 0)), (qn14_2, ari (cy 0) 2001 (fun _ => 0)), (qn14_3, ari (cy 0) 2001 (fun _ => 0)), (qn14_4, ari (cy 0) 2001 (fun _ => 0)), (qn16, arq (cy 6) 3 (fun _ => none)), (qn18, ob 3 16 nc19001), (qn19_0, ari (cy 1) 40 (fun _ => 0)), (qn21, ob 3 16 nc22001), (qn22_0, ari (cy 1) 40 (fun _ => 0)), (qn27, ob 6 7 (dfl tyX6))] H27 := hP27r
  have hD27 : va_D A [(ad0, ob 11 15 (vup (vup (vup (vup (vup (vup (vup (vup (vup (vup (vup (dfl tyX11) 0 (.ref qn1)) 1 (.int 0)) 2 (.ref qn4)) 3 (.ref qn7)) 4 (.int 0)) 5 (.ref qn10)) 6 (.ref qn13)) 7 (.ref qn16)) 8 (.ref qn18)) 9 (.ref qn21)) 10 (.ref qn24))), (qn1, ari (cy 1) 2000 (fun _ => 0)), (qn4, ob 13 4 nc5000), (qn7, arq (cy 5) 12 (fun _ => none)), (qn10, ob 10 5 nc11000), (qn13, ob 1 15 nc14005), (qn14_0, ob 8 7 nc14006), (qn14_1, ari (cy 0) 2001 (fun _ => 0)), (qn14_2, ari (cy 0) 2001 (fun _ => 0)), (qn14_3, ari (cy 0) 2001 (fun _ => 0)), (qn14_4, ari (cy 0) 2001 (fun _ => 0)), (qn16, arq (cy 6) 3 (fun _ => none)), (qn18, ob 3 16 nc19001), (qn19_0, ari (cy 1) 40 (fun _ => 0)), (qn21, ob 3 16 nc22001), (qn22_0, ari (cy 1) 40 (fun _ => 0)), (qn27, ob 6 7 (dfl tyX6))] := hD27r
  clear hP27r hD27r
  clear hP26 hD26 hS26
  clear H26
  refine lv_dup (pc := 110) hx hb dX11_init_110 rfl ?_
  refine cq_v (pc := 111) (wr := [(ad0, ob 11 15 (vup (vup (vup (vup (vup (vup (vup (vup (vup (vup (vup (dfl tyX11) 0 (.ref qn1)) 1 (.int 0)) 2 (.ref qn4)) 3 (.ref qn7)) 4 (.int 0)) 5 (.ref qn10)) 6 (.ref qn13)) 7 (.ref qn16)) 8 (.ref qn18)) 9 (.ref qn21)) 10 (.ref qn24))), (qn1, ari (cy 1) 2000 (fun _ => 0)), (qn4, ob 13 4 nc5000), (qn7, arq (cy 5) 12 (fun _ => none)), (qn10, ob 10 5 nc11000), (qn13, ob 1 15 nc14005), (qn14_0, ob 8 7 nc14006), (qn14_1, ari (cy 0) 2001 (fun _ => 0)), (qn14_2, ari (cy 0) 2001 (fun _ => 0)), (qn14_3, ari (cy 0) 2001 (fun _ => 0)), (qn14_4, ari (cy 0) 2001 (fun _ => 0)), (qn16, arq (cy 6) 3 (fun _ => none)), (qn18, ob 3 16 nc19001), (qn19_0, ari (cy 1) 40 (fun _ => 0)), (qn21, ob 3 16 nc22001), (qn22_0, ari (cy 1) 40 (fun _ => 0))]) (k2 := 33) (n2 := 11412) (va_runIN (As := []) (rest := [.ref qn27, .ref ad0]) ⟨hx, hb, hml, hown, hG⟩ (c_Proposals l D cy kv H27.size qn27) ⟨va_cnB 0 hG (gi_c g_70) rfl rfl rfl (nw_at hE n_5) (hG _ g_124) (by decide +kernel) ⟨Nat.le_of_ble_eq_true rfl, Nat.le_of_ble_eq_true rfl⟩, rfl, hG _ g_125⟩ ⟨pq_blind, (pq_pass hP27 hD27 hK hE hS27 hA [16] rfl (by decide))⟩ rfl rfl hl.1 rfl (lv_room (Nat.le_of_ble_eq_true rfl)) dX11_init_111 ⟨Nat.le_of_ble_eq_true rfl, Nat.le_of_ble_eq_true rfl⟩) hP27 hD27 hS27 hA [16] [0, 1, 2, 3, 4, 5, 6, 7, 8, 9, 10, 11, 12, 13, 14, 15] rfl rfl (by decide) (by decide) (by decide) (by decide) (fun w28 H28 lo28 hR28 hP28r hD28r hS28 => ?_)
  obtain ⟨nc28000, rfl, hf28_0, hf28_1⟩ := hR28
  have hP28 : va_P D classes [(ad0, ob 11 15 (vup (vup (vup (vup (vup (vup (vup (vup (vup (vup (vup (dfl tyX11) 0 (.ref qn1)) 1 (.int 0)) 2 (.ref qn4)) 3 (.ref qn7)) 4 (.int 0)) 5 (.ref qn10)) 6 (.ref qn13)) 7 (.ref qn16)) 8 (.ref qn18)) 9 (.ref qn21)) 10 (.ref qn24))), (qn1, ari (cy 1) 2000 (fun _ => 0)), (qn4, ob 13 4 nc5000), (qn7, arq (cy 5) 12 (fun _ => none)), (qn10, ob 10 5 nc11000), (qn13, ob 1 15 nc14005), (qn14_0, ob 8 7 nc14006), (qn14_1, ari (cy 0) 2001 (fun _ => 0)), (qn14_2, ari (cy 0) 2001 (fun _ => 0)), (qn14_3, ari (cy 0) 2001 (fun _ => 0)), (qn14_4, ari (cy 0) 2001 (fun _ => 0)), (qn16, arq (cy 6) 3 (fun _ => none)), (qn18, ob 3 16 nc19001), (qn19_0, ari (cy 1) 40 (fun _ => 0)), (qn21, ob 3 16 nc22001), (qn22_0, ari (cy 1) 40 (fun _ => 0)), (qn27, ob 6 7 nc28000)] H28 := hP28r
  have hD28 : va_D A [(ad0, ob 11 15 (vup (vup (vup (vup (vup (vup (vup (vup (vup (vup (vup (dfl tyX11) 0 (.ref qn1)) 1 (.int 0)) 2 (.ref qn4)) 3 (.ref qn7)) 4 (.int 0)) 5 (.ref qn10)) 6 (.ref qn13)) 7 (.ref qn16)) 8 (.ref qn18)) 9 (.ref qn21)) 10 (.ref qn24))), (qn1, ari (cy 1) 2000 (fun _ => 0)), (qn4, ob 13 4 nc5000), (qn7, arq (cy 5) 12 (fun _ => none)), (qn10, ob 10 5 nc11000), (qn13, ob 1 15 nc14005), (qn14_0, ob 8 7 nc14006), (qn14_1, ari (cy 0) 2001 (fun _ => 0)), (qn14_2, ari (cy 0) 2001 (fun _ => 0)), (qn14_3, ari (cy 0) 2001 (fun _ => 0)), (qn14_4, ari (cy 0) 2001 (fun _ => 0)), (qn16, arq (cy 6) 3 (fun _ => none)), (qn18, ob 3 16 nc19001), (qn19_0, ari (cy 1) 40 (fun _ => 0)), (qn21, ob 3 16 nc22001), (qn22_0, ari (cy 1) 40 (fun _ => 0)), (qn27, ob 6 7 nc28000)] := hD28r
  clear hP28r hD28r
  clear hP27 hD27 hS27
  clear H27 lo26
  refine ob_putF (pc := 114) (v := .ref qn27) (ci := 11) (C := RX11) (T := TX11) (N := 15) hx hb hG in_X11 tyX11 tyX11_ok nmX11 hown hK hP28 hD28 hS28 0 rfl rfl 11 (by decide) (hG _ g_126) rfl rfl hin rfl rfl rfl dX11_init_114 (ws' := [(ad0, ob 11 15 (vup (vup (vup (vup (vup (vup (vup (vup (vup (vup (vup (vup (dfl tyX11) 0 (.ref qn1)) 1 (.int 0)) 2 (.ref qn4)) 3 (.ref qn7)) 4 (.int 0)) 5 (.ref qn10)) 6 (.ref qn13)) 7 (.ref qn16)) 8 (.ref qn18)) 9 (.ref qn21)) 10 (.ref qn24)) 11 (.ref qn27))), (qn1, ari (cy 1) 2000 (fun _ => 0)), (qn4, ob 13 4 nc5000), (qn7, arq (cy 5) 12 (fun _ => none)), (qn10, ob 10 5 nc11000), (qn13, ob 1 15 nc14005), (qn14_0, ob 8 7 nc14006), (qn14_1, ari (cy 0) 2001 (fun _ => 0)), (qn14_2, ari (cy 0) 2001 (fun _ => 0)), (qn14_3, ari (cy 0) 2001 (fun _ => 0)), (qn14_4, ari (cy 0) 2001 (fun _ => 0)), (qn16, arq (cy 6) 3 (fun _ => none)), (qn18, ob 3 16 nc19001), (qn19_0, ari (cy 1) 40 (fun _ => 0)), (qn21, ob 3 16 nc22001), (qn22_0, ari (cy 1) 40 (fun _ => 0)), (qn27, ob 6 7 nc28000)]) rfl (fun H29 lo29 hP29 hD29 hS29 => ?_)
  clear hP28 hD28 hS28
  clear H28 lo28
  refine lv_aload_n (pc := 117) hx hb dX11_init_117 rfl (lv_at hl 0 rfl) ?_
  refine lv_bipush (pc := 118) (v := 40) hx hb dX11_init_118 (by decide) ?_
  refine aq_new (pc := 120) (N' := 40) (C := RX2) (k2 := 34) (n2 := 11452) hx hb hown (hG _ g_127) (hE.2.1 _ (by decide +kernel)) hK hP29 hD29 hS29 hA 7 rfl (by decide) (by decide) (by decide) (by decide) (by decide) (Nat.le_of_ble_eq_true rfl) (Nat.le_of_ble_eq_true rfl) dX11_init_120 (fun qn30 H30 hP30r hD30r hS30 => ?_)
  have hP30 : va_P D classes [(ad0, ob 11 15 (vup (vup (vup (vup (vup (vup (vup (vup (vup (vup (vup (vup (dfl tyX11) 0 (.ref qn1)) 1 (.int 0)) 2 (.ref qn4)) 3 (.ref qn7)) 4 (.int 0)) 5 (.ref qn10)) 6 (.ref qn13)) 7 (.ref qn16)) 8 (.ref qn18)) 9 (.ref qn21)) 10 (.ref qn24)) 11 (.ref qn27))), (qn1, ari (cy 1) 2000 (fun _ => 0)), (qn4, ob 13 4 nc5000), (qn7, arq (cy 5) 12 (fun _ => none)), (qn10, ob 10 5 nc11000), (qn13, ob 1 15 nc14005), (qn14_0, ob 8 7 nc14006), (qn14_1, ari (cy 0) 2001 (fun _ => 0)), (qn14_2, ari (cy 0) 2001 (fun _ => 0)), (qn14_3, ari (cy 0) 2001 (fun _ => 0)), (qn14_4, ari (cy 0) 2001 (fun _ => 0)), (qn16, arq (cy 6) 3 (fun _ => none)), (qn18, ob 3 16 nc19001), (qn19_0, ari (cy 1) 40 (fun _ => 0)), (qn21, ob 3 16 nc22001), (qn22_0, ari (cy 1) 40 (fun _ => 0)), (qn27, ob 6 7 nc28000), (qn30, arq (cy 7) 40 (fun _ => none))] H30 := hP30r
  have hD30 : va_D A [(ad0, ob 11 15 (vup (vup (vup (vup (vup (vup (vup (vup (vup (vup (vup (vup (dfl tyX11) 0 (.ref qn1)) 1 (.int 0)) 2 (.ref qn4)) 3 (.ref qn7)) 4 (.int 0)) 5 (.ref qn10)) 6 (.ref qn13)) 7 (.ref qn16)) 8 (.ref qn18)) 9 (.ref qn21)) 10 (.ref qn24)) 11 (.ref qn27))), (qn1, ari (cy 1) 2000 (fun _ => 0)), (qn4, ob 13 4 nc5000), (qn7, arq (cy 5) 12 (fun _ => none)), (qn10, ob 10 5 nc11000), (qn13, ob 1 15 nc14005), (qn14_0, ob 8 7 nc14006), (qn14_1, ari (cy 0) 2001 (fun _ => 0)), (qn14_2, ari (cy 0) 2001 (fun _ => 0)), (qn14_3, ari (cy 0) 2001 (fun _ => 0)), (qn14_4, ari (cy 0) 2001 (fun _ => 0)), (qn16, arq (cy 6) 3 (fun _ => none)), (qn18, ob 3 16 nc19001), (qn19_0, ari (cy 1) 40 (fun _ => 0)), (qn21, ob 3 16 nc22001), (qn22_0, ari (cy 1) 40 (fun _ => 0)), (qn27, ob 6 7 nc28000), (qn30, arq (cy 7) 40 (fun _ => none))] := hD30r
  clear hP30r hD30r
  clear hP29 hD29 hS29
  clear H29
  refine ob_putF (pc := 123) (v := .ref qn30) (ci := 11) (C := RX11) (T := TX11) (N := 15) hx hb hG in_X11 tyX11 tyX11_ok nmX11 hown hK hP30 hD30 hS30 0 rfl rfl 12 (by decide) (hG _ g_128) rfl rfl hin rfl rfl rfl dX11_init_123 (ws' := [(ad0, ob 11 15 (vup (vup (vup (vup (vup (vup (vup (vup (vup (vup (vup (vup (vup (dfl tyX11) 0 (.ref qn1)) 1 (.int 0)) 2 (.ref qn4)) 3 (.ref qn7)) 4 (.int 0)) 5 (.ref qn10)) 6 (.ref qn13)) 7 (.ref qn16)) 8 (.ref qn18)) 9 (.ref qn21)) 10 (.ref qn24)) 11 (.ref qn27)) 12 (.ref qn30))), (qn1, ari (cy 1) 2000 (fun _ => 0)), (qn4, ob 13 4 nc5000), (qn7, arq (cy 5) 12 (fun _ => none)), (qn10, ob 10 5 nc11000), (qn13, ob 1 15 nc14005), (qn14_0, ob 8 7 nc14006), (qn14_1, ari (cy 0) 2001 (fun _ => 0)), (qn14_2, ari (cy 0) 2001 (fun _ => 0)), (qn14_3, ari (cy 0) 2001 (fun _ => 0)), (qn14_4, ari (cy 0) 2001 (fun _ => 0)), (qn16, arq (cy 6) 3 (fun _ => none)), (qn18, ob 3 16 nc19001), (qn19_0, ari (cy 1) 40 (fun _ => 0)), (qn21, ob 3 16 nc22001), (qn22_0, ari (cy 1) 40 (fun _ => 0)), (qn27, ob 6 7 nc28000), (qn30, arq (cy 7) 40 (fun _ => none))]) rfl (fun H31 lo31 hP31 hD31 hS31 => ?_)
  clear hP30 hD30 hS30
  clear H30 lo29
  refine lv_aload_n (pc := 126) hx hb dX11_init_126 rfl (lv_at hl 0 rfl) ?_
  refine lv_iconst (pc := 127) (v := 0) hx hb dX11_init_127 (by decide) ?_
  refine ob_put (pc := 128) (v := .int 0) (ci := 11) (C := RX11) (T := TX11) (N := 15) hx hb hG in_X11 tyX11 tyX11_ok nmX11 hown hK hP31 hD31 hS31 0 rfl rfl 13 (by decide) (hG _ g_129) rfl rfl rfl rfl dX11_init_128 (ws' := [(ad0, ob 11 15 (vup (vup (vup (vup (vup (vup (vup (vup (vup (vup (vup (vup (vup (vup (dfl tyX11) 0 (.ref qn1)) 1 (.int 0)) 2 (.ref qn4)) 3 (.ref qn7)) 4 (.int 0)) 5 (.ref qn10)) 6 (.ref qn13)) 7 (.ref qn16)) 8 (.ref qn18)) 9 (.ref qn21)) 10 (.ref qn24)) 11 (.ref qn27)) 12 (.ref qn30)) 13 (.int 0))), (qn1, ari (cy 1) 2000 (fun _ => 0)), (qn4, ob 13 4 nc5000), (qn7, arq (cy 5) 12 (fun _ => none)), (qn10, ob 10 5 nc11000), (qn13, ob 1 15 nc14005), (qn14_0, ob 8 7 nc14006), (qn14_1, ari (cy 0) 2001 (fun _ => 0)), (qn14_2, ari (cy 0) 2001 (fun _ => 0)), (qn14_3, ari (cy 0) 2001 (fun _ => 0)), (qn14_4, ari (cy 0) 2001 (fun _ => 0)), (qn16, arq (cy 6) 3 (fun _ => none)), (qn18, ob 3 16 nc19001), (qn19_0, ari (cy 1) 40 (fun _ => 0)), (qn21, ob 3 16 nc22001), (qn22_0, ari (cy 1) 40 (fun _ => 0)), (qn27, ob 6 7 nc28000), (qn30, arq (cy 7) 40 (fun _ => none))]) rfl (fun H32 lo32 hP32 hD32 hS32 => ?_)
  clear hP31 hD31 hS31
  clear H31 lo31
  refine lv_aload_n (pc := 131) hx hb dX11_init_131 rfl (lv_at hl 0 rfl) ?_
  refine ob_new (pc := 132) (ci := 2) (C := RX2) (T := TX2) (N := 8) (k2 := 35) (n2 := 11460) hx hb hG in_X2 tyX2 tyX2_ok hown (hG _ g_127) (hG _ g_130) (hG _ g_131) hK hP32 hD32 hS32 hA rfl (by decide) (by decide) (Nat.le_of_ble_eq_true rfl) (Nat.le_of_ble_eq_true rfl) dX11_init_132 (fun qn33 H33 hP33r hD33r hS33 => ?_)
  have hP33 : va_P D classes [(ad0, ob 11 15 (vup (vup (vup (vup (vup (vup (vup (vup (vup (vup (vup (vup (vup (vup (dfl tyX11) 0 (.ref qn1)) 1 (.int 0)) 2 (.ref qn4)) 3 (.ref qn7)) 4 (.int 0)) 5 (.ref qn10)) 6 (.ref qn13)) 7 (.ref qn16)) 8 (.ref qn18)) 9 (.ref qn21)) 10 (.ref qn24)) 11 (.ref qn27)) 12 (.ref qn30)) 13 (.int 0))), (qn1, ari (cy 1) 2000 (fun _ => 0)), (qn4, ob 13 4 nc5000), (qn7, arq (cy 5) 12 (fun _ => none)), (qn10, ob 10 5 nc11000), (qn13, ob 1 15 nc14005), (qn14_0, ob 8 7 nc14006), (qn14_1, ari (cy 0) 2001 (fun _ => 0)), (qn14_2, ari (cy 0) 2001 (fun _ => 0)), (qn14_3, ari (cy 0) 2001 (fun _ => 0)), (qn14_4, ari (cy 0) 2001 (fun _ => 0)), (qn16, arq (cy 6) 3 (fun _ => none)), (qn18, ob 3 16 nc19001), (qn19_0, ari (cy 1) 40 (fun _ => 0)), (qn21, ob 3 16 nc22001), (qn22_0, ari (cy 1) 40 (fun _ => 0)), (qn27, ob 6 7 nc28000), (qn30, arq (cy 7) 40 (fun _ => none)), (qn33, ob 2 8 (dfl tyX2))] H33 := hP33r
  have hD33 : va_D A [(ad0, ob 11 15 (vup (vup (vup (vup (vup (vup (vup (vup (vup (vup (vup (vup (vup (vup (dfl tyX11) 0 (.ref qn1)) 1 (.int 0)) 2 (.ref qn4)) 3 (.ref qn7)) 4 (.int 0)) 5 (.ref qn10)) 6 (.ref qn13)) 7 (.ref qn16)) 8 (.ref qn18)) 9 (.ref qn21)) 10 (.ref qn24)) 11 (.ref qn27)) 12 (.ref qn30)) 13 (.int 0))), (qn1, ari (cy 1) 2000 (fun _ => 0)), (qn4, ob 13 4 nc5000), (qn7, arq (cy 5) 12 (fun _ => none)), (qn10, ob 10 5 nc11000), (qn13, ob 1 15 nc14005), (qn14_0, ob 8 7 nc14006), (qn14_1, ari (cy 0) 2001 (fun _ => 0)), (qn14_2, ari (cy 0) 2001 (fun _ => 0)), (qn14_3, ari (cy 0) 2001 (fun _ => 0)), (qn14_4, ari (cy 0) 2001 (fun _ => 0)), (qn16, arq (cy 6) 3 (fun _ => none)), (qn18, ob 3 16 nc19001), (qn19_0, ari (cy 1) 40 (fun _ => 0)), (qn21, ob 3 16 nc22001), (qn22_0, ari (cy 1) 40 (fun _ => 0)), (qn27, ob 6 7 nc28000), (qn30, arq (cy 7) 40 (fun _ => none)), (qn33, ob 2 8 (dfl tyX2))] := hD33r
  clear hP33r hD33r
  clear hP32 hD32 hS32
  clear H32
  refine lv_dup (pc := 135) hx hb dX11_init_135 rfl ?_
  refine cq_v (pc := 136) (wr := [(ad0, ob 11 15 (vup (vup (vup (vup (vup (vup (vup (vup (vup (vup (vup (vup (vup (vup (dfl tyX11) 0 (.ref qn1)) 1 (.int 0)) 2 (.ref qn4)) 3 (.ref qn7)) 4 (.int 0)) 5 (.ref qn10)) 6 (.ref qn13)) 7 (.ref qn16)) 8 (.ref qn18)) 9 (.ref qn21)) 10 (.ref qn24)) 11 (.ref qn27)) 12 (.ref qn30)) 13 (.int 0))), (qn1, ari (cy 1) 2000 (fun _ => 0)), (qn4, ob 13 4 nc5000), (qn7, arq (cy 5) 12 (fun _ => none)), (qn10, ob 10 5 nc11000), (qn13, ob 1 15 nc14005), (qn14_0, ob 8 7 nc14006), (qn14_1, ari (cy 0) 2001 (fun _ => 0)), (qn14_2, ari (cy 0) 2001 (fun _ => 0)), (qn14_3, ari (cy 0) 2001 (fun _ => 0)), (qn14_4, ari (cy 0) 2001 (fun _ => 0)), (qn16, arq (cy 6) 3 (fun _ => none)), (qn18, ob 3 16 nc19001), (qn19_0, ari (cy 1) 40 (fun _ => 0)), (qn21, ob 3 16 nc22001), (qn22_0, ari (cy 1) 40 (fun _ => 0)), (qn27, ob 6 7 nc28000), (qn30, arq (cy 7) 40 (fun _ => none))]) (k2 := 40) (n2 := 12040) (va_runIN (As := []) (rest := [.ref qn33, .ref ad0]) ⟨hx, hb, hml, hown, hG⟩ (c_DeskRecord l D cy kv H33.size qn33) ⟨va_cnB 0 hG (gi_c g_78) rfl rfl rfl (nw_at hE n_6) (hG _ g_131) (by decide +kernel) ⟨Nat.le_of_ble_eq_true rfl, Nat.le_of_ble_eq_true rfl⟩, rfl, hG _ g_132⟩ ⟨pq_blind, (pq_pass hP33 hD33 hK hE hS33 hA [18] rfl (by decide))⟩ rfl rfl hl.1 rfl (lv_room (Nat.le_of_ble_eq_true rfl)) dX11_init_136 ⟨Nat.le_of_ble_eq_true rfl, Nat.le_of_ble_eq_true rfl⟩) hP33 hD33 hS33 hA [18] [0, 1, 2, 3, 4, 5, 6, 7, 8, 9, 10, 11, 12, 13, 14, 15, 16, 17] rfl rfl (by decide) (by decide) (by decide) (by decide) (fun w34 H34 lo34 hR34 hP34r hD34r hS34 => ?_)
  subst hR34
  have hP34 : va_P D classes [(ad0, ob 11 15 (vup (vup (vup (vup (vup (vup (vup (vup (vup (vup (vup (vup (vup (vup (dfl tyX11) 0 (.ref qn1)) 1 (.int 0)) 2 (.ref qn4)) 3 (.ref qn7)) 4 (.int 0)) 5 (.ref qn10)) 6 (.ref qn13)) 7 (.ref qn16)) 8 (.ref qn18)) 9 (.ref qn21)) 10 (.ref qn24)) 11 (.ref qn27)) 12 (.ref qn30)) 13 (.int 0))), (qn1, ari (cy 1) 2000 (fun _ => 0)), (qn4, ob 13 4 nc5000), (qn7, arq (cy 5) 12 (fun _ => none)), (qn10, ob 10 5 nc11000), (qn13, ob 1 15 nc14005), (qn14_0, ob 8 7 nc14006), (qn14_1, ari (cy 0) 2001 (fun _ => 0)), (qn14_2, ari (cy 0) 2001 (fun _ => 0)), (qn14_3, ari (cy 0) 2001 (fun _ => 0)), (qn14_4, ari (cy 0) 2001 (fun _ => 0)), (qn16, arq (cy 6) 3 (fun _ => none)), (qn18, ob 3 16 nc19001), (qn19_0, ari (cy 1) 40 (fun _ => 0)), (qn21, ob 3 16 nc22001), (qn22_0, ari (cy 1) 40 (fun _ => 0)), (qn27, ob 6 7 nc28000), (qn30, arq (cy 7) 40 (fun _ => none))] H34 := hP34r
  have hD34 : va_D A [(ad0, ob 11 15 (vup (vup (vup (vup (vup (vup (vup (vup (vup (vup (vup (vup (vup (vup (dfl tyX11) 0 (.ref qn1)) 1 (.int 0)) 2 (.ref qn4)) 3 (.ref qn7)) 4 (.int 0)) 5 (.ref qn10)) 6 (.ref qn13)) 7 (.ref qn16)) 8 (.ref qn18)) 9 (.ref qn21)) 10 (.ref qn24)) 11 (.ref qn27)) 12 (.ref qn30)) 13 (.int 0))), (qn1, ari (cy 1) 2000 (fun _ => 0)), (qn4, ob 13 4 nc5000), (qn7, arq (cy 5) 12 (fun _ => none)), (qn10, ob 10 5 nc11000), (qn13, ob 1 15 nc14005), (qn14_0, ob 8 7 nc14006), (qn14_1, ari (cy 0) 2001 (fun _ => 0)), (qn14_2, ari (cy 0) 2001 (fun _ => 0)), (qn14_3, ari (cy 0) 2001 (fun _ => 0)), (qn14_4, ari (cy 0) 2001 (fun _ => 0)), (qn16, arq (cy 6) 3 (fun _ => none)), (qn18, ob 3 16 nc19001), (qn19_0, ari (cy 1) 40 (fun _ => 0)), (qn21, ob 3 16 nc22001), (qn22_0, ari (cy 1) 40 (fun _ => 0)), (qn27, ob 6 7 nc28000), (qn30, arq (cy 7) 40 (fun _ => none))] := hD34r
  clear hP34r hD34r
  clear hP33 hD33 hS33
  clear H33 lo32
  refine ob_put (pc := 139) (v := .ref qn33) (ci := 11) (C := RX11) (T := TX11) (N := 15) hx hb hG in_X11 tyX11 tyX11_ok nmX11 hown hK hP34 hD34 hS34 0 rfl rfl 14 (by decide) (hG _ g_133) rfl rfl rfl rfl dX11_init_139 (ws' := [(ad0, ob 11 15 (vup (vup (vup (vup (vup (vup (vup (vup (vup (vup (vup (vup (vup (vup (vup (dfl tyX11) 0 (.ref qn1)) 1 (.int 0)) 2 (.ref qn4)) 3 (.ref qn7)) 4 (.int 0)) 5 (.ref qn10)) 6 (.ref qn13)) 7 (.ref qn16)) 8 (.ref qn18)) 9 (.ref qn21)) 10 (.ref qn24)) 11 (.ref qn27)) 12 (.ref qn30)) 13 (.int 0)) 14 (.ref qn33))), (qn1, ari (cy 1) 2000 (fun _ => 0)), (qn4, ob 13 4 nc5000), (qn7, arq (cy 5) 12 (fun _ => none)), (qn10, ob 10 5 nc11000), (qn13, ob 1 15 nc14005), (qn14_0, ob 8 7 nc14006), (qn14_1, ari (cy 0) 2001 (fun _ => 0)), (qn14_2, ari (cy 0) 2001 (fun _ => 0)), (qn14_3, ari (cy 0) 2001 (fun _ => 0)), (qn14_4, ari (cy 0) 2001 (fun _ => 0)), (qn16, arq (cy 6) 3 (fun _ => none)), (qn18, ob 3 16 nc19001), (qn19_0, ari (cy 1) 40 (fun _ => 0)), (qn21, ob 3 16 nc22001), (qn22_0, ari (cy 1) 40 (fun _ => 0)), (qn27, ob 6 7 nc28000), (qn30, arq (cy 7) 40 (fun _ => none))]) rfl (fun H35 lo35 hP35 hD35 hS35 => ?_)
  clear hP34 hD34 hS34
  clear H34 lo34
  refine lv_iconst (pc := 142) (v := 0) hx hb dX11_init_142 (by decide) ?_
  refine lv_istore_n (pc := 143) (lv' := [(1, .int 0), (0, .ref ad0)]) hx hb dX11_init_143 rfl hl (by decide) rfl (fun ls36 hl36 => ?_)
  clear hl ls
  refine lv_iload_n (pc := 144) hx hb dX11_init_144 rfl (lv_at hl36 0 rfl) ?_
  refine lv_iconst (pc := 145) (v := 3) hx hb dX11_init_145 (by decide) ?_
  refine lv_icmp_ge (pc := 146) (tgt := 179) hx hb dX11_init_146 (by decide) (fun c37 => absurd c37 (by decide)) (fun c37 => ?_)
  refine lv_aload_n (pc := 149) hx hb dX11_init_149 rfl (lv_at hl36 1 rfl) ?_
  refine ob_get (pc := 150) (v := .ref qn16) (ci := 11) (C := RX11) (T := TX11) (N := 15) hx hb hG in_X11 hown hK hP35 0 rfl rfl 7 (by decide) (hG _ g_110) rfl rfl dX11_init_150 ?_
  refine lv_iload_n (pc := 153) hx hb dX11_init_153 rfl (lv_at hl36 0 rfl) ?_
  refine ob_new (pc := 154) (ci := 7) (C := RX7) (T := TX7) (N := 6) (k2 := 41) (n2 := 12046) hx hb hG in_X7 tyX7 tyX7_ok hown (hG _ g_109) (hG _ g_134) (hG _ g_135) hK hP35 hD35 hS35 hA rfl (by decide) (by decide) (Nat.le_of_ble_eq_true rfl) (Nat.le_of_ble_eq_true rfl) dX11_init_154 (fun qn38 H38 hP38r hD38r hS38 => ?_)
  have hP38 : va_P D classes [(ad0, ob 11 15 (vup (vup (vup (vup (vup (vup (vup (vup (vup (vup (vup (vup (vup (vup (vup (dfl tyX11) 0 (.ref qn1)) 1 (.int 0)) 2 (.ref qn4)) 3 (.ref qn7)) 4 (.int 0)) 5 (.ref qn10)) 6 (.ref qn13)) 7 (.ref qn16)) 8 (.ref qn18)) 9 (.ref qn21)) 10 (.ref qn24)) 11 (.ref qn27)) 12 (.ref qn30)) 13 (.int 0)) 14 (.ref qn33))), (qn1, ari (cy 1) 2000 (fun _ => 0)), (qn4, ob 13 4 nc5000), (qn7, arq (cy 5) 12 (fun _ => none)), (qn10, ob 10 5 nc11000), (qn13, ob 1 15 nc14005), (qn14_0, ob 8 7 nc14006), (qn14_1, ari (cy 0) 2001 (fun _ => 0)), (qn14_2, ari (cy 0) 2001 (fun _ => 0)), (qn14_3, ari (cy 0) 2001 (fun _ => 0)), (qn14_4, ari (cy 0) 2001 (fun _ => 0)), (qn16, arq (cy 6) 3 (fun _ => none)), (qn18, ob 3 16 nc19001), (qn19_0, ari (cy 1) 40 (fun _ => 0)), (qn21, ob 3 16 nc22001), (qn22_0, ari (cy 1) 40 (fun _ => 0)), (qn27, ob 6 7 nc28000), (qn30, arq (cy 7) 40 (fun _ => none)), (qn38, ob 7 6 (dfl tyX7))] H38 := hP38r
  have hD38 : va_D A [(ad0, ob 11 15 (vup (vup (vup (vup (vup (vup (vup (vup (vup (vup (vup (vup (vup (vup (vup (dfl tyX11) 0 (.ref qn1)) 1 (.int 0)) 2 (.ref qn4)) 3 (.ref qn7)) 4 (.int 0)) 5 (.ref qn10)) 6 (.ref qn13)) 7 (.ref qn16)) 8 (.ref qn18)) 9 (.ref qn21)) 10 (.ref qn24)) 11 (.ref qn27)) 12 (.ref qn30)) 13 (.int 0)) 14 (.ref qn33))), (qn1, ari (cy 1) 2000 (fun _ => 0)), (qn4, ob 13 4 nc5000), (qn7, arq (cy 5) 12 (fun _ => none)), (qn10, ob 10 5 nc11000), (qn13, ob 1 15 nc14005), (qn14_0, ob 8 7 nc14006), (qn14_1, ari (cy 0) 2001 (fun _ => 0)), (qn14_2, ari (cy 0) 2001 (fun _ => 0)), (qn14_3, ari (cy 0) 2001 (fun _ => 0)), (qn14_4, ari (cy 0) 2001 (fun _ => 0)), (qn16, arq (cy 6) 3 (fun _ => none)), (qn18, ob 3 16 nc19001), (qn19_0, ari (cy 1) 40 (fun _ => 0)), (qn21, ob 3 16 nc22001), (qn22_0, ari (cy 1) 40 (fun _ => 0)), (qn27, ob 6 7 nc28000), (qn30, arq (cy 7) 40 (fun _ => none)), (qn38, ob 7 6 (dfl tyX7))] := hD38r
  clear hP38r hD38r
  clear hP35 hD35 hS35
  clear H35
  refine lv_dup (pc := 157) hx hb dX11_init_157 rfl ?_
  refine lv_iload_n (pc := 158) hx hb dX11_init_158 rfl (lv_at hl36 0 rfl) ?_
  refine lv_iconst (pc := 159) (v := 2) hx hb dX11_init_159 (by decide) ?_
  refine lv_icmp_ne (pc := 160) (tgt := 168) hx hb dX11_init_160 (by decide) (fun c39 => ?_) (fun c39 => absurd c39 (by decide))
  refine lv_iconst (pc := 168) (v := 0) hx hb dX11_init_168 (by decide) ?_
  refine cq_v (pc := 169) (wr := [(ad0, ob 11 15 (vup (vup (vup (vup (vup (vup (vup (vup (vup (vup (vup (vup (vup (vup (vup (dfl tyX11) 0 (.ref qn1)) 1 (.int 0)) 2 (.ref qn4)) 3 (.ref qn7)) 4 (.int 0)) 5 (.ref qn10)) 6 (.ref qn13)) 7 (.ref qn16)) 8 (.ref qn18)) 9 (.ref qn21)) 10 (.ref qn24)) 11 (.ref qn27)) 12 (.ref qn30)) 13 (.int 0)) 14 (.ref qn33))), (qn1, ari (cy 1) 2000 (fun _ => 0)), (qn4, ob 13 4 nc5000), (qn7, arq (cy 5) 12 (fun _ => none)), (qn10, ob 10 5 nc11000), (qn13, ob 1 15 nc14005), (qn14_0, ob 8 7 nc14006), (qn14_1, ari (cy 0) 2001 (fun _ => 0)), (qn14_2, ari (cy 0) 2001 (fun _ => 0)), (qn14_3, ari (cy 0) 2001 (fun _ => 0)), (qn14_4, ari (cy 0) 2001 (fun _ => 0)), (qn16, arq (cy 6) 3 (fun _ => none)), (qn18, ob 3 16 nc19001), (qn19_0, ari (cy 1) 40 (fun _ => 0)), (qn21, ob 3 16 nc22001), (qn22_0, ari (cy 1) 40 (fun _ => 0)), (qn27, ob 6 7 nc28000), (qn30, arq (cy 7) 40 (fun _ => none))]) (k2 := 45) (n2 := 12106) (va_runI (As := [.int 0]) (rest := [.ref qn38, .int 0, .ref qn16]) ⟨hx, hb, hml, hown, hG⟩ (c_Rows0 l D cy kv H38.size qn38) (cwI 1 hG (gi_c g_87) rfl rfl rfl (hG _ g_135) (hG _ g_136) (hG _ g_137) rfl (by decide +kernel) ⟨Nat.le_of_ble_eq_true rfl, Nat.le_of_ble_eq_true rfl⟩) ⟨pq_blind, (pq_pass hP38 hD38 hK hE hS38 hA [18] rfl (by decide))⟩ rfl rfl hl36.1 rfl (lv_room (Nat.le_of_ble_eq_true rfl)) dX11_init_169 ⟨Nat.le_of_ble_eq_true rfl, Nat.le_of_ble_eq_true rfl⟩) hP38 hD38 hS38 hA [18] [0, 1, 2, 3, 4, 5, 6, 7, 8, 9, 10, 11, 12, 13, 14, 15, 16, 17] rfl rfl (by decide) (by decide) (by decide) (by decide) (fun w40 H40 lo40 hR40 hP40r hD40r hS40 => ?_)
  obtain ⟨nc40000, rfl, hf40_0⟩ := hR40
  have hP40 : va_P D classes [(ad0, ob 11 15 (vup (vup (vup (vup (vup (vup (vup (vup (vup (vup (vup (vup (vup (vup (vup (dfl tyX11) 0 (.ref qn1)) 1 (.int 0)) 2 (.ref qn4)) 3 (.ref qn7)) 4 (.int 0)) 5 (.ref qn10)) 6 (.ref qn13)) 7 (.ref qn16)) 8 (.ref qn18)) 9 (.ref qn21)) 10 (.ref qn24)) 11 (.ref qn27)) 12 (.ref qn30)) 13 (.int 0)) 14 (.ref qn33))), (qn1, ari (cy 1) 2000 (fun _ => 0)), (qn4, ob 13 4 nc5000), (qn7, arq (cy 5) 12 (fun _ => none)), (qn10, ob 10 5 nc11000), (qn13, ob 1 15 nc14005), (qn14_0, ob 8 7 nc14006), (qn14_1, ari (cy 0) 2001 (fun _ => 0)), (qn14_2, ari (cy 0) 2001 (fun _ => 0)), (qn14_3, ari (cy 0) 2001 (fun _ => 0)), (qn14_4, ari (cy 0) 2001 (fun _ => 0)), (qn16, arq (cy 6) 3 (fun _ => none)), (qn18, ob 3 16 nc19001), (qn19_0, ari (cy 1) 40 (fun _ => 0)), (qn21, ob 3 16 nc22001), (qn22_0, ari (cy 1) 40 (fun _ => 0)), (qn27, ob 6 7 nc28000), (qn30, arq (cy 7) 40 (fun _ => none)), (qn38, ob 7 6 nc40000)] H40 := hP40r
  have hD40 : va_D A [(ad0, ob 11 15 (vup (vup (vup (vup (vup (vup (vup (vup (vup (vup (vup (vup (vup (vup (vup (dfl tyX11) 0 (.ref qn1)) 1 (.int 0)) 2 (.ref qn4)) 3 (.ref qn7)) 4 (.int 0)) 5 (.ref qn10)) 6 (.ref qn13)) 7 (.ref qn16)) 8 (.ref qn18)) 9 (.ref qn21)) 10 (.ref qn24)) 11 (.ref qn27)) 12 (.ref qn30)) 13 (.int 0)) 14 (.ref qn33))), (qn1, ari (cy 1) 2000 (fun _ => 0)), (qn4, ob 13 4 nc5000), (qn7, arq (cy 5) 12 (fun _ => none)), (qn10, ob 10 5 nc11000), (qn13, ob 1 15 nc14005), (qn14_0, ob 8 7 nc14006), (qn14_1, ari (cy 0) 2001 (fun _ => 0)), (qn14_2, ari (cy 0) 2001 (fun _ => 0)), (qn14_3, ari (cy 0) 2001 (fun _ => 0)), (qn14_4, ari (cy 0) 2001 (fun _ => 0)), (qn16, arq (cy 6) 3 (fun _ => none)), (qn18, ob 3 16 nc19001), (qn19_0, ari (cy 1) 40 (fun _ => 0)), (qn21, ob 3 16 nc22001), (qn22_0, ari (cy 1) 40 (fun _ => 0)), (qn27, ob 6 7 nc28000), (qn30, arq (cy 7) 40 (fun _ => none)), (qn38, ob 7 6 nc40000)] := hD40r
  clear hP40r hD40r
  clear hP38 hD38 hS38
  clear H38 lo35
  refine va_astq (pc := 172) hx hb hK hP40 hD40 hS40 11 6 18 7 rfl rfl rfl rfl (show ¬ ((0 : Int32) < 0 ∨ 3 ≤ (0 : Int32).toNatClampNeg) by decide) dX11_init_172 (fun H41 lo41 hP41r hD41r hS41 => ?_)
  have hP41 : va_P D classes [(ad0, ob 11 15 (vup (vup (vup (vup (vup (vup (vup (vup (vup (vup (vup (vup (vup (vup (vup (dfl tyX11) 0 (.ref qn1)) 1 (.int 0)) 2 (.ref qn4)) 3 (.ref qn7)) 4 (.int 0)) 5 (.ref qn10)) 6 (.ref qn13)) 7 (.ref qn16)) 8 (.ref qn18)) 9 (.ref qn21)) 10 (.ref qn24)) 11 (.ref qn27)) 12 (.ref qn30)) 13 (.int 0)) 14 (.ref qn33))), (qn1, ari (cy 1) 2000 (fun _ => 0)), (qn4, ob 13 4 nc5000), (qn7, arq (cy 5) 12 (fun _ => none)), (qn10, ob 10 5 nc11000), (qn13, ob 1 15 nc14005), (qn14_0, ob 8 7 nc14006), (qn14_1, ari (cy 0) 2001 (fun _ => 0)), (qn14_2, ari (cy 0) 2001 (fun _ => 0)), (qn14_3, ari (cy 0) 2001 (fun _ => 0)), (qn14_4, ari (cy 0) 2001 (fun _ => 0)), (qn16, arq (cy 6) 3 (va_up (fun _ => none) (0 : Int32).toNatClampNeg (some qn38))), (qn18, ob 3 16 nc19001), (qn19_0, ari (cy 1) 40 (fun _ => 0)), (qn21, ob 3 16 nc22001), (qn22_0, ari (cy 1) 40 (fun _ => 0)), (qn27, ob 6 7 nc28000), (qn30, arq (cy 7) 40 (fun _ => none)), (qn38, ob 7 6 nc40000)] H41 := hP41r
  have hD41 : va_D A [(ad0, ob 11 15 (vup (vup (vup (vup (vup (vup (vup (vup (vup (vup (vup (vup (vup (vup (vup (dfl tyX11) 0 (.ref qn1)) 1 (.int 0)) 2 (.ref qn4)) 3 (.ref qn7)) 4 (.int 0)) 5 (.ref qn10)) 6 (.ref qn13)) 7 (.ref qn16)) 8 (.ref qn18)) 9 (.ref qn21)) 10 (.ref qn24)) 11 (.ref qn27)) 12 (.ref qn30)) 13 (.int 0)) 14 (.ref qn33))), (qn1, ari (cy 1) 2000 (fun _ => 0)), (qn4, ob 13 4 nc5000), (qn7, arq (cy 5) 12 (fun _ => none)), (qn10, ob 10 5 nc11000), (qn13, ob 1 15 nc14005), (qn14_0, ob 8 7 nc14006), (qn14_1, ari (cy 0) 2001 (fun _ => 0)), (qn14_2, ari (cy 0) 2001 (fun _ => 0)), (qn14_3, ari (cy 0) 2001 (fun _ => 0)), (qn14_4, ari (cy 0) 2001 (fun _ => 0)), (qn16, arq (cy 6) 3 (va_up (fun _ => none) (0 : Int32).toNatClampNeg (some qn38))), (qn18, ob 3 16 nc19001), (qn19_0, ari (cy 1) 40 (fun _ => 0)), (qn21, ob 3 16 nc22001), (qn22_0, ari (cy 1) 40 (fun _ => 0)), (qn27, ob 6 7 nc28000), (qn30, arq (cy 7) 40 (fun _ => none)), (qn38, ob 7 6 nc40000)] := hD41r
  clear hP41r hD41r
  clear hP40 hD40 hS40
  clear H40 lo40
  refine lv_iinc (pc := 173) (v := 1) (lv' := [(1, .int 1), (0, .ref ad0)]) hx hb dX11_init_173 hl36 (k := 0) rfl (by decide) (by decide) rfl (fun ls42 hl42 => ?_)
  clear hl36 ls36
  refine lv_goto (pc := 176) (tgt := 144) hx hb dX11_init_176 (by decide) ?_
  refine lv_iload_n (pc := 144) hx hb dX11_init_144 rfl (lv_at hl42 0 rfl) ?_
  refine lv_iconst (pc := 145) (v := 3) hx hb dX11_init_145 (by decide) ?_
  refine lv_icmp_ge (pc := 146) (tgt := 179) hx hb dX11_init_146 (by decide) (fun c43 => absurd c43 (by decide)) (fun c43 => ?_)
  refine lv_aload_n (pc := 149) hx hb dX11_init_149 rfl (lv_at hl42 1 rfl) ?_
  refine ob_get (pc := 150) (v := .ref qn16) (ci := 11) (C := RX11) (T := TX11) (N := 15) hx hb hG in_X11 hown hK hP41 0 rfl rfl 7 (by decide) (hG _ g_110) rfl rfl dX11_init_150 ?_
  refine lv_iload_n (pc := 153) hx hb dX11_init_153 rfl (lv_at hl42 0 rfl) ?_
  refine ob_new (pc := 154) (ci := 7) (C := RX7) (T := TX7) (N := 6) (k2 := 46) (n2 := 12112) hx hb hG in_X7 tyX7 tyX7_ok hown (hG _ g_109) (hG _ g_134) (hG _ g_135) hK hP41 hD41 hS41 hA rfl (by decide) (by decide) (Nat.le_of_ble_eq_true rfl) (Nat.le_of_ble_eq_true rfl) dX11_init_154 (fun qn44 H44 hP44r hD44r hS44 => ?_)
  have hP44 : va_P D classes [(ad0, ob 11 15 (vup (vup (vup (vup (vup (vup (vup (vup (vup (vup (vup (vup (vup (vup (vup (dfl tyX11) 0 (.ref qn1)) 1 (.int 0)) 2 (.ref qn4)) 3 (.ref qn7)) 4 (.int 0)) 5 (.ref qn10)) 6 (.ref qn13)) 7 (.ref qn16)) 8 (.ref qn18)) 9 (.ref qn21)) 10 (.ref qn24)) 11 (.ref qn27)) 12 (.ref qn30)) 13 (.int 0)) 14 (.ref qn33))), (qn1, ari (cy 1) 2000 (fun _ => 0)), (qn4, ob 13 4 nc5000), (qn7, arq (cy 5) 12 (fun _ => none)), (qn10, ob 10 5 nc11000), (qn13, ob 1 15 nc14005), (qn14_0, ob 8 7 nc14006), (qn14_1, ari (cy 0) 2001 (fun _ => 0)), (qn14_2, ari (cy 0) 2001 (fun _ => 0)), (qn14_3, ari (cy 0) 2001 (fun _ => 0)), (qn14_4, ari (cy 0) 2001 (fun _ => 0)), (qn16, arq (cy 6) 3 (va_up (fun _ => none) (0 : Int32).toNatClampNeg (some qn38))), (qn18, ob 3 16 nc19001), (qn19_0, ari (cy 1) 40 (fun _ => 0)), (qn21, ob 3 16 nc22001), (qn22_0, ari (cy 1) 40 (fun _ => 0)), (qn27, ob 6 7 nc28000), (qn30, arq (cy 7) 40 (fun _ => none)), (qn38, ob 7 6 nc40000), (qn44, ob 7 6 (dfl tyX7))] H44 := hP44r
  have hD44 : va_D A [(ad0, ob 11 15 (vup (vup (vup (vup (vup (vup (vup (vup (vup (vup (vup (vup (vup (vup (vup (dfl tyX11) 0 (.ref qn1)) 1 (.int 0)) 2 (.ref qn4)) 3 (.ref qn7)) 4 (.int 0)) 5 (.ref qn10)) 6 (.ref qn13)) 7 (.ref qn16)) 8 (.ref qn18)) 9 (.ref qn21)) 10 (.ref qn24)) 11 (.ref qn27)) 12 (.ref qn30)) 13 (.int 0)) 14 (.ref qn33))), (qn1, ari (cy 1) 2000 (fun _ => 0)), (qn4, ob 13 4 nc5000), (qn7, arq (cy 5) 12 (fun _ => none)), (qn10, ob 10 5 nc11000), (qn13, ob 1 15 nc14005), (qn14_0, ob 8 7 nc14006), (qn14_1, ari (cy 0) 2001 (fun _ => 0)), (qn14_2, ari (cy 0) 2001 (fun _ => 0)), (qn14_3, ari (cy 0) 2001 (fun _ => 0)), (qn14_4, ari (cy 0) 2001 (fun _ => 0)), (qn16, arq (cy 6) 3 (va_up (fun _ => none) (0 : Int32).toNatClampNeg (some qn38))), (qn18, ob 3 16 nc19001), (qn19_0, ari (cy 1) 40 (fun _ => 0)), (qn21, ob 3 16 nc22001), (qn22_0, ari (cy 1) 40 (fun _ => 0)), (qn27, ob 6 7 nc28000), (qn30, arq (cy 7) 40 (fun _ => none)), (qn38, ob 7 6 nc40000), (qn44, ob 7 6 (dfl tyX7))] := hD44r
  clear hP44r hD44r
  clear hP41 hD41 hS41
  clear H41
  refine lv_dup (pc := 157) hx hb dX11_init_157 rfl ?_
  refine lv_iload_n (pc := 158) hx hb dX11_init_158 rfl (lv_at hl42 0 rfl) ?_
  refine lv_iconst (pc := 159) (v := 2) hx hb dX11_init_159 (by decide) ?_
  refine lv_icmp_ne (pc := 160) (tgt := 168) hx hb dX11_init_160 (by decide) (fun c45 => ?_) (fun c45 => absurd c45 (by decide))
  refine lv_iconst (pc := 168) (v := 0) hx hb dX11_init_168 (by decide) ?_
  refine cq_v (pc := 169) (wr := [(ad0, ob 11 15 (vup (vup (vup (vup (vup (vup (vup (vup (vup (vup (vup (vup (vup (vup (vup (dfl tyX11) 0 (.ref qn1)) 1 (.int 0)) 2 (.ref qn4)) 3 (.ref qn7)) 4 (.int 0)) 5 (.ref qn10)) 6 (.ref qn13)) 7 (.ref qn16)) 8 (.ref qn18)) 9 (.ref qn21)) 10 (.ref qn24)) 11 (.ref qn27)) 12 (.ref qn30)) 13 (.int 0)) 14 (.ref qn33))), (qn1, ari (cy 1) 2000 (fun _ => 0)), (qn4, ob 13 4 nc5000), (qn7, arq (cy 5) 12 (fun _ => none)), (qn10, ob 10 5 nc11000), (qn13, ob 1 15 nc14005), (qn14_0, ob 8 7 nc14006), (qn14_1, ari (cy 0) 2001 (fun _ => 0)), (qn14_2, ari (cy 0) 2001 (fun _ => 0)), (qn14_3, ari (cy 0) 2001 (fun _ => 0)), (qn14_4, ari (cy 0) 2001 (fun _ => 0)), (qn16, arq (cy 6) 3 (va_up (fun _ => none) (0 : Int32).toNatClampNeg (some qn38))), (qn18, ob 3 16 nc19001), (qn19_0, ari (cy 1) 40 (fun _ => 0)), (qn21, ob 3 16 nc22001), (qn22_0, ari (cy 1) 40 (fun _ => 0)), (qn27, ob 6 7 nc28000), (qn30, arq (cy 7) 40 (fun _ => none)), (qn38, ob 7 6 nc40000)]) (k2 := 50) (n2 := 12172) (va_runI (As := [.int 0]) (rest := [.ref qn44, .int 1, .ref qn16]) ⟨hx, hb, hml, hown, hG⟩ (c_Rows0 l D cy kv H44.size qn44) (cwI 1 hG (gi_c g_87) rfl rfl rfl (hG _ g_135) (hG _ g_136) (hG _ g_137) rfl (by decide +kernel) ⟨Nat.le_of_ble_eq_true rfl, Nat.le_of_ble_eq_true rfl⟩) ⟨pq_blind, (pq_pass hP44 hD44 hK hE hS44 hA [19] rfl (by decide))⟩ rfl rfl hl42.1 rfl (lv_room (Nat.le_of_ble_eq_true rfl)) dX11_init_169 ⟨Nat.le_of_ble_eq_true rfl, Nat.le_of_ble_eq_true rfl⟩) hP44 hD44 hS44 hA [19] [0, 1, 2, 3, 4, 5, 6, 7, 8, 9, 10, 11, 12, 13, 14, 15, 16, 17, 18] rfl rfl (by decide) (by decide) (by decide) (by decide) (fun w46 H46 lo46 hR46 hP46r hD46r hS46 => ?_)
  obtain ⟨nc46000, rfl, hf46_0⟩ := hR46
  have hP46 : va_P D classes [(ad0, ob 11 15 (vup (vup (vup (vup (vup (vup (vup (vup (vup (vup (vup (vup (vup (vup (vup (dfl tyX11) 0 (.ref qn1)) 1 (.int 0)) 2 (.ref qn4)) 3 (.ref qn7)) 4 (.int 0)) 5 (.ref qn10)) 6 (.ref qn13)) 7 (.ref qn16)) 8 (.ref qn18)) 9 (.ref qn21)) 10 (.ref qn24)) 11 (.ref qn27)) 12 (.ref qn30)) 13 (.int 0)) 14 (.ref qn33))), (qn1, ari (cy 1) 2000 (fun _ => 0)), (qn4, ob 13 4 nc5000), (qn7, arq (cy 5) 12 (fun _ => none)), (qn10, ob 10 5 nc11000), (qn13, ob 1 15 nc14005), (qn14_0, ob 8 7 nc14006), (qn14_1, ari (cy 0) 2001 (fun _ => 0)), (qn14_2, ari (cy 0) 2001 (fun _ => 0)), (qn14_3, ari (cy 0) 2001 (fun _ => 0)), (qn14_4, ari (cy 0) 2001 (fun _ => 0)), (qn16, arq (cy 6) 3 (va_up (fun _ => none) (0 : Int32).toNatClampNeg (some qn38))), (qn18, ob 3 16 nc19001), (qn19_0, ari (cy 1) 40 (fun _ => 0)), (qn21, ob 3 16 nc22001), (qn22_0, ari (cy 1) 40 (fun _ => 0)), (qn27, ob 6 7 nc28000), (qn30, arq (cy 7) 40 (fun _ => none)), (qn38, ob 7 6 nc40000), (qn44, ob 7 6 nc46000)] H46 := hP46r
  have hD46 : va_D A [(ad0, ob 11 15 (vup (vup (vup (vup (vup (vup (vup (vup (vup (vup (vup (vup (vup (vup (vup (dfl tyX11) 0 (.ref qn1)) 1 (.int 0)) 2 (.ref qn4)) 3 (.ref qn7)) 4 (.int 0)) 5 (.ref qn10)) 6 (.ref qn13)) 7 (.ref qn16)) 8 (.ref qn18)) 9 (.ref qn21)) 10 (.ref qn24)) 11 (.ref qn27)) 12 (.ref qn30)) 13 (.int 0)) 14 (.ref qn33))), (qn1, ari (cy 1) 2000 (fun _ => 0)), (qn4, ob 13 4 nc5000), (qn7, arq (cy 5) 12 (fun _ => none)), (qn10, ob 10 5 nc11000), (qn13, ob 1 15 nc14005), (qn14_0, ob 8 7 nc14006), (qn14_1, ari (cy 0) 2001 (fun _ => 0)), (qn14_2, ari (cy 0) 2001 (fun _ => 0)), (qn14_3, ari (cy 0) 2001 (fun _ => 0)), (qn14_4, ari (cy 0) 2001 (fun _ => 0)), (qn16, arq (cy 6) 3 (va_up (fun _ => none) (0 : Int32).toNatClampNeg (some qn38))), (qn18, ob 3 16 nc19001), (qn19_0, ari (cy 1) 40 (fun _ => 0)), (qn21, ob 3 16 nc22001), (qn22_0, ari (cy 1) 40 (fun _ => 0)), (qn27, ob 6 7 nc28000), (qn30, arq (cy 7) 40 (fun _ => none)), (qn38, ob 7 6 nc40000), (qn44, ob 7 6 nc46000)] := hD46r
  clear hP46r hD46r
  clear hP44 hD44 hS44
  clear H44 lo41
  refine va_astq (pc := 172) hx hb hK hP46 hD46 hS46 11 6 19 7 rfl rfl rfl rfl (show ¬ ((1 : Int32) < 0 ∨ 3 ≤ (1 : Int32).toNatClampNeg) by decide) dX11_init_172 (fun H47 lo47 hP47r hD47r hS47 => ?_)
  have hP47 : va_P D classes [(ad0, ob 11 15 (vup (vup (vup (vup (vup (vup (vup (vup (vup (vup (vup (vup (vup (vup (vup (dfl tyX11) 0 (.ref qn1)) 1 (.int 0)) 2 (.ref qn4)) 3 (.ref qn7)) 4 (.int 0)) 5 (.ref qn10)) 6 (.ref qn13)) 7 (.ref qn16)) 8 (.ref qn18)) 9 (.ref qn21)) 10 (.ref qn24)) 11 (.ref qn27)) 12 (.ref qn30)) 13 (.int 0)) 14 (.ref qn33))), (qn1, ari (cy 1) 2000 (fun _ => 0)), (qn4, ob 13 4 nc5000), (qn7, arq (cy 5) 12 (fun _ => none)), (qn10, ob 10 5 nc11000), (qn13, ob 1 15 nc14005), (qn14_0, ob 8 7 nc14006), (qn14_1, ari (cy 0) 2001 (fun _ => 0)), (qn14_2, ari (cy 0) 2001 (fun _ => 0)), (qn14_3, ari (cy 0) 2001 (fun _ => 0)), (qn14_4, ari (cy 0) 2001 (fun _ => 0)), (qn16, arq (cy 6) 3 (va_up (va_up (fun _ => none) (0 : Int32).toNatClampNeg (some qn38)) (1 : Int32).toNatClampNeg (some qn44))), (qn18, ob 3 16 nc19001), (qn19_0, ari (cy 1) 40 (fun _ => 0)), (qn21, ob 3 16 nc22001), (qn22_0, ari (cy 1) 40 (fun _ => 0)), (qn27, ob 6 7 nc28000), (qn30, arq (cy 7) 40 (fun _ => none)), (qn38, ob 7 6 nc40000), (qn44, ob 7 6 nc46000)] H47 := hP47r
  have hD47 : va_D A [(ad0, ob 11 15 (vup (vup (vup (vup (vup (vup (vup (vup (vup (vup (vup (vup (vup (vup (vup (dfl tyX11) 0 (.ref qn1)) 1 (.int 0)) 2 (.ref qn4)) 3 (.ref qn7)) 4 (.int 0)) 5 (.ref qn10)) 6 (.ref qn13)) 7 (.ref qn16)) 8 (.ref qn18)) 9 (.ref qn21)) 10 (.ref qn24)) 11 (.ref qn27)) 12 (.ref qn30)) 13 (.int 0)) 14 (.ref qn33))), (qn1, ari (cy 1) 2000 (fun _ => 0)), (qn4, ob 13 4 nc5000), (qn7, arq (cy 5) 12 (fun _ => none)), (qn10, ob 10 5 nc11000), (qn13, ob 1 15 nc14005), (qn14_0, ob 8 7 nc14006), (qn14_1, ari (cy 0) 2001 (fun _ => 0)), (qn14_2, ari (cy 0) 2001 (fun _ => 0)), (qn14_3, ari (cy 0) 2001 (fun _ => 0)), (qn14_4, ari (cy 0) 2001 (fun _ => 0)), (qn16, arq (cy 6) 3 (va_up (va_up (fun _ => none) (0 : Int32).toNatClampNeg (some qn38)) (1 : Int32).toNatClampNeg (some qn44))), (qn18, ob 3 16 nc19001), (qn19_0, ari (cy 1) 40 (fun _ => 0)), (qn21, ob 3 16 nc22001), (qn22_0, ari (cy 1) 40 (fun _ => 0)), (qn27, ob 6 7 nc28000), (qn30, arq (cy 7) 40 (fun _ => none)), (qn38, ob 7 6 nc40000), (qn44, ob 7 6 nc46000)] := hD47r
  clear hP47r hD47r
  clear hP46 hD46 hS46
  clear H46 lo46
  refine lv_iinc (pc := 173) (v := 2) (lv' := [(1, .int 2), (0, .ref ad0)]) hx hb dX11_init_173 hl42 (k := 0) rfl (by decide) (by decide) rfl (fun ls48 hl48 => ?_)
  clear hl42 ls42
  refine lv_goto (pc := 176) (tgt := 144) hx hb dX11_init_176 (by decide) ?_
  refine lv_iload_n (pc := 144) hx hb dX11_init_144 rfl (lv_at hl48 0 rfl) ?_
  refine lv_iconst (pc := 145) (v := 3) hx hb dX11_init_145 (by decide) ?_
  refine lv_icmp_ge (pc := 146) (tgt := 179) hx hb dX11_init_146 (by decide) (fun c49 => absurd c49 (by decide)) (fun c49 => ?_)
  refine lv_aload_n (pc := 149) hx hb dX11_init_149 rfl (lv_at hl48 1 rfl) ?_
  refine ob_get (pc := 150) (v := .ref qn16) (ci := 11) (C := RX11) (T := TX11) (N := 15) hx hb hG in_X11 hown hK hP47 0 rfl rfl 7 (by decide) (hG _ g_110) rfl rfl dX11_init_150 ?_
  refine lv_iload_n (pc := 153) hx hb dX11_init_153 rfl (lv_at hl48 0 rfl) ?_
  refine ob_new (pc := 154) (ci := 7) (C := RX7) (T := TX7) (N := 6) (k2 := 51) (n2 := 12178) hx hb hG in_X7 tyX7 tyX7_ok hown (hG _ g_109) (hG _ g_134) (hG _ g_135) hK hP47 hD47 hS47 hA rfl (by decide) (by decide) (Nat.le_of_ble_eq_true rfl) (Nat.le_of_ble_eq_true rfl) dX11_init_154 (fun qn50 H50 hP50r hD50r hS50 => ?_)
  have hP50 : va_P D classes [(ad0, ob 11 15 (vup (vup (vup (vup (vup (vup (vup (vup (vup (vup (vup (vup (vup (vup (vup (dfl tyX11) 0 (.ref qn1)) 1 (.int 0)) 2 (.ref qn4)) 3 (.ref qn7)) 4 (.int 0)) 5 (.ref qn10)) 6 (.ref qn13)) 7 (.ref qn16)) 8 (.ref qn18)) 9 (.ref qn21)) 10 (.ref qn24)) 11 (.ref qn27)) 12 (.ref qn30)) 13 (.int 0)) 14 (.ref qn33))), (qn1, ari (cy 1) 2000 (fun _ => 0)), (qn4, ob 13 4 nc5000), (qn7, arq (cy 5) 12 (fun _ => none)), (qn10, ob 10 5 nc11000), (qn13, ob 1 15 nc14005), (qn14_0, ob 8 7 nc14006), (qn14_1, ari (cy 0) 2001 (fun _ => 0)), (qn14_2, ari (cy 0) 2001 (fun _ => 0)), (qn14_3, ari (cy 0) 2001 (fun _ => 0)), (qn14_4, ari (cy 0) 2001 (fun _ => 0)), (qn16, arq (cy 6) 3 (va_up (va_up (fun _ => none) (0 : Int32).toNatClampNeg (some qn38)) (1 : Int32).toNatClampNeg (some qn44))), (qn18, ob 3 16 nc19001), (qn19_0, ari (cy 1) 40 (fun _ => 0)), (qn21, ob 3 16 nc22001), (qn22_0, ari (cy 1) 40 (fun _ => 0)), (qn27, ob 6 7 nc28000), (qn30, arq (cy 7) 40 (fun _ => none)), (qn38, ob 7 6 nc40000), (qn44, ob 7 6 nc46000), (qn50, ob 7 6 (dfl tyX7))] H50 := hP50r
  have hD50 : va_D A [(ad0, ob 11 15 (vup (vup (vup (vup (vup (vup (vup (vup (vup (vup (vup (vup (vup (vup (vup (dfl tyX11) 0 (.ref qn1)) 1 (.int 0)) 2 (.ref qn4)) 3 (.ref qn7)) 4 (.int 0)) 5 (.ref qn10)) 6 (.ref qn13)) 7 (.ref qn16)) 8 (.ref qn18)) 9 (.ref qn21)) 10 (.ref qn24)) 11 (.ref qn27)) 12 (.ref qn30)) 13 (.int 0)) 14 (.ref qn33))), (qn1, ari (cy 1) 2000 (fun _ => 0)), (qn4, ob 13 4 nc5000), (qn7, arq (cy 5) 12 (fun _ => none)), (qn10, ob 10 5 nc11000), (qn13, ob 1 15 nc14005), (qn14_0, ob 8 7 nc14006), (qn14_1, ari (cy 0) 2001 (fun _ => 0)), (qn14_2, ari (cy 0) 2001 (fun _ => 0)), (qn14_3, ari (cy 0) 2001 (fun _ => 0)), (qn14_4, ari (cy 0) 2001 (fun _ => 0)), (qn16, arq (cy 6) 3 (va_up (va_up (fun _ => none) (0 : Int32).toNatClampNeg (some qn38)) (1 : Int32).toNatClampNeg (some qn44))), (qn18, ob 3 16 nc19001), (qn19_0, ari (cy 1) 40 (fun _ => 0)), (qn21, ob 3 16 nc22001), (qn22_0, ari (cy 1) 40 (fun _ => 0)), (qn27, ob 6 7 nc28000), (qn30, arq (cy 7) 40 (fun _ => none)), (qn38, ob 7 6 nc40000), (qn44, ob 7 6 nc46000), (qn50, ob 7 6 (dfl tyX7))] := hD50r
  clear hP50r hD50r
  clear hP47 hD47 hS47
  clear H47
  refine lv_dup (pc := 157) hx hb dX11_init_157 rfl ?_
  refine lv_iload_n (pc := 158) hx hb dX11_init_158 rfl (lv_at hl48 0 rfl) ?_
  refine lv_iconst (pc := 159) (v := 2) hx hb dX11_init_159 (by decide) ?_
  refine lv_icmp_ne (pc := 160) (tgt := 168) hx hb dX11_init_160 (by decide) (fun c51 => absurd (by decide) c51) (fun c51 => ?_)
  refine lv_bipush (pc := 163) (v := 30) hx hb dX11_init_163 (by decide) ?_
  refine lv_goto (pc := 165) (tgt := 169) hx hb dX11_init_165 (by decide) ?_
  refine cq_v (pc := 169) (wr := [(ad0, ob 11 15 (vup (vup (vup (vup (vup (vup (vup (vup (vup (vup (vup (vup (vup (vup (vup (dfl tyX11) 0 (.ref qn1)) 1 (.int 0)) 2 (.ref qn4)) 3 (.ref qn7)) 4 (.int 0)) 5 (.ref qn10)) 6 (.ref qn13)) 7 (.ref qn16)) 8 (.ref qn18)) 9 (.ref qn21)) 10 (.ref qn24)) 11 (.ref qn27)) 12 (.ref qn30)) 13 (.int 0)) 14 (.ref qn33))), (qn1, ari (cy 1) 2000 (fun _ => 0)), (qn4, ob 13 4 nc5000), (qn7, arq (cy 5) 12 (fun _ => none)), (qn10, ob 10 5 nc11000), (qn13, ob 1 15 nc14005), (qn14_0, ob 8 7 nc14006), (qn14_1, ari (cy 0) 2001 (fun _ => 0)), (qn14_2, ari (cy 0) 2001 (fun _ => 0)), (qn14_3, ari (cy 0) 2001 (fun _ => 0)), (qn14_4, ari (cy 0) 2001 (fun _ => 0)), (qn16, arq (cy 6) 3 (va_up (va_up (fun _ => none) (0 : Int32).toNatClampNeg (some qn38)) (1 : Int32).toNatClampNeg (some qn44))), (qn18, ob 3 16 nc19001), (qn19_0, ari (cy 1) 40 (fun _ => 0)), (qn21, ob 3 16 nc22001), (qn22_0, ari (cy 1) 40 (fun _ => 0)), (qn27, ob 6 7 nc28000), (qn30, arq (cy 7) 40 (fun _ => none)), (qn38, ob 7 6 nc40000), (qn44, ob 7 6 nc46000)]) (k2 := 55) (n2 := 12838) (va_runI (As := [.int 30]) (rest := [.ref qn50, .int 2, .ref qn16]) ⟨hx, hb, hml, hown, hG⟩ (c_Rows30 l D cy kv H50.size qn50) (cwI 1 hG (gi_c g_87) rfl rfl rfl (hG _ g_135) (hG _ g_136) (hG _ g_137) rfl (by decide +kernel) ⟨Nat.le_of_ble_eq_true rfl, Nat.le_of_ble_eq_true rfl⟩) ⟨pq_blind, (pq_pass hP50 hD50 hK hE hS50 hA [20] rfl (by decide))⟩ rfl rfl hl48.1 rfl (lv_room (Nat.le_of_ble_eq_true rfl)) dX11_init_169 ⟨Nat.le_of_ble_eq_true rfl, Nat.le_of_ble_eq_true rfl⟩) hP50 hD50 hS50 hA [20] [0, 1, 2, 3, 4, 5, 6, 7, 8, 9, 10, 11, 12, 13, 14, 15, 16, 17, 18, 19] rfl rfl (by decide) (by decide) (by decide) (by decide) (fun w52 H52 lo52 hR52 hP52r hD52r hS52 => ?_)
  obtain ⟨nc52000, rfl, hf52_0⟩ := hR52
  have hP52 : va_P D classes [(ad0, ob 11 15 (vup (vup (vup (vup (vup (vup (vup (vup (vup (vup (vup (vup (vup (vup (vup (dfl tyX11) 0 (.ref qn1)) 1 (.int 0)) 2 (.ref qn4)) 3 (.ref qn7)) 4 (.int 0)) 5 (.ref qn10)) 6 (.ref qn13)) 7 (.ref qn16)) 8 (.ref qn18)) 9 (.ref qn21)) 10 (.ref qn24)) 11 (.ref qn27)) 12 (.ref qn30)) 13 (.int 0)) 14 (.ref qn33))), (qn1, ari (cy 1) 2000 (fun _ => 0)), (qn4, ob 13 4 nc5000), (qn7, arq (cy 5) 12 (fun _ => none)), (qn10, ob 10 5 nc11000), (qn13, ob 1 15 nc14005), (qn14_0, ob 8 7 nc14006), (qn14_1, ari (cy 0) 2001 (fun _ => 0)), (qn14_2, ari (cy 0) 2001 (fun _ => 0)), (qn14_3, ari (cy 0) 2001 (fun _ => 0)), (qn14_4, ari (cy 0) 2001 (fun _ => 0)), (qn16, arq (cy 6) 3 (va_up (va_up (fun _ => none) (0 : Int32).toNatClampNeg (some qn38)) (1 : Int32).toNatClampNeg (some qn44))), (qn18, ob 3 16 nc19001), (qn19_0, ari (cy 1) 40 (fun _ => 0)), (qn21, ob 3 16 nc22001), (qn22_0, ari (cy 1) 40 (fun _ => 0)), (qn27, ob 6 7 nc28000), (qn30, arq (cy 7) 40 (fun _ => none)), (qn38, ob 7 6 nc40000), (qn44, ob 7 6 nc46000), (qn50, ob 7 6 nc52000)] H52 := hP52r
  have hD52 : va_D A [(ad0, ob 11 15 (vup (vup (vup (vup (vup (vup (vup (vup (vup (vup (vup (vup (vup (vup (vup (dfl tyX11) 0 (.ref qn1)) 1 (.int 0)) 2 (.ref qn4)) 3 (.ref qn7)) 4 (.int 0)) 5 (.ref qn10)) 6 (.ref qn13)) 7 (.ref qn16)) 8 (.ref qn18)) 9 (.ref qn21)) 10 (.ref qn24)) 11 (.ref qn27)) 12 (.ref qn30)) 13 (.int 0)) 14 (.ref qn33))), (qn1, ari (cy 1) 2000 (fun _ => 0)), (qn4, ob 13 4 nc5000), (qn7, arq (cy 5) 12 (fun _ => none)), (qn10, ob 10 5 nc11000), (qn13, ob 1 15 nc14005), (qn14_0, ob 8 7 nc14006), (qn14_1, ari (cy 0) 2001 (fun _ => 0)), (qn14_2, ari (cy 0) 2001 (fun _ => 0)), (qn14_3, ari (cy 0) 2001 (fun _ => 0)), (qn14_4, ari (cy 0) 2001 (fun _ => 0)), (qn16, arq (cy 6) 3 (va_up (va_up (fun _ => none) (0 : Int32).toNatClampNeg (some qn38)) (1 : Int32).toNatClampNeg (some qn44))), (qn18, ob 3 16 nc19001), (qn19_0, ari (cy 1) 40 (fun _ => 0)), (qn21, ob 3 16 nc22001), (qn22_0, ari (cy 1) 40 (fun _ => 0)), (qn27, ob 6 7 nc28000), (qn30, arq (cy 7) 40 (fun _ => none)), (qn38, ob 7 6 nc40000), (qn44, ob 7 6 nc46000), (qn50, ob 7 6 nc52000)] := hD52r
  clear hP52r hD52r
  clear hP50 hD50 hS50
  clear H50 lo47
  refine va_astq (pc := 172) hx hb hK hP52 hD52 hS52 11 6 20 7 rfl rfl rfl rfl (show ¬ ((2 : Int32) < 0 ∨ 3 ≤ (2 : Int32).toNatClampNeg) by decide) dX11_init_172 (fun H53 lo53 hP53r hD53r hS53 => ?_)
  have hP53 : va_P D classes [(ad0, ob 11 15 (vup (vup (vup (vup (vup (vup (vup (vup (vup (vup (vup (vup (vup (vup (vup (dfl tyX11) 0 (.ref qn1)) 1 (.int 0)) 2 (.ref qn4)) 3 (.ref qn7)) 4 (.int 0)) 5 (.ref qn10)) 6 (.ref qn13)) 7 (.ref qn16)) 8 (.ref qn18)) 9 (.ref qn21)) 10 (.ref qn24)) 11 (.ref qn27)) 12 (.ref qn30)) 13 (.int 0)) 14 (.ref qn33))), (qn1, ari (cy 1) 2000 (fun _ => 0)), (qn4, ob 13 4 nc5000), (qn7, arq (cy 5) 12 (fun _ => none)), (qn10, ob 10 5 nc11000), (qn13, ob 1 15 nc14005), (qn14_0, ob 8 7 nc14006), (qn14_1, ari (cy 0) 2001 (fun _ => 0)), (qn14_2, ari (cy 0) 2001 (fun _ => 0)), (qn14_3, ari (cy 0) 2001 (fun _ => 0)), (qn14_4, ari (cy 0) 2001 (fun _ => 0)), (qn16, arq (cy 6) 3 (va_up (va_up (va_up (fun _ => none) (0 : Int32).toNatClampNeg (some qn38)) (1 : Int32).toNatClampNeg (some qn44)) (2 : Int32).toNatClampNeg (some qn50))), (qn18, ob 3 16 nc19001), (qn19_0, ari (cy 1) 40 (fun _ => 0)), (qn21, ob 3 16 nc22001), (qn22_0, ari (cy 1) 40 (fun _ => 0)), (qn27, ob 6 7 nc28000), (qn30, arq (cy 7) 40 (fun _ => none)), (qn38, ob 7 6 nc40000), (qn44, ob 7 6 nc46000), (qn50, ob 7 6 nc52000)] H53 := hP53r
  have hD53 : va_D A [(ad0, ob 11 15 (vup (vup (vup (vup (vup (vup (vup (vup (vup (vup (vup (vup (vup (vup (vup (dfl tyX11) 0 (.ref qn1)) 1 (.int 0)) 2 (.ref qn4)) 3 (.ref qn7)) 4 (.int 0)) 5 (.ref qn10)) 6 (.ref qn13)) 7 (.ref qn16)) 8 (.ref qn18)) 9 (.ref qn21)) 10 (.ref qn24)) 11 (.ref qn27)) 12 (.ref qn30)) 13 (.int 0)) 14 (.ref qn33))), (qn1, ari (cy 1) 2000 (fun _ => 0)), (qn4, ob 13 4 nc5000), (qn7, arq (cy 5) 12 (fun _ => none)), (qn10, ob 10 5 nc11000), (qn13, ob 1 15 nc14005), (qn14_0, ob 8 7 nc14006), (qn14_1, ari (cy 0) 2001 (fun _ => 0)), (qn14_2, ari (cy 0) 2001 (fun _ => 0)), (qn14_3, ari (cy 0) 2001 (fun _ => 0)), (qn14_4, ari (cy 0) 2001 (fun _ => 0)), (qn16, arq (cy 6) 3 (va_up (va_up (va_up (fun _ => none) (0 : Int32).toNatClampNeg (some qn38)) (1 : Int32).toNatClampNeg (some qn44)) (2 : Int32).toNatClampNeg (some qn50))), (qn18, ob 3 16 nc19001), (qn19_0, ari (cy 1) 40 (fun _ => 0)), (qn21, ob 3 16 nc22001), (qn22_0, ari (cy 1) 40 (fun _ => 0)), (qn27, ob 6 7 nc28000), (qn30, arq (cy 7) 40 (fun _ => none)), (qn38, ob 7 6 nc40000), (qn44, ob 7 6 nc46000), (qn50, ob 7 6 nc52000)] := hD53r
  clear hP53r hD53r
  clear hP52 hD52 hS52
  clear H52 lo52
  refine lv_iinc (pc := 173) (v := 3) (lv' := [(1, .int 3), (0, .ref ad0)]) hx hb dX11_init_173 hl48 (k := 0) rfl (by decide) (by decide) rfl (fun ls54 hl54 => ?_)
  clear hl48 ls48
  refine lv_goto (pc := 176) (tgt := 144) hx hb dX11_init_176 (by decide) ?_
  refine lv_iload_n (pc := 144) hx hb dX11_init_144 rfl (lv_at hl54 0 rfl) ?_
  refine lv_iconst (pc := 145) (v := 3) hx hb dX11_init_145 (by decide) ?_
  refine lv_icmp_ge (pc := 146) (tgt := 179) hx hb dX11_init_146 (by decide) (fun c55 => ?_) (fun c55 => absurd (by decide) c55)
  have hP99 := hP53.sub (ws' := [(ad0, ob 11 15 (vup (vup (vup (vup (vup (vup (vup (vup (vup (vup (vup (vup (vup (vup (vup (dfl tyX11) 0 (.ref qn1)) 1 (.int 0)) 2 (.ref qn4)) 3 (.ref qn7)) 4 (.int 0)) 5 (.ref qn10)) 6 (.ref qn13)) 7 (.ref qn16)) 8 (.ref qn18)) 9 (.ref qn21)) 10 (.ref qn24)) 11 (.ref qn27)) 12 (.ref qn30)) 13 (.int 0)) 14 (.ref qn33))), (qn1, ari (cy 1) 2000 (fun _ => 0)), (qn4, ob 13 4 nc5000), (qn10, ob 10 5 nc11000), (qn13, ob 1 15 nc14005), (qn14_0, ob 8 7 nc14006), (qn14_1, ari (cy 0) 2001 (fun _ => 0)), (qn14_2, ari (cy 0) 2001 (fun _ => 0)), (qn14_3, ari (cy 0) 2001 (fun _ => 0)), (qn14_4, ari (cy 0) 2001 (fun _ => 0)), (qn16, arq (cy 6) 3 (va_up (va_up (va_up (fun _ => none) (0 : Int32).toNatClampNeg (some qn38)) (1 : Int32).toNatClampNeg (some qn44)) (2 : Int32).toNatClampNeg (some qn50))), (qn18, ob 3 16 nc19001), (qn19_0, ari (cy 1) 40 (fun _ => 0)), (qn21, ob 3 16 nc22001), (qn22_0, ari (cy 1) 40 (fun _ => 0)), (qn27, ob 6 7 nc28000), (qn30, arq (cy 7) 40 (fun _ => none)), (qn38, ob 7 6 nc40000), (qn44, ob 7 6 nc46000), (qn50, ob 7 6 nc52000)]) [0, 1, 2, 4, 5, 6, 7, 8, 9, 10, 11, 12, 13, 14, 15, 16, 17, 18, 19, 20] rfl
  have hD99 := hD53.sub (ws' := [(ad0, ob 11 15 (vup (vup (vup (vup (vup (vup (vup (vup (vup (vup (vup (vup (vup (vup (vup (dfl tyX11) 0 (.ref qn1)) 1 (.int 0)) 2 (.ref qn4)) 3 (.ref qn7)) 4 (.int 0)) 5 (.ref qn10)) 6 (.ref qn13)) 7 (.ref qn16)) 8 (.ref qn18)) 9 (.ref qn21)) 10 (.ref qn24)) 11 (.ref qn27)) 12 (.ref qn30)) 13 (.int 0)) 14 (.ref qn33))), (qn1, ari (cy 1) 2000 (fun _ => 0)), (qn4, ob 13 4 nc5000), (qn10, ob 10 5 nc11000), (qn13, ob 1 15 nc14005), (qn14_0, ob 8 7 nc14006), (qn14_1, ari (cy 0) 2001 (fun _ => 0)), (qn14_2, ari (cy 0) 2001 (fun _ => 0)), (qn14_3, ari (cy 0) 2001 (fun _ => 0)), (qn14_4, ari (cy 0) 2001 (fun _ => 0)), (qn16, arq (cy 6) 3 (va_up (va_up (va_up (fun _ => none) (0 : Int32).toNatClampNeg (some qn38)) (1 : Int32).toNatClampNeg (some qn44)) (2 : Int32).toNatClampNeg (some qn50))), (qn18, ob 3 16 nc19001), (qn19_0, ari (cy 1) 40 (fun _ => 0)), (qn21, ob 3 16 nc22001), (qn22_0, ari (cy 1) 40 (fun _ => 0)), (qn27, ob 6 7 nc28000), (qn30, arq (cy 7) 40 (fun _ => none)), (qn38, ob 7 6 nc40000), (qn44, ob 7 6 nc46000), (qn50, ob 7 6 nc52000)]) [0, 1, 2, 4, 5, 6, 7, 8, 9, 10, 11, 12, 13, 14, 15, 16, 17, 18, 19, 20] (by decide) rfl
  exact W.vret (pc := 179) hx hb hr (fun t ht hW => ⟨⟨(), rfl, trivial, _, ⟨qn1, qn4, qn7, qn10, qn13, qn14_0, qn14_1, qn14_2, qn14_3, qn14_4, qn16, qn18, qn19_0, qn21, qn22_0, qn27, qn30, qn38, qn44, qn50, (vup (vup (vup (vup (vup (vup (vup (vup (vup (vup (vup (vup (vup (vup (vup (dfl tyX11) 0 (.ref qn1)) 1 (.int 0)) 2 (.ref qn4)) 3 (.ref qn7)) 4 (.int 0)) 5 (.ref qn10)) 6 (.ref qn13)) 7 (.ref qn16)) 8 (.ref qn18)) 9 (.ref qn21)) 10 (.ref qn24)) 11 (.ref qn27)) 12 (.ref qn30)) 13 (.int 0)) 14 (.ref qn33)), (nc5000), (nc11000), (nc14005), (nc14006), (nc19001), (nc22001), (nc28000), (nc40000), (nc46000), (nc52000), rfl, rfl, rfl, rfl, rfl, rfl, rfl, rfl, rfl, rfl, rfl, rfl, rfl, hf5_0, hf14_0, hf14_1, hf14_2, hf14_3, hf14_4, hf14_5, hf19_0, hf19_1, hf19_2, hf19_3, hf19_4, hf22_0, hf22_1, hf22_2, hf22_3, hf22_4, hf28_0, hf28_1, hf40_0, hf46_0, hf52_0⟩, by rw [ht]; exact hP99, hD99⟩, hS53.F ht⟩) hS53.2.2 dX11_init_179
