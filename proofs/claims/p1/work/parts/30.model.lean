set_option maxHeartbeats 4000000 in
set_option maxRecDepth 100000 in
/-- J0_coder_7d493 -/
theorem c_coder (l : Launch) (D : va_G) (cy : Nat → ClassId) (kv : KV) (sz : Nat) (si : Nat) (sx : Nat) (stx : String) (sL : Nat) (hm9 : (si, sx, stx, sL) ∈ STRS) : Met l yJ0_coder_7d493 (Cond.code yJ0_coder_7d493 cJ0_coder_7d493 1 (some .byte) :: GW) ({ frames := 8, cells := 0, slots := 0, locals := 120 } : Room) (va_Pc [.ref (kv.1 si)] (pcq D cy kv sz [])) (va_Qi (fun r (_ : Unit) => r = 0) (fun _ t => bq D (fun w => w = []) (va_A [] sz) t) (va_A [] sz)) 0 0 (va_A [] sz) := by
  refine Met.ofW (cc := cJ0_coder_7d493) (maxL := 1) (ret := (some .byte)) (by decide) rfl ?_
  intro p e s m args below meth c s₁ B hml hv
  obtain ⟨rfl, hsz, hP, hK, hD0, hE⟩ := hv
  have hx := B.exec
  have hb := B.bytes
  have hr := B.returns
  have hG : ∀ w ∈ GW, w.before ([.ref (kv.1 si)] : List Value).toArray s = true := fun w h => atoms_spec (ws := Cond.code yJ0_coder_7d493 cJ0_coder_7d493 1 (some .byte) :: GW) B.pre w (List.mem_cons_of_mem _ h)
  have hown : s.vm.findClass RJ0 = some m.cls := findClass_of_methodNamed B.named
  have hlocks := B.notSynchronized
  subst hsz
  have hD := hD0.self (sz := s.heap.size)
  generalize hAe : va_A [] s.heap.size = A at hD hE ⊢
  have hA : ∀ q : Nat, s.heap.size ≤ q → A q := fun q h => by rw [← hAe]; exact Or.inr h
  have hS : va_S A s.heap s.heap [] := va_S.rf
  clear hAe hD0
  have hl0 := lv_entry ([.ref (kv.1 si)]) (n := 1) (Nat.le_of_ble_eq_true rfl)
  rw [lg_entry_eq]
  generalize (lg_sl ([.ref (kv.1 si)]) ++ List.replicate (1 - (lg_sl ([.ref (kv.1 si)])).length) Slot.unset).toArray = ls at hl0 ⊢
  have hl : lv_has ls 1 [(0, .ref (kv.1 si))] := hl0
  clear hl0
  have hst := (hE.2.2.2.2.2.2.2 _ hm9).2
  obtain ⟨fT, hT⟩ := hst.2.2.2
  refine va_gets (pc := 0) hx hb hE.2.2.2.2.1 hS hown (hG _ g_299) (fun _ h9 => h9) dJ0_coder_7d493_0 ?_
  refine lv_if_eq (pc := 3) (tgt := 13) hx hb dJ0_coder_7d493_3 (by decide) (fun c1 => absurd c1 (by decide)) (fun c1 => ?_)
  refine lv_aload_n (pc := 6) hx hb dJ0_coder_7d493_6 rfl (lv_at hl 0 rfl) ?_
  refine vk_getf (pc := 7) hx hb hst.2.1 hS hown (hG _ g_300) (fun _ h9 => h9) dJ0_coder_7d493_7 ?_
  refine lv_goto (pc := 10) (tgt := 14) hx hb dJ0_coder_7d493_10 (by decide) ?_
  exact W.zret (pc := 14) (v := 0) (ty := .byte) hx hb hr rfl (fun t ht hW => ⟨⟨0, (), rfl, rfl, _, rfl, by rw [ht]; exact hP, hD⟩, hS.F ht⟩) hS.2.2 dJ0_coder_7d493_14
set_option maxHeartbeats 4000000 in
set_option maxRecDepth 100000 in
/-- J0_length_8abf5 -/
theorem c_strlen (l : Launch) (D : va_G) (cy : Nat → ClassId) (kv : KV) (sz : Nat) (si : Nat) (sx : Nat) (stx : String) (sL : Nat) (hm9 : (si, sx, stx, sL) ∈ STRS) : Met l yJ0_length_8abf5 (Cond.code yJ0_length_8abf5 cJ0_length_8abf5 1 (some .int) :: GW) ({ frames := 9, cells := 0, slots := 0, locals := 160 } : Room) (va_Pc [.ref (kv.1 si)] (pcq D cy kv sz [])) (va_Qi (fun r (_ : Unit) => r = (Int32.ofNat sL) >>> (0 &&& 31)) (fun _ t => bq D (fun w => w = []) (va_A [] sz) t) (va_A [] sz)) 0 0 (va_A [] sz) := by
  refine Met.ofW (cc := cJ0_length_8abf5) (maxL := 1) (ret := (some .int)) (by decide) rfl ?_
  intro p e s m args below meth c s₁ B hml hv
  obtain ⟨rfl, hsz, hP, hK, hD0, hE⟩ := hv
  have hx := B.exec
  have hb := B.bytes
  have hr := B.returns
  have hG : ∀ w ∈ GW, w.before ([.ref (kv.1 si)] : List Value).toArray s = true := fun w h => atoms_spec (ws := Cond.code yJ0_length_8abf5 cJ0_length_8abf5 1 (some .int) :: GW) B.pre w (List.mem_cons_of_mem _ h)
  have hown : s.vm.findClass RJ0 = some m.cls := findClass_of_methodNamed B.named
  have hlocks := B.notSynchronized
  subst hsz
  have hD := hD0.self (sz := s.heap.size)
  generalize hAe : va_A [] s.heap.size = A at hD hE ⊢
  have hA : ∀ q : Nat, s.heap.size ≤ q → A q := fun q h => by rw [← hAe]; exact Or.inr h
  have hS : va_S A s.heap s.heap [] := va_S.rf
  clear hAe hD0
  have hl0 := lv_entry ([.ref (kv.1 si)]) (n := 1) (Nat.le_of_ble_eq_true rfl)
  rw [lg_entry_eq]
  generalize (lg_sl ([.ref (kv.1 si)]) ++ List.replicate (1 - (lg_sl ([.ref (kv.1 si)])).length) Slot.unset).toArray = ls at hl0 ⊢
  have hl : lv_has ls 1 [(0, .ref (kv.1 si))] := hl0
  clear hl0
  have hst := (hE.2.2.2.2.2.2.2 _ hm9).2
  obtain ⟨fT, hT⟩ := hst.2.2.2
  refine lv_aload_n (pc := 0) hx hb dJ0_length_8abf5_0 rfl (lv_at hl 0 rfl) ?_
  refine vk_getf (pc := 1) hx hb hst.2.2.1 hS hown (hG _ g_302) (fun _ h9 => h9) dJ0_length_8abf5_1 ?_
  refine va_tlen (pc := 4) hx hb hT hS (v := Int32.ofNat sL) rfl dJ0_length_8abf5_4 ?_
  refine lv_aload_n (pc := 5) hx hb dJ0_length_8abf5_5 rfl (lv_at hl 0 rfl) ?_
  refine cq_i (pc := 6) (wr := []) (k2 := 0) (n2 := 0) (va_runV (As := []) (rest := [.int (Int32.ofNat sL)]) ⟨hx, hb, hml, hown, hG⟩ (c_coder l D cy kv s.heap.size si sx stx sL hm9) (cwV 0 hG (gi_V g_303 g_304 g_305 g_306 g_301) rfl rfl rfl (by decide +kernel) ⟨Nat.le_of_ble_eq_true rfl, Nat.le_of_ble_eq_true rfl⟩) ⟨pq_blind, (st_recv hst hS), (pq_pass hP hD hK hE hS hA [] rfl (by decide))⟩ rfl rfl hl.1 rfl (lv_room (Nat.le_of_ble_eq_true rfl)) dJ0_length_8abf5_6 ⟨Nat.le_of_ble_eq_true rfl, Nat.le_of_ble_eq_true rfl⟩) hP hD hS hA [] [] rfl rfl (by decide) (by decide) (by decide) (by decide) (fun r1 w1 H1 lo1 e1 hR1 hP1r hD1r hS1 => ?_)
  subst hR1
  subst e1
  have hP1 : va_P D classes [] H1 := hP1r
  have hD1 : va_D A [] := hD1r
  clear hP1r hD1r
  clear hP hD hS
  refine lv_ishr (pc := 9) hx hb dJ0_length_8abf5_9 ?_
  exact W.iret (pc := 10) (v := (Int32.ofNat sL) >>> (0 &&& 31)) hx hb hr (fun t ht hW => ⟨⟨(Int32.ofNat sL) >>> (0 &&& 31), (), rfl, rfl, _, rfl, by rw [ht]; exact hP1, hD1⟩, hS1.F ht⟩) hS1.2.2 dJ0_length_8abf5_10
set_option maxHeartbeats 4000000 in
set_option maxRecDepth 100000 in
/-- J0_isLatin1_aae02 -/
theorem c_isLatin1 (l : Launch) (D : va_G) (cy : Nat → ClassId) (kv : KV) (sz : Nat) (si : Nat) (sx : Nat) (stx : String) (sL : Nat) (hm9 : (si, sx, stx, sL) ∈ STRS) : Met l yJ0_isLatin1_aae02 (Cond.code yJ0_isLatin1_aae02 cJ0_isLatin1_aae02 1 (some .boolean) :: GW) ({ frames := 8, cells := 0, slots := 0, locals := 120 } : Room) (va_Pc [.ref (kv.1 si)] (pcq D cy kv sz [])) (va_Qi (fun r (_ : Unit) => r = 1) (fun _ t => bq D (fun w => w = []) (va_A [] sz) t) (va_A [] sz)) 0 0 (va_A [] sz) := by
  refine Met.ofW (cc := cJ0_isLatin1_aae02) (maxL := 1) (ret := (some .boolean)) (by decide) rfl ?_
  intro p e s m args below meth c s₁ B hml hv
  obtain ⟨rfl, hsz, hP, hK, hD0, hE⟩ := hv
  have hx := B.exec
  have hb := B.bytes
  have hr := B.returns
  have hG : ∀ w ∈ GW, w.before ([.ref (kv.1 si)] : List Value).toArray s = true := fun w h => atoms_spec (ws := Cond.code yJ0_isLatin1_aae02 cJ0_isLatin1_aae02 1 (some .boolean) :: GW) B.pre w (List.mem_cons_of_mem _ h)
  have hown : s.vm.findClass RJ0 = some m.cls := findClass_of_methodNamed B.named
  have hlocks := B.notSynchronized
  subst hsz
  have hD := hD0.self (sz := s.heap.size)
  generalize hAe : va_A [] s.heap.size = A at hD hE ⊢
  have hA : ∀ q : Nat, s.heap.size ≤ q → A q := fun q h => by rw [← hAe]; exact Or.inr h
  have hS : va_S A s.heap s.heap [] := va_S.rf
  clear hAe hD0
  have hl0 := lv_entry ([.ref (kv.1 si)]) (n := 1) (Nat.le_of_ble_eq_true rfl)
  rw [lg_entry_eq]
  generalize (lg_sl ([.ref (kv.1 si)]) ++ List.replicate (1 - (lg_sl ([.ref (kv.1 si)])).length) Slot.unset).toArray = ls at hl0 ⊢
  have hl : lv_has ls 1 [(0, .ref (kv.1 si))] := hl0
  clear hl0
  have hst := (hE.2.2.2.2.2.2.2 _ hm9).2
  obtain ⟨fT, hT⟩ := hst.2.2.2
  refine va_gets (pc := 0) hx hb hE.2.2.2.2.1 hS hown (hG _ g_299) (fun _ h9 => h9) dJ0_isLatin1_aae02_0 ?_
  refine lv_if_eq (pc := 3) (tgt := 17) hx hb dJ0_isLatin1_aae02_3 (by decide) (fun c1 => absurd c1 (by decide)) (fun c1 => ?_)
  refine lv_aload_n (pc := 6) hx hb dJ0_isLatin1_aae02_6 rfl (lv_at hl 0 rfl) ?_
  refine vk_getf (pc := 7) hx hb hst.2.1 hS hown (hG _ g_300) (fun _ h9 => h9) dJ0_isLatin1_aae02_7 ?_
  refine lv_if_ne (pc := 10) (tgt := 17) hx hb dJ0_isLatin1_aae02_10 (by decide) (fun c2 => absurd (by decide) c2) (fun c2 => ?_)
  refine lv_iconst (pc := 13) (v := 1) hx hb dJ0_isLatin1_aae02_13 (by decide) ?_
  refine lv_goto (pc := 14) (tgt := 18) hx hb dJ0_isLatin1_aae02_14 (by decide) ?_
  exact W.zret (pc := 18) (v := 1) (ty := .boolean) hx hb hr rfl (fun t ht hW => ⟨⟨1, (), rfl, rfl, _, rfl, by rw [ht]; exact hP, hD⟩, hS.F ht⟩) hS.2.2 dJ0_isLatin1_aae02_18
set_option maxHeartbeats 4000000 in
set_option maxRecDepth 100000 in
/-- J3_checkIndex_8e157 -/
theorem c_pcheckN (l : Launch) (D : va_G) (cy : Nat → ClassId) (kv : KV) (sz : Nat) (xi0 : Int32) (xi1 : Int32) (h1 : ¬ xi0 < 0) (h2 : xi0 < xi1) : Met l yJ3_checkIndex_8e157 (Cond.code yJ3_checkIndex_8e157 cJ3_checkIndex_8e157 3 (some .int) :: GW) ({ frames := 8, cells := 0, slots := 0, locals := 120 } : Room) (va_Pc [.int xi0, .int xi1, .null] (pcq D cy kv sz [])) (va_Qi (fun r (_ : Unit) => r = xi0) (fun _ t => bq D (fun w => w = []) (va_A [] sz) t) (va_A [] sz)) 0 0 (va_A [] sz) := by
  refine Met.ofW (cc := cJ3_checkIndex_8e157) (maxL := 3) (ret := (some .int)) (by decide) rfl ?_
  intro p e s m args below meth c s₁ B hml hv
  obtain ⟨rfl, hsz, hP, hK, hD0, hE⟩ := hv
  have hx := B.exec
  have hb := B.bytes
  have hr := B.returns
  have hG : ∀ w ∈ GW, w.before ([.int xi0, .int xi1, .null] : List Value).toArray s = true := fun w h => atoms_spec (ws := Cond.code yJ3_checkIndex_8e157 cJ3_checkIndex_8e157 3 (some .int) :: GW) B.pre w (List.mem_cons_of_mem _ h)
  have hown : s.vm.findClass RJ3 = some m.cls := findClass_of_methodNamed B.named
  have hlocks := B.notSynchronized
  subst hsz
  have hD := hD0.self (sz := s.heap.size)
  generalize hAe : va_A [] s.heap.size = A at hD hE ⊢
  have hA : ∀ q : Nat, s.heap.size ≤ q → A q := fun q h => by rw [← hAe]; exact Or.inr h
  have hS : va_S A s.heap s.heap [] := va_S.rf
  clear hAe hD0
  have hl0 := lv_entry ([.int xi0, .int xi1, .null]) (n := 3) (Nat.le_of_ble_eq_true rfl)
  rw [lg_entry_eq]
  generalize (lg_sl ([.int xi0, .int xi1, .null]) ++ List.replicate (3 - (lg_sl ([.int xi0, .int xi1, .null])).length) Slot.unset).toArray = ls at hl0 ⊢
  have hl : lv_has ls 3 [(0, .int xi0), (1, .int xi1), (2, .null)] := hl0
  clear hl0
  refine lv_iload_n (pc := 0) hx hb dJ3_checkIndex_8e157_0 rfl (lv_at hl 0 rfl) ?_
  refine lv_if_lt (pc := 1) (tgt := 9) hx hb dJ3_checkIndex_8e157_1 (by decide) (fun c1 => absurd c1 h1) (fun c1 => ?_)
  refine lv_iload_n (pc := 4) hx hb dJ3_checkIndex_8e157_4 rfl (lv_at hl 0 rfl) ?_
  refine lv_iload_n (pc := 5) hx hb dJ3_checkIndex_8e157_5 rfl (lv_at hl 1 rfl) ?_
  refine lv_icmp_lt (pc := 6) (tgt := 16) hx hb dJ3_checkIndex_8e157_6 (by decide) (fun c2 => ?_) (fun c2 => absurd h2 c2)
  refine lv_iload_n (pc := 16) hx hb dJ3_checkIndex_8e157_16 rfl (lv_at hl 0 rfl) ?_
  exact W.iret (pc := 17) (v := xi0) hx hb hr (fun t ht hW => ⟨⟨xi0, (), rfl, rfl, _, rfl, by rw [ht]; exact hP, hD⟩, hS.F ht⟩) hS.2.2 dJ3_checkIndex_8e157_17
set_option maxHeartbeats 4000000 in
set_option maxRecDepth 100000 in
/-- J3_checkIndex_8e157 -/
theorem c_pcheckR (l : Launch) (D : va_G) (cy : Nat → ClassId) (kv : KV) (sz : Nat) (xi0 : Int32) (xi1 : Int32) (ad0 : Nat) (h1 : ¬ xi0 < 0) (h2 : xi0 < xi1) : Met l yJ3_checkIndex_8e157 (Cond.code yJ3_checkIndex_8e157 cJ3_checkIndex_8e157 3 (some .int) :: GW) ({ frames := 8, cells := 0, slots := 0, locals := 120 } : Room) (va_Pc [.int xi0, .int xi1, .ref ad0] (pcq D cy kv sz [])) (va_Qi (fun r (_ : Unit) => r = xi0) (fun _ t => bq D (fun w => w = []) (va_A [] sz) t) (va_A [] sz)) 0 0 (va_A [] sz) := by
  refine Met.ofW (cc := cJ3_checkIndex_8e157) (maxL := 3) (ret := (some .int)) (by decide) rfl ?_
  intro p e s m args below meth c s₁ B hml hv
  obtain ⟨rfl, hsz, hP, hK, hD0, hE⟩ := hv
  have hx := B.exec
  have hb := B.bytes
  have hr := B.returns
  have hG : ∀ w ∈ GW, w.before ([.int xi0, .int xi1, .ref ad0] : List Value).toArray s = true := fun w h => atoms_spec (ws := Cond.code yJ3_checkIndex_8e157 cJ3_checkIndex_8e157 3 (some .int) :: GW) B.pre w (List.mem_cons_of_mem _ h)
  have hown : s.vm.findClass RJ3 = some m.cls := findClass_of_methodNamed B.named
  have hlocks := B.notSynchronized
  subst hsz
  have hD := hD0.self (sz := s.heap.size)
  generalize hAe : va_A [] s.heap.size = A at hD hE ⊢
  have hA : ∀ q : Nat, s.heap.size ≤ q → A q := fun q h => by rw [← hAe]; exact Or.inr h
  have hS : va_S A s.heap s.heap [] := va_S.rf
  clear hAe hD0
  have hl0 := lv_entry ([.int xi0, .int xi1, .ref ad0]) (n := 3) (Nat.le_of_ble_eq_true rfl)
  rw [lg_entry_eq]
  generalize (lg_sl ([.int xi0, .int xi1, .ref ad0]) ++ List.replicate (3 - (lg_sl ([.int xi0, .int xi1, .ref ad0])).length) Slot.unset).toArray = ls at hl0 ⊢
  have hl : lv_has ls 3 [(0, .int xi0), (1, .int xi1), (2, .ref ad0)] := hl0
  clear hl0
  refine lv_iload_n (pc := 0) hx hb dJ3_checkIndex_8e157_0 rfl (lv_at hl 0 rfl) ?_
  refine lv_if_lt (pc := 1) (tgt := 9) hx hb dJ3_checkIndex_8e157_1 (by decide) (fun c1 => absurd c1 h1) (fun c1 => ?_)
  refine lv_iload_n (pc := 4) hx hb dJ3_checkIndex_8e157_4 rfl (lv_at hl 0 rfl) ?_
  refine lv_iload_n (pc := 5) hx hb dJ3_checkIndex_8e157_5 rfl (lv_at hl 1 rfl) ?_
  refine lv_icmp_lt (pc := 6) (tgt := 16) hx hb dJ3_checkIndex_8e157_6 (by decide) (fun c2 => ?_) (fun c2 => absurd h2 c2)
  refine lv_iload_n (pc := 16) hx hb dJ3_checkIndex_8e157_16 rfl (lv_at hl 0 rfl) ?_
  exact W.iret (pc := 17) (v := xi0) hx hb hr (fun t ht hW => ⟨⟨xi0, (), rfl, rfl, _, rfl, by rw [ht]; exact hP, hD⟩, hS.F ht⟩) hS.2.2 dJ3_checkIndex_8e157_17
set_option maxHeartbeats 4000000 in
set_option maxRecDepth 100000 in
/-- J0_checkIndex_df160 -/
theorem c_scheck (l : Launch) (D : va_G) (cy : Nat → ClassId) (kv : KV) (sz : Nat) (xi0 : Int32) (xi1 : Int32) (h1 : ¬ xi0 < 0) (h2 : xi0 < xi1) : Met l yJ0_checkIndex_df160 (Cond.code yJ0_checkIndex_df160 cJ0_checkIndex_df160 2 none :: GW) ({ frames := 9, cells := 0, slots := 0, locals := 160 } : Room) (va_Pc [.int xi0, .int xi1] (pcq D cy kv sz [])) (va_Qv (fun (_ : Unit) => True) (fun _ t => bq D (fun w => w = []) (va_A [] sz) t) (va_A [] sz)) 0 0 (va_A [] sz) := by
  refine Met.ofW (cc := cJ0_checkIndex_df160) (maxL := 2) (ret := none) (by decide) rfl ?_
  intro p e s m args below meth c s₁ B hml hv
  obtain ⟨rfl, hsz, hP, hK, hD0, hE⟩ := hv
  have hx := B.exec
  have hb := B.bytes
  have hr := B.returns
  have hG : ∀ w ∈ GW, w.before ([.int xi0, .int xi1] : List Value).toArray s = true := fun w h => atoms_spec (ws := Cond.code yJ0_checkIndex_df160 cJ0_checkIndex_df160 2 none :: GW) B.pre w (List.mem_cons_of_mem _ h)
  have hown : s.vm.findClass RJ0 = some m.cls := findClass_of_methodNamed B.named
  have hlocks := B.notSynchronized
  subst hsz
  have hD := hD0.self (sz := s.heap.size)
  generalize hAe : va_A [] s.heap.size = A at hD hE ⊢
  have hA : ∀ q : Nat, s.heap.size ≤ q → A q := fun q h => by rw [← hAe]; exact Or.inr h
  have hS : va_S A s.heap s.heap [] := va_S.rf
  clear hAe hD0
  have hl0 := lv_entry ([.int xi0, .int xi1]) (n := 2) (Nat.le_of_ble_eq_true rfl)
  rw [lg_entry_eq]
  generalize (lg_sl ([.int xi0, .int xi1]) ++ List.replicate (2 - (lg_sl ([.int xi0, .int xi1])).length) Slot.unset).toArray = ls at hl0 ⊢
  have hl : lv_has ls 2 [(0, .int xi0), (1, .int xi1)] := hl0
  clear hl0
  refine lv_iload_n (pc := 0) hx hb dJ0_checkIndex_df160_0 rfl (lv_at hl 0 rfl) ?_
  refine lv_iload_n (pc := 1) hx hb dJ0_checkIndex_df160_1 rfl (lv_at hl 1 rfl) ?_
  rcases hE.2.2.2.2.2.1 with hz0 | ⟨tz, hz0⟩
  · refine va_gets (pc := 2) hx hb hz0 hS hown (hG _ g_310) (fun _ h9 => h9) dJ0_checkIndex_df160_2 ?_
    refine cq_i (pc := 5) (wr := []) (k2 := 0) (n2 := 0) (va_runS (As := [.int xi0, .int xi1, .null]) (rest := []) ⟨hx, hb, hml, hown, hG⟩ (c_pcheckN l D cy kv s.heap.size xi0 xi1 h1 h2) (va_cwS 3 hG (gi_S g_311 g_312 g_313 g_309) rfl rfl rfl (by decide +kernel) ⟨Nat.le_of_ble_eq_true rfl, Nat.le_of_ble_eq_true rfl⟩) ⟨pq_blind, (pq_pass hP hD hK hE hS hA [] rfl (by decide))⟩ rfl rfl hl.1 rfl (lv_room (Nat.le_of_ble_eq_true rfl)) dJ0_checkIndex_df160_5 ⟨Nat.le_of_ble_eq_true rfl, Nat.le_of_ble_eq_true rfl⟩) hP hD hS hA [] [] rfl rfl (by decide) (by decide) (by decide) (by decide) (fun r1 w1 H1 lo1 e1 hR1 hP1r hD1r hS1 => ?_)
    subst hR1
    subst e1
    have hP1 : va_P D classes [] H1 := hP1r
    have hD1 : va_D A [] := hD1r
    clear hP1r hD1r
    clear hP hD hS
    refine lv_pop (pc := 8) hx hb dJ0_checkIndex_df160_8 rfl ?_
    exact W.vret (pc := 9) hx hb hr (fun t ht hW => ⟨⟨(), rfl, trivial, _, rfl, by rw [ht]; exact hP1, hD1⟩, hS1.F ht⟩) hS1.2.2 dJ0_checkIndex_df160_9
  · refine va_gets (pc := 2) hx hb hz0 hS hown (hG _ g_310) (fun _ h9 => h9) dJ0_checkIndex_df160_2 ?_
    refine cq_i (pc := 5) (wr := []) (k2 := 0) (n2 := 0) (va_runS (As := [.int xi0, .int xi1, .ref tz]) (rest := []) ⟨hx, hb, hml, hown, hG⟩ (c_pcheckR l D cy kv s.heap.size xi0 xi1 tz h1 h2) (va_cwS 3 hG (gi_S g_311 g_312 g_313 g_309) rfl rfl rfl (by decide +kernel) ⟨Nat.le_of_ble_eq_true rfl, Nat.le_of_ble_eq_true rfl⟩) ⟨pq_blind, (pq_pass hP hD hK hE hS hA [] rfl (by decide))⟩ rfl rfl hl.1 rfl (lv_room (Nat.le_of_ble_eq_true rfl)) dJ0_checkIndex_df160_5 ⟨Nat.le_of_ble_eq_true rfl, Nat.le_of_ble_eq_true rfl⟩) hP hD hS hA [] [] rfl rfl (by decide) (by decide) (by decide) (by decide) (fun r2 w2 H2 lo2 e2 hR2 hP2r hD2r hS2 => ?_)
    subst hR2
    subst e2
    have hP2 : va_P D classes [] H2 := hP2r
    have hD2 : va_D A [] := hD2r
    clear hP2r hD2r
    clear hP hD hS
    refine lv_pop (pc := 8) hx hb dJ0_checkIndex_df160_8 rfl ?_
    exact W.vret (pc := 9) hx hb hr (fun t ht hW => ⟨⟨(), rfl, trivial, _, rfl, by rw [ht]; exact hP2, hD2⟩, hS2.F ht⟩) hS2.2.2 dJ0_checkIndex_df160_9
set_option maxHeartbeats 4000000 in
set_option maxRecDepth 100000 in
/-- J1_charAt_3b067 -/
theorem c_lcharAt (l : Launch) (D : va_G) (cy : Nat → ClassId) (kv : KV) (sz : Nat) (xi0 : Int32) (si : Nat) (sx : Nat) (stx : String) (sL : Nat) (hm9 : (si, sx, stx, sL) ∈ STRS) (h1 : ¬ xi0 < 0) (h2 : xi0 < Int32.ofNat sL) (hin9 : vp_in xi0 sL) : Met l yJ1_charAt_3b067 (Cond.code yJ1_charAt_3b067 cJ1_charAt_3b067 2 (some .char) :: GW) ({ frames := 10, cells := 0, slots := 0, locals := 200 } : Room) (va_Pc [.ref (kv.2 si), .int xi0] (pcq D cy kv sz [])) (va_Qi (fun r (_ : Unit) => (fun r => narrow .char (.int r) = .int r) r) (fun _ t => bq D (fun w => w = []) (va_A [] sz) t) (va_A [] sz)) 0 0 (va_A [] sz) := by
  refine Met.ofW (cc := cJ1_charAt_3b067) (maxL := 2) (ret := (some .char)) (by decide) rfl ?_
  intro p e s m args below meth c s₁ B hml hv
  obtain ⟨rfl, hsz, hP, hK, hD0, hE⟩ := hv
  have hx := B.exec
  have hb := B.bytes
  have hr := B.returns
  have hG : ∀ w ∈ GW, w.before ([.ref (kv.2 si), .int xi0] : List Value).toArray s = true := fun w h => atoms_spec (ws := Cond.code yJ1_charAt_3b067 cJ1_charAt_3b067 2 (some .char) :: GW) B.pre w (List.mem_cons_of_mem _ h)
  have hown : s.vm.findClass RJ1 = some m.cls := findClass_of_methodNamed B.named
  have hlocks := B.notSynchronized
  subst hsz
  have hD := hD0.self (sz := s.heap.size)
  generalize hAe : va_A [] s.heap.size = A at hD hE ⊢
  have hA : ∀ q : Nat, s.heap.size ≤ q → A q := fun q h => by rw [← hAe]; exact Or.inr h
  have hS : va_S A s.heap s.heap [] := va_S.rf
  clear hAe hD0
  have hl0 := lv_entry ([.ref (kv.2 si), .int xi0]) (n := 2) (Nat.le_of_ble_eq_true rfl)
  rw [lg_entry_eq]
  generalize (lg_sl ([.ref (kv.2 si), .int xi0]) ++ List.replicate (2 - (lg_sl ([.ref (kv.2 si), .int xi0])).length) Slot.unset).toArray = ls at hl0 ⊢
  have hl : lv_has ls 2 [(0, .ref (kv.2 si)), (1, .int xi0)] := hl0
  clear hl0
  have hst := (hE.2.2.2.2.2.2.2 _ hm9).2
  obtain ⟨fT, hT⟩ := hst.2.2.2
  refine lv_iload_n (pc := 0) hx hb dJ1_charAt_3b067_0 rfl (lv_at hl 1 rfl) ?_
  refine lv_aload_n (pc := 1) hx hb dJ1_charAt_3b067_1 rfl (lv_at hl 0 rfl) ?_
  refine va_tlen (pc := 2) hx hb hT hS (v := Int32.ofNat sL) rfl dJ1_charAt_3b067_2 ?_
  refine cq_v (pc := 3) (wr := []) (k2 := 0) (n2 := 0) (va_runS (As := [.int xi0, .int (Int32.ofNat sL)]) (rest := []) ⟨hx, hb, hml, hown, hG⟩ (c_scheck l D cy kv s.heap.size xi0 (Int32.ofNat sL) h1 h2) (va_cwS 2 hG (gi_S g_315 g_316 g_306 g_314) rfl rfl rfl (by decide +kernel) ⟨Nat.le_of_ble_eq_true rfl, Nat.le_of_ble_eq_true rfl⟩) ⟨pq_blind, (pq_pass hP hD hK hE hS hA [] rfl (by decide))⟩ rfl rfl hl.1 rfl (lv_room (Nat.le_of_ble_eq_true rfl)) dJ1_charAt_3b067_3 ⟨Nat.le_of_ble_eq_true rfl, Nat.le_of_ble_eq_true rfl⟩) hP hD hS hA [] [] rfl rfl (by decide) (by decide) (by decide) (by decide) (fun w1 H1 lo1 hR1 hP1r hD1r hS1 => ?_)
  subst hR1
  have hP1 : va_P D classes [] H1 := hP1r
  have hD1 : va_D A [] := hD1r
  clear hP1r hD1r
  clear hP hD hS
  refine lv_aload_n (pc := 6) hx hb dJ1_charAt_3b067_6 rfl (lv_at hl 0 rfl) ?_
  refine lv_iload_n (pc := 7) hx hb dJ1_charAt_3b067_7 rfl (lv_at hl 1 rfl) ?_
  refine va_tb (pc := 8) hx hb hT hS1 hin9 rfl dJ1_charAt_3b067_8 ?_
  refine lv_sipush (pc := 9) (v := 255) hx hb dJ1_charAt_3b067_9 (by decide) ?_
  refine lv_iand (pc := 12) hx hb dJ1_charAt_3b067_12 ?_
  refine lv_i2c (pc := 13) (v := (((fT (xi0 : Int32).toNatClampNeg) &&& 255 : Int32).toUInt32 % 65536).toInt32) hx hb dJ1_charAt_3b067_13 rfl ?_
  exact W.zret (pc := 14) (v := (((fT (xi0 : Int32).toNatClampNeg) &&& 255 : Int32).toUInt32 % 65536).toInt32) (ty := .char) hx hb hr (pk_nc _) (fun t ht hW => ⟨⟨(((fT (xi0 : Int32).toNatClampNeg) &&& 255 : Int32).toUInt32 % 65536).toInt32, (), rfl, (pk_nc _), _, rfl, by rw [ht]; exact hP1, hD1⟩, hS1.F ht⟩) hS1.2.2 dJ1_charAt_3b067_14
set_option maxHeartbeats 4000000 in
set_option maxRecDepth 100000 in
/-- J0_charAt_5068e -/
theorem c_charAt (l : Launch) (D : va_G) (cy : Nat → ClassId) (kv : KV) (sz : Nat) (xi0 : Int32) (si : Nat) (sx : Nat) (stx : String) (sL : Nat) (hm9 : (si, sx, stx, sL) ∈ STRS) (h1 : ¬ xi0 < 0) (h2 : xi0 < Int32.ofNat sL) (hin9 : vp_in xi0 sL) : Met l yJ0_charAt_5068e (Cond.code yJ0_charAt_5068e cJ0_charAt_5068e 2 (some .char) :: GW) ({ frames := 11, cells := 0, slots := 0, locals := 240 } : Room) (va_Pc [.ref (kv.1 si), .int xi0] (pcq D cy kv sz [])) (va_Qi (fun r (_ : Unit) => (fun _ => True) r) (fun _ t => bq D (fun w => w = []) (va_A [] sz) t) (va_A [] sz)) 0 0 (va_A [] sz) := by
  refine Met.ofW (cc := cJ0_charAt_5068e) (maxL := 2) (ret := (some .char)) (by decide) rfl ?_
  intro p e s m args below meth c s₁ B hml hv
  obtain ⟨rfl, hsz, hP, hK, hD0, hE⟩ := hv
  have hx := B.exec
  have hb := B.bytes
  have hr := B.returns
  have hG : ∀ w ∈ GW, w.before ([.ref (kv.1 si), .int xi0] : List Value).toArray s = true := fun w h => atoms_spec (ws := Cond.code yJ0_charAt_5068e cJ0_charAt_5068e 2 (some .char) :: GW) B.pre w (List.mem_cons_of_mem _ h)
  have hown : s.vm.findClass RJ0 = some m.cls := findClass_of_methodNamed B.named
  have hlocks := B.notSynchronized
  subst hsz
  have hD := hD0.self (sz := s.heap.size)
  generalize hAe : va_A [] s.heap.size = A at hD hE ⊢
  have hA : ∀ q : Nat, s.heap.size ≤ q → A q := fun q h => by rw [← hAe]; exact Or.inr h
  have hS : va_S A s.heap s.heap [] := va_S.rf
  clear hAe hD0
  have hl0 := lv_entry ([.ref (kv.1 si), .int xi0]) (n := 2) (Nat.le_of_ble_eq_true rfl)
  rw [lg_entry_eq]
  generalize (lg_sl ([.ref (kv.1 si), .int xi0]) ++ List.replicate (2 - (lg_sl ([.ref (kv.1 si), .int xi0])).length) Slot.unset).toArray = ls at hl0 ⊢
  have hl : lv_has ls 2 [(0, .ref (kv.1 si)), (1, .int xi0)] := hl0
  clear hl0
  have hst := (hE.2.2.2.2.2.2.2 _ hm9).2
  obtain ⟨fT, hT⟩ := hst.2.2.2
  refine lv_aload_n (pc := 0) hx hb dJ0_charAt_5068e_0 rfl (lv_at hl 0 rfl) ?_
  refine cq_i (pc := 1) (wr := []) (k2 := 0) (n2 := 0) (va_runV (As := []) (rest := []) ⟨hx, hb, hml, hown, hG⟩ (c_isLatin1 l D cy kv s.heap.size si sx stx sL hm9) (cwV 0 hG (gi_V g_318 g_319 g_320 g_306 g_308) rfl rfl rfl (by decide +kernel) ⟨Nat.le_of_ble_eq_true rfl, Nat.le_of_ble_eq_true rfl⟩) ⟨pq_blind, (st_recv hst hS), (pq_pass hP hD hK hE hS hA [] rfl (by decide))⟩ rfl rfl hl.1 rfl (lv_room (Nat.le_of_ble_eq_true rfl)) dJ0_charAt_5068e_1 ⟨Nat.le_of_ble_eq_true rfl, Nat.le_of_ble_eq_true rfl⟩) hP hD hS hA [] [] rfl rfl (by decide) (by decide) (by decide) (by decide) (fun r1 w1 H1 lo1 e1 hR1 hP1r hD1r hS1 => ?_)
  subst hR1
  subst e1
  have hP1 : va_P D classes [] H1 := hP1r
  have hD1 : va_D A [] := hD1r
  clear hP1r hD1r
  clear hP hD hS
  refine lv_if_eq (pc := 4) (tgt := 16) hx hb dJ0_charAt_5068e_4 (by decide) (fun c2 => absurd c2 (by decide)) (fun c2 => ?_)
  refine lv_aload_n (pc := 7) hx hb dJ0_charAt_5068e_7 rfl (lv_at hl 0 rfl) ?_
  refine vk_getf (pc := 8) hx hb hst.2.2.1 hS1 hown (hG _ g_302) (fun _ h9 => h9) dJ0_charAt_5068e_8 ?_
  refine lv_iload_n (pc := 11) hx hb dJ0_charAt_5068e_11 rfl (lv_at hl 1 rfl) ?_
  refine cq_i (pc := 12) (wr := []) (k2 := 0) (n2 := 0) (va_runS (As := [.ref (kv.2 si), .int xi0]) (rest := []) ⟨hx, hb, hml, hown, hG⟩ (c_lcharAt l D cy kv H1.size xi0 si sx stx sL hm9 h1 h2 hin9) (va_cwS 2 hG (gi_S g_321 g_322 g_323 g_317) rfl rfl rfl (by decide +kernel) ⟨Nat.le_of_ble_eq_true rfl, Nat.le_of_ble_eq_true rfl⟩) ⟨pq_blind, (pq_pass hP1 hD1 hK hE hS1 hA [] rfl (by decide))⟩ rfl rfl hl.1 rfl (lv_room (Nat.le_of_ble_eq_true rfl)) dJ0_charAt_5068e_12 ⟨Nat.le_of_ble_eq_true rfl, Nat.le_of_ble_eq_true rfl⟩) hP1 hD1 hS1 hA [] [] rfl rfl (by decide) (by decide) (by decide) (by decide) (fun r3 w3 H3 lo3 e3 hR3 hP3r hD3r hS3 => ?_)
  subst hR3
  have hP3 : va_P D classes [] H3 := hP3r
  have hD3 : va_D A [] := hD3r
  clear hP3r hD3r
  clear hP1 hD1 hS1
  clear H1 lo1
  exact W.zret (pc := 15) (v := r3) (ty := .char) hx hb hr e3 (fun t ht hW => ⟨⟨r3, (), rfl, trivial, _, rfl, by rw [ht]; exact hP3, hD3⟩, hS3.F ht⟩) hS3.2.2 dJ0_charAt_5068e_15
set_option maxHeartbeats 4000000 in
set_option maxRecDepth 100000 in
/-- X12_signOf -/
theorem c_signOf (l : Launch) (D : va_G) (cy : Nat → ClassId) (kv : KV) (sz : Nat) (xi0 : Int32) : Met l yX12_signOf (Cond.code yX12_signOf cX12_signOf 1 (some .int) :: GW) ({ frames := 8, cells := 0, slots := 0, locals := 120 } : Room) (va_Pc [.int xi0] (pcq D cy kv sz [])) (va_Qi (fun r (_ : Unit) => (fun _ => True) r) (fun _ t => bq D (fun w => w = []) (va_A [] sz) t) (va_A [] sz)) 0 0 (va_A [] sz) := by
  refine Met.ofW (cc := cX12_signOf) (maxL := 1) (ret := (some .int)) (by decide) rfl ?_
  intro p e s m args below meth c s₁ B hml hv
  obtain ⟨rfl, hsz, hP, hK, hD0, hE⟩ := hv
  have hx := B.exec
  have hb := B.bytes
  have hr := B.returns
  have hG : ∀ w ∈ GW, w.before ([.int xi0] : List Value).toArray s = true := fun w h => atoms_spec (ws := Cond.code yX12_signOf cX12_signOf 1 (some .int) :: GW) B.pre w (List.mem_cons_of_mem _ h)
  have hown : s.vm.findClass RX12 = some m.cls := findClass_of_methodNamed B.named
  have hlocks := B.notSynchronized
  subst hsz
  have hD := hD0.self (sz := s.heap.size)
  generalize hAe : va_A [] s.heap.size = A at hD hE ⊢
  have hA : ∀ q : Nat, s.heap.size ≤ q → A q := fun q h => by rw [← hAe]; exact Or.inr h
  have hS : va_S A s.heap s.heap [] := va_S.rf
  clear hAe hD0
  have hl0 := lv_entry ([.int xi0]) (n := 1) (Nat.le_of_ble_eq_true rfl)
  rw [lg_entry_eq]
  generalize (lg_sl ([.int xi0]) ++ List.replicate (1 - (lg_sl ([.int xi0])).length) Slot.unset).toArray = ls at hl0 ⊢
  have hl : lv_has ls 1 [(0, .int xi0)] := hl0
  clear hl0
  refine lv_iload_n (pc := 0) hx hb dX12_signOf_0 rfl (lv_at hl 0 rfl) ?_
  refine lv_bipush (pc := 1) (v := 97) hx hb dX12_signOf_1 (by decide) ?_
  refine lv_icmp_lt (pc := 3) (tgt := 19) hx hb dX12_signOf_3 (by decide) (fun c1 => ?_) (fun c1 => ?_)
  · refine lv_iload_n (pc := 19) hx hb dX12_signOf_19 rfl (lv_at hl 0 rfl) ?_
    refine lv_bipush (pc := 20) (v := 48) hx hb dX12_signOf_20 (by decide) ?_
    refine lv_icmp_lt (pc := 22) (tgt := 38) hx hb dX12_signOf_22 (by decide) (fun c2 => ?_) (fun c2 => ?_)
    · refine lv_iload_n (pc := 38) hx hb dX12_signOf_38 rfl (lv_at hl 0 rfl) ?_
      refine lv_bipush (pc := 39) (v := 45) hx hb dX12_signOf_39 (by decide) ?_
      refine lv_icmp_ne (pc := 41) (tgt := 49) hx hb dX12_signOf_41 (by decide) (fun c3 => ?_) (fun c3 => ?_)
      · refine lv_iconst (pc := 49) (v := 0) hx hb dX12_signOf_49 (by decide) ?_
        exact W.iret (pc := 50) (v := 0) hx hb hr (fun t ht hW => ⟨⟨0, (), rfl, trivial, _, rfl, by rw [ht]; exact hP, hD⟩, hS.F ht⟩) hS.2.2 dX12_signOf_50
      · refine lv_bipush (pc := 44) (v := 37) hx hb dX12_signOf_44 (by decide) ?_
        refine lv_goto (pc := 46) (tgt := 50) hx hb dX12_signOf_46 (by decide) ?_
        exact W.iret (pc := 50) (v := 37) hx hb hr (fun t ht hW => ⟨⟨37, (), rfl, trivial, _, rfl, by rw [ht]; exact hP, hD⟩, hS.F ht⟩) hS.2.2 dX12_signOf_50
    · refine lv_iload_n (pc := 25) hx hb dX12_signOf_25 rfl (lv_at hl 0 rfl) ?_
      refine lv_bipush (pc := 26) (v := 57) hx hb dX12_signOf_26 (by decide) ?_
      refine lv_icmp_gt (pc := 28) (tgt := 38) hx hb dX12_signOf_28 (by decide) (fun c4 => ?_) (fun c4 => ?_)
      · refine lv_iload_n (pc := 38) hx hb dX12_signOf_38 rfl (lv_at hl 0 rfl) ?_
        refine lv_bipush (pc := 39) (v := 45) hx hb dX12_signOf_39 (by decide) ?_
        refine lv_icmp_ne (pc := 41) (tgt := 49) hx hb dX12_signOf_41 (by decide) (fun c5 => ?_) (fun c5 => ?_)
        · refine lv_iconst (pc := 49) (v := 0) hx hb dX12_signOf_49 (by decide) ?_
          exact W.iret (pc := 50) (v := 0) hx hb hr (fun t ht hW => ⟨⟨0, (), rfl, trivial, _, rfl, by rw [ht]; exact hP, hD⟩, hS.F ht⟩) hS.2.2 dX12_signOf_50
        · refine lv_bipush (pc := 44) (v := 37) hx hb dX12_signOf_44 (by decide) ?_
          refine lv_goto (pc := 46) (tgt := 50) hx hb dX12_signOf_46 (by decide) ?_
          exact W.iret (pc := 50) (v := 37) hx hb hr (fun t ht hW => ⟨⟨37, (), rfl, trivial, _, rfl, by rw [ht]; exact hP, hD⟩, hS.F ht⟩) hS.2.2 dX12_signOf_50
      · refine lv_iload_n (pc := 31) hx hb dX12_signOf_31 rfl (lv_at hl 0 rfl) ?_
        refine lv_bipush (pc := 32) (v := 21) hx hb dX12_signOf_32 (by decide) ?_
        refine lv_isub (pc := 34) hx hb dX12_signOf_34 ?_
        refine lv_goto (pc := 35) (tgt := 50) hx hb dX12_signOf_35 (by decide) ?_
        exact W.iret (pc := 50) (v := xi0 - 21) hx hb hr (fun t ht hW => ⟨⟨xi0 - 21, (), rfl, trivial, _, rfl, by rw [ht]; exact hP, hD⟩, hS.F ht⟩) hS.2.2 dX12_signOf_50
  · refine lv_iload_n (pc := 6) hx hb dX12_signOf_6 rfl (lv_at hl 0 rfl) ?_
    refine lv_bipush (pc := 7) (v := 122) hx hb dX12_signOf_7 (by decide) ?_
    refine lv_icmp_gt (pc := 9) (tgt := 19) hx hb dX12_signOf_9 (by decide) (fun c6 => ?_) (fun c6 => ?_)
    · refine lv_iload_n (pc := 19) hx hb dX12_signOf_19 rfl (lv_at hl 0 rfl) ?_
      refine lv_bipush (pc := 20) (v := 48) hx hb dX12_signOf_20 (by decide) ?_
      refine lv_icmp_lt (pc := 22) (tgt := 38) hx hb dX12_signOf_22 (by decide) (fun c7 => ?_) (fun c7 => ?_)
      · refine lv_iload_n (pc := 38) hx hb dX12_signOf_38 rfl (lv_at hl 0 rfl) ?_
        refine lv_bipush (pc := 39) (v := 45) hx hb dX12_signOf_39 (by decide) ?_
        refine lv_icmp_ne (pc := 41) (tgt := 49) hx hb dX12_signOf_41 (by decide) (fun c8 => ?_) (fun c8 => ?_)
        · refine lv_iconst (pc := 49) (v := 0) hx hb dX12_signOf_49 (by decide) ?_
          exact W.iret (pc := 50) (v := 0) hx hb hr (fun t ht hW => ⟨⟨0, (), rfl, trivial, _, rfl, by rw [ht]; exact hP, hD⟩, hS.F ht⟩) hS.2.2 dX12_signOf_50
        · refine lv_bipush (pc := 44) (v := 37) hx hb dX12_signOf_44 (by decide) ?_
          refine lv_goto (pc := 46) (tgt := 50) hx hb dX12_signOf_46 (by decide) ?_
          exact W.iret (pc := 50) (v := 37) hx hb hr (fun t ht hW => ⟨⟨37, (), rfl, trivial, _, rfl, by rw [ht]; exact hP, hD⟩, hS.F ht⟩) hS.2.2 dX12_signOf_50
      · refine lv_iload_n (pc := 25) hx hb dX12_signOf_25 rfl (lv_at hl 0 rfl) ?_
        refine lv_bipush (pc := 26) (v := 57) hx hb dX12_signOf_26 (by decide) ?_
        refine lv_icmp_gt (pc := 28) (tgt := 38) hx hb dX12_signOf_28 (by decide) (fun c9 => ?_) (fun c9 => ?_)
        · refine lv_iload_n (pc := 38) hx hb dX12_signOf_38 rfl (lv_at hl 0 rfl) ?_
          refine lv_bipush (pc := 39) (v := 45) hx hb dX12_signOf_39 (by decide) ?_
          refine lv_icmp_ne (pc := 41) (tgt := 49) hx hb dX12_signOf_41 (by decide) (fun c10 => ?_) (fun c10 => ?_)
          · refine lv_iconst (pc := 49) (v := 0) hx hb dX12_signOf_49 (by decide) ?_
            exact W.iret (pc := 50) (v := 0) hx hb hr (fun t ht hW => ⟨⟨0, (), rfl, trivial, _, rfl, by rw [ht]; exact hP, hD⟩, hS.F ht⟩) hS.2.2 dX12_signOf_50
          · refine lv_bipush (pc := 44) (v := 37) hx hb dX12_signOf_44 (by decide) ?_
            refine lv_goto (pc := 46) (tgt := 50) hx hb dX12_signOf_46 (by decide) ?_
            exact W.iret (pc := 50) (v := 37) hx hb hr (fun t ht hW => ⟨⟨37, (), rfl, trivial, _, rfl, by rw [ht]; exact hP, hD⟩, hS.F ht⟩) hS.2.2 dX12_signOf_50
        · refine lv_iload_n (pc := 31) hx hb dX12_signOf_31 rfl (lv_at hl 0 rfl) ?_
          refine lv_bipush (pc := 32) (v := 21) hx hb dX12_signOf_32 (by decide) ?_
          refine lv_isub (pc := 34) hx hb dX12_signOf_34 ?_
          refine lv_goto (pc := 35) (tgt := 50) hx hb dX12_signOf_35 (by decide) ?_
          exact W.iret (pc := 50) (v := xi0 - 21) hx hb hr (fun t ht hW => ⟨⟨xi0 - 21, (), rfl, trivial, _, rfl, by rw [ht]; exact hP, hD⟩, hS.F ht⟩) hS.2.2 dX12_signOf_50
    · refine lv_iload_n (pc := 12) hx hb dX12_signOf_12 rfl (lv_at hl 0 rfl) ?_
      refine lv_bipush (pc := 13) (v := 96) hx hb dX12_signOf_13 (by decide) ?_
      refine lv_isub (pc := 15) hx hb dX12_signOf_15 ?_
      refine lv_goto (pc := 16) (tgt := 50) hx hb dX12_signOf_16 (by decide) ?_
      exact W.iret (pc := 50) (v := xi0 - 96) hx hb hr (fun t ht hW => ⟨⟨xi0 - 96, (), rfl, trivial, _, rfl, by rw [ht]; exact hP, hD⟩, hS.F ht⟩) hS.2.2 dX12_signOf_50
set_option maxHeartbeats 4000000 in
set_option maxRecDepth 100000 in
/-- X12_packed -/
theorem c_packed0 (l : Launch) (D : va_G) (cy : Nat → ClassId) (kv : KV) (sz : Nat) : Met l yX12_packed (Cond.code yX12_packed cX12_packed 4 (some .long) :: GW) ({ frames := 12, cells := 0, slots := 0, locals := 280 } : Room) (va_Pc [.ref (kv.1 0)] (pcq D cy kv sz [])) (va_Ql (fun r (_ : Unit) => (fun _ => True) r) (fun _ t => bq D (fun w => w = []) (va_A [] sz) t) (va_A [] sz)) 0 0 (va_A [] sz) := by
  refine Met.ofW (cc := cX12_packed) (maxL := 4) (ret := (some .long)) (by decide) rfl ?_
  intro p e s m args below meth c s₁ B hml hv
  obtain ⟨rfl, hsz, hP, hK, hD0, hE⟩ := hv
  have hx := B.exec
  have hb := B.bytes
  have hr := B.returns
  have hG : ∀ w ∈ GW, w.before ([.ref (kv.1 0)] : List Value).toArray s = true := fun w h => atoms_spec (ws := Cond.code yX12_packed cX12_packed 4 (some .long) :: GW) B.pre w (List.mem_cons_of_mem _ h)
  have hown : s.vm.findClass RX12 = some m.cls := findClass_of_methodNamed B.named
  have hlocks := B.notSynchronized
  subst hsz
  have hD := hD0.self (sz := s.heap.size)
  generalize hAe : va_A [] s.heap.size = A at hD hE ⊢
  have hA : ∀ q : Nat, s.heap.size ≤ q → A q := fun q h => by rw [← hAe]; exact Or.inr h
  have hS : va_S A s.heap s.heap [] := va_S.rf
  clear hAe hD0
  have hl0 := lv_entry ([.ref (kv.1 0)]) (n := 4) (Nat.le_of_ble_eq_true rfl)
  rw [lg_entry_eq]
  generalize (lg_sl ([.ref (kv.1 0)]) ++ List.replicate (4 - (lg_sl ([.ref (kv.1 0)])).length) Slot.unset).toArray = ls at hl0 ⊢
  have hl : lv_has ls 4 [(0, .ref (kv.1 0))] := hl0
  clear hl0
  refine lv_lconst (pc := 0) (v := 0) hx hb dX12_packed_0 (by decide) ?_
  refine lv_lstore_n (pc := 1) (lv' := [(1, .long 0), (0, .ref (kv.1 0))]) hx hb dX12_packed_1 rfl hl (by decide) rfl (fun ls1 hl1 => ?_)
  clear hl ls
  refine lv_iconst (pc := 2) (v := 0) hx hb dX12_packed_2 (by decide) ?_
  refine lv_istore_n (pc := 3) (lv' := [(3, .int 0), (1, .long 0), (0, .ref (kv.1 0))]) hx hb dX12_packed_3 rfl hl1 (by decide) rfl (fun ls2 hl2 => ?_)
  clear hl1 ls1
  refine lv_iload_n (pc := 4) hx hb dX12_packed_4 rfl (lv_at hl2 0 rfl) ?_
  refine lv_aload_n (pc := 5) hx hb dX12_packed_5 rfl (lv_at hl2 2 rfl) ?_
  refine cq_i (pc := 6) (wr := []) (k2 := 0) (n2 := 0) (va_runV (As := []) (rest := [.int 0]) ⟨hx, hb, hml, hown, hG⟩ (c_strlen l D cy kv s.heap.size 0 65 ("flag") 4 (by decide)) (cwV 0 hG (gi_V g_326 g_327 g_328 g_306 g_307) rfl rfl rfl (by decide +kernel) ⟨Nat.le_of_ble_eq_true rfl, Nat.le_of_ble_eq_true rfl⟩) ⟨pq_blind, (st_recv (hE.2.2.2.2.2.2.2 (0, 65, "flag", 4) (by decide)).2 hS), (pq_pass hP hD hK hE hS hA [] rfl (by decide))⟩ rfl rfl hl2.1 rfl (lv_room (Nat.le_of_ble_eq_true rfl)) dX12_packed_6 ⟨Nat.le_of_ble_eq_true rfl, Nat.le_of_ble_eq_true rfl⟩) hP hD hS hA [] [] rfl rfl (by decide) (by decide) (by decide) (by decide) (fun r3 w3 H3 lo3 e3 hR3 hP3r hD3r hS3 => ?_)
  subst hR3
  subst e3
  have hP3 : va_P D classes [] H3 := hP3r
  have hD3 : va_D A [] := hD3r
  clear hP3r hD3r
  clear hP hD hS
  refine tp_i (y := 4) (by decide) ?_
  refine lv_icmp_ge (pc := 9) (tgt := 33) hx hb dX12_packed_9 (by decide) (fun c4 => absurd c4 (by decide)) (fun c4 => ?_)
  refine lv_lload_n (pc := 12) hx hb dX12_packed_12 rfl (lv_at hl2 1 rfl) ?_
  refine lv_bipush (pc := 13) (v := 6) hx hb dX12_packed_13 (by decide) ?_
  refine lv_lshl (pc := 15) (v := (0 : Int64) <<< ((6 : Int32).toInt64 &&& 63)) hx hb dX12_packed_15 rfl ?_
  refine lv_aload_n (pc := 16) hx hb dX12_packed_16 rfl (lv_at hl2 2 rfl) ?_
  refine lv_iload_n (pc := 17) hx hb dX12_packed_17 rfl (lv_at hl2 0 rfl) ?_
  refine cq_i (pc := 18) (wr := []) (k2 := 0) (n2 := 0) (va_runV (As := [.int 0]) (rest := [.long ((0 : Int64) <<< ((6 : Int32).toInt64 &&& 63))]) ⟨hx, hb, hml, hown, hG⟩ (c_charAt l D cy kv H3.size 0 0 65 ("flag") 4 (by decide) (by decide) (by decide) (show ¬ ((0 : Int32) < 0 ∨ 4 ≤ (0 : Int32).toNatClampNeg) by decide)) (cwV 1 hG (gi_V g_329 g_330 g_331 g_306 g_324) rfl rfl rfl (by decide +kernel) ⟨Nat.le_of_ble_eq_true rfl, Nat.le_of_ble_eq_true rfl⟩) ⟨pq_blind, (st_recv (hE.2.2.2.2.2.2.2 (0, 65, "flag", 4) (by decide)).2 hS3), (pq_pass hP3 hD3 hK hE hS3 hA [] rfl (by decide))⟩ rfl rfl hl2.1 rfl (lv_room (Nat.le_of_ble_eq_true rfl)) dX12_packed_18 ⟨Nat.le_of_ble_eq_true rfl, Nat.le_of_ble_eq_true rfl⟩) hP3 hD3 hS3 hA [] [] rfl rfl (by decide) (by decide) (by decide) (by decide) (fun r5 w5 H5 lo5 e5 hR5 hP5r hD5r hS5 => ?_)
  subst hR5
  have hP5 : va_P D classes [] H5 := hP5r
  have hD5 : va_D A [] := hD5r
  clear hP5r hD5r
  clear hP3 hD3 hS3
  clear H3 lo3
  refine cq_i (pc := 21) (wr := []) (k2 := 0) (n2 := 0) (va_runS (As := [.int r5]) (rest := [.long ((0 : Int64) <<< ((6 : Int32).toInt64 &&& 63))]) ⟨hx, hb, hml, hown, hG⟩ (c_signOf l D cy kv H5.size r5) (va_cwS 1 hG (gi_S g_332 g_333 g_334 g_325) rfl rfl rfl (by decide +kernel) ⟨Nat.le_of_ble_eq_true rfl, Nat.le_of_ble_eq_true rfl⟩) ⟨pq_blind, (pq_pass hP5 hD5 hK hE hS5 hA [] rfl (by decide))⟩ rfl rfl hl2.1 rfl (lv_room (Nat.le_of_ble_eq_true rfl)) dX12_packed_21 ⟨Nat.le_of_ble_eq_true rfl, Nat.le_of_ble_eq_true rfl⟩) hP5 hD5 hS5 hA [] [] rfl rfl (by decide) (by decide) (by decide) (by decide) (fun r6 w6 H6 lo6 e6 hR6 hP6r hD6r hS6 => ?_)
  subst hR6
  have hP6 : va_P D classes [] H6 := hP6r
  have hD6 : va_D A [] := hD6r
  clear hP6r hD6r
  clear hP5 hD5 hS5
  clear H5 lo5
  refine lv_i2l (pc := 24) (v := (r6 : Int32).toInt64) hx hb dX12_packed_24 rfl ?_
  refine lv_lor (pc := 25) hx hb dX12_packed_25 ?_
  refine lv_lstore_n (pc := 26) (lv' := [(1, .long (((0 : Int64) <<< ((6 : Int32).toInt64 &&& 63)) ||| ((r6 : Int32).toInt64))), (3, .int 0), (0, .ref (kv.1 0))]) hx hb dX12_packed_26 rfl hl2 (by decide) rfl (fun ls7 hl7 => ?_)
  clear hl2 ls2
  refine lv_iinc (pc := 27) (v := 1) (lv' := [(3, .int 1), (1, .long (((0 : Int64) <<< ((6 : Int32).toInt64 &&& 63)) ||| ((r6 : Int32).toInt64))), (0, .ref (kv.1 0))]) hx hb dX12_packed_27 hl7 (k := 1) rfl (by decide) (by decide) rfl (fun ls8 hl8 => ?_)
  clear hl7 ls7
  refine lv_goto (pc := 30) (tgt := 4) hx hb dX12_packed_30 (by decide) ?_
  refine lv_iload_n (pc := 4) hx hb dX12_packed_4 rfl (lv_at hl8 0 rfl) ?_
  refine lv_aload_n (pc := 5) hx hb dX12_packed_5 rfl (lv_at hl8 2 rfl) ?_
  refine cq_i (pc := 6) (wr := []) (k2 := 0) (n2 := 0) (va_runV (As := []) (rest := [.int 1]) ⟨hx, hb, hml, hown, hG⟩ (c_strlen l D cy kv H6.size 0 65 ("flag") 4 (by decide)) (cwV 0 hG (gi_V g_326 g_327 g_328 g_306 g_307) rfl rfl rfl (by decide +kernel) ⟨Nat.le_of_ble_eq_true rfl, Nat.le_of_ble_eq_true rfl⟩) ⟨pq_blind, (st_recv (hE.2.2.2.2.2.2.2 (0, 65, "flag", 4) (by decide)).2 hS6), (pq_pass hP6 hD6 hK hE hS6 hA [] rfl (by decide))⟩ rfl rfl hl8.1 rfl (lv_room (Nat.le_of_ble_eq_true rfl)) dX12_packed_6 ⟨Nat.le_of_ble_eq_true rfl, Nat.le_of_ble_eq_true rfl⟩) hP6 hD6 hS6 hA [] [] rfl rfl (by decide) (by decide) (by decide) (by decide) (fun r9 w9 H9 lo9 e9 hR9 hP9r hD9r hS9 => ?_)
  subst hR9
  subst e9
  have hP9 : va_P D classes [] H9 := hP9r
  have hD9 : va_D A [] := hD9r
  clear hP9r hD9r
  clear hP6 hD6 hS6
  clear H6 lo6
  refine tp_i (y := 4) (by decide) ?_
  refine lv_icmp_ge (pc := 9) (tgt := 33) hx hb dX12_packed_9 (by decide) (fun c10 => absurd c10 (by decide)) (fun c10 => ?_)
  refine lv_lload_n (pc := 12) hx hb dX12_packed_12 rfl (lv_at hl8 1 rfl) ?_
  refine lv_bipush (pc := 13) (v := 6) hx hb dX12_packed_13 (by decide) ?_
  refine lv_lshl (pc := 15) (v := (((0 : Int64) <<< ((6 : Int32).toInt64 &&& 63)) ||| ((r6 : Int32).toInt64) : Int64) <<< ((6 : Int32).toInt64 &&& 63)) hx hb dX12_packed_15 rfl ?_
  refine lv_aload_n (pc := 16) hx hb dX12_packed_16 rfl (lv_at hl8 2 rfl) ?_
  refine lv_iload_n (pc := 17) hx hb dX12_packed_17 rfl (lv_at hl8 0 rfl) ?_
  refine cq_i (pc := 18) (wr := []) (k2 := 0) (n2 := 0) (va_runV (As := [.int 1]) (rest := [.long ((((0 : Int64) <<< ((6 : Int32).toInt64 &&& 63)) ||| ((r6 : Int32).toInt64) : Int64) <<< ((6 : Int32).toInt64 &&& 63))]) ⟨hx, hb, hml, hown, hG⟩ (c_charAt l D cy kv H9.size 1 0 65 ("flag") 4 (by decide) (by decide) (by decide) (show ¬ ((1 : Int32) < 0 ∨ 4 ≤ (1 : Int32).toNatClampNeg) by decide)) (cwV 1 hG (gi_V g_329 g_330 g_331 g_306 g_324) rfl rfl rfl (by decide +kernel) ⟨Nat.le_of_ble_eq_true rfl, Nat.le_of_ble_eq_true rfl⟩) ⟨pq_blind, (st_recv (hE.2.2.2.2.2.2.2 (0, 65, "flag", 4) (by decide)).2 hS9), (pq_pass hP9 hD9 hK hE hS9 hA [] rfl (by decide))⟩ rfl rfl hl8.1 rfl (lv_room (Nat.le_of_ble_eq_true rfl)) dX12_packed_18 ⟨Nat.le_of_ble_eq_true rfl, Nat.le_of_ble_eq_true rfl⟩) hP9 hD9 hS9 hA [] [] rfl rfl (by decide) (by decide) (by decide) (by decide) (fun r11 w11 H11 lo11 e11 hR11 hP11r hD11r hS11 => ?_)
  subst hR11
  have hP11 : va_P D classes [] H11 := hP11r
  have hD11 : va_D A [] := hD11r
  clear hP11r hD11r
  clear hP9 hD9 hS9
  clear H9 lo9
  refine cq_i (pc := 21) (wr := []) (k2 := 0) (n2 := 0) (va_runS (As := [.int r11]) (rest := [.long ((((0 : Int64) <<< ((6 : Int32).toInt64 &&& 63)) ||| ((r6 : Int32).toInt64) : Int64) <<< ((6 : Int32).toInt64 &&& 63))]) ⟨hx, hb, hml, hown, hG⟩ (c_signOf l D cy kv H11.size r11) (va_cwS 1 hG (gi_S g_332 g_333 g_334 g_325) rfl rfl rfl (by decide +kernel) ⟨Nat.le_of_ble_eq_true rfl, Nat.le_of_ble_eq_true rfl⟩) ⟨pq_blind, (pq_pass hP11 hD11 hK hE hS11 hA [] rfl (by decide))⟩ rfl rfl hl8.1 rfl (lv_room (Nat.le_of_ble_eq_true rfl)) dX12_packed_21 ⟨Nat.le_of_ble_eq_true rfl, Nat.le_of_ble_eq_true rfl⟩) hP11 hD11 hS11 hA [] [] rfl rfl (by decide) (by decide) (by decide) (by decide) (fun r12 w12 H12 lo12 e12 hR12 hP12r hD12r hS12 => ?_)
  subst hR12
  have hP12 : va_P D classes [] H12 := hP12r
  have hD12 : va_D A [] := hD12r
  clear hP12r hD12r
  clear hP11 hD11 hS11
  clear H11 lo11
  refine lv_i2l (pc := 24) (v := (r12 : Int32).toInt64) hx hb dX12_packed_24 rfl ?_
  refine lv_lor (pc := 25) hx hb dX12_packed_25 ?_
  refine lv_lstore_n (pc := 26) (lv' := [(1, .long (((((0 : Int64) <<< ((6 : Int32).toInt64 &&& 63)) ||| ((r6 : Int32).toInt64) : Int64) <<< ((6 : Int32).toInt64 &&& 63)) ||| ((r12 : Int32).toInt64))), (3, .int 1), (0, .ref (kv.1 0))]) hx hb dX12_packed_26 rfl hl8 (by decide) rfl (fun ls13 hl13 => ?_)
  clear hl8 ls8
  refine lv_iinc (pc := 27) (v := 2) (lv' := [(3, .int 2), (1, .long (((((0 : Int64) <<< ((6 : Int32).toInt64 &&& 63)) ||| ((r6 : Int32).toInt64) : Int64) <<< ((6 : Int32).toInt64 &&& 63)) ||| ((r12 : Int32).toInt64))), (0, .ref (kv.1 0))]) hx hb dX12_packed_27 hl13 (k := 1) rfl (by decide) (by decide) rfl (fun ls14 hl14 => ?_)
  clear hl13 ls13
  refine lv_goto (pc := 30) (tgt := 4) hx hb dX12_packed_30 (by decide) ?_
  refine lv_iload_n (pc := 4) hx hb dX12_packed_4 rfl (lv_at hl14 0 rfl) ?_
  refine lv_aload_n (pc := 5) hx hb dX12_packed_5 rfl (lv_at hl14 2 rfl) ?_
  refine cq_i (pc := 6) (wr := []) (k2 := 0) (n2 := 0) (va_runV (As := []) (rest := [.int 2]) ⟨hx, hb, hml, hown, hG⟩ (c_strlen l D cy kv H12.size 0 65 ("flag") 4 (by decide)) (cwV 0 hG (gi_V g_326 g_327 g_328 g_306 g_307) rfl rfl rfl (by decide +kernel) ⟨Nat.le_of_ble_eq_true rfl, Nat.le_of_ble_eq_true rfl⟩) ⟨pq_blind, (st_recv (hE.2.2.2.2.2.2.2 (0, 65, "flag", 4) (by decide)).2 hS12), (pq_pass hP12 hD12 hK hE hS12 hA [] rfl (by decide))⟩ rfl rfl hl14.1 rfl (lv_room (Nat.le_of_ble_eq_true rfl)) dX12_packed_6 ⟨Nat.le_of_ble_eq_true rfl, Nat.le_of_ble_eq_true rfl⟩) hP12 hD12 hS12 hA [] [] rfl rfl (by decide) (by decide) (by decide) (by decide) (fun r15 w15 H15 lo15 e15 hR15 hP15r hD15r hS15 => ?_)
  subst hR15
  subst e15
  have hP15 : va_P D classes [] H15 := hP15r
  have hD15 : va_D A [] := hD15r
  clear hP15r hD15r
  clear hP12 hD12 hS12
  clear H12 lo12
  refine tp_i (y := 4) (by decide) ?_
  refine lv_icmp_ge (pc := 9) (tgt := 33) hx hb dX12_packed_9 (by decide) (fun c16 => absurd c16 (by decide)) (fun c16 => ?_)
  refine lv_lload_n (pc := 12) hx hb dX12_packed_12 rfl (lv_at hl14 1 rfl) ?_
  refine lv_bipush (pc := 13) (v := 6) hx hb dX12_packed_13 (by decide) ?_
  refine lv_lshl (pc := 15) (v := (((((0 : Int64) <<< ((6 : Int32).toInt64 &&& 63)) ||| ((r6 : Int32).toInt64) : Int64) <<< ((6 : Int32).toInt64 &&& 63)) ||| ((r12 : Int32).toInt64) : Int64) <<< ((6 : Int32).toInt64 &&& 63)) hx hb dX12_packed_15 rfl ?_
  refine lv_aload_n (pc := 16) hx hb dX12_packed_16 rfl (lv_at hl14 2 rfl) ?_
  refine lv_iload_n (pc := 17) hx hb dX12_packed_17 rfl (lv_at hl14 0 rfl) ?_
  refine cq_i (pc := 18) (wr := []) (k2 := 0) (n2 := 0) (va_runV (As := [.int 2]) (rest := [.long ((((((0 : Int64) <<< ((6 : Int32).toInt64 &&& 63)) ||| ((r6 : Int32).toInt64) : Int64) <<< ((6 : Int32).toInt64 &&& 63)) ||| ((r12 : Int32).toInt64) : Int64) <<< ((6 : Int32).toInt64 &&& 63))]) ⟨hx, hb, hml, hown, hG⟩ (c_charAt l D cy kv H15.size 2 0 65 ("flag") 4 (by decide) (by decide) (by decide) (show ¬ ((2 : Int32) < 0 ∨ 4 ≤ (2 : Int32).toNatClampNeg) by decide)) (cwV 1 hG (gi_V g_329 g_330 g_331 g_306 g_324) rfl rfl rfl (by decide +kernel) ⟨Nat.le_of_ble_eq_true rfl, Nat.le_of_ble_eq_true rfl⟩) ⟨pq_blind, (st_recv (hE.2.2.2.2.2.2.2 (0, 65, "flag", 4) (by decide)).2 hS15), (pq_pass hP15 hD15 hK hE hS15 hA [] rfl (by decide))⟩ rfl rfl hl14.1 rfl (lv_room (Nat.le_of_ble_eq_true rfl)) dX12_packed_18 ⟨Nat.le_of_ble_eq_true rfl, Nat.le_of_ble_eq_true rfl⟩) hP15 hD15 hS15 hA [] [] rfl rfl (by decide) (by decide) (by decide) (by decide) (fun r17 w17 H17 lo17 e17 hR17 hP17r hD17r hS17 => ?_)
  subst hR17
  have hP17 : va_P D classes [] H17 := hP17r
  have hD17 : va_D A [] := hD17r
  clear hP17r hD17r
  clear hP15 hD15 hS15
  clear H15 lo15
  refine cq_i (pc := 21) (wr := []) (k2 := 0) (n2 := 0) (va_runS (As := [.int r17]) (rest := [.long ((((((0 : Int64) <<< ((6 : Int32).toInt64 &&& 63)) ||| ((r6 : Int32).toInt64) : Int64) <<< ((6 : Int32).toInt64 &&& 63)) ||| ((r12 : Int32).toInt64) : Int64) <<< ((6 : Int32).toInt64 &&& 63))]) ⟨hx, hb, hml, hown, hG⟩ (c_signOf l D cy kv H17.size r17) (va_cwS 1 hG (gi_S g_332 g_333 g_334 g_325) rfl rfl rfl (by decide +kernel) ⟨Nat.le_of_ble_eq_true rfl, Nat.le_of_ble_eq_true rfl⟩) ⟨pq_blind, (pq_pass hP17 hD17 hK hE hS17 hA [] rfl (by decide))⟩ rfl rfl hl14.1 rfl (lv_room (Nat.le_of_ble_eq_true rfl)) dX12_packed_21 ⟨Nat.le_of_ble_eq_true rfl, Nat.le_of_ble_eq_true rfl⟩) hP17 hD17 hS17 hA [] [] rfl rfl (by decide) (by decide) (by decide) (by decide) (fun r18 w18 H18 lo18 e18 hR18 hP18r hD18r hS18 => ?_)
  subst hR18
  have hP18 : va_P D classes [] H18 := hP18r
  have hD18 : va_D A [] := hD18r
  clear hP18r hD18r
  clear hP17 hD17 hS17
  clear H17 lo17
  refine lv_i2l (pc := 24) (v := (r18 : Int32).toInt64) hx hb dX12_packed_24 rfl ?_
  refine lv_lor (pc := 25) hx hb dX12_packed_25 ?_
  refine lv_lstore_n (pc := 26) (lv' := [(1, .long (((((((0 : Int64) <<< ((6 : Int32).toInt64 &&& 63)) ||| ((r6 : Int32).toInt64) : Int64) <<< ((6 : Int32).toInt64 &&& 63)) ||| ((r12 : Int32).toInt64) : Int64) <<< ((6 : Int32).toInt64 &&& 63)) ||| ((r18 : Int32).toInt64))), (3, .int 2), (0, .ref (kv.1 0))]) hx hb dX12_packed_26 rfl hl14 (by decide) rfl (fun ls19 hl19 => ?_)
  clear hl14 ls14
  refine lv_iinc (pc := 27) (v := 3) (lv' := [(3, .int 3), (1, .long (((((((0 : Int64) <<< ((6 : Int32).toInt64 &&& 63)) ||| ((r6 : Int32).toInt64) : Int64) <<< ((6 : Int32).toInt64 &&& 63)) ||| ((r12 : Int32).toInt64) : Int64) <<< ((6 : Int32).toInt64 &&& 63)) ||| ((r18 : Int32).toInt64))), (0, .ref (kv.1 0))]) hx hb dX12_packed_27 hl19 (k := 1) rfl (by decide) (by decide) rfl (fun ls20 hl20 => ?_)
  clear hl19 ls19
  refine lv_goto (pc := 30) (tgt := 4) hx hb dX12_packed_30 (by decide) ?_
  refine lv_iload_n (pc := 4) hx hb dX12_packed_4 rfl (lv_at hl20 0 rfl) ?_
  refine lv_aload_n (pc := 5) hx hb dX12_packed_5 rfl (lv_at hl20 2 rfl) ?_
  refine cq_i (pc := 6) (wr := []) (k2 := 0) (n2 := 0) (va_runV (As := []) (rest := [.int 3]) ⟨hx, hb, hml, hown, hG⟩ (c_strlen l D cy kv H18.size 0 65 ("flag") 4 (by decide)) (cwV 0 hG (gi_V g_326 g_327 g_328 g_306 g_307) rfl rfl rfl (by decide +kernel) ⟨Nat.le_of_ble_eq_true rfl, Nat.le_of_ble_eq_true rfl⟩) ⟨pq_blind, (st_recv (hE.2.2.2.2.2.2.2 (0, 65, "flag", 4) (by decide)).2 hS18), (pq_pass hP18 hD18 hK hE hS18 hA [] rfl (by decide))⟩ rfl rfl hl20.1 rfl (lv_room (Nat.le_of_ble_eq_true rfl)) dX12_packed_6 ⟨Nat.le_of_ble_eq_true rfl, Nat.le_of_ble_eq_true rfl⟩) hP18 hD18 hS18 hA [] [] rfl rfl (by decide) (by decide) (by decide) (by decide) (fun r21 w21 H21 lo21 e21 hR21 hP21r hD21r hS21 => ?_)
  subst hR21
  subst e21
  have hP21 : va_P D classes [] H21 := hP21r
  have hD21 : va_D A [] := hD21r
  clear hP21r hD21r
  clear hP18 hD18 hS18
  clear H18 lo18
  refine tp_i (y := 4) (by decide) ?_
  refine lv_icmp_ge (pc := 9) (tgt := 33) hx hb dX12_packed_9 (by decide) (fun c22 => absurd c22 (by decide)) (fun c22 => ?_)
  refine lv_lload_n (pc := 12) hx hb dX12_packed_12 rfl (lv_at hl20 1 rfl) ?_
  refine lv_bipush (pc := 13) (v := 6) hx hb dX12_packed_13 (by decide) ?_
  refine lv_lshl (pc := 15) (v := (((((((0 : Int64) <<< ((6 : Int32).toInt64 &&& 63)) ||| ((r6 : Int32).toInt64) : Int64) <<< ((6 : Int32).toInt64 &&& 63)) ||| ((r12 : Int32).toInt64) : Int64) <<< ((6 : Int32).toInt64 &&& 63)) ||| ((r18 : Int32).toInt64) : Int64) <<< ((6 : Int32).toInt64 &&& 63)) hx hb dX12_packed_15 rfl ?_
  refine lv_aload_n (pc := 16) hx hb dX12_packed_16 rfl (lv_at hl20 2 rfl) ?_
  refine lv_iload_n (pc := 17) hx hb dX12_packed_17 rfl (lv_at hl20 0 rfl) ?_
  refine cq_i (pc := 18) (wr := []) (k2 := 0) (n2 := 0) (va_runV (As := [.int 3]) (rest := [.long ((((((((0 : Int64) <<< ((6 : Int32).toInt64 &&& 63)) ||| ((r6 : Int32).toInt64) : Int64) <<< ((6 : Int32).toInt64 &&& 63)) ||| ((r12 : Int32).toInt64) : Int64) <<< ((6 : Int32).toInt64 &&& 63)) ||| ((r18 : Int32).toInt64) : Int64) <<< ((6 : Int32).toInt64 &&& 63))]) ⟨hx, hb, hml, hown, hG⟩ (c_charAt l D cy kv H21.size 3 0 65 ("flag") 4 (by decide) (by decide) (by decide) (show ¬ ((3 : Int32) < 0 ∨ 4 ≤ (3 : Int32).toNatClampNeg) by decide)) (cwV 1 hG (gi_V g_329 g_330 g_331 g_306 g_324) rfl rfl rfl (by decide +kernel) ⟨Nat.le_of_ble_eq_true rfl, Nat.le_of_ble_eq_true rfl⟩) ⟨pq_blind, (st_recv (hE.2.2.2.2.2.2.2 (0, 65, "flag", 4) (by decide)).2 hS21), (pq_pass hP21 hD21 hK hE hS21 hA [] rfl (by decide))⟩ rfl rfl hl20.1 rfl (lv_room (Nat.le_of_ble_eq_true rfl)) dX12_packed_18 ⟨Nat.le_of_ble_eq_true rfl, Nat.le_of_ble_eq_true rfl⟩) hP21 hD21 hS21 hA [] [] rfl rfl (by decide) (by decide) (by decide) (by decide) (fun r23 w23 H23 lo23 e23 hR23 hP23r hD23r hS23 => ?_)
  subst hR23
  have hP23 : va_P D classes [] H23 := hP23r
  have hD23 : va_D A [] := hD23r
  clear hP23r hD23r
  clear hP21 hD21 hS21
  clear H21 lo21
  refine cq_i (pc := 21) (wr := []) (k2 := 0) (n2 := 0) (va_runS (As := [.int r23]) (rest := [.long ((((((((0 : Int64) <<< ((6 : Int32).toInt64 &&& 63)) ||| ((r6 : Int32).toInt64) : Int64) <<< ((6 : Int32).toInt64 &&& 63)) ||| ((r12 : Int32).toInt64) : Int64) <<< ((6 : Int32).toInt64 &&& 63)) ||| ((r18 : Int32).toInt64) : Int64) <<< ((6 : Int32).toInt64 &&& 63))]) ⟨hx, hb, hml, hown, hG⟩ (c_signOf l D cy kv H23.size r23) (va_cwS 1 hG (gi_S g_332 g_333 g_334 g_325) rfl rfl rfl (by decide +kernel) ⟨Nat.le_of_ble_eq_true rfl, Nat.le_of_ble_eq_true rfl⟩) ⟨pq_blind, (pq_pass hP23 hD23 hK hE hS23 hA [] rfl (by decide))⟩ rfl rfl hl20.1 rfl (lv_room (Nat.le_of_ble_eq_true rfl)) dX12_packed_21 ⟨Nat.le_of_ble_eq_true rfl, Nat.le_of_ble_eq_true rfl⟩) hP23 hD23 hS23 hA [] [] rfl rfl (by decide) (by decide) (by decide) (by decide) (fun r24 w24 H24 lo24 e24 hR24 hP24r hD24r hS24 => ?_)
  subst hR24
  have hP24 : va_P D classes [] H24 := hP24r
  have hD24 : va_D A [] := hD24r
  clear hP24r hD24r
  clear hP23 hD23 hS23
  clear H23 lo23
  refine lv_i2l (pc := 24) (v := (r24 : Int32).toInt64) hx hb dX12_packed_24 rfl ?_
  refine lv_lor (pc := 25) hx hb dX12_packed_25 ?_
  refine lv_lstore_n (pc := 26) (lv' := [(1, .long (((((((((0 : Int64) <<< ((6 : Int32).toInt64 &&& 63)) ||| ((r6 : Int32).toInt64) : Int64) <<< ((6 : Int32).toInt64 &&& 63)) ||| ((r12 : Int32).toInt64) : Int64) <<< ((6 : Int32).toInt64 &&& 63)) ||| ((r18 : Int32).toInt64) : Int64) <<< ((6 : Int32).toInt64 &&& 63)) ||| ((r24 : Int32).toInt64))), (3, .int 3), (0, .ref (kv.1 0))]) hx hb dX12_packed_26 rfl hl20 (by decide) rfl (fun ls25 hl25 => ?_)
  clear hl20 ls20
  refine lv_iinc (pc := 27) (v := 4) (lv' := [(3, .int 4), (1, .long (((((((((0 : Int64) <<< ((6 : Int32).toInt64 &&& 63)) ||| ((r6 : Int32).toInt64) : Int64) <<< ((6 : Int32).toInt64 &&& 63)) ||| ((r12 : Int32).toInt64) : Int64) <<< ((6 : Int32).toInt64 &&& 63)) ||| ((r18 : Int32).toInt64) : Int64) <<< ((6 : Int32).toInt64 &&& 63)) ||| ((r24 : Int32).toInt64))), (0, .ref (kv.1 0))]) hx hb dX12_packed_27 hl25 (k := 1) rfl (by decide) (by decide) rfl (fun ls26 hl26 => ?_)
  clear hl25 ls25
  refine lv_goto (pc := 30) (tgt := 4) hx hb dX12_packed_30 (by decide) ?_
  refine lv_iload_n (pc := 4) hx hb dX12_packed_4 rfl (lv_at hl26 0 rfl) ?_
  refine lv_aload_n (pc := 5) hx hb dX12_packed_5 rfl (lv_at hl26 2 rfl) ?_
  refine cq_i (pc := 6) (wr := []) (k2 := 0) (n2 := 0) (va_runV (As := []) (rest := [.int 4]) ⟨hx, hb, hml, hown, hG⟩ (c_strlen l D cy kv H24.size 0 65 ("flag") 4 (by decide)) (cwV 0 hG (gi_V g_326 g_327 g_328 g_306 g_307) rfl rfl rfl (by decide +kernel) ⟨Nat.le_of_ble_eq_true rfl, Nat.le_of_ble_eq_true rfl⟩) ⟨pq_blind, (st_recv (hE.2.2.2.2.2.2.2 (0, 65, "flag", 4) (by decide)).2 hS24), (pq_pass hP24 hD24 hK hE hS24 hA [] rfl (by decide))⟩ rfl rfl hl26.1 rfl (lv_room (Nat.le_of_ble_eq_true rfl)) dX12_packed_6 ⟨Nat.le_of_ble_eq_true rfl, Nat.le_of_ble_eq_true rfl⟩) hP24 hD24 hS24 hA [] [] rfl rfl (by decide) (by decide) (by decide) (by decide) (fun r27 w27 H27 lo27 e27 hR27 hP27r hD27r hS27 => ?_)
  subst hR27
  subst e27
  have hP27 : va_P D classes [] H27 := hP27r
  have hD27 : va_D A [] := hD27r
  clear hP27r hD27r
  clear hP24 hD24 hS24
  clear H24 lo24
  refine tp_i (y := 4) (by decide) ?_
  refine lv_icmp_ge (pc := 9) (tgt := 33) hx hb dX12_packed_9 (by decide) (fun c28 => ?_) (fun c28 => absurd (by decide) c28)
  refine lv_lload_n (pc := 33) hx hb dX12_packed_33 rfl (lv_at hl26 1 rfl) ?_
  exact W.lret (pc := 34) (v := ((((((((0 : Int64) <<< ((6 : Int32).toInt64 &&& 63)) ||| ((r6 : Int32).toInt64) : Int64) <<< ((6 : Int32).toInt64 &&& 63)) ||| ((r12 : Int32).toInt64) : Int64) <<< ((6 : Int32).toInt64 &&& 63)) ||| ((r18 : Int32).toInt64) : Int64) <<< ((6 : Int32).toInt64 &&& 63)) ||| ((r24 : Int32).toInt64)) hx hb hr (fun t ht hW => ⟨⟨((((((((0 : Int64) <<< ((6 : Int32).toInt64 &&& 63)) ||| ((r6 : Int32).toInt64) : Int64) <<< ((6 : Int32).toInt64 &&& 63)) ||| ((r12 : Int32).toInt64) : Int64) <<< ((6 : Int32).toInt64 &&& 63)) ||| ((r18 : Int32).toInt64) : Int64) <<< ((6 : Int32).toInt64 &&& 63)) ||| ((r24 : Int32).toInt64), (), rfl, trivial, _, rfl, by rw [ht]; exact hP27, hD27⟩, hS27.F ht⟩) hS27.2.2 dX12_packed_34
set_option maxHeartbeats 4000000 in
set_option maxRecDepth 100000 in
/-- X12_packed -/
theorem c_packed1 (l : Launch) (D : va_G) (cy : Nat → ClassId) (kv : KV) (sz : Nat) : Met l yX12_packed (Cond.code yX12_packed cX12_packed 4 (some .long) :: GW) ({ frames := 12, cells := 0, slots := 0, locals := 280 } : Room) (va_Pc [.ref (kv.1 1)] (pcq D cy kv sz [])) (va_Ql (fun r (_ : Unit) => (fun _ => True) r) (fun _ t => bq D (fun w => w = []) (va_A [] sz) t) (va_A [] sz)) 0 0 (va_A [] sz) := by
  refine Met.ofW (cc := cX12_packed) (maxL := 4) (ret := (some .long)) (by decide) rfl ?_
  intro p e s m args below meth c s₁ B hml hv
  obtain ⟨rfl, hsz, hP, hK, hD0, hE⟩ := hv
  have hx := B.exec
  have hb := B.bytes
  have hr := B.returns
  have hG : ∀ w ∈ GW, w.before ([.ref (kv.1 1)] : List Value).toArray s = true := fun w h => atoms_spec (ws := Cond.code yX12_packed cX12_packed 4 (some .long) :: GW) B.pre w (List.mem_cons_of_mem _ h)
  have hown : s.vm.findClass RX12 = some m.cls := findClass_of_methodNamed B.named
  have hlocks := B.notSynchronized
  subst hsz
  have hD := hD0.self (sz := s.heap.size)
  generalize hAe : va_A [] s.heap.size = A at hD hE ⊢
  have hA : ∀ q : Nat, s.heap.size ≤ q → A q := fun q h => by rw [← hAe]; exact Or.inr h
  have hS : va_S A s.heap s.heap [] := va_S.rf
  clear hAe hD0
  have hl0 := lv_entry ([.ref (kv.1 1)]) (n := 4) (Nat.le_of_ble_eq_true rfl)
  rw [lg_entry_eq]
  generalize (lg_sl ([.ref (kv.1 1)]) ++ List.replicate (4 - (lg_sl ([.ref (kv.1 1)])).length) Slot.unset).toArray = ls at hl0 ⊢
  have hl : lv_has ls 4 [(0, .ref (kv.1 1))] := hl0
  clear hl0
  refine lv_lconst (pc := 0) (v := 0) hx hb dX12_packed_0 (by decide) ?_
  refine lv_lstore_n (pc := 1) (lv' := [(1, .long 0), (0, .ref (kv.1 1))]) hx hb dX12_packed_1 rfl hl (by decide) rfl (fun ls1 hl1 => ?_)
  clear hl ls
  refine lv_iconst (pc := 2) (v := 0) hx hb dX12_packed_2 (by decide) ?_
  refine lv_istore_n (pc := 3) (lv' := [(3, .int 0), (1, .long 0), (0, .ref (kv.1 1))]) hx hb dX12_packed_3 rfl hl1 (by decide) rfl (fun ls2 hl2 => ?_)
  clear hl1 ls1
  refine lv_iload_n (pc := 4) hx hb dX12_packed_4 rfl (lv_at hl2 0 rfl) ?_
  refine lv_aload_n (pc := 5) hx hb dX12_packed_5 rfl (lv_at hl2 2 rfl) ?_
  refine cq_i (pc := 6) (wr := []) (k2 := 0) (n2 := 0) (va_runV (As := []) (rest := [.int 0]) ⟨hx, hb, hml, hown, hG⟩ (c_strlen l D cy kv s.heap.size 1 71 ("count") 5 (by decide)) (cwV 0 hG (gi_V g_326 g_327 g_328 g_306 g_307) rfl rfl rfl (by decide +kernel) ⟨Nat.le_of_ble_eq_true rfl, Nat.le_of_ble_eq_true rfl⟩) ⟨pq_blind, (st_recv (hE.2.2.2.2.2.2.2 (1, 71, "count", 5) (by decide)).2 hS), (pq_pass hP hD hK hE hS hA [] rfl (by decide))⟩ rfl rfl hl2.1 rfl (lv_room (Nat.le_of_ble_eq_true rfl)) dX12_packed_6 ⟨Nat.le_of_ble_eq_true rfl, Nat.le_of_ble_eq_true rfl⟩) hP hD hS hA [] [] rfl rfl (by decide) (by decide) (by decide) (by decide) (fun r3 w3 H3 lo3 e3 hR3 hP3r hD3r hS3 => ?_)
  subst hR3
  subst e3
  have hP3 : va_P D classes [] H3 := hP3r
  have hD3 : va_D A [] := hD3r
  clear hP3r hD3r
  clear hP hD hS
  refine tp_i (y := 5) (by decide) ?_
  refine lv_icmp_ge (pc := 9) (tgt := 33) hx hb dX12_packed_9 (by decide) (fun c4 => absurd c4 (by decide)) (fun c4 => ?_)
  refine lv_lload_n (pc := 12) hx hb dX12_packed_12 rfl (lv_at hl2 1 rfl) ?_
  refine lv_bipush (pc := 13) (v := 6) hx hb dX12_packed_13 (by decide) ?_
  refine lv_lshl (pc := 15) (v := (0 : Int64) <<< ((6 : Int32).toInt64 &&& 63)) hx hb dX12_packed_15 rfl ?_
  refine lv_aload_n (pc := 16) hx hb dX12_packed_16 rfl (lv_at hl2 2 rfl) ?_
  refine lv_iload_n (pc := 17) hx hb dX12_packed_17 rfl (lv_at hl2 0 rfl) ?_
  refine cq_i (pc := 18) (wr := []) (k2 := 0) (n2 := 0) (va_runV (As := [.int 0]) (rest := [.long ((0 : Int64) <<< ((6 : Int32).toInt64 &&& 63))]) ⟨hx, hb, hml, hown, hG⟩ (c_charAt l D cy kv H3.size 0 1 71 ("count") 5 (by decide) (by decide) (by decide) (show ¬ ((0 : Int32) < 0 ∨ 5 ≤ (0 : Int32).toNatClampNeg) by decide)) (cwV 1 hG (gi_V g_329 g_330 g_331 g_306 g_324) rfl rfl rfl (by decide +kernel) ⟨Nat.le_of_ble_eq_true rfl, Nat.le_of_ble_eq_true rfl⟩) ⟨pq_blind, (st_recv (hE.2.2.2.2.2.2.2 (1, 71, "count", 5) (by decide)).2 hS3), (pq_pass hP3 hD3 hK hE hS3 hA [] rfl (by decide))⟩ rfl rfl hl2.1 rfl (lv_room (Nat.le_of_ble_eq_true rfl)) dX12_packed_18 ⟨Nat.le_of_ble_eq_true rfl, Nat.le_of_ble_eq_true rfl⟩) hP3 hD3 hS3 hA [] [] rfl rfl (by decide) (by decide) (by decide) (by decide) (fun r5 w5 H5 lo5 e5 hR5 hP5r hD5r hS5 => ?_)
  subst hR5
  have hP5 : va_P D classes [] H5 := hP5r
  have hD5 : va_D A [] := hD5r
  clear hP5r hD5r
  clear hP3 hD3 hS3
  clear H3 lo3
  refine cq_i (pc := 21) (wr := []) (k2 := 0) (n2 := 0) (va_runS (As := [.int r5]) (rest := [.long ((0 : Int64) <<< ((6 : Int32).toInt64 &&& 63))]) ⟨hx, hb, hml, hown, hG⟩ (c_signOf l D cy kv H5.size r5) (va_cwS 1 hG (gi_S g_332 g_333 g_334 g_325) rfl rfl rfl (by decide +kernel) ⟨Nat.le_of_ble_eq_true rfl, Nat.le_of_ble_eq_true rfl⟩) ⟨pq_blind, (pq_pass hP5 hD5 hK hE hS5 hA [] rfl (by decide))⟩ rfl rfl hl2.1 rfl (lv_room (Nat.le_of_ble_eq_true rfl)) dX12_packed_21 ⟨Nat.le_of_ble_eq_true rfl, Nat.le_of_ble_eq_true rfl⟩) hP5 hD5 hS5 hA [] [] rfl rfl (by decide) (by decide) (by decide) (by decide) (fun r6 w6 H6 lo6 e6 hR6 hP6r hD6r hS6 => ?_)
  subst hR6
  have hP6 : va_P D classes [] H6 := hP6r
  have hD6 : va_D A [] := hD6r
  clear hP6r hD6r
  clear hP5 hD5 hS5
  clear H5 lo5
  refine lv_i2l (pc := 24) (v := (r6 : Int32).toInt64) hx hb dX12_packed_24 rfl ?_
  refine lv_lor (pc := 25) hx hb dX12_packed_25 ?_
  refine lv_lstore_n (pc := 26) (lv' := [(1, .long (((0 : Int64) <<< ((6 : Int32).toInt64 &&& 63)) ||| ((r6 : Int32).toInt64))), (3, .int 0), (0, .ref (kv.1 1))]) hx hb dX12_packed_26 rfl hl2 (by decide) rfl (fun ls7 hl7 => ?_)
  clear hl2 ls2
  refine lv_iinc (pc := 27) (v := 1) (lv' := [(3, .int 1), (1, .long (((0 : Int64) <<< ((6 : Int32).toInt64 &&& 63)) ||| ((r6 : Int32).toInt64))), (0, .ref (kv.1 1))]) hx hb dX12_packed_27 hl7 (k := 1) rfl (by decide) (by decide) rfl (fun ls8 hl8 => ?_)
  clear hl7 ls7
  refine lv_goto (pc := 30) (tgt := 4) hx hb dX12_packed_30 (by decide) ?_
  refine lv_iload_n (pc := 4) hx hb dX12_packed_4 rfl (lv_at hl8 0 rfl) ?_
  refine lv_aload_n (pc := 5) hx hb dX12_packed_5 rfl (lv_at hl8 2 rfl) ?_
  refine cq_i (pc := 6) (wr := []) (k2 := 0) (n2 := 0) (va_runV (As := []) (rest := [.int 1]) ⟨hx, hb, hml, hown, hG⟩ (c_strlen l D cy kv H6.size 1 71 ("count") 5 (by decide)) (cwV 0 hG (gi_V g_326 g_327 g_328 g_306 g_307) rfl rfl rfl (by decide +kernel) ⟨Nat.le_of_ble_eq_true rfl, Nat.le_of_ble_eq_true rfl⟩) ⟨pq_blind, (st_recv (hE.2.2.2.2.2.2.2 (1, 71, "count", 5) (by decide)).2 hS6), (pq_pass hP6 hD6 hK hE hS6 hA [] rfl (by decide))⟩ rfl rfl hl8.1 rfl (lv_room (Nat.le_of_ble_eq_true rfl)) dX12_packed_6 ⟨Nat.le_of_ble_eq_true rfl, Nat.le_of_ble_eq_true rfl⟩) hP6 hD6 hS6 hA [] [] rfl rfl (by decide) (by decide) (by decide) (by decide) (fun r9 w9 H9 lo9 e9 hR9 hP9r hD9r hS9 => ?_)
  subst hR9
  subst e9
  have hP9 : va_P D classes [] H9 := hP9r
  have hD9 : va_D A [] := hD9r
  clear hP9r hD9r
  clear hP6 hD6 hS6
  clear H6 lo6
  refine tp_i (y := 5) (by decide) ?_
  refine lv_icmp_ge (pc := 9) (tgt := 33) hx hb dX12_packed_9 (by decide) (fun c10 => absurd c10 (by decide)) (fun c10 => ?_)
  refine lv_lload_n (pc := 12) hx hb dX12_packed_12 rfl (lv_at hl8 1 rfl) ?_
  refine lv_bipush (pc := 13) (v := 6) hx hb dX12_packed_13 (by decide) ?_
  refine lv_lshl (pc := 15) (v := (((0 : Int64) <<< ((6 : Int32).toInt64 &&& 63)) ||| ((r6 : Int32).toInt64) : Int64) <<< ((6 : Int32).toInt64 &&& 63)) hx hb dX12_packed_15 rfl ?_
  refine lv_aload_n (pc := 16) hx hb dX12_packed_16 rfl (lv_at hl8 2 rfl) ?_
  refine lv_iload_n (pc := 17) hx hb dX12_packed_17 rfl (lv_at hl8 0 rfl) ?_
  refine cq_i (pc := 18) (wr := []) (k2 := 0) (n2 := 0) (va_runV (As := [.int 1]) (rest := [.long ((((0 : Int64) <<< ((6 : Int32).toInt64 &&& 63)) ||| ((r6 : Int32).toInt64) : Int64) <<< ((6 : Int32).toInt64 &&& 63))]) ⟨hx, hb, hml, hown, hG⟩ (c_charAt l D cy kv H9.size 1 1 71 ("count") 5 (by decide) (by decide) (by decide) (show ¬ ((1 : Int32) < 0 ∨ 5 ≤ (1 : Int32).toNatClampNeg) by decide)) (cwV 1 hG (gi_V g_329 g_330 g_331 g_306 g_324) rfl rfl rfl (by decide +kernel) ⟨Nat.le_of_ble_eq_true rfl, Nat.le_of_ble_eq_true rfl⟩) ⟨pq_blind, (st_recv (hE.2.2.2.2.2.2.2 (1, 71, "count", 5) (by decide)).2 hS9), (pq_pass hP9 hD9 hK hE hS9 hA [] rfl (by decide))⟩ rfl rfl hl8.1 rfl (lv_room (Nat.le_of_ble_eq_true rfl)) dX12_packed_18 ⟨Nat.le_of_ble_eq_true rfl, Nat.le_of_ble_eq_true rfl⟩) hP9 hD9 hS9 hA [] [] rfl rfl (by decide) (by decide) (by decide) (by decide) (fun r11 w11 H11 lo11 e11 hR11 hP11r hD11r hS11 => ?_)
  subst hR11
  have hP11 : va_P D classes [] H11 := hP11r
  have hD11 : va_D A [] := hD11r
  clear hP11r hD11r
  clear hP9 hD9 hS9
  clear H9 lo9
  refine cq_i (pc := 21) (wr := []) (k2 := 0) (n2 := 0) (va_runS (As := [.int r11]) (rest := [.long ((((0 : Int64) <<< ((6 : Int32).toInt64 &&& 63)) ||| ((r6 : Int32).toInt64) : Int64) <<< ((6 : Int32).toInt64 &&& 63))]) ⟨hx, hb, hml, hown, hG⟩ (c_signOf l D cy kv H11.size r11) (va_cwS 1 hG (gi_S g_332 g_333 g_334 g_325) rfl rfl rfl (by decide +kernel) ⟨Nat.le_of_ble_eq_true rfl, Nat.le_of_ble_eq_true rfl⟩) ⟨pq_blind, (pq_pass hP11 hD11 hK hE hS11 hA [] rfl (by decide))⟩ rfl rfl hl8.1 rfl (lv_room (Nat.le_of_ble_eq_true rfl)) dX12_packed_21 ⟨Nat.le_of_ble_eq_true rfl, Nat.le_of_ble_eq_true rfl⟩) hP11 hD11 hS11 hA [] [] rfl rfl (by decide) (by decide) (by decide) (by decide) (fun r12 w12 H12 lo12 e12 hR12 hP12r hD12r hS12 => ?_)
  subst hR12
  have hP12 : va_P D classes [] H12 := hP12r
  have hD12 : va_D A [] := hD12r
  clear hP12r hD12r
  clear hP11 hD11 hS11
  clear H11 lo11
  refine lv_i2l (pc := 24) (v := (r12 : Int32).toInt64) hx hb dX12_packed_24 rfl ?_
  refine lv_lor (pc := 25) hx hb dX12_packed_25 ?_
  refine lv_lstore_n (pc := 26) (lv' := [(1, .long (((((0 : Int64) <<< ((6 : Int32).toInt64 &&& 63)) ||| ((r6 : Int32).toInt64) : Int64) <<< ((6 : Int32).toInt64 &&& 63)) ||| ((r12 : Int32).toInt64))), (3, .int 1), (0, .ref (kv.1 1))]) hx hb dX12_packed_26 rfl hl8 (by decide) rfl (fun ls13 hl13 => ?_)
  clear hl8 ls8
  refine lv_iinc (pc := 27) (v := 2) (lv' := [(3, .int 2), (1, .long (((((0 : Int64) <<< ((6 : Int32).toInt64 &&& 63)) ||| ((r6 : Int32).toInt64) : Int64) <<< ((6 : Int32).toInt64 &&& 63)) ||| ((r12 : Int32).toInt64))), (0, .ref (kv.1 1))]) hx hb dX12_packed_27 hl13 (k := 1) rfl (by decide) (by decide) rfl (fun ls14 hl14 => ?_)
  clear hl13 ls13
  refine lv_goto (pc := 30) (tgt := 4) hx hb dX12_packed_30 (by decide) ?_
  refine lv_iload_n (pc := 4) hx hb dX12_packed_4 rfl (lv_at hl14 0 rfl) ?_
  refine lv_aload_n (pc := 5) hx hb dX12_packed_5 rfl (lv_at hl14 2 rfl) ?_
  refine cq_i (pc := 6) (wr := []) (k2 := 0) (n2 := 0) (va_runV (As := []) (rest := [.int 2]) ⟨hx, hb, hml, hown, hG⟩ (c_strlen l D cy kv H12.size 1 71 ("count") 5 (by decide)) (cwV 0 hG (gi_V g_326 g_327 g_328 g_306 g_307) rfl rfl rfl (by decide +kernel) ⟨Nat.le_of_ble_eq_true rfl, Nat.le_of_ble_eq_true rfl⟩) ⟨pq_blind, (st_recv (hE.2.2.2.2.2.2.2 (1, 71, "count", 5) (by decide)).2 hS12), (pq_pass hP12 hD12 hK hE hS12 hA [] rfl (by decide))⟩ rfl rfl hl14.1 rfl (lv_room (Nat.le_of_ble_eq_true rfl)) dX12_packed_6 ⟨Nat.le_of_ble_eq_true rfl, Nat.le_of_ble_eq_true rfl⟩) hP12 hD12 hS12 hA [] [] rfl rfl (by decide) (by decide) (by decide) (by decide) (fun r15 w15 H15 lo15 e15 hR15 hP15r hD15r hS15 => ?_)
  subst hR15
  subst e15
  have hP15 : va_P D classes [] H15 := hP15r
  have hD15 : va_D A [] := hD15r
  clear hP15r hD15r
  clear hP12 hD12 hS12
  clear H12 lo12
  refine tp_i (y := 5) (by decide) ?_
  refine lv_icmp_ge (pc := 9) (tgt := 33) hx hb dX12_packed_9 (by decide) (fun c16 => absurd c16 (by decide)) (fun c16 => ?_)
  refine lv_lload_n (pc := 12) hx hb dX12_packed_12 rfl (lv_at hl14 1 rfl) ?_
  refine lv_bipush (pc := 13) (v := 6) hx hb dX12_packed_13 (by decide) ?_
  refine lv_lshl (pc := 15) (v := (((((0 : Int64) <<< ((6 : Int32).toInt64 &&& 63)) ||| ((r6 : Int32).toInt64) : Int64) <<< ((6 : Int32).toInt64 &&& 63)) ||| ((r12 : Int32).toInt64) : Int64) <<< ((6 : Int32).toInt64 &&& 63)) hx hb dX12_packed_15 rfl ?_
  refine lv_aload_n (pc := 16) hx hb dX12_packed_16 rfl (lv_at hl14 2 rfl) ?_
  refine lv_iload_n (pc := 17) hx hb dX12_packed_17 rfl (lv_at hl14 0 rfl) ?_
  refine cq_i (pc := 18) (wr := []) (k2 := 0) (n2 := 0) (va_runV (As := [.int 2]) (rest := [.long ((((((0 : Int64) <<< ((6 : Int32).toInt64 &&& 63)) ||| ((r6 : Int32).toInt64) : Int64) <<< ((6 : Int32).toInt64 &&& 63)) ||| ((r12 : Int32).toInt64) : Int64) <<< ((6 : Int32).toInt64 &&& 63))]) ⟨hx, hb, hml, hown, hG⟩ (c_charAt l D cy kv H15.size 2 1 71 ("count") 5 (by decide) (by decide) (by decide) (show ¬ ((2 : Int32) < 0 ∨ 5 ≤ (2 : Int32).toNatClampNeg) by decide)) (cwV 1 hG (gi_V g_329 g_330 g_331 g_306 g_324) rfl rfl rfl (by decide +kernel) ⟨Nat.le_of_ble_eq_true rfl, Nat.le_of_ble_eq_true rfl⟩) ⟨pq_blind, (st_recv (hE.2.2.2.2.2.2.2 (1, 71, "count", 5) (by decide)).2 hS15), (pq_pass hP15 hD15 hK hE hS15 hA [] rfl (by decide))⟩ rfl rfl hl14.1 rfl (lv_room (Nat.le_of_ble_eq_true rfl)) dX12_packed_18 ⟨Nat.le_of_ble_eq_true rfl, Nat.le_of_ble_eq_true rfl⟩) hP15 hD15 hS15 hA [] [] rfl rfl (by decide) (by decide) (by decide) (by decide) (fun r17 w17 H17 lo17 e17 hR17 hP17r hD17r hS17 => ?_)
  subst hR17
  have hP17 : va_P D classes [] H17 := hP17r
  have hD17 : va_D A [] := hD17r
  clear hP17r hD17r
  clear hP15 hD15 hS15
  clear H15 lo15
  refine cq_i (pc := 21) (wr := []) (k2 := 0) (n2 := 0) (va_runS (As := [.int r17]) (rest := [.long ((((((0 : Int64) <<< ((6 : Int32).toInt64 &&& 63)) ||| ((r6 : Int32).toInt64) : Int64) <<< ((6 : Int32).toInt64 &&& 63)) ||| ((r12 : Int32).toInt64) : Int64) <<< ((6 : Int32).toInt64 &&& 63))]) ⟨hx, hb, hml, hown, hG⟩ (c_signOf l D cy kv H17.size r17) (va_cwS 1 hG (gi_S g_332 g_333 g_334 g_325) rfl rfl rfl (by decide +kernel) ⟨Nat.le_of_ble_eq_true rfl, Nat.le_of_ble_eq_true rfl⟩) ⟨pq_blind, (pq_pass hP17 hD17 hK hE hS17 hA [] rfl (by decide))⟩ rfl rfl hl14.1 rfl (lv_room (Nat.le_of_ble_eq_true rfl)) dX12_packed_21 ⟨Nat.le_of_ble_eq_true rfl, Nat.le_of_ble_eq_true rfl⟩) hP17 hD17 hS17 hA [] [] rfl rfl (by decide) (by decide) (by decide) (by decide) (fun r18 w18 H18 lo18 e18 hR18 hP18r hD18r hS18 => ?_)
  subst hR18
  have hP18 : va_P D classes [] H18 := hP18r
  have hD18 : va_D A [] := hD18r
  clear hP18r hD18r
  clear hP17 hD17 hS17
  clear H17 lo17
  refine lv_i2l (pc := 24) (v := (r18 : Int32).toInt64) hx hb dX12_packed_24 rfl ?_
  refine lv_lor (pc := 25) hx hb dX12_packed_25 ?_
  refine lv_lstore_n (pc := 26) (lv' := [(1, .long (((((((0 : Int64) <<< ((6 : Int32).toInt64 &&& 63)) ||| ((r6 : Int32).toInt64) : Int64) <<< ((6 : Int32).toInt64 &&& 63)) ||| ((r12 : Int32).toInt64) : Int64) <<< ((6 : Int32).toInt64 &&& 63)) ||| ((r18 : Int32).toInt64))), (3, .int 2), (0, .ref (kv.1 1))]) hx hb dX12_packed_26 rfl hl14 (by decide) rfl (fun ls19 hl19 => ?_)
  clear hl14 ls14
  refine lv_iinc (pc := 27) (v := 3) (lv' := [(3, .int 3), (1, .long (((((((0 : Int64) <<< ((6 : Int32).toInt64 &&& 63)) ||| ((r6 : Int32).toInt64) : Int64) <<< ((6 : Int32).toInt64 &&& 63)) ||| ((r12 : Int32).toInt64) : Int64) <<< ((6 : Int32).toInt64 &&& 63)) ||| ((r18 : Int32).toInt64))), (0, .ref (kv.1 1))]) hx hb dX12_packed_27 hl19 (k := 1) rfl (by decide) (by decide) rfl (fun ls20 hl20 => ?_)
  clear hl19 ls19
  refine lv_goto (pc := 30) (tgt := 4) hx hb dX12_packed_30 (by decide) ?_
  refine lv_iload_n (pc := 4) hx hb dX12_packed_4 rfl (lv_at hl20 0 rfl) ?_
  refine lv_aload_n (pc := 5) hx hb dX12_packed_5 rfl (lv_at hl20 2 rfl) ?_
  refine cq_i (pc := 6) (wr := []) (k2 := 0) (n2 := 0) (va_runV (As := []) (rest := [.int 3]) ⟨hx, hb, hml, hown, hG⟩ (c_strlen l D cy kv H18.size 1 71 ("count") 5 (by decide)) (cwV 0 hG (gi_V g_326 g_327 g_328 g_306 g_307) rfl rfl rfl (by decide +kernel) ⟨Nat.le_of_ble_eq_true rfl, Nat.le_of_ble_eq_true rfl⟩) ⟨pq_blind, (st_recv (hE.2.2.2.2.2.2.2 (1, 71, "count", 5) (by decide)).2 hS18), (pq_pass hP18 hD18 hK hE hS18 hA [] rfl (by decide))⟩ rfl rfl hl20.1 rfl (lv_room (Nat.le_of_ble_eq_true rfl)) dX12_packed_6 ⟨Nat.le_of_ble_eq_true rfl, Nat.le_of_ble_eq_true rfl⟩) hP18 hD18 hS18 hA [] [] rfl rfl (by decide) (by decide) (by decide) (by decide) (fun r21 w21 H21 lo21 e21 hR21 hP21r hD21r hS21 => ?_)
  subst hR21
  subst e21
  have hP21 : va_P D classes [] H21 := hP21r
  have hD21 : va_D A [] := hD21r
  clear hP21r hD21r
  clear hP18 hD18 hS18
  clear H18 lo18
  refine tp_i (y := 5) (by decide) ?_
  refine lv_icmp_ge (pc := 9) (tgt := 33) hx hb dX12_packed_9 (by decide) (fun c22 => absurd c22 (by decide)) (fun c22 => ?_)
  refine lv_lload_n (pc := 12) hx hb dX12_packed_12 rfl (lv_at hl20 1 rfl) ?_
  refine lv_bipush (pc := 13) (v := 6) hx hb dX12_packed_13 (by decide) ?_
  refine lv_lshl (pc := 15) (v := (((((((0 : Int64) <<< ((6 : Int32).toInt64 &&& 63)) ||| ((r6 : Int32).toInt64) : Int64) <<< ((6 : Int32).toInt64 &&& 63)) ||| ((r12 : Int32).toInt64) : Int64) <<< ((6 : Int32).toInt64 &&& 63)) ||| ((r18 : Int32).toInt64) : Int64) <<< ((6 : Int32).toInt64 &&& 63)) hx hb dX12_packed_15 rfl ?_
  refine lv_aload_n (pc := 16) hx hb dX12_packed_16 rfl (lv_at hl20 2 rfl) ?_
  refine lv_iload_n (pc := 17) hx hb dX12_packed_17 rfl (lv_at hl20 0 rfl) ?_
  refine cq_i (pc := 18) (wr := []) (k2 := 0) (n2 := 0) (va_runV (As := [.int 3]) (rest := [.long ((((((((0 : Int64) <<< ((6 : Int32).toInt64 &&& 63)) ||| ((r6 : Int32).toInt64) : Int64) <<< ((6 : Int32).toInt64 &&& 63)) ||| ((r12 : Int32).toInt64) : Int64) <<< ((6 : Int32).toInt64 &&& 63)) ||| ((r18 : Int32).toInt64) : Int64) <<< ((6 : Int32).toInt64 &&& 63))]) ⟨hx, hb, hml, hown, hG⟩ (c_charAt l D cy kv H21.size 3 1 71 ("count") 5 (by decide) (by decide) (by decide) (show ¬ ((3 : Int32) < 0 ∨ 5 ≤ (3 : Int32).toNatClampNeg) by decide)) (cwV 1 hG (gi_V g_329 g_330 g_331 g_306 g_324) rfl rfl rfl (by decide +kernel) ⟨Nat.le_of_ble_eq_true rfl, Nat.le_of_ble_eq_true rfl⟩) ⟨pq_blind, (st_recv (hE.2.2.2.2.2.2.2 (1, 71, "count", 5) (by decide)).2 hS21), (pq_pass hP21 hD21 hK hE hS21 hA [] rfl (by decide))⟩ rfl rfl hl20.1 rfl (lv_room (Nat.le_of_ble_eq_true rfl)) dX12_packed_18 ⟨Nat.le_of_ble_eq_true rfl, Nat.le_of_ble_eq_true rfl⟩) hP21 hD21 hS21 hA [] [] rfl rfl (by decide) (by decide) (by decide) (by decide) (fun r23 w23 H23 lo23 e23 hR23 hP23r hD23r hS23 => ?_)
  subst hR23
  have hP23 : va_P D classes [] H23 := hP23r
  have hD23 : va_D A [] := hD23r
  clear hP23r hD23r
  clear hP21 hD21 hS21
  clear H21 lo21
  refine cq_i (pc := 21) (wr := []) (k2 := 0) (n2 := 0) (va_runS (As := [.int r23]) (rest := [.long ((((((((0 : Int64) <<< ((6 : Int32).toInt64 &&& 63)) ||| ((r6 : Int32).toInt64) : Int64) <<< ((6 : Int32).toInt64 &&& 63)) ||| ((r12 : Int32).toInt64) : Int64) <<< ((6 : Int32).toInt64 &&& 63)) ||| ((r18 : Int32).toInt64) : Int64) <<< ((6 : Int32).toInt64 &&& 63))]) ⟨hx, hb, hml, hown, hG⟩ (c_signOf l D cy kv H23.size r23) (va_cwS 1 hG (gi_S g_332 g_333 g_334 g_325) rfl rfl rfl (by decide +kernel) ⟨Nat.le_of_ble_eq_true rfl, Nat.le_of_ble_eq_true rfl⟩) ⟨pq_blind, (pq_pass hP23 hD23 hK hE hS23 hA [] rfl (by decide))⟩ rfl rfl hl20.1 rfl (lv_room (Nat.le_of_ble_eq_true rfl)) dX12_packed_21 ⟨Nat.le_of_ble_eq_true rfl, Nat.le_of_ble_eq_true rfl⟩) hP23 hD23 hS23 hA [] [] rfl rfl (by decide) (by decide) (by decide) (by decide) (fun r24 w24 H24 lo24 e24 hR24 hP24r hD24r hS24 => ?_)
  subst hR24
  have hP24 : va_P D classes [] H24 := hP24r
  have hD24 : va_D A [] := hD24r
  clear hP24r hD24r
  clear hP23 hD23 hS23
  clear H23 lo23
  refine lv_i2l (pc := 24) (v := (r24 : Int32).toInt64) hx hb dX12_packed_24 rfl ?_
  refine lv_lor (pc := 25) hx hb dX12_packed_25 ?_
  refine lv_lstore_n (pc := 26) (lv' := [(1, .long (((((((((0 : Int64) <<< ((6 : Int32).toInt64 &&& 63)) ||| ((r6 : Int32).toInt64) : Int64) <<< ((6 : Int32).toInt64 &&& 63)) ||| ((r12 : Int32).toInt64) : Int64) <<< ((6 : Int32).toInt64 &&& 63)) ||| ((r18 : Int32).toInt64) : Int64) <<< ((6 : Int32).toInt64 &&& 63)) ||| ((r24 : Int32).toInt64))), (3, .int 3), (0, .ref (kv.1 1))]) hx hb dX12_packed_26 rfl hl20 (by decide) rfl (fun ls25 hl25 => ?_)
  clear hl20 ls20
  refine lv_iinc (pc := 27) (v := 4) (lv' := [(3, .int 4), (1, .long (((((((((0 : Int64) <<< ((6 : Int32).toInt64 &&& 63)) ||| ((r6 : Int32).toInt64) : Int64) <<< ((6 : Int32).toInt64 &&& 63)) ||| ((r12 : Int32).toInt64) : Int64) <<< ((6 : Int32).toInt64 &&& 63)) ||| ((r18 : Int32).toInt64) : Int64) <<< ((6 : Int32).toInt64 &&& 63)) ||| ((r24 : Int32).toInt64))), (0, .ref (kv.1 1))]) hx hb dX12_packed_27 hl25 (k := 1) rfl (by decide) (by decide) rfl (fun ls26 hl26 => ?_)
  clear hl25 ls25
  refine lv_goto (pc := 30) (tgt := 4) hx hb dX12_packed_30 (by decide) ?_
  refine lv_iload_n (pc := 4) hx hb dX12_packed_4 rfl (lv_at hl26 0 rfl) ?_
  refine lv_aload_n (pc := 5) hx hb dX12_packed_5 rfl (lv_at hl26 2 rfl) ?_
  refine cq_i (pc := 6) (wr := []) (k2 := 0) (n2 := 0) (va_runV (As := []) (rest := [.int 4]) ⟨hx, hb, hml, hown, hG⟩ (c_strlen l D cy kv H24.size 1 71 ("count") 5 (by decide)) (cwV 0 hG (gi_V g_326 g_327 g_328 g_306 g_307) rfl rfl rfl (by decide +kernel) ⟨Nat.le_of_ble_eq_true rfl, Nat.le_of_ble_eq_true rfl⟩) ⟨pq_blind, (st_recv (hE.2.2.2.2.2.2.2 (1, 71, "count", 5) (by decide)).2 hS24), (pq_pass hP24 hD24 hK hE hS24 hA [] rfl (by decide))⟩ rfl rfl hl26.1 rfl (lv_room (Nat.le_of_ble_eq_true rfl)) dX12_packed_6 ⟨Nat.le_of_ble_eq_true rfl, Nat.le_of_ble_eq_true rfl⟩) hP24 hD24 hS24 hA [] [] rfl rfl (by decide) (by decide) (by decide) (by decide) (fun r27 w27 H27 lo27 e27 hR27 hP27r hD27r hS27 => ?_)
  subst hR27
  subst e27
  have hP27 : va_P D classes [] H27 := hP27r
  have hD27 : va_D A [] := hD27r
  clear hP27r hD27r
  clear hP24 hD24 hS24
  clear H24 lo24
  refine tp_i (y := 5) (by decide) ?_
  refine lv_icmp_ge (pc := 9) (tgt := 33) hx hb dX12_packed_9 (by decide) (fun c28 => absurd c28 (by decide)) (fun c28 => ?_)
  refine lv_lload_n (pc := 12) hx hb dX12_packed_12 rfl (lv_at hl26 1 rfl) ?_
  refine lv_bipush (pc := 13) (v := 6) hx hb dX12_packed_13 (by decide) ?_
  refine lv_lshl (pc := 15) (v := (((((((((0 : Int64) <<< ((6 : Int32).toInt64 &&& 63)) ||| ((r6 : Int32).toInt64) : Int64) <<< ((6 : Int32).toInt64 &&& 63)) ||| ((r12 : Int32).toInt64) : Int64) <<< ((6 : Int32).toInt64 &&& 63)) ||| ((r18 : Int32).toInt64) : Int64) <<< ((6 : Int32).toInt64 &&& 63)) ||| ((r24 : Int32).toInt64) : Int64) <<< ((6 : Int32).toInt64 &&& 63)) hx hb dX12_packed_15 rfl ?_
  refine lv_aload_n (pc := 16) hx hb dX12_packed_16 rfl (lv_at hl26 2 rfl) ?_
  refine lv_iload_n (pc := 17) hx hb dX12_packed_17 rfl (lv_at hl26 0 rfl) ?_
  refine cq_i (pc := 18) (wr := []) (k2 := 0) (n2 := 0) (va_runV (As := [.int 4]) (rest := [.long ((((((((((0 : Int64) <<< ((6 : Int32).toInt64 &&& 63)) ||| ((r6 : Int32).toInt64) : Int64) <<< ((6 : Int32).toInt64 &&& 63)) ||| ((r12 : Int32).toInt64) : Int64) <<< ((6 : Int32).toInt64 &&& 63)) ||| ((r18 : Int32).toInt64) : Int64) <<< ((6 : Int32).toInt64 &&& 63)) ||| ((r24 : Int32).toInt64) : Int64) <<< ((6 : Int32).toInt64 &&& 63))]) ⟨hx, hb, hml, hown, hG⟩ (c_charAt l D cy kv H27.size 4 1 71 ("count") 5 (by decide) (by decide) (by decide) (show ¬ ((4 : Int32) < 0 ∨ 5 ≤ (4 : Int32).toNatClampNeg) by decide)) (cwV 1 hG (gi_V g_329 g_330 g_331 g_306 g_324) rfl rfl rfl (by decide +kernel) ⟨Nat.le_of_ble_eq_true rfl, Nat.le_of_ble_eq_true rfl⟩) ⟨pq_blind, (st_recv (hE.2.2.2.2.2.2.2 (1, 71, "count", 5) (by decide)).2 hS27), (pq_pass hP27 hD27 hK hE hS27 hA [] rfl (by decide))⟩ rfl rfl hl26.1 rfl (lv_room (Nat.le_of_ble_eq_true rfl)) dX12_packed_18 ⟨Nat.le_of_ble_eq_true rfl, Nat.le_of_ble_eq_true rfl⟩) hP27 hD27 hS27 hA [] [] rfl rfl (by decide) (by decide) (by decide) (by decide) (fun r29 w29 H29 lo29 e29 hR29 hP29r hD29r hS29 => ?_)
  subst hR29
  have hP29 : va_P D classes [] H29 := hP29r
  have hD29 : va_D A [] := hD29r
  clear hP29r hD29r
  clear hP27 hD27 hS27
  clear H27 lo27
  refine cq_i (pc := 21) (wr := []) (k2 := 0) (n2 := 0) (va_runS (As := [.int r29]) (rest := [.long ((((((((((0 : Int64) <<< ((6 : Int32).toInt64 &&& 63)) ||| ((r6 : Int32).toInt64) : Int64) <<< ((6 : Int32).toInt64 &&& 63)) ||| ((r12 : Int32).toInt64) : Int64) <<< ((6 : Int32).toInt64 &&& 63)) ||| ((r18 : Int32).toInt64) : Int64) <<< ((6 : Int32).toInt64 &&& 63)) ||| ((r24 : Int32).toInt64) : Int64) <<< ((6 : Int32).toInt64 &&& 63))]) ⟨hx, hb, hml, hown, hG⟩ (c_signOf l D cy kv H29.size r29) (va_cwS 1 hG (gi_S g_332 g_333 g_334 g_325) rfl rfl rfl (by decide +kernel) ⟨Nat.le_of_ble_eq_true rfl, Nat.le_of_ble_eq_true rfl⟩) ⟨pq_blind, (pq_pass hP29 hD29 hK hE hS29 hA [] rfl (by decide))⟩ rfl rfl hl26.1 rfl (lv_room (Nat.le_of_ble_eq_true rfl)) dX12_packed_21 ⟨Nat.le_of_ble_eq_true rfl, Nat.le_of_ble_eq_true rfl⟩) hP29 hD29 hS29 hA [] [] rfl rfl (by decide) (by decide) (by decide) (by decide) (fun r30 w30 H30 lo30 e30 hR30 hP30r hD30r hS30 => ?_)
  subst hR30
  have hP30 : va_P D classes [] H30 := hP30r
  have hD30 : va_D A [] := hD30r
  clear hP30r hD30r
  clear hP29 hD29 hS29
  clear H29 lo29
  refine lv_i2l (pc := 24) (v := (r30 : Int32).toInt64) hx hb dX12_packed_24 rfl ?_
  refine lv_lor (pc := 25) hx hb dX12_packed_25 ?_
  refine lv_lstore_n (pc := 26) (lv' := [(1, .long (((((((((((0 : Int64) <<< ((6 : Int32).toInt64 &&& 63)) ||| ((r6 : Int32).toInt64) : Int64) <<< ((6 : Int32).toInt64 &&& 63)) ||| ((r12 : Int32).toInt64) : Int64) <<< ((6 : Int32).toInt64 &&& 63)) ||| ((r18 : Int32).toInt64) : Int64) <<< ((6 : Int32).toInt64 &&& 63)) ||| ((r24 : Int32).toInt64) : Int64) <<< ((6 : Int32).toInt64 &&& 63)) ||| ((r30 : Int32).toInt64))), (3, .int 4), (0, .ref (kv.1 1))]) hx hb dX12_packed_26 rfl hl26 (by decide) rfl (fun ls31 hl31 => ?_)
  clear hl26 ls26
  refine lv_iinc (pc := 27) (v := 5) (lv' := [(3, .int 5), (1, .long (((((((((((0 : Int64) <<< ((6 : Int32).toInt64 &&& 63)) ||| ((r6 : Int32).toInt64) : Int64) <<< ((6 : Int32).toInt64 &&& 63)) ||| ((r12 : Int32).toInt64) : Int64) <<< ((6 : Int32).toInt64 &&& 63)) ||| ((r18 : Int32).toInt64) : Int64) <<< ((6 : Int32).toInt64 &&& 63)) ||| ((r24 : Int32).toInt64) : Int64) <<< ((6 : Int32).toInt64 &&& 63)) ||| ((r30 : Int32).toInt64))), (0, .ref (kv.1 1))]) hx hb dX12_packed_27 hl31 (k := 1) rfl (by decide) (by decide) rfl (fun ls32 hl32 => ?_)
  clear hl31 ls31
  refine lv_goto (pc := 30) (tgt := 4) hx hb dX12_packed_30 (by decide) ?_
  refine lv_iload_n (pc := 4) hx hb dX12_packed_4 rfl (lv_at hl32 0 rfl) ?_
  refine lv_aload_n (pc := 5) hx hb dX12_packed_5 rfl (lv_at hl32 2 rfl) ?_
  refine cq_i (pc := 6) (wr := []) (k2 := 0) (n2 := 0) (va_runV (As := []) (rest := [.int 5]) ⟨hx, hb, hml, hown, hG⟩ (c_strlen l D cy kv H30.size 1 71 ("count") 5 (by decide)) (cwV 0 hG (gi_V g_326 g_327 g_328 g_306 g_307) rfl rfl rfl (by decide +kernel) ⟨Nat.le_of_ble_eq_true rfl, Nat.le_of_ble_eq_true rfl⟩) ⟨pq_blind, (st_recv (hE.2.2.2.2.2.2.2 (1, 71, "count", 5) (by decide)).2 hS30), (pq_pass hP30 hD30 hK hE hS30 hA [] rfl (by decide))⟩ rfl rfl hl32.1 rfl (lv_room (Nat.le_of_ble_eq_true rfl)) dX12_packed_6 ⟨Nat.le_of_ble_eq_true rfl, Nat.le_of_ble_eq_true rfl⟩) hP30 hD30 hS30 hA [] [] rfl rfl (by decide) (by decide) (by decide) (by decide) (fun r33 w33 H33 lo33 e33 hR33 hP33r hD33r hS33 => ?_)
  subst hR33
  subst e33
  have hP33 : va_P D classes [] H33 := hP33r
  have hD33 : va_D A [] := hD33r
  clear hP33r hD33r
  clear hP30 hD30 hS30
  clear H30 lo30
  refine tp_i (y := 5) (by decide) ?_
  refine lv_icmp_ge (pc := 9) (tgt := 33) hx hb dX12_packed_9 (by decide) (fun c34 => ?_) (fun c34 => absurd (by decide) c34)
  refine lv_lload_n (pc := 33) hx hb dX12_packed_33 rfl (lv_at hl32 1 rfl) ?_
  exact W.lret (pc := 34) (v := ((((((((((0 : Int64) <<< ((6 : Int32).toInt64 &&& 63)) ||| ((r6 : Int32).toInt64) : Int64) <<< ((6 : Int32).toInt64 &&& 63)) ||| ((r12 : Int32).toInt64) : Int64) <<< ((6 : Int32).toInt64 &&& 63)) ||| ((r18 : Int32).toInt64) : Int64) <<< ((6 : Int32).toInt64 &&& 63)) ||| ((r24 : Int32).toInt64) : Int64) <<< ((6 : Int32).toInt64 &&& 63)) ||| ((r30 : Int32).toInt64)) hx hb hr (fun t ht hW => ⟨⟨((((((((((0 : Int64) <<< ((6 : Int32).toInt64 &&& 63)) ||| ((r6 : Int32).toInt64) : Int64) <<< ((6 : Int32).toInt64 &&& 63)) ||| ((r12 : Int32).toInt64) : Int64) <<< ((6 : Int32).toInt64 &&& 63)) ||| ((r18 : Int32).toInt64) : Int64) <<< ((6 : Int32).toInt64 &&& 63)) ||| ((r24 : Int32).toInt64) : Int64) <<< ((6 : Int32).toInt64 &&& 63)) ||| ((r30 : Int32).toInt64), (), rfl, trivial, _, rfl, by rw [ht]; exact hP33, hD33⟩, hS33.F ht⟩) hS33.2.2 dX12_packed_34
set_option maxHeartbeats 4000000 in
set_option maxRecDepth 100000 in
/-- X12_packed -/
theorem c_packed2 (l : Launch) (D : va_G) (cy : Nat → ClassId) (kv : KV) (sz : Nat) : Met l yX12_packed (Cond.code yX12_packed cX12_packed 4 (some .long) :: GW) ({ frames := 12, cells := 0, slots := 0, locals := 280 } : Room) (va_Pc [.ref (kv.1 2)] (pcq D cy kv sz [])) (va_Ql (fun r (_ : Unit) => (fun _ => True) r) (fun _ t => bq D (fun w => w = []) (va_A [] sz) t) (va_A [] sz)) 0 0 (va_A [] sz) := by
  refine Met.ofW (cc := cX12_packed) (maxL := 4) (ret := (some .long)) (by decide) rfl ?_
  intro p e s m args below meth c s₁ B hml hv
  obtain ⟨rfl, hsz, hP, hK, hD0, hE⟩ := hv
  have hx := B.exec
  have hb := B.bytes
  have hr := B.returns
  have hG : ∀ w ∈ GW, w.before ([.ref (kv.1 2)] : List Value).toArray s = true := fun w h => atoms_spec (ws := Cond.code yX12_packed cX12_packed 4 (some .long) :: GW) B.pre w (List.mem_cons_of_mem _ h)
  have hown : s.vm.findClass RX12 = some m.cls := findClass_of_methodNamed B.named
  have hlocks := B.notSynchronized
  subst hsz
  have hD := hD0.self (sz := s.heap.size)
  generalize hAe : va_A [] s.heap.size = A at hD hE ⊢
  have hA : ∀ q : Nat, s.heap.size ≤ q → A q := fun q h => by rw [← hAe]; exact Or.inr h
  have hS : va_S A s.heap s.heap [] := va_S.rf
  clear hAe hD0
  have hl0 := lv_entry ([.ref (kv.1 2)]) (n := 4) (Nat.le_of_ble_eq_true rfl)
  rw [lg_entry_eq]
  generalize (lg_sl ([.ref (kv.1 2)]) ++ List.replicate (4 - (lg_sl ([.ref (kv.1 2)])).length) Slot.unset).toArray = ls at hl0 ⊢
  have hl : lv_has ls 4 [(0, .ref (kv.1 2))] := hl0
  clear hl0
  refine lv_lconst (pc := 0) (v := 0) hx hb dX12_packed_0 (by decide) ?_
  refine lv_lstore_n (pc := 1) (lv' := [(1, .long 0), (0, .ref (kv.1 2))]) hx hb dX12_packed_1 rfl hl (by decide) rfl (fun ls1 hl1 => ?_)
  clear hl ls
  refine lv_iconst (pc := 2) (v := 0) hx hb dX12_packed_2 (by decide) ?_
  refine lv_istore_n (pc := 3) (lv' := [(3, .int 0), (1, .long 0), (0, .ref (kv.1 2))]) hx hb dX12_packed_3 rfl hl1 (by decide) rfl (fun ls2 hl2 => ?_)
  clear hl1 ls1
  refine lv_iload_n (pc := 4) hx hb dX12_packed_4 rfl (lv_at hl2 0 rfl) ?_
  refine lv_aload_n (pc := 5) hx hb dX12_packed_5 rfl (lv_at hl2 2 rfl) ?_
  refine cq_i (pc := 6) (wr := []) (k2 := 0) (n2 := 0) (va_runV (As := []) (rest := [.int 0]) ⟨hx, hb, hml, hown, hG⟩ (c_strlen l D cy kv s.heap.size 2 79 ("day") 3 (by decide)) (cwV 0 hG (gi_V g_326 g_327 g_328 g_306 g_307) rfl rfl rfl (by decide +kernel) ⟨Nat.le_of_ble_eq_true rfl, Nat.le_of_ble_eq_true rfl⟩) ⟨pq_blind, (st_recv (hE.2.2.2.2.2.2.2 (2, 79, "day", 3) (by decide)).2 hS), (pq_pass hP hD hK hE hS hA [] rfl (by decide))⟩ rfl rfl hl2.1 rfl (lv_room (Nat.le_of_ble_eq_true rfl)) dX12_packed_6 ⟨Nat.le_of_ble_eq_true rfl, Nat.le_of_ble_eq_true rfl⟩) hP hD hS hA [] [] rfl rfl (by decide) (by decide) (by decide) (by decide) (fun r3 w3 H3 lo3 e3 hR3 hP3r hD3r hS3 => ?_)
  subst hR3
  subst e3
  have hP3 : va_P D classes [] H3 := hP3r
  have hD3 : va_D A [] := hD3r
  clear hP3r hD3r
  clear hP hD hS
  refine tp_i (y := 3) (by decide) ?_
  refine lv_icmp_ge (pc := 9) (tgt := 33) hx hb dX12_packed_9 (by decide) (fun c4 => absurd c4 (by decide)) (fun c4 => ?_)
  refine lv_lload_n (pc := 12) hx hb dX12_packed_12 rfl (lv_at hl2 1 rfl) ?_
  refine lv_bipush (pc := 13) (v := 6) hx hb dX12_packed_13 (by decide) ?_
  refine lv_lshl (pc := 15) (v := (0 : Int64) <<< ((6 : Int32).toInt64 &&& 63)) hx hb dX12_packed_15 rfl ?_
  refine lv_aload_n (pc := 16) hx hb dX12_packed_16 rfl (lv_at hl2 2 rfl) ?_
  refine lv_iload_n (pc := 17) hx hb dX12_packed_17 rfl (lv_at hl2 0 rfl) ?_
  refine cq_i (pc := 18) (wr := []) (k2 := 0) (n2 := 0) (va_runV (As := [.int 0]) (rest := [.long ((0 : Int64) <<< ((6 : Int32).toInt64 &&& 63))]) ⟨hx, hb, hml, hown, hG⟩ (c_charAt l D cy kv H3.size 0 2 79 ("day") 3 (by decide) (by decide) (by decide) (show ¬ ((0 : Int32) < 0 ∨ 3 ≤ (0 : Int32).toNatClampNeg) by decide)) (cwV 1 hG (gi_V g_329 g_330 g_331 g_306 g_324) rfl rfl rfl (by decide +kernel) ⟨Nat.le_of_ble_eq_true rfl, Nat.le_of_ble_eq_true rfl⟩) ⟨pq_blind, (st_recv (hE.2.2.2.2.2.2.2 (2, 79, "day", 3) (by decide)).2 hS3), (pq_pass hP3 hD3 hK hE hS3 hA [] rfl (by decide))⟩ rfl rfl hl2.1 rfl (lv_room (Nat.le_of_ble_eq_true rfl)) dX12_packed_18 ⟨Nat.le_of_ble_eq_true rfl, Nat.le_of_ble_eq_true rfl⟩) hP3 hD3 hS3 hA [] [] rfl rfl (by decide) (by decide) (by decide) (by decide) (fun r5 w5 H5 lo5 e5 hR5 hP5r hD5r hS5 => ?_)
  subst hR5
  have hP5 : va_P D classes [] H5 := hP5r
  have hD5 : va_D A [] := hD5r
  clear hP5r hD5r
  clear hP3 hD3 hS3
  clear H3 lo3
  refine cq_i (pc := 21) (wr := []) (k2 := 0) (n2 := 0) (va_runS (As := [.int r5]) (rest := [.long ((0 : Int64) <<< ((6 : Int32).toInt64 &&& 63))]) ⟨hx, hb, hml, hown, hG⟩ (c_signOf l D cy kv H5.size r5) (va_cwS 1 hG (gi_S g_332 g_333 g_334 g_325) rfl rfl rfl (by decide +kernel) ⟨Nat.le_of_ble_eq_true rfl, Nat.le_of_ble_eq_true rfl⟩) ⟨pq_blind, (pq_pass hP5 hD5 hK hE hS5 hA [] rfl (by decide))⟩ rfl rfl hl2.1 rfl (lv_room (Nat.le_of_ble_eq_true rfl)) dX12_packed_21 ⟨Nat.le_of_ble_eq_true rfl, Nat.le_of_ble_eq_true rfl⟩) hP5 hD5 hS5 hA [] [] rfl rfl (by decide) (by decide) (by decide) (by decide) (fun r6 w6 H6 lo6 e6 hR6 hP6r hD6r hS6 => ?_)
  subst hR6
  have hP6 : va_P D classes [] H6 := hP6r
  have hD6 : va_D A [] := hD6r
  clear hP6r hD6r
  clear hP5 hD5 hS5
  clear H5 lo5
  refine lv_i2l (pc := 24) (v := (r6 : Int32).toInt64) hx hb dX12_packed_24 rfl ?_
  refine lv_lor (pc := 25) hx hb dX12_packed_25 ?_
  refine lv_lstore_n (pc := 26) (lv' := [(1, .long (((0 : Int64) <<< ((6 : Int32).toInt64 &&& 63)) ||| ((r6 : Int32).toInt64))), (3, .int 0), (0, .ref (kv.1 2))]) hx hb dX12_packed_26 rfl hl2 (by decide) rfl (fun ls7 hl7 => ?_)
  clear hl2 ls2
  refine lv_iinc (pc := 27) (v := 1) (lv' := [(3, .int 1), (1, .long (((0 : Int64) <<< ((6 : Int32).toInt64 &&& 63)) ||| ((r6 : Int32).toInt64))), (0, .ref (kv.1 2))]) hx hb dX12_packed_27 hl7 (k := 1) rfl (by decide) (by decide) rfl (fun ls8 hl8 => ?_)
  clear hl7 ls7
  refine lv_goto (pc := 30) (tgt := 4) hx hb dX12_packed_30 (by decide) ?_
  refine lv_iload_n (pc := 4) hx hb dX12_packed_4 rfl (lv_at hl8 0 rfl) ?_
  refine lv_aload_n (pc := 5) hx hb dX12_packed_5 rfl (lv_at hl8 2 rfl) ?_
  refine cq_i (pc := 6) (wr := []) (k2 := 0) (n2 := 0) (va_runV (As := []) (rest := [.int 1]) ⟨hx, hb, hml, hown, hG⟩ (c_strlen l D cy kv H6.size 2 79 ("day") 3 (by decide)) (cwV 0 hG (gi_V g_326 g_327 g_328 g_306 g_307) rfl rfl rfl (by decide +kernel) ⟨Nat.le_of_ble_eq_true rfl, Nat.le_of_ble_eq_true rfl⟩) ⟨pq_blind, (st_recv (hE.2.2.2.2.2.2.2 (2, 79, "day", 3) (by decide)).2 hS6), (pq_pass hP6 hD6 hK hE hS6 hA [] rfl (by decide))⟩ rfl rfl hl8.1 rfl (lv_room (Nat.le_of_ble_eq_true rfl)) dX12_packed_6 ⟨Nat.le_of_ble_eq_true rfl, Nat.le_of_ble_eq_true rfl⟩) hP6 hD6 hS6 hA [] [] rfl rfl (by decide) (by decide) (by decide) (by decide) (fun r9 w9 H9 lo9 e9 hR9 hP9r hD9r hS9 => ?_)
  subst hR9
  subst e9
  have hP9 : va_P D classes [] H9 := hP9r
  have hD9 : va_D A [] := hD9r
  clear hP9r hD9r
  clear hP6 hD6 hS6
  clear H6 lo6
  refine tp_i (y := 3) (by decide) ?_
  refine lv_icmp_ge (pc := 9) (tgt := 33) hx hb dX12_packed_9 (by decide) (fun c10 => absurd c10 (by decide)) (fun c10 => ?_)
  refine lv_lload_n (pc := 12) hx hb dX12_packed_12 rfl (lv_at hl8 1 rfl) ?_
  refine lv_bipush (pc := 13) (v := 6) hx hb dX12_packed_13 (by decide) ?_
  refine lv_lshl (pc := 15) (v := (((0 : Int64) <<< ((6 : Int32).toInt64 &&& 63)) ||| ((r6 : Int32).toInt64) : Int64) <<< ((6 : Int32).toInt64 &&& 63)) hx hb dX12_packed_15 rfl ?_
  refine lv_aload_n (pc := 16) hx hb dX12_packed_16 rfl (lv_at hl8 2 rfl) ?_
  refine lv_iload_n (pc := 17) hx hb dX12_packed_17 rfl (lv_at hl8 0 rfl) ?_
  refine cq_i (pc := 18) (wr := []) (k2 := 0) (n2 := 0) (va_runV (As := [.int 1]) (rest := [.long ((((0 : Int64) <<< ((6 : Int32).toInt64 &&& 63)) ||| ((r6 : Int32).toInt64) : Int64) <<< ((6 : Int32).toInt64 &&& 63))]) ⟨hx, hb, hml, hown, hG⟩ (c_charAt l D cy kv H9.size 1 2 79 ("day") 3 (by decide) (by decide) (by decide) (show ¬ ((1 : Int32) < 0 ∨ 3 ≤ (1 : Int32).toNatClampNeg) by decide)) (cwV 1 hG (gi_V g_329 g_330 g_331 g_306 g_324) rfl rfl rfl (by decide +kernel) ⟨Nat.le_of_ble_eq_true rfl, Nat.le_of_ble_eq_true rfl⟩) ⟨pq_blind, (st_recv (hE.2.2.2.2.2.2.2 (2, 79, "day", 3) (by decide)).2 hS9), (pq_pass hP9 hD9 hK hE hS9 hA [] rfl (by decide))⟩ rfl rfl hl8.1 rfl (lv_room (Nat.le_of_ble_eq_true rfl)) dX12_packed_18 ⟨Nat.le_of_ble_eq_true rfl, Nat.le_of_ble_eq_true rfl⟩) hP9 hD9 hS9 hA [] [] rfl rfl (by decide) (by decide) (by decide) (by decide) (fun r11 w11 H11 lo11 e11 hR11 hP11r hD11r hS11 => ?_)
  subst hR11
  have hP11 : va_P D classes [] H11 := hP11r
  have hD11 : va_D A [] := hD11r
  clear hP11r hD11r
  clear hP9 hD9 hS9
  clear H9 lo9
  refine cq_i (pc := 21) (wr := []) (k2 := 0) (n2 := 0) (va_runS (As := [.int r11]) (rest := [.long ((((0 : Int64) <<< ((6 : Int32).toInt64 &&& 63)) ||| ((r6 : Int32).toInt64) : Int64) <<< ((6 : Int32).toInt64 &&& 63))]) ⟨hx, hb, hml, hown, hG⟩ (c_signOf l D cy kv H11.size r11) (va_cwS 1 hG (gi_S g_332 g_333 g_334 g_325) rfl rfl rfl (by decide +kernel) ⟨Nat.le_of_ble_eq_true rfl, Nat.le_of_ble_eq_true rfl⟩) ⟨pq_blind, (pq_pass hP11 hD11 hK hE hS11 hA [] rfl (by decide))⟩ rfl rfl hl8.1 rfl (lv_room (Nat.le_of_ble_eq_true rfl)) dX12_packed_21 ⟨Nat.le_of_ble_eq_true rfl, Nat.le_of_ble_eq_true rfl⟩) hP11 hD11 hS11 hA [] [] rfl rfl (by decide) (by decide) (by decide) (by decide) (fun r12 w12 H12 lo12 e12 hR12 hP12r hD12r hS12 => ?_)
  subst hR12
  have hP12 : va_P D classes [] H12 := hP12r
  have hD12 : va_D A [] := hD12r
  clear hP12r hD12r
  clear hP11 hD11 hS11
  clear H11 lo11
  refine lv_i2l (pc := 24) (v := (r12 : Int32).toInt64) hx hb dX12_packed_24 rfl ?_
  refine lv_lor (pc := 25) hx hb dX12_packed_25 ?_
  refine lv_lstore_n (pc := 26) (lv' := [(1, .long (((((0 : Int64) <<< ((6 : Int32).toInt64 &&& 63)) ||| ((r6 : Int32).toInt64) : Int64) <<< ((6 : Int32).toInt64 &&& 63)) ||| ((r12 : Int32).toInt64))), (3, .int 1), (0, .ref (kv.1 2))]) hx hb dX12_packed_26 rfl hl8 (by decide) rfl (fun ls13 hl13 => ?_)
  clear hl8 ls8
  refine lv_iinc (pc := 27) (v := 2) (lv' := [(3, .int 2), (1, .long (((((0 : Int64) <<< ((6 : Int32).toInt64 &&& 63)) ||| ((r6 : Int32).toInt64) : Int64) <<< ((6 : Int32).toInt64 &&& 63)) ||| ((r12 : Int32).toInt64))), (0, .ref (kv.1 2))]) hx hb dX12_packed_27 hl13 (k := 1) rfl (by decide) (by decide) rfl (fun ls14 hl14 => ?_)
  clear hl13 ls13
  refine lv_goto (pc := 30) (tgt := 4) hx hb dX12_packed_30 (by decide) ?_
  refine lv_iload_n (pc := 4) hx hb dX12_packed_4 rfl (lv_at hl14 0 rfl) ?_
  refine lv_aload_n (pc := 5) hx hb dX12_packed_5 rfl (lv_at hl14 2 rfl) ?_
  refine cq_i (pc := 6) (wr := []) (k2 := 0) (n2 := 0) (va_runV (As := []) (rest := [.int 2]) ⟨hx, hb, hml, hown, hG⟩ (c_strlen l D cy kv H12.size 2 79 ("day") 3 (by decide)) (cwV 0 hG (gi_V g_326 g_327 g_328 g_306 g_307) rfl rfl rfl (by decide +kernel) ⟨Nat.le_of_ble_eq_true rfl, Nat.le_of_ble_eq_true rfl⟩) ⟨pq_blind, (st_recv (hE.2.2.2.2.2.2.2 (2, 79, "day", 3) (by decide)).2 hS12), (pq_pass hP12 hD12 hK hE hS12 hA [] rfl (by decide))⟩ rfl rfl hl14.1 rfl (lv_room (Nat.le_of_ble_eq_true rfl)) dX12_packed_6 ⟨Nat.le_of_ble_eq_true rfl, Nat.le_of_ble_eq_true rfl⟩) hP12 hD12 hS12 hA [] [] rfl rfl (by decide) (by decide) (by decide) (by decide) (fun r15 w15 H15 lo15 e15 hR15 hP15r hD15r hS15 => ?_)
  subst hR15
  subst e15
  have hP15 : va_P D classes [] H15 := hP15r
  have hD15 : va_D A [] := hD15r
  clear hP15r hD15r
  clear hP12 hD12 hS12
  clear H12 lo12
  refine tp_i (y := 3) (by decide) ?_
  refine lv_icmp_ge (pc := 9) (tgt := 33) hx hb dX12_packed_9 (by decide) (fun c16 => absurd c16 (by decide)) (fun c16 => ?_)
  refine lv_lload_n (pc := 12) hx hb dX12_packed_12 rfl (lv_at hl14 1 rfl) ?_
  refine lv_bipush (pc := 13) (v := 6) hx hb dX12_packed_13 (by decide) ?_
  refine lv_lshl (pc := 15) (v := (((((0 : Int64) <<< ((6 : Int32).toInt64 &&& 63)) ||| ((r6 : Int32).toInt64) : Int64) <<< ((6 : Int32).toInt64 &&& 63)) ||| ((r12 : Int32).toInt64) : Int64) <<< ((6 : Int32).toInt64 &&& 63)) hx hb dX12_packed_15 rfl ?_
  refine lv_aload_n (pc := 16) hx hb dX12_packed_16 rfl (lv_at hl14 2 rfl) ?_
  refine lv_iload_n (pc := 17) hx hb dX12_packed_17 rfl (lv_at hl14 0 rfl) ?_
  refine cq_i (pc := 18) (wr := []) (k2 := 0) (n2 := 0) (va_runV (As := [.int 2]) (rest := [.long ((((((0 : Int64) <<< ((6 : Int32).toInt64 &&& 63)) ||| ((r6 : Int32).toInt64) : Int64) <<< ((6 : Int32).toInt64 &&& 63)) ||| ((r12 : Int32).toInt64) : Int64) <<< ((6 : Int32).toInt64 &&& 63))]) ⟨hx, hb, hml, hown, hG⟩ (c_charAt l D cy kv H15.size 2 2 79 ("day") 3 (by decide) (by decide) (by decide) (show ¬ ((2 : Int32) < 0 ∨ 3 ≤ (2 : Int32).toNatClampNeg) by decide)) (cwV 1 hG (gi_V g_329 g_330 g_331 g_306 g_324) rfl rfl rfl (by decide +kernel) ⟨Nat.le_of_ble_eq_true rfl, Nat.le_of_ble_eq_true rfl⟩) ⟨pq_blind, (st_recv (hE.2.2.2.2.2.2.2 (2, 79, "day", 3) (by decide)).2 hS15), (pq_pass hP15 hD15 hK hE hS15 hA [] rfl (by decide))⟩ rfl rfl hl14.1 rfl (lv_room (Nat.le_of_ble_eq_true rfl)) dX12_packed_18 ⟨Nat.le_of_ble_eq_true rfl, Nat.le_of_ble_eq_true rfl⟩) hP15 hD15 hS15 hA [] [] rfl rfl (by decide) (by decide) (by decide) (by decide) (fun r17 w17 H17 lo17 e17 hR17 hP17r hD17r hS17 => ?_)
  subst hR17
  have hP17 : va_P D classes [] H17 := hP17r
  have hD17 : va_D A [] := hD17r
  clear hP17r hD17r
  clear hP15 hD15 hS15
  clear H15 lo15
  refine cq_i (pc := 21) (wr := []) (k2 := 0) (n2 := 0) (va_runS (As := [.int r17]) (rest := [.long ((((((0 : Int64) <<< ((6 : Int32).toInt64 &&& 63)) ||| ((r6 : Int32).toInt64) : Int64) <<< ((6 : Int32).toInt64 &&& 63)) ||| ((r12 : Int32).toInt64) : Int64) <<< ((6 : Int32).toInt64 &&& 63))]) ⟨hx, hb, hml, hown, hG⟩ (c_signOf l D cy kv H17.size r17) (va_cwS 1 hG (gi_S g_332 g_333 g_334 g_325) rfl rfl rfl (by decide +kernel) ⟨Nat.le_of_ble_eq_true rfl, Nat.le_of_ble_eq_true rfl⟩) ⟨pq_blind, (pq_pass hP17 hD17 hK hE hS17 hA [] rfl (by decide))⟩ rfl rfl hl14.1 rfl (lv_room (Nat.le_of_ble_eq_true rfl)) dX12_packed_21 ⟨Nat.le_of_ble_eq_true rfl, Nat.le_of_ble_eq_true rfl⟩) hP17 hD17 hS17 hA [] [] rfl rfl (by decide) (by decide) (by decide) (by decide) (fun r18 w18 H18 lo18 e18 hR18 hP18r hD18r hS18 => ?_)
  subst hR18
  have hP18 : va_P D classes [] H18 := hP18r
  have hD18 : va_D A [] := hD18r
  clear hP18r hD18r
  clear hP17 hD17 hS17
  clear H17 lo17
  refine lv_i2l (pc := 24) (v := (r18 : Int32).toInt64) hx hb dX12_packed_24 rfl ?_
  refine lv_lor (pc := 25) hx hb dX12_packed_25 ?_
  refine lv_lstore_n (pc := 26) (lv' := [(1, .long (((((((0 : Int64) <<< ((6 : Int32).toInt64 &&& 63)) ||| ((r6 : Int32).toInt64) : Int64) <<< ((6 : Int32).toInt64 &&& 63)) ||| ((r12 : Int32).toInt64) : Int64) <<< ((6 : Int32).toInt64 &&& 63)) ||| ((r18 : Int32).toInt64))), (3, .int 2), (0, .ref (kv.1 2))]) hx hb dX12_packed_26 rfl hl14 (by decide) rfl (fun ls19 hl19 => ?_)
  clear hl14 ls14
  refine lv_iinc (pc := 27) (v := 3) (lv' := [(3, .int 3), (1, .long (((((((0 : Int64) <<< ((6 : Int32).toInt64 &&& 63)) ||| ((r6 : Int32).toInt64) : Int64) <<< ((6 : Int32).toInt64 &&& 63)) ||| ((r12 : Int32).toInt64) : Int64) <<< ((6 : Int32).toInt64 &&& 63)) ||| ((r18 : Int32).toInt64))), (0, .ref (kv.1 2))]) hx hb dX12_packed_27 hl19 (k := 1) rfl (by decide) (by decide) rfl (fun ls20 hl20 => ?_)
  clear hl19 ls19
  refine lv_goto (pc := 30) (tgt := 4) hx hb dX12_packed_30 (by decide) ?_
  refine lv_iload_n (pc := 4) hx hb dX12_packed_4 rfl (lv_at hl20 0 rfl) ?_
  refine lv_aload_n (pc := 5) hx hb dX12_packed_5 rfl (lv_at hl20 2 rfl) ?_
  refine cq_i (pc := 6) (wr := []) (k2 := 0) (n2 := 0) (va_runV (As := []) (rest := [.int 3]) ⟨hx, hb, hml, hown, hG⟩ (c_strlen l D cy kv H18.size 2 79 ("day") 3 (by decide)) (cwV 0 hG (gi_V g_326 g_327 g_328 g_306 g_307) rfl rfl rfl (by decide +kernel) ⟨Nat.le_of_ble_eq_true rfl, Nat.le_of_ble_eq_true rfl⟩) ⟨pq_blind, (st_recv (hE.2.2.2.2.2.2.2 (2, 79, "day", 3) (by decide)).2 hS18), (pq_pass hP18 hD18 hK hE hS18 hA [] rfl (by decide))⟩ rfl rfl hl20.1 rfl (lv_room (Nat.le_of_ble_eq_true rfl)) dX12_packed_6 ⟨Nat.le_of_ble_eq_true rfl, Nat.le_of_ble_eq_true rfl⟩) hP18 hD18 hS18 hA [] [] rfl rfl (by decide) (by decide) (by decide) (by decide) (fun r21 w21 H21 lo21 e21 hR21 hP21r hD21r hS21 => ?_)
  subst hR21
  subst e21
  have hP21 : va_P D classes [] H21 := hP21r
  have hD21 : va_D A [] := hD21r
  clear hP21r hD21r
  clear hP18 hD18 hS18
  clear H18 lo18
  refine tp_i (y := 3) (by decide) ?_
  refine lv_icmp_ge (pc := 9) (tgt := 33) hx hb dX12_packed_9 (by decide) (fun c22 => ?_) (fun c22 => absurd (by decide) c22)
  refine lv_lload_n (pc := 33) hx hb dX12_packed_33 rfl (lv_at hl20 1 rfl) ?_
  exact W.lret (pc := 34) (v := ((((((0 : Int64) <<< ((6 : Int32).toInt64 &&& 63)) ||| ((r6 : Int32).toInt64) : Int64) <<< ((6 : Int32).toInt64 &&& 63)) ||| ((r12 : Int32).toInt64) : Int64) <<< ((6 : Int32).toInt64 &&& 63)) ||| ((r18 : Int32).toInt64)) hx hb hr (fun t ht hW => ⟨⟨((((((0 : Int64) <<< ((6 : Int32).toInt64 &&& 63)) ||| ((r6 : Int32).toInt64) : Int64) <<< ((6 : Int32).toInt64 &&& 63)) ||| ((r12 : Int32).toInt64) : Int64) <<< ((6 : Int32).toInt64 &&& 63)) ||| ((r18 : Int32).toInt64), (), rfl, trivial, _, rfl, by rw [ht]; exact hP21, hD21⟩, hS21.F ht⟩) hS21.2.2 dX12_packed_34
set_option maxHeartbeats 4000000 in
set_option maxRecDepth 100000 in
/-- X12_packed -/
theorem c_packed3 (l : Launch) (D : va_G) (cy : Nat → ClassId) (kv : KV) (sz : Nat) : Met l yX12_packed (Cond.code yX12_packed cX12_packed 4 (some .long) :: GW) ({ frames := 12, cells := 0, slots := 0, locals := 280 } : Room) (va_Pc [.ref (kv.1 3)] (pcq D cy kv sz [])) (va_Ql (fun r (_ : Unit) => (fun _ => True) r) (fun _ t => bq D (fun w => w = []) (va_A [] sz) t) (va_A [] sz)) 0 0 (va_A [] sz) := by
  refine Met.ofW (cc := cX12_packed) (maxL := 4) (ret := (some .long)) (by decide) rfl ?_
  intro p e s m args below meth c s₁ B hml hv
  obtain ⟨rfl, hsz, hP, hK, hD0, hE⟩ := hv
  have hx := B.exec
  have hb := B.bytes
  have hr := B.returns
  have hG : ∀ w ∈ GW, w.before ([.ref (kv.1 3)] : List Value).toArray s = true := fun w h => atoms_spec (ws := Cond.code yX12_packed cX12_packed 4 (some .long) :: GW) B.pre w (List.mem_cons_of_mem _ h)
  have hown : s.vm.findClass RX12 = some m.cls := findClass_of_methodNamed B.named
  have hlocks := B.notSynchronized
  subst hsz
  have hD := hD0.self (sz := s.heap.size)
  generalize hAe : va_A [] s.heap.size = A at hD hE ⊢
  have hA : ∀ q : Nat, s.heap.size ≤ q → A q := fun q h => by rw [← hAe]; exact Or.inr h
  have hS : va_S A s.heap s.heap [] := va_S.rf
  clear hAe hD0
  have hl0 := lv_entry ([.ref (kv.1 3)]) (n := 4) (Nat.le_of_ble_eq_true rfl)
  rw [lg_entry_eq]
  generalize (lg_sl ([.ref (kv.1 3)]) ++ List.replicate (4 - (lg_sl ([.ref (kv.1 3)])).length) Slot.unset).toArray = ls at hl0 ⊢
  have hl : lv_has ls 4 [(0, .ref (kv.1 3))] := hl0
  clear hl0
  refine lv_lconst (pc := 0) (v := 0) hx hb dX12_packed_0 (by decide) ?_
  refine lv_lstore_n (pc := 1) (lv' := [(1, .long 0), (0, .ref (kv.1 3))]) hx hb dX12_packed_1 rfl hl (by decide) rfl (fun ls1 hl1 => ?_)
  clear hl ls
  refine lv_iconst (pc := 2) (v := 0) hx hb dX12_packed_2 (by decide) ?_
  refine lv_istore_n (pc := 3) (lv' := [(3, .int 0), (1, .long 0), (0, .ref (kv.1 3))]) hx hb dX12_packed_3 rfl hl1 (by decide) rfl (fun ls2 hl2 => ?_)
  clear hl1 ls1
  refine lv_iload_n (pc := 4) hx hb dX12_packed_4 rfl (lv_at hl2 0 rfl) ?_
  refine lv_aload_n (pc := 5) hx hb dX12_packed_5 rfl (lv_at hl2 2 rfl) ?_
  refine cq_i (pc := 6) (wr := []) (k2 := 0) (n2 := 0) (va_runV (As := []) (rest := [.int 0]) ⟨hx, hb, hml, hown, hG⟩ (c_strlen l D cy kv s.heap.size 3 81 ("list") 4 (by decide)) (cwV 0 hG (gi_V g_326 g_327 g_328 g_306 g_307) rfl rfl rfl (by decide +kernel) ⟨Nat.le_of_ble_eq_true rfl, Nat.le_of_ble_eq_true rfl⟩) ⟨pq_blind, (st_recv (hE.2.2.2.2.2.2.2 (3, 81, "list", 4) (by decide)).2 hS), (pq_pass hP hD hK hE hS hA [] rfl (by decide))⟩ rfl rfl hl2.1 rfl (lv_room (Nat.le_of_ble_eq_true rfl)) dX12_packed_6 ⟨Nat.le_of_ble_eq_true rfl, Nat.le_of_ble_eq_true rfl⟩) hP hD hS hA [] [] rfl rfl (by decide) (by decide) (by decide) (by decide) (fun r3 w3 H3 lo3 e3 hR3 hP3r hD3r hS3 => ?_)
  subst hR3
  subst e3
  have hP3 : va_P D classes [] H3 := hP3r
  have hD3 : va_D A [] := hD3r
  clear hP3r hD3r
  clear hP hD hS
  refine tp_i (y := 4) (by decide) ?_
  refine lv_icmp_ge (pc := 9) (tgt := 33) hx hb dX12_packed_9 (by decide) (fun c4 => absurd c4 (by decide)) (fun c4 => ?_)
  refine lv_lload_n (pc := 12) hx hb dX12_packed_12 rfl (lv_at hl2 1 rfl) ?_
  refine lv_bipush (pc := 13) (v := 6) hx hb dX12_packed_13 (by decide) ?_
  refine lv_lshl (pc := 15) (v := (0 : Int64) <<< ((6 : Int32).toInt64 &&& 63)) hx hb dX12_packed_15 rfl ?_
  refine lv_aload_n (pc := 16) hx hb dX12_packed_16 rfl (lv_at hl2 2 rfl) ?_
  refine lv_iload_n (pc := 17) hx hb dX12_packed_17 rfl (lv_at hl2 0 rfl) ?_
  refine cq_i (pc := 18) (wr := []) (k2 := 0) (n2 := 0) (va_runV (As := [.int 0]) (rest := [.long ((0 : Int64) <<< ((6 : Int32).toInt64 &&& 63))]) ⟨hx, hb, hml, hown, hG⟩ (c_charAt l D cy kv H3.size 0 3 81 ("list") 4 (by decide) (by decide) (by decide) (show ¬ ((0 : Int32) < 0 ∨ 4 ≤ (0 : Int32).toNatClampNeg) by decide)) (cwV 1 hG (gi_V g_329 g_330 g_331 g_306 g_324) rfl rfl rfl (by decide +kernel) ⟨Nat.le_of_ble_eq_true rfl, Nat.le_of_ble_eq_true rfl⟩) ⟨pq_blind, (st_recv (hE.2.2.2.2.2.2.2 (3, 81, "list", 4) (by decide)).2 hS3), (pq_pass hP3 hD3 hK hE hS3 hA [] rfl (by decide))⟩ rfl rfl hl2.1 rfl (lv_room (Nat.le_of_ble_eq_true rfl)) dX12_packed_18 ⟨Nat.le_of_ble_eq_true rfl, Nat.le_of_ble_eq_true rfl⟩) hP3 hD3 hS3 hA [] [] rfl rfl (by decide) (by decide) (by decide) (by decide) (fun r5 w5 H5 lo5 e5 hR5 hP5r hD5r hS5 => ?_)
  subst hR5
  have hP5 : va_P D classes [] H5 := hP5r
  have hD5 : va_D A [] := hD5r
  clear hP5r hD5r
  clear hP3 hD3 hS3
  clear H3 lo3
  refine cq_i (pc := 21) (wr := []) (k2 := 0) (n2 := 0) (va_runS (As := [.int r5]) (rest := [.long ((0 : Int64) <<< ((6 : Int32).toInt64 &&& 63))]) ⟨hx, hb, hml, hown, hG⟩ (c_signOf l D cy kv H5.size r5) (va_cwS 1 hG (gi_S g_332 g_333 g_334 g_325) rfl rfl rfl (by decide +kernel) ⟨Nat.le_of_ble_eq_true rfl, Nat.le_of_ble_eq_true rfl⟩) ⟨pq_blind, (pq_pass hP5 hD5 hK hE hS5 hA [] rfl (by decide))⟩ rfl rfl hl2.1 rfl (lv_room (Nat.le_of_ble_eq_true rfl)) dX12_packed_21 ⟨Nat.le_of_ble_eq_true rfl, Nat.le_of_ble_eq_true rfl⟩) hP5 hD5 hS5 hA [] [] rfl rfl (by decide) (by decide) (by decide) (by decide) (fun r6 w6 H6 lo6 e6 hR6 hP6r hD6r hS6 => ?_)
  subst hR6
  have hP6 : va_P D classes [] H6 := hP6r
  have hD6 : va_D A [] := hD6r
  clear hP6r hD6r
  clear hP5 hD5 hS5
  clear H5 lo5
  refine lv_i2l (pc := 24) (v := (r6 : Int32).toInt64) hx hb dX12_packed_24 rfl ?_
  refine lv_lor (pc := 25) hx hb dX12_packed_25 ?_
  refine lv_lstore_n (pc := 26) (lv' := [(1, .long (((0 : Int64) <<< ((6 : Int32).toInt64 &&& 63)) ||| ((r6 : Int32).toInt64))), (3, .int 0), (0, .ref (kv.1 3))]) hx hb dX12_packed_26 rfl hl2 (by decide) rfl (fun ls7 hl7 => ?_)
  clear hl2 ls2
  refine lv_iinc (pc := 27) (v := 1) (lv' := [(3, .int 1), (1, .long (((0 : Int64) <<< ((6 : Int32).toInt64 &&& 63)) ||| ((r6 : Int32).toInt64))), (0, .ref (kv.1 3))]) hx hb dX12_packed_27 hl7 (k := 1) rfl (by decide) (by decide) rfl (fun ls8 hl8 => ?_)
  clear hl7 ls7
  refine lv_goto (pc := 30) (tgt := 4) hx hb dX12_packed_30 (by decide) ?_
  refine lv_iload_n (pc := 4) hx hb dX12_packed_4 rfl (lv_at hl8 0 rfl) ?_
  refine lv_aload_n (pc := 5) hx hb dX12_packed_5 rfl (lv_at hl8 2 rfl) ?_
  refine cq_i (pc := 6) (wr := []) (k2 := 0) (n2 := 0) (va_runV (As := []) (rest := [.int 1]) ⟨hx, hb, hml, hown, hG⟩ (c_strlen l D cy kv H6.size 3 81 ("list") 4 (by decide)) (cwV 0 hG (gi_V g_326 g_327 g_328 g_306 g_307) rfl rfl rfl (by decide +kernel) ⟨Nat.le_of_ble_eq_true rfl, Nat.le_of_ble_eq_true rfl⟩) ⟨pq_blind, (st_recv (hE.2.2.2.2.2.2.2 (3, 81, "list", 4) (by decide)).2 hS6), (pq_pass hP6 hD6 hK hE hS6 hA [] rfl (by decide))⟩ rfl rfl hl8.1 rfl (lv_room (Nat.le_of_ble_eq_true rfl)) dX12_packed_6 ⟨Nat.le_of_ble_eq_true rfl, Nat.le_of_ble_eq_true rfl⟩) hP6 hD6 hS6 hA [] [] rfl rfl (by decide) (by decide) (by decide) (by decide) (fun r9 w9 H9 lo9 e9 hR9 hP9r hD9r hS9 => ?_)
  subst hR9
  subst e9
  have hP9 : va_P D classes [] H9 := hP9r
  have hD9 : va_D A [] := hD9r
  clear hP9r hD9r
  clear hP6 hD6 hS6
  clear H6 lo6
  refine tp_i (y := 4) (by decide) ?_
  refine lv_icmp_ge (pc := 9) (tgt := 33) hx hb dX12_packed_9 (by decide) (fun c10 => absurd c10 (by decide)) (fun c10 => ?_)
  refine lv_lload_n (pc := 12) hx hb dX12_packed_12 rfl (lv_at hl8 1 rfl) ?_
  refine lv_bipush (pc := 13) (v := 6) hx hb dX12_packed_13 (by decide) ?_
  refine lv_lshl (pc := 15) (v := (((0 : Int64) <<< ((6 : Int32).toInt64 &&& 63)) ||| ((r6 : Int32).toInt64) : Int64) <<< ((6 : Int32).toInt64 &&& 63)) hx hb dX12_packed_15 rfl ?_
  refine lv_aload_n (pc := 16) hx hb dX12_packed_16 rfl (lv_at hl8 2 rfl) ?_
  refine lv_iload_n (pc := 17) hx hb dX12_packed_17 rfl (lv_at hl8 0 rfl) ?_
  refine cq_i (pc := 18) (wr := []) (k2 := 0) (n2 := 0) (va_runV (As := [.int 1]) (rest := [.long ((((0 : Int64) <<< ((6 : Int32).toInt64 &&& 63)) ||| ((r6 : Int32).toInt64) : Int64) <<< ((6 : Int32).toInt64 &&& 63))]) ⟨hx, hb, hml, hown, hG⟩ (c_charAt l D cy kv H9.size 1 3 81 ("list") 4 (by decide) (by decide) (by decide) (show ¬ ((1 : Int32) < 0 ∨ 4 ≤ (1 : Int32).toNatClampNeg) by decide)) (cwV 1 hG (gi_V g_329 g_330 g_331 g_306 g_324) rfl rfl rfl (by decide +kernel) ⟨Nat.le_of_ble_eq_true rfl, Nat.le_of_ble_eq_true rfl⟩) ⟨pq_blind, (st_recv (hE.2.2.2.2.2.2.2 (3, 81, "list", 4) (by decide)).2 hS9), (pq_pass hP9 hD9 hK hE hS9 hA [] rfl (by decide))⟩ rfl rfl hl8.1 rfl (lv_room (Nat.le_of_ble_eq_true rfl)) dX12_packed_18 ⟨Nat.le_of_ble_eq_true rfl, Nat.le_of_ble_eq_true rfl⟩) hP9 hD9 hS9 hA [] [] rfl rfl (by decide) (by decide) (by decide) (by decide) (fun r11 w11 H11 lo11 e11 hR11 hP11r hD11r hS11 => ?_)
  subst hR11
  have hP11 : va_P D classes [] H11 := hP11r
  have hD11 : va_D A [] := hD11r
  clear hP11r hD11r
  clear hP9 hD9 hS9
  clear H9 lo9
  refine cq_i (pc := 21) (wr := []) (k2 := 0) (n2 := 0) (va_runS (As := [.int r11]) (rest := [.long ((((0 : Int64) <<< ((6 : Int32).toInt64 &&& 63)) ||| ((r6 : Int32).toInt64) : Int64) <<< ((6 : Int32).toInt64 &&& 63))]) ⟨hx, hb, hml, hown, hG⟩ (c_signOf l D cy kv H11.size r11) (va_cwS 1 hG (gi_S g_332 g_333 g_334 g_325) rfl rfl rfl (by decide +kernel) ⟨Nat.le_of_ble_eq_true rfl, Nat.le_of_ble_eq_true rfl⟩) ⟨pq_blind, (pq_pass hP11 hD11 hK hE hS11 hA [] rfl (by decide))⟩ rfl rfl hl8.1 rfl (lv_room (Nat.le_of_ble_eq_true rfl)) dX12_packed_21 ⟨Nat.le_of_ble_eq_true rfl, Nat.le_of_ble_eq_true rfl⟩) hP11 hD11 hS11 hA [] [] rfl rfl (by decide) (by decide) (by decide) (by decide) (fun r12 w12 H12 lo12 e12 hR12 hP12r hD12r hS12 => ?_)
  subst hR12
  have hP12 : va_P D classes [] H12 := hP12r
  have hD12 : va_D A [] := hD12r
  clear hP12r hD12r
  clear hP11 hD11 hS11
  clear H11 lo11
  refine lv_i2l (pc := 24) (v := (r12 : Int32).toInt64) hx hb dX12_packed_24 rfl ?_
  refine lv_lor (pc := 25) hx hb dX12_packed_25 ?_
  refine lv_lstore_n (pc := 26) (lv' := [(1, .long (((((0 : Int64) <<< ((6 : Int32).toInt64 &&& 63)) ||| ((r6 : Int32).toInt64) : Int64) <<< ((6 : Int32).toInt64 &&& 63)) ||| ((r12 : Int32).toInt64))), (3, .int 1), (0, .ref (kv.1 3))]) hx hb dX12_packed_26 rfl hl8 (by decide) rfl (fun ls13 hl13 => ?_)
  clear hl8 ls8
  refine lv_iinc (pc := 27) (v := 2) (lv' := [(3, .int 2), (1, .long (((((0 : Int64) <<< ((6 : Int32).toInt64 &&& 63)) ||| ((r6 : Int32).toInt64) : Int64) <<< ((6 : Int32).toInt64 &&& 63)) ||| ((r12 : Int32).toInt64))), (0, .ref (kv.1 3))]) hx hb dX12_packed_27 hl13 (k := 1) rfl (by decide) (by decide) rfl (fun ls14 hl14 => ?_)
  clear hl13 ls13
  refine lv_goto (pc := 30) (tgt := 4) hx hb dX12_packed_30 (by decide) ?_
  refine lv_iload_n (pc := 4) hx hb dX12_packed_4 rfl (lv_at hl14 0 rfl) ?_
  refine lv_aload_n (pc := 5) hx hb dX12_packed_5 rfl (lv_at hl14 2 rfl) ?_
  refine cq_i (pc := 6) (wr := []) (k2 := 0) (n2 := 0) (va_runV (As := []) (rest := [.int 2]) ⟨hx, hb, hml, hown, hG⟩ (c_strlen l D cy kv H12.size 3 81 ("list") 4 (by decide)) (cwV 0 hG (gi_V g_326 g_327 g_328 g_306 g_307) rfl rfl rfl (by decide +kernel) ⟨Nat.le_of_ble_eq_true rfl, Nat.le_of_ble_eq_true rfl⟩) ⟨pq_blind, (st_recv (hE.2.2.2.2.2.2.2 (3, 81, "list", 4) (by decide)).2 hS12), (pq_pass hP12 hD12 hK hE hS12 hA [] rfl (by decide))⟩ rfl rfl hl14.1 rfl (lv_room (Nat.le_of_ble_eq_true rfl)) dX12_packed_6 ⟨Nat.le_of_ble_eq_true rfl, Nat.le_of_ble_eq_true rfl⟩) hP12 hD12 hS12 hA [] [] rfl rfl (by decide) (by decide) (by decide) (by decide) (fun r15 w15 H15 lo15 e15 hR15 hP15r hD15r hS15 => ?_)
  subst hR15
  subst e15
  have hP15 : va_P D classes [] H15 := hP15r
  have hD15 : va_D A [] := hD15r
  clear hP15r hD15r
  clear hP12 hD12 hS12
  clear H12 lo12
  refine tp_i (y := 4) (by decide) ?_
  refine lv_icmp_ge (pc := 9) (tgt := 33) hx hb dX12_packed_9 (by decide) (fun c16 => absurd c16 (by decide)) (fun c16 => ?_)
  refine lv_lload_n (pc := 12) hx hb dX12_packed_12 rfl (lv_at hl14 1 rfl) ?_
  refine lv_bipush (pc := 13) (v := 6) hx hb dX12_packed_13 (by decide) ?_
  refine lv_lshl (pc := 15) (v := (((((0 : Int64) <<< ((6 : Int32).toInt64 &&& 63)) ||| ((r6 : Int32).toInt64) : Int64) <<< ((6 : Int32).toInt64 &&& 63)) ||| ((r12 : Int32).toInt64) : Int64) <<< ((6 : Int32).toInt64 &&& 63)) hx hb dX12_packed_15 rfl ?_
  refine lv_aload_n (pc := 16) hx hb dX12_packed_16 rfl (lv_at hl14 2 rfl) ?_
  refine lv_iload_n (pc := 17) hx hb dX12_packed_17 rfl (lv_at hl14 0 rfl) ?_
  refine cq_i (pc := 18) (wr := []) (k2 := 0) (n2 := 0) (va_runV (As := [.int 2]) (rest := [.long ((((((0 : Int64) <<< ((6 : Int32).toInt64 &&& 63)) ||| ((r6 : Int32).toInt64) : Int64) <<< ((6 : Int32).toInt64 &&& 63)) ||| ((r12 : Int32).toInt64) : Int64) <<< ((6 : Int32).toInt64 &&& 63))]) ⟨hx, hb, hml, hown, hG⟩ (c_charAt l D cy kv H15.size 2 3 81 ("list") 4 (by decide) (by decide) (by decide) (show ¬ ((2 : Int32) < 0 ∨ 4 ≤ (2 : Int32).toNatClampNeg) by decide)) (cwV 1 hG (gi_V g_329 g_330 g_331 g_306 g_324) rfl rfl rfl (by decide +kernel) ⟨Nat.le_of_ble_eq_true rfl, Nat.le_of_ble_eq_true rfl⟩) ⟨pq_blind, (st_recv (hE.2.2.2.2.2.2.2 (3, 81, "list", 4) (by decide)).2 hS15), (pq_pass hP15 hD15 hK hE hS15 hA [] rfl (by decide))⟩ rfl rfl hl14.1 rfl (lv_room (Nat.le_of_ble_eq_true rfl)) dX12_packed_18 ⟨Nat.le_of_ble_eq_true rfl, Nat.le_of_ble_eq_true rfl⟩) hP15 hD15 hS15 hA [] [] rfl rfl (by decide) (by decide) (by decide) (by decide) (fun r17 w17 H17 lo17 e17 hR17 hP17r hD17r hS17 => ?_)
  subst hR17
  have hP17 : va_P D classes [] H17 := hP17r
  have hD17 : va_D A [] := hD17r
  clear hP17r hD17r
  clear hP15 hD15 hS15
  clear H15 lo15
  refine cq_i (pc := 21) (wr := []) (k2 := 0) (n2 := 0) (va_runS (As := [.int r17]) (rest := [.long ((((((0 : Int64) <<< ((6 : Int32).toInt64 &&& 63)) ||| ((r6 : Int32).toInt64) : Int64) <<< ((6 : Int32).toInt64 &&& 63)) ||| ((r12 : Int32).toInt64) : Int64) <<< ((6 : Int32).toInt64 &&& 63))]) ⟨hx, hb, hml, hown, hG⟩ (c_signOf l D cy kv H17.size r17) (va_cwS 1 hG (gi_S g_332 g_333 g_334 g_325) rfl rfl rfl (by decide +kernel) ⟨Nat.le_of_ble_eq_true rfl, Nat.le_of_ble_eq_true rfl⟩) ⟨pq_blind, (pq_pass hP17 hD17 hK hE hS17 hA [] rfl (by decide))⟩ rfl rfl hl14.1 rfl (lv_room (Nat.le_of_ble_eq_true rfl)) dX12_packed_21 ⟨Nat.le_of_ble_eq_true rfl, Nat.le_of_ble_eq_true rfl⟩) hP17 hD17 hS17 hA [] [] rfl rfl (by decide) (by decide) (by decide) (by decide) (fun r18 w18 H18 lo18 e18 hR18 hP18r hD18r hS18 => ?_)
  subst hR18
  have hP18 : va_P D classes [] H18 := hP18r
  have hD18 : va_D A [] := hD18r
  clear hP18r hD18r
  clear hP17 hD17 hS17
  clear H17 lo17
  refine lv_i2l (pc := 24) (v := (r18 : Int32).toInt64) hx hb dX12_packed_24 rfl ?_
  refine lv_lor (pc := 25) hx hb dX12_packed_25 ?_
  refine lv_lstore_n (pc := 26) (lv' := [(1, .long (((((((0 : Int64) <<< ((6 : Int32).toInt64 &&& 63)) ||| ((r6 : Int32).toInt64) : Int64) <<< ((6 : Int32).toInt64 &&& 63)) ||| ((r12 : Int32).toInt64) : Int64) <<< ((6 : Int32).toInt64 &&& 63)) ||| ((r18 : Int32).toInt64))), (3, .int 2), (0, .ref (kv.1 3))]) hx hb dX12_packed_26 rfl hl14 (by decide) rfl (fun ls19 hl19 => ?_)
  clear hl14 ls14
  refine lv_iinc (pc := 27) (v := 3) (lv' := [(3, .int 3), (1, .long (((((((0 : Int64) <<< ((6 : Int32).toInt64 &&& 63)) ||| ((r6 : Int32).toInt64) : Int64) <<< ((6 : Int32).toInt64 &&& 63)) ||| ((r12 : Int32).toInt64) : Int64) <<< ((6 : Int32).toInt64 &&& 63)) ||| ((r18 : Int32).toInt64))), (0, .ref (kv.1 3))]) hx hb dX12_packed_27 hl19 (k := 1) rfl (by decide) (by decide) rfl (fun ls20 hl20 => ?_)
  clear hl19 ls19
  refine lv_goto (pc := 30) (tgt := 4) hx hb dX12_packed_30 (by decide) ?_
  refine lv_iload_n (pc := 4) hx hb dX12_packed_4 rfl (lv_at hl20 0 rfl) ?_
  refine lv_aload_n (pc := 5) hx hb dX12_packed_5 rfl (lv_at hl20 2 rfl) ?_
  refine cq_i (pc := 6) (wr := []) (k2 := 0) (n2 := 0) (va_runV (As := []) (rest := [.int 3]) ⟨hx, hb, hml, hown, hG⟩ (c_strlen l D cy kv H18.size 3 81 ("list") 4 (by decide)) (cwV 0 hG (gi_V g_326 g_327 g_328 g_306 g_307) rfl rfl rfl (by decide +kernel) ⟨Nat.le_of_ble_eq_true rfl, Nat.le_of_ble_eq_true rfl⟩) ⟨pq_blind, (st_recv (hE.2.2.2.2.2.2.2 (3, 81, "list", 4) (by decide)).2 hS18), (pq_pass hP18 hD18 hK hE hS18 hA [] rfl (by decide))⟩ rfl rfl hl20.1 rfl (lv_room (Nat.le_of_ble_eq_true rfl)) dX12_packed_6 ⟨Nat.le_of_ble_eq_true rfl, Nat.le_of_ble_eq_true rfl⟩) hP18 hD18 hS18 hA [] [] rfl rfl (by decide) (by decide) (by decide) (by decide) (fun r21 w21 H21 lo21 e21 hR21 hP21r hD21r hS21 => ?_)
  subst hR21
  subst e21
  have hP21 : va_P D classes [] H21 := hP21r
  have hD21 : va_D A [] := hD21r
  clear hP21r hD21r
  clear hP18 hD18 hS18
  clear H18 lo18
  refine tp_i (y := 4) (by decide) ?_
  refine lv_icmp_ge (pc := 9) (tgt := 33) hx hb dX12_packed_9 (by decide) (fun c22 => absurd c22 (by decide)) (fun c22 => ?_)
  refine lv_lload_n (pc := 12) hx hb dX12_packed_12 rfl (lv_at hl20 1 rfl) ?_
  refine lv_bipush (pc := 13) (v := 6) hx hb dX12_packed_13 (by decide) ?_
  refine lv_lshl (pc := 15) (v := (((((((0 : Int64) <<< ((6 : Int32).toInt64 &&& 63)) ||| ((r6 : Int32).toInt64) : Int64) <<< ((6 : Int32).toInt64 &&& 63)) ||| ((r12 : Int32).toInt64) : Int64) <<< ((6 : Int32).toInt64 &&& 63)) ||| ((r18 : Int32).toInt64) : Int64) <<< ((6 : Int32).toInt64 &&& 63)) hx hb dX12_packed_15 rfl ?_
  refine lv_aload_n (pc := 16) hx hb dX12_packed_16 rfl (lv_at hl20 2 rfl) ?_
  refine lv_iload_n (pc := 17) hx hb dX12_packed_17 rfl (lv_at hl20 0 rfl) ?_
  refine cq_i (pc := 18) (wr := []) (k2 := 0) (n2 := 0) (va_runV (As := [.int 3]) (rest := [.long ((((((((0 : Int64) <<< ((6 : Int32).toInt64 &&& 63)) ||| ((r6 : Int32).toInt64) : Int64) <<< ((6 : Int32).toInt64 &&& 63)) ||| ((r12 : Int32).toInt64) : Int64) <<< ((6 : Int32).toInt64 &&& 63)) ||| ((r18 : Int32).toInt64) : Int64) <<< ((6 : Int32).toInt64 &&& 63))]) ⟨hx, hb, hml, hown, hG⟩ (c_charAt l D cy kv H21.size 3 3 81 ("list") 4 (by decide) (by decide) (by decide) (show ¬ ((3 : Int32) < 0 ∨ 4 ≤ (3 : Int32).toNatClampNeg) by decide)) (cwV 1 hG (gi_V g_329 g_330 g_331 g_306 g_324) rfl rfl rfl (by decide +kernel) ⟨Nat.le_of_ble_eq_true rfl, Nat.le_of_ble_eq_true rfl⟩) ⟨pq_blind, (st_recv (hE.2.2.2.2.2.2.2 (3, 81, "list", 4) (by decide)).2 hS21), (pq_pass hP21 hD21 hK hE hS21 hA [] rfl (by decide))⟩ rfl rfl hl20.1 rfl (lv_room (Nat.le_of_ble_eq_true rfl)) dX12_packed_18 ⟨Nat.le_of_ble_eq_true rfl, Nat.le_of_ble_eq_true rfl⟩) hP21 hD21 hS21 hA [] [] rfl rfl (by decide) (by decide) (by decide) (by decide) (fun r23 w23 H23 lo23 e23 hR23 hP23r hD23r hS23 => ?_)
  subst hR23
  have hP23 : va_P D classes [] H23 := hP23r
  have hD23 : va_D A [] := hD23r
  clear hP23r hD23r
  clear hP21 hD21 hS21
  clear H21 lo21
  refine cq_i (pc := 21) (wr := []) (k2 := 0) (n2 := 0) (va_runS (As := [.int r23]) (rest := [.long ((((((((0 : Int64) <<< ((6 : Int32).toInt64 &&& 63)) ||| ((r6 : Int32).toInt64) : Int64) <<< ((6 : Int32).toInt64 &&& 63)) ||| ((r12 : Int32).toInt64) : Int64) <<< ((6 : Int32).toInt64 &&& 63)) ||| ((r18 : Int32).toInt64) : Int64) <<< ((6 : Int32).toInt64 &&& 63))]) ⟨hx, hb, hml, hown, hG⟩ (c_signOf l D cy kv H23.size r23) (va_cwS 1 hG (gi_S g_332 g_333 g_334 g_325) rfl rfl rfl (by decide +kernel) ⟨Nat.le_of_ble_eq_true rfl, Nat.le_of_ble_eq_true rfl⟩) ⟨pq_blind, (pq_pass hP23 hD23 hK hE hS23 hA [] rfl (by decide))⟩ rfl rfl hl20.1 rfl (lv_room (Nat.le_of_ble_eq_true rfl)) dX12_packed_21 ⟨Nat.le_of_ble_eq_true rfl, Nat.le_of_ble_eq_true rfl⟩) hP23 hD23 hS23 hA [] [] rfl rfl (by decide) (by decide) (by decide) (by decide) (fun r24 w24 H24 lo24 e24 hR24 hP24r hD24r hS24 => ?_)
  subst hR24
  have hP24 : va_P D classes [] H24 := hP24r
  have hD24 : va_D A [] := hD24r
  clear hP24r hD24r
  clear hP23 hD23 hS23
  clear H23 lo23
  refine lv_i2l (pc := 24) (v := (r24 : Int32).toInt64) hx hb dX12_packed_24 rfl ?_
  refine lv_lor (pc := 25) hx hb dX12_packed_25 ?_
  refine lv_lstore_n (pc := 26) (lv' := [(1, .long (((((((((0 : Int64) <<< ((6 : Int32).toInt64 &&& 63)) ||| ((r6 : Int32).toInt64) : Int64) <<< ((6 : Int32).toInt64 &&& 63)) ||| ((r12 : Int32).toInt64) : Int64) <<< ((6 : Int32).toInt64 &&& 63)) ||| ((r18 : Int32).toInt64) : Int64) <<< ((6 : Int32).toInt64 &&& 63)) ||| ((r24 : Int32).toInt64))), (3, .int 3), (0, .ref (kv.1 3))]) hx hb dX12_packed_26 rfl hl20 (by decide) rfl (fun ls25 hl25 => ?_)
  clear hl20 ls20
  refine lv_iinc (pc := 27) (v := 4) (lv' := [(3, .int 4), (1, .long (((((((((0 : Int64) <<< ((6 : Int32).toInt64 &&& 63)) ||| ((r6 : Int32).toInt64) : Int64) <<< ((6 : Int32).toInt64 &&& 63)) ||| ((r12 : Int32).toInt64) : Int64) <<< ((6 : Int32).toInt64 &&& 63)) ||| ((r18 : Int32).toInt64) : Int64) <<< ((6 : Int32).toInt64 &&& 63)) ||| ((r24 : Int32).toInt64))), (0, .ref (kv.1 3))]) hx hb dX12_packed_27 hl25 (k := 1) rfl (by decide) (by decide) rfl (fun ls26 hl26 => ?_)
  clear hl25 ls25
  refine lv_goto (pc := 30) (tgt := 4) hx hb dX12_packed_30 (by decide) ?_
  refine lv_iload_n (pc := 4) hx hb dX12_packed_4 rfl (lv_at hl26 0 rfl) ?_
  refine lv_aload_n (pc := 5) hx hb dX12_packed_5 rfl (lv_at hl26 2 rfl) ?_
  refine cq_i (pc := 6) (wr := []) (k2 := 0) (n2 := 0) (va_runV (As := []) (rest := [.int 4]) ⟨hx, hb, hml, hown, hG⟩ (c_strlen l D cy kv H24.size 3 81 ("list") 4 (by decide)) (cwV 0 hG (gi_V g_326 g_327 g_328 g_306 g_307) rfl rfl rfl (by decide +kernel) ⟨Nat.le_of_ble_eq_true rfl, Nat.le_of_ble_eq_true rfl⟩) ⟨pq_blind, (st_recv (hE.2.2.2.2.2.2.2 (3, 81, "list", 4) (by decide)).2 hS24), (pq_pass hP24 hD24 hK hE hS24 hA [] rfl (by decide))⟩ rfl rfl hl26.1 rfl (lv_room (Nat.le_of_ble_eq_true rfl)) dX12_packed_6 ⟨Nat.le_of_ble_eq_true rfl, Nat.le_of_ble_eq_true rfl⟩) hP24 hD24 hS24 hA [] [] rfl rfl (by decide) (by decide) (by decide) (by decide) (fun r27 w27 H27 lo27 e27 hR27 hP27r hD27r hS27 => ?_)
  subst hR27
  subst e27
  have hP27 : va_P D classes [] H27 := hP27r
  have hD27 : va_D A [] := hD27r
  clear hP27r hD27r
  clear hP24 hD24 hS24
  clear H24 lo24
  refine tp_i (y := 4) (by decide) ?_
  refine lv_icmp_ge (pc := 9) (tgt := 33) hx hb dX12_packed_9 (by decide) (fun c28 => ?_) (fun c28 => absurd (by decide) c28)
  refine lv_lload_n (pc := 33) hx hb dX12_packed_33 rfl (lv_at hl26 1 rfl) ?_
  exact W.lret (pc := 34) (v := ((((((((0 : Int64) <<< ((6 : Int32).toInt64 &&& 63)) ||| ((r6 : Int32).toInt64) : Int64) <<< ((6 : Int32).toInt64 &&& 63)) ||| ((r12 : Int32).toInt64) : Int64) <<< ((6 : Int32).toInt64 &&& 63)) ||| ((r18 : Int32).toInt64) : Int64) <<< ((6 : Int32).toInt64 &&& 63)) ||| ((r24 : Int32).toInt64)) hx hb hr (fun t ht hW => ⟨⟨((((((((0 : Int64) <<< ((6 : Int32).toInt64 &&& 63)) ||| ((r6 : Int32).toInt64) : Int64) <<< ((6 : Int32).toInt64 &&& 63)) ||| ((r12 : Int32).toInt64) : Int64) <<< ((6 : Int32).toInt64 &&& 63)) ||| ((r18 : Int32).toInt64) : Int64) <<< ((6 : Int32).toInt64 &&& 63)) ||| ((r24 : Int32).toInt64), (), rfl, trivial, _, rfl, by rw [ht]; exact hP27, hD27⟩, hS27.F ht⟩) hS27.2.2 dX12_packed_34
set_option maxHeartbeats 4000000 in
set_option maxRecDepth 100000 in
/-- X12_packed -/
theorem c_packed4 (l : Launch) (D : va_G) (cy : Nat → ClassId) (kv : KV) (sz : Nat) : Met l yX12_packed (Cond.code yX12_packed cX12_packed 4 (some .long) :: GW) ({ frames := 12, cells := 0, slots := 0, locals := 280 } : Room) (va_Pc [.ref (kv.1 4)] (pcq D cy kv sz [])) (va_Ql (fun r (_ : Unit) => (fun _ => True) r) (fun _ t => bq D (fun w => w = []) (va_A [] sz) t) (va_A [] sz)) 0 0 (va_A [] sz) := by
  refine Met.ofW (cc := cX12_packed) (maxL := 4) (ret := (some .long)) (by decide) rfl ?_
  intro p e s m args below meth c s₁ B hml hv
  obtain ⟨rfl, hsz, hP, hK, hD0, hE⟩ := hv
  have hx := B.exec
  have hb := B.bytes
  have hr := B.returns
  have hG : ∀ w ∈ GW, w.before ([.ref (kv.1 4)] : List Value).toArray s = true := fun w h => atoms_spec (ws := Cond.code yX12_packed cX12_packed 4 (some .long) :: GW) B.pre w (List.mem_cons_of_mem _ h)
  have hown : s.vm.findClass RX12 = some m.cls := findClass_of_methodNamed B.named
  have hlocks := B.notSynchronized
  subst hsz
  have hD := hD0.self (sz := s.heap.size)
  generalize hAe : va_A [] s.heap.size = A at hD hE ⊢
  have hA : ∀ q : Nat, s.heap.size ≤ q → A q := fun q h => by rw [← hAe]; exact Or.inr h
  have hS : va_S A s.heap s.heap [] := va_S.rf
  clear hAe hD0
  have hl0 := lv_entry ([.ref (kv.1 4)]) (n := 4) (Nat.le_of_ble_eq_true rfl)
  rw [lg_entry_eq]
  generalize (lg_sl ([.ref (kv.1 4)]) ++ List.replicate (4 - (lg_sl ([.ref (kv.1 4)])).length) Slot.unset).toArray = ls at hl0 ⊢
  have hl : lv_has ls 4 [(0, .ref (kv.1 4))] := hl0
  clear hl0
  refine lv_lconst (pc := 0) (v := 0) hx hb dX12_packed_0 (by decide) ?_
  refine lv_lstore_n (pc := 1) (lv' := [(1, .long 0), (0, .ref (kv.1 4))]) hx hb dX12_packed_1 rfl hl (by decide) rfl (fun ls1 hl1 => ?_)
  clear hl ls
  refine lv_iconst (pc := 2) (v := 0) hx hb dX12_packed_2 (by decide) ?_
  refine lv_istore_n (pc := 3) (lv' := [(3, .int 0), (1, .long 0), (0, .ref (kv.1 4))]) hx hb dX12_packed_3 rfl hl1 (by decide) rfl (fun ls2 hl2 => ?_)
  clear hl1 ls1
  refine lv_iload_n (pc := 4) hx hb dX12_packed_4 rfl (lv_at hl2 0 rfl) ?_
  refine lv_aload_n (pc := 5) hx hb dX12_packed_5 rfl (lv_at hl2 2 rfl) ?_
  refine cq_i (pc := 6) (wr := []) (k2 := 0) (n2 := 0) (va_runV (As := []) (rest := [.int 0]) ⟨hx, hb, hml, hown, hG⟩ (c_strlen l D cy kv s.heap.size 4 86 ("short") 5 (by decide)) (cwV 0 hG (gi_V g_326 g_327 g_328 g_306 g_307) rfl rfl rfl (by decide +kernel) ⟨Nat.le_of_ble_eq_true rfl, Nat.le_of_ble_eq_true rfl⟩) ⟨pq_blind, (st_recv (hE.2.2.2.2.2.2.2 (4, 86, "short", 5) (by decide)).2 hS), (pq_pass hP hD hK hE hS hA [] rfl (by decide))⟩ rfl rfl hl2.1 rfl (lv_room (Nat.le_of_ble_eq_true rfl)) dX12_packed_6 ⟨Nat.le_of_ble_eq_true rfl, Nat.le_of_ble_eq_true rfl⟩) hP hD hS hA [] [] rfl rfl (by decide) (by decide) (by decide) (by decide) (fun r3 w3 H3 lo3 e3 hR3 hP3r hD3r hS3 => ?_)
  subst hR3
  subst e3
  have hP3 : va_P D classes [] H3 := hP3r
  have hD3 : va_D A [] := hD3r
  clear hP3r hD3r
  clear hP hD hS
  refine tp_i (y := 5) (by decide) ?_
  refine lv_icmp_ge (pc := 9) (tgt := 33) hx hb dX12_packed_9 (by decide) (fun c4 => absurd c4 (by decide)) (fun c4 => ?_)
  refine lv_lload_n (pc := 12) hx hb dX12_packed_12 rfl (lv_at hl2 1 rfl) ?_
  refine lv_bipush (pc := 13) (v := 6) hx hb dX12_packed_13 (by decide) ?_
  refine lv_lshl (pc := 15) (v := (0 : Int64) <<< ((6 : Int32).toInt64 &&& 63)) hx hb dX12_packed_15 rfl ?_
  refine lv_aload_n (pc := 16) hx hb dX12_packed_16 rfl (lv_at hl2 2 rfl) ?_
  refine lv_iload_n (pc := 17) hx hb dX12_packed_17 rfl (lv_at hl2 0 rfl) ?_
  refine cq_i (pc := 18) (wr := []) (k2 := 0) (n2 := 0) (va_runV (As := [.int 0]) (rest := [.long ((0 : Int64) <<< ((6 : Int32).toInt64 &&& 63))]) ⟨hx, hb, hml, hown, hG⟩ (c_charAt l D cy kv H3.size 0 4 86 ("short") 5 (by decide) (by decide) (by decide) (show ¬ ((0 : Int32) < 0 ∨ 5 ≤ (0 : Int32).toNatClampNeg) by decide)) (cwV 1 hG (gi_V g_329 g_330 g_331 g_306 g_324) rfl rfl rfl (by decide +kernel) ⟨Nat.le_of_ble_eq_true rfl, Nat.le_of_ble_eq_true rfl⟩) ⟨pq_blind, (st_recv (hE.2.2.2.2.2.2.2 (4, 86, "short", 5) (by decide)).2 hS3), (pq_pass hP3 hD3 hK hE hS3 hA [] rfl (by decide))⟩ rfl rfl hl2.1 rfl (lv_room (Nat.le_of_ble_eq_true rfl)) dX12_packed_18 ⟨Nat.le_of_ble_eq_true rfl, Nat.le_of_ble_eq_true rfl⟩) hP3 hD3 hS3 hA [] [] rfl rfl (by decide) (by decide) (by decide) (by decide) (fun r5 w5 H5 lo5 e5 hR5 hP5r hD5r hS5 => ?_)
  subst hR5
  have hP5 : va_P D classes [] H5 := hP5r
  have hD5 : va_D A [] := hD5r
  clear hP5r hD5r
  clear hP3 hD3 hS3
  clear H3 lo3
  refine cq_i (pc := 21) (wr := []) (k2 := 0) (n2 := 0) (va_runS (As := [.int r5]) (rest := [.long ((0 : Int64) <<< ((6 : Int32).toInt64 &&& 63))]) ⟨hx, hb, hml, hown, hG⟩ (c_signOf l D cy kv H5.size r5) (va_cwS 1 hG (gi_S g_332 g_333 g_334 g_325) rfl rfl rfl (by decide +kernel) ⟨Nat.le_of_ble_eq_true rfl, Nat.le_of_ble_eq_true rfl⟩) ⟨pq_blind, (pq_pass hP5 hD5 hK hE hS5 hA [] rfl (by decide))⟩ rfl rfl hl2.1 rfl (lv_room (Nat.le_of_ble_eq_true rfl)) dX12_packed_21 ⟨Nat.le_of_ble_eq_true rfl, Nat.le_of_ble_eq_true rfl⟩) hP5 hD5 hS5 hA [] [] rfl rfl (by decide) (by decide) (by decide) (by decide) (fun r6 w6 H6 lo6 e6 hR6 hP6r hD6r hS6 => ?_)
  subst hR6
  have hP6 : va_P D classes [] H6 := hP6r
  have hD6 : va_D A [] := hD6r
  clear hP6r hD6r
  clear hP5 hD5 hS5
  clear H5 lo5
  refine lv_i2l (pc := 24) (v := (r6 : Int32).toInt64) hx hb dX12_packed_24 rfl ?_
  refine lv_lor (pc := 25) hx hb dX12_packed_25 ?_
  refine lv_lstore_n (pc := 26) (lv' := [(1, .long (((0 : Int64) <<< ((6 : Int32).toInt64 &&& 63)) ||| ((r6 : Int32).toInt64))), (3, .int 0), (0, .ref (kv.1 4))]) hx hb dX12_packed_26 rfl hl2 (by decide) rfl (fun ls7 hl7 => ?_)
  clear hl2 ls2
  refine lv_iinc (pc := 27) (v := 1) (lv' := [(3, .int 1), (1, .long (((0 : Int64) <<< ((6 : Int32).toInt64 &&& 63)) ||| ((r6 : Int32).toInt64))), (0, .ref (kv.1 4))]) hx hb dX12_packed_27 hl7 (k := 1) rfl (by decide) (by decide) rfl (fun ls8 hl8 => ?_)
  clear hl7 ls7
  refine lv_goto (pc := 30) (tgt := 4) hx hb dX12_packed_30 (by decide) ?_
  refine lv_iload_n (pc := 4) hx hb dX12_packed_4 rfl (lv_at hl8 0 rfl) ?_
  refine lv_aload_n (pc := 5) hx hb dX12_packed_5 rfl (lv_at hl8 2 rfl) ?_
  refine cq_i (pc := 6) (wr := []) (k2 := 0) (n2 := 0) (va_runV (As := []) (rest := [.int 1]) ⟨hx, hb, hml, hown, hG⟩ (c_strlen l D cy kv H6.size 4 86 ("short") 5 (by decide)) (cwV 0 hG (gi_V g_326 g_327 g_328 g_306 g_307) rfl rfl rfl (by decide +kernel) ⟨Nat.le_of_ble_eq_true rfl, Nat.le_of_ble_eq_true rfl⟩) ⟨pq_blind, (st_recv (hE.2.2.2.2.2.2.2 (4, 86, "short", 5) (by decide)).2 hS6), (pq_pass hP6 hD6 hK hE hS6 hA [] rfl (by decide))⟩ rfl rfl hl8.1 rfl (lv_room (Nat.le_of_ble_eq_true rfl)) dX12_packed_6 ⟨Nat.le_of_ble_eq_true rfl, Nat.le_of_ble_eq_true rfl⟩) hP6 hD6 hS6 hA [] [] rfl rfl (by decide) (by decide) (by decide) (by decide) (fun r9 w9 H9 lo9 e9 hR9 hP9r hD9r hS9 => ?_)
  subst hR9
  subst e9
  have hP9 : va_P D classes [] H9 := hP9r
  have hD9 : va_D A [] := hD9r
  clear hP9r hD9r
  clear hP6 hD6 hS6
  clear H6 lo6
  refine tp_i (y := 5) (by decide) ?_
  refine lv_icmp_ge (pc := 9) (tgt := 33) hx hb dX12_packed_9 (by decide) (fun c10 => absurd c10 (by decide)) (fun c10 => ?_)
  refine lv_lload_n (pc := 12) hx hb dX12_packed_12 rfl (lv_at hl8 1 rfl) ?_
  refine lv_bipush (pc := 13) (v := 6) hx hb dX12_packed_13 (by decide) ?_
  refine lv_lshl (pc := 15) (v := (((0 : Int64) <<< ((6 : Int32).toInt64 &&& 63)) ||| ((r6 : Int32).toInt64) : Int64) <<< ((6 : Int32).toInt64 &&& 63)) hx hb dX12_packed_15 rfl ?_
  refine lv_aload_n (pc := 16) hx hb dX12_packed_16 rfl (lv_at hl8 2 rfl) ?_
  refine lv_iload_n (pc := 17) hx hb dX12_packed_17 rfl (lv_at hl8 0 rfl) ?_
  refine cq_i (pc := 18) (wr := []) (k2 := 0) (n2 := 0) (va_runV (As := [.int 1]) (rest := [.long ((((0 : Int64) <<< ((6 : Int32).toInt64 &&& 63)) ||| ((r6 : Int32).toInt64) : Int64) <<< ((6 : Int32).toInt64 &&& 63))]) ⟨hx, hb, hml, hown, hG⟩ (c_charAt l D cy kv H9.size 1 4 86 ("short") 5 (by decide) (by decide) (by decide) (show ¬ ((1 : Int32) < 0 ∨ 5 ≤ (1 : Int32).toNatClampNeg) by decide)) (cwV 1 hG (gi_V g_329 g_330 g_331 g_306 g_324) rfl rfl rfl (by decide +kernel) ⟨Nat.le_of_ble_eq_true rfl, Nat.le_of_ble_eq_true rfl⟩) ⟨pq_blind, (st_recv (hE.2.2.2.2.2.2.2 (4, 86, "short", 5) (by decide)).2 hS9), (pq_pass hP9 hD9 hK hE hS9 hA [] rfl (by decide))⟩ rfl rfl hl8.1 rfl (lv_room (Nat.le_of_ble_eq_true rfl)) dX12_packed_18 ⟨Nat.le_of_ble_eq_true rfl, Nat.le_of_ble_eq_true rfl⟩) hP9 hD9 hS9 hA [] [] rfl rfl (by decide) (by decide) (by decide) (by decide) (fun r11 w11 H11 lo11 e11 hR11 hP11r hD11r hS11 => ?_)
  subst hR11
  have hP11 : va_P D classes [] H11 := hP11r
  have hD11 : va_D A [] := hD11r
  clear hP11r hD11r
  clear hP9 hD9 hS9
  clear H9 lo9
  refine cq_i (pc := 21) (wr := []) (k2 := 0) (n2 := 0) (va_runS (As := [.int r11]) (rest := [.long ((((0 : Int64) <<< ((6 : Int32).toInt64 &&& 63)) ||| ((r6 : Int32).toInt64) : Int64) <<< ((6 : Int32).toInt64 &&& 63))]) ⟨hx, hb, hml, hown, hG⟩ (c_signOf l D cy kv H11.size r11) (va_cwS 1 hG (gi_S g_332 g_333 g_334 g_325) rfl rfl rfl (by decide +kernel) ⟨Nat.le_of_ble_eq_true rfl, Nat.le_of_ble_eq_true rfl⟩) ⟨pq_blind, (pq_pass hP11 hD11 hK hE hS11 hA [] rfl (by decide))⟩ rfl rfl hl8.1 rfl (lv_room (Nat.le_of_ble_eq_true rfl)) dX12_packed_21 ⟨Nat.le_of_ble_eq_true rfl, Nat.le_of_ble_eq_true rfl⟩) hP11 hD11 hS11 hA [] [] rfl rfl (by decide) (by decide) (by decide) (by decide) (fun r12 w12 H12 lo12 e12 hR12 hP12r hD12r hS12 => ?_)
  subst hR12
  have hP12 : va_P D classes [] H12 := hP12r
  have hD12 : va_D A [] := hD12r
  clear hP12r hD12r
  clear hP11 hD11 hS11
  clear H11 lo11
  refine lv_i2l (pc := 24) (v := (r12 : Int32).toInt64) hx hb dX12_packed_24 rfl ?_
  refine lv_lor (pc := 25) hx hb dX12_packed_25 ?_
  refine lv_lstore_n (pc := 26) (lv' := [(1, .long (((((0 : Int64) <<< ((6 : Int32).toInt64 &&& 63)) ||| ((r6 : Int32).toInt64) : Int64) <<< ((6 : Int32).toInt64 &&& 63)) ||| ((r12 : Int32).toInt64))), (3, .int 1), (0, .ref (kv.1 4))]) hx hb dX12_packed_26 rfl hl8 (by decide) rfl (fun ls13 hl13 => ?_)
  clear hl8 ls8
  refine lv_iinc (pc := 27) (v := 2) (lv' := [(3, .int 2), (1, .long (((((0 : Int64) <<< ((6 : Int32).toInt64 &&& 63)) ||| ((r6 : Int32).toInt64) : Int64) <<< ((6 : Int32).toInt64 &&& 63)) ||| ((r12 : Int32).toInt64))), (0, .ref (kv.1 4))]) hx hb dX12_packed_27 hl13 (k := 1) rfl (by decide) (by decide) rfl (fun ls14 hl14 => ?_)
  clear hl13 ls13
  refine lv_goto (pc := 30) (tgt := 4) hx hb dX12_packed_30 (by decide) ?_
  refine lv_iload_n (pc := 4) hx hb dX12_packed_4 rfl (lv_at hl14 0 rfl) ?_
  refine lv_aload_n (pc := 5) hx hb dX12_packed_5 rfl (lv_at hl14 2 rfl) ?_
  refine cq_i (pc := 6) (wr := []) (k2 := 0) (n2 := 0) (va_runV (As := []) (rest := [.int 2]) ⟨hx, hb, hml, hown, hG⟩ (c_strlen l D cy kv H12.size 4 86 ("short") 5 (by decide)) (cwV 0 hG (gi_V g_326 g_327 g_328 g_306 g_307) rfl rfl rfl (by decide +kernel) ⟨Nat.le_of_ble_eq_true rfl, Nat.le_of_ble_eq_true rfl⟩) ⟨pq_blind, (st_recv (hE.2.2.2.2.2.2.2 (4, 86, "short", 5) (by decide)).2 hS12), (pq_pass hP12 hD12 hK hE hS12 hA [] rfl (by decide))⟩ rfl rfl hl14.1 rfl (lv_room (Nat.le_of_ble_eq_true rfl)) dX12_packed_6 ⟨Nat.le_of_ble_eq_true rfl, Nat.le_of_ble_eq_true rfl⟩) hP12 hD12 hS12 hA [] [] rfl rfl (by decide) (by decide) (by decide) (by decide) (fun r15 w15 H15 lo15 e15 hR15 hP15r hD15r hS15 => ?_)
  subst hR15
  subst e15
  have hP15 : va_P D classes [] H15 := hP15r
  have hD15 : va_D A [] := hD15r
  clear hP15r hD15r
  clear hP12 hD12 hS12
  clear H12 lo12
  refine tp_i (y := 5) (by decide) ?_
  refine lv_icmp_ge (pc := 9) (tgt := 33) hx hb dX12_packed_9 (by decide) (fun c16 => absurd c16 (by decide)) (fun c16 => ?_)
  refine lv_lload_n (pc := 12) hx hb dX12_packed_12 rfl (lv_at hl14 1 rfl) ?_
  refine lv_bipush (pc := 13) (v := 6) hx hb dX12_packed_13 (by decide) ?_
  refine lv_lshl (pc := 15) (v := (((((0 : Int64) <<< ((6 : Int32).toInt64 &&& 63)) ||| ((r6 : Int32).toInt64) : Int64) <<< ((6 : Int32).toInt64 &&& 63)) ||| ((r12 : Int32).toInt64) : Int64) <<< ((6 : Int32).toInt64 &&& 63)) hx hb dX12_packed_15 rfl ?_
  refine lv_aload_n (pc := 16) hx hb dX12_packed_16 rfl (lv_at hl14 2 rfl) ?_
  refine lv_iload_n (pc := 17) hx hb dX12_packed_17 rfl (lv_at hl14 0 rfl) ?_
  refine cq_i (pc := 18) (wr := []) (k2 := 0) (n2 := 0) (va_runV (As := [.int 2]) (rest := [.long ((((((0 : Int64) <<< ((6 : Int32).toInt64 &&& 63)) ||| ((r6 : Int32).toInt64) : Int64) <<< ((6 : Int32).toInt64 &&& 63)) ||| ((r12 : Int32).toInt64) : Int64) <<< ((6 : Int32).toInt64 &&& 63))]) ⟨hx, hb, hml, hown, hG⟩ (c_charAt l D cy kv H15.size 2 4 86 ("short") 5 (by decide) (by decide) (by decide) (show ¬ ((2 : Int32) < 0 ∨ 5 ≤ (2 : Int32).toNatClampNeg) by decide)) (cwV 1 hG (gi_V g_329 g_330 g_331 g_306 g_324) rfl rfl rfl (by decide +kernel) ⟨Nat.le_of_ble_eq_true rfl, Nat.le_of_ble_eq_true rfl⟩) ⟨pq_blind, (st_recv (hE.2.2.2.2.2.2.2 (4, 86, "short", 5) (by decide)).2 hS15), (pq_pass hP15 hD15 hK hE hS15 hA [] rfl (by decide))⟩ rfl rfl hl14.1 rfl (lv_room (Nat.le_of_ble_eq_true rfl)) dX12_packed_18 ⟨Nat.le_of_ble_eq_true rfl, Nat.le_of_ble_eq_true rfl⟩) hP15 hD15 hS15 hA [] [] rfl rfl (by decide) (by decide) (by decide) (by decide) (fun r17 w17 H17 lo17 e17 hR17 hP17r hD17r hS17 => ?_)
  subst hR17
  have hP17 : va_P D classes [] H17 := hP17r
  have hD17 : va_D A [] := hD17r
  clear hP17r hD17r
  clear hP15 hD15 hS15
  clear H15 lo15
  refine cq_i (pc := 21) (wr := []) (k2 := 0) (n2 := 0) (va_runS (As := [.int r17]) (rest := [.long ((((((0 : Int64) <<< ((6 : Int32).toInt64 &&& 63)) ||| ((r6 : Int32).toInt64) : Int64) <<< ((6 : Int32).toInt64 &&& 63)) ||| ((r12 : Int32).toInt64) : Int64) <<< ((6 : Int32).toInt64 &&& 63))]) ⟨hx, hb, hml, hown, hG⟩ (c_signOf l D cy kv H17.size r17) (va_cwS 1 hG (gi_S g_332 g_333 g_334 g_325) rfl rfl rfl (by decide +kernel) ⟨Nat.le_of_ble_eq_true rfl, Nat.le_of_ble_eq_true rfl⟩) ⟨pq_blind, (pq_pass hP17 hD17 hK hE hS17 hA [] rfl (by decide))⟩ rfl rfl hl14.1 rfl (lv_room (Nat.le_of_ble_eq_true rfl)) dX12_packed_21 ⟨Nat.le_of_ble_eq_true rfl, Nat.le_of_ble_eq_true rfl⟩) hP17 hD17 hS17 hA [] [] rfl rfl (by decide) (by decide) (by decide) (by decide) (fun r18 w18 H18 lo18 e18 hR18 hP18r hD18r hS18 => ?_)
  subst hR18
  have hP18 : va_P D classes [] H18 := hP18r
  have hD18 : va_D A [] := hD18r
  clear hP18r hD18r
  clear hP17 hD17 hS17
  clear H17 lo17
  refine lv_i2l (pc := 24) (v := (r18 : Int32).toInt64) hx hb dX12_packed_24 rfl ?_
  refine lv_lor (pc := 25) hx hb dX12_packed_25 ?_
  refine lv_lstore_n (pc := 26) (lv' := [(1, .long (((((((0 : Int64) <<< ((6 : Int32).toInt64 &&& 63)) ||| ((r6 : Int32).toInt64) : Int64) <<< ((6 : Int32).toInt64 &&& 63)) ||| ((r12 : Int32).toInt64) : Int64) <<< ((6 : Int32).toInt64 &&& 63)) ||| ((r18 : Int32).toInt64))), (3, .int 2), (0, .ref (kv.1 4))]) hx hb dX12_packed_26 rfl hl14 (by decide) rfl (fun ls19 hl19 => ?_)
  clear hl14 ls14
  refine lv_iinc (pc := 27) (v := 3) (lv' := [(3, .int 3), (1, .long (((((((0 : Int64) <<< ((6 : Int32).toInt64 &&& 63)) ||| ((r6 : Int32).toInt64) : Int64) <<< ((6 : Int32).toInt64 &&& 63)) ||| ((r12 : Int32).toInt64) : Int64) <<< ((6 : Int32).toInt64 &&& 63)) ||| ((r18 : Int32).toInt64))), (0, .ref (kv.1 4))]) hx hb dX12_packed_27 hl19 (k := 1) rfl (by decide) (by decide) rfl (fun ls20 hl20 => ?_)
  clear hl19 ls19
  refine lv_goto (pc := 30) (tgt := 4) hx hb dX12_packed_30 (by decide) ?_
  refine lv_iload_n (pc := 4) hx hb dX12_packed_4 rfl (lv_at hl20 0 rfl) ?_
  refine lv_aload_n (pc := 5) hx hb dX12_packed_5 rfl (lv_at hl20 2 rfl) ?_
  refine cq_i (pc := 6) (wr := []) (k2 := 0) (n2 := 0) (va_runV (As := []) (rest := [.int 3]) ⟨hx, hb, hml, hown, hG⟩ (c_strlen l D cy kv H18.size 4 86 ("short") 5 (by decide)) (cwV 0 hG (gi_V g_326 g_327 g_328 g_306 g_307) rfl rfl rfl (by decide +kernel) ⟨Nat.le_of_ble_eq_true rfl, Nat.le_of_ble_eq_true rfl⟩) ⟨pq_blind, (st_recv (hE.2.2.2.2.2.2.2 (4, 86, "short", 5) (by decide)).2 hS18), (pq_pass hP18 hD18 hK hE hS18 hA [] rfl (by decide))⟩ rfl rfl hl20.1 rfl (lv_room (Nat.le_of_ble_eq_true rfl)) dX12_packed_6 ⟨Nat.le_of_ble_eq_true rfl, Nat.le_of_ble_eq_true rfl⟩) hP18 hD18 hS18 hA [] [] rfl rfl (by decide) (by decide) (by decide) (by decide) (fun r21 w21 H21 lo21 e21 hR21 hP21r hD21r hS21 => ?_)
  subst hR21
  subst e21
  have hP21 : va_P D classes [] H21 := hP21r
  have hD21 : va_D A [] := hD21r
  clear hP21r hD21r
  clear hP18 hD18 hS18
  clear H18 lo18
  refine tp_i (y := 5) (by decide) ?_
  refine lv_icmp_ge (pc := 9) (tgt := 33) hx hb dX12_packed_9 (by decide) (fun c22 => absurd c22 (by decide)) (fun c22 => ?_)
  refine lv_lload_n (pc := 12) hx hb dX12_packed_12 rfl (lv_at hl20 1 rfl) ?_
  refine lv_bipush (pc := 13) (v := 6) hx hb dX12_packed_13 (by decide) ?_
  refine lv_lshl (pc := 15) (v := (((((((0 : Int64) <<< ((6 : Int32).toInt64 &&& 63)) ||| ((r6 : Int32).toInt64) : Int64) <<< ((6 : Int32).toInt64 &&& 63)) ||| ((r12 : Int32).toInt64) : Int64) <<< ((6 : Int32).toInt64 &&& 63)) ||| ((r18 : Int32).toInt64) : Int64) <<< ((6 : Int32).toInt64 &&& 63)) hx hb dX12_packed_15 rfl ?_
  refine lv_aload_n (pc := 16) hx hb dX12_packed_16 rfl (lv_at hl20 2 rfl) ?_
  refine lv_iload_n (pc := 17) hx hb dX12_packed_17 rfl (lv_at hl20 0 rfl) ?_
  refine cq_i (pc := 18) (wr := []) (k2 := 0) (n2 := 0) (va_runV (As := [.int 3]) (rest := [.long ((((((((0 : Int64) <<< ((6 : Int32).toInt64 &&& 63)) ||| ((r6 : Int32).toInt64) : Int64) <<< ((6 : Int32).toInt64 &&& 63)) ||| ((r12 : Int32).toInt64) : Int64) <<< ((6 : Int32).toInt64 &&& 63)) ||| ((r18 : Int32).toInt64) : Int64) <<< ((6 : Int32).toInt64 &&& 63))]) ⟨hx, hb, hml, hown, hG⟩ (c_charAt l D cy kv H21.size 3 4 86 ("short") 5 (by decide) (by decide) (by decide) (show ¬ ((3 : Int32) < 0 ∨ 5 ≤ (3 : Int32).toNatClampNeg) by decide)) (cwV 1 hG (gi_V g_329 g_330 g_331 g_306 g_324) rfl rfl rfl (by decide +kernel) ⟨Nat.le_of_ble_eq_true rfl, Nat.le_of_ble_eq_true rfl⟩) ⟨pq_blind, (st_recv (hE.2.2.2.2.2.2.2 (4, 86, "short", 5) (by decide)).2 hS21), (pq_pass hP21 hD21 hK hE hS21 hA [] rfl (by decide))⟩ rfl rfl hl20.1 rfl (lv_room (Nat.le_of_ble_eq_true rfl)) dX12_packed_18 ⟨Nat.le_of_ble_eq_true rfl, Nat.le_of_ble_eq_true rfl⟩) hP21 hD21 hS21 hA [] [] rfl rfl (by decide) (by decide) (by decide) (by decide) (fun r23 w23 H23 lo23 e23 hR23 hP23r hD23r hS23 => ?_)
  subst hR23
  have hP23 : va_P D classes [] H23 := hP23r
  have hD23 : va_D A [] := hD23r
  clear hP23r hD23r
  clear hP21 hD21 hS21
  clear H21 lo21
  refine cq_i (pc := 21) (wr := []) (k2 := 0) (n2 := 0) (va_runS (As := [.int r23]) (rest := [.long ((((((((0 : Int64) <<< ((6 : Int32).toInt64 &&& 63)) ||| ((r6 : Int32).toInt64) : Int64) <<< ((6 : Int32).toInt64 &&& 63)) ||| ((r12 : Int32).toInt64) : Int64) <<< ((6 : Int32).toInt64 &&& 63)) ||| ((r18 : Int32).toInt64) : Int64) <<< ((6 : Int32).toInt64 &&& 63))]) ⟨hx, hb, hml, hown, hG⟩ (c_signOf l D cy kv H23.size r23) (va_cwS 1 hG (gi_S g_332 g_333 g_334 g_325) rfl rfl rfl (by decide +kernel) ⟨Nat.le_of_ble_eq_true rfl, Nat.le_of_ble_eq_true rfl⟩) ⟨pq_blind, (pq_pass hP23 hD23 hK hE hS23 hA [] rfl (by decide))⟩ rfl rfl hl20.1 rfl (lv_room (Nat.le_of_ble_eq_true rfl)) dX12_packed_21 ⟨Nat.le_of_ble_eq_true rfl, Nat.le_of_ble_eq_true rfl⟩) hP23 hD23 hS23 hA [] [] rfl rfl (by decide) (by decide) (by decide) (by decide) (fun r24 w24 H24 lo24 e24 hR24 hP24r hD24r hS24 => ?_)
  subst hR24
  have hP24 : va_P D classes [] H24 := hP24r
  have hD24 : va_D A [] := hD24r
  clear hP24r hD24r
  clear hP23 hD23 hS23
  clear H23 lo23
  refine lv_i2l (pc := 24) (v := (r24 : Int32).toInt64) hx hb dX12_packed_24 rfl ?_
  refine lv_lor (pc := 25) hx hb dX12_packed_25 ?_
  refine lv_lstore_n (pc := 26) (lv' := [(1, .long (((((((((0 : Int64) <<< ((6 : Int32).toInt64 &&& 63)) ||| ((r6 : Int32).toInt64) : Int64) <<< ((6 : Int32).toInt64 &&& 63)) ||| ((r12 : Int32).toInt64) : Int64) <<< ((6 : Int32).toInt64 &&& 63)) ||| ((r18 : Int32).toInt64) : Int64) <<< ((6 : Int32).toInt64 &&& 63)) ||| ((r24 : Int32).toInt64))), (3, .int 3), (0, .ref (kv.1 4))]) hx hb dX12_packed_26 rfl hl20 (by decide) rfl (fun ls25 hl25 => ?_)
  clear hl20 ls20
  refine lv_iinc (pc := 27) (v := 4) (lv' := [(3, .int 4), (1, .long (((((((((0 : Int64) <<< ((6 : Int32).toInt64 &&& 63)) ||| ((r6 : Int32).toInt64) : Int64) <<< ((6 : Int32).toInt64 &&& 63)) ||| ((r12 : Int32).toInt64) : Int64) <<< ((6 : Int32).toInt64 &&& 63)) ||| ((r18 : Int32).toInt64) : Int64) <<< ((6 : Int32).toInt64 &&& 63)) ||| ((r24 : Int32).toInt64))), (0, .ref (kv.1 4))]) hx hb dX12_packed_27 hl25 (k := 1) rfl (by decide) (by decide) rfl (fun ls26 hl26 => ?_)
  clear hl25 ls25
  refine lv_goto (pc := 30) (tgt := 4) hx hb dX12_packed_30 (by decide) ?_
  refine lv_iload_n (pc := 4) hx hb dX12_packed_4 rfl (lv_at hl26 0 rfl) ?_
  refine lv_aload_n (pc := 5) hx hb dX12_packed_5 rfl (lv_at hl26 2 rfl) ?_
  refine cq_i (pc := 6) (wr := []) (k2 := 0) (n2 := 0) (va_runV (As := []) (rest := [.int 4]) ⟨hx, hb, hml, hown, hG⟩ (c_strlen l D cy kv H24.size 4 86 ("short") 5 (by decide)) (cwV 0 hG (gi_V g_326 g_327 g_328 g_306 g_307) rfl rfl rfl (by decide +kernel) ⟨Nat.le_of_ble_eq_true rfl, Nat.le_of_ble_eq_true rfl⟩) ⟨pq_blind, (st_recv (hE.2.2.2.2.2.2.2 (4, 86, "short", 5) (by decide)).2 hS24), (pq_pass hP24 hD24 hK hE hS24 hA [] rfl (by decide))⟩ rfl rfl hl26.1 rfl (lv_room (Nat.le_of_ble_eq_true rfl)) dX12_packed_6 ⟨Nat.le_of_ble_eq_true rfl, Nat.le_of_ble_eq_true rfl⟩) hP24 hD24 hS24 hA [] [] rfl rfl (by decide) (by decide) (by decide) (by decide) (fun r27 w27 H27 lo27 e27 hR27 hP27r hD27r hS27 => ?_)
  subst hR27
  subst e27
  have hP27 : va_P D classes [] H27 := hP27r
  have hD27 : va_D A [] := hD27r
  clear hP27r hD27r
  clear hP24 hD24 hS24
  clear H24 lo24
  refine tp_i (y := 5) (by decide) ?_
  refine lv_icmp_ge (pc := 9) (tgt := 33) hx hb dX12_packed_9 (by decide) (fun c28 => absurd c28 (by decide)) (fun c28 => ?_)
  refine lv_lload_n (pc := 12) hx hb dX12_packed_12 rfl (lv_at hl26 1 rfl) ?_
  refine lv_bipush (pc := 13) (v := 6) hx hb dX12_packed_13 (by decide) ?_
  refine lv_lshl (pc := 15) (v := (((((((((0 : Int64) <<< ((6 : Int32).toInt64 &&& 63)) ||| ((r6 : Int32).toInt64) : Int64) <<< ((6 : Int32).toInt64 &&& 63)) ||| ((r12 : Int32).toInt64) : Int64) <<< ((6 : Int32).toInt64 &&& 63)) ||| ((r18 : Int32).toInt64) : Int64) <<< ((6 : Int32).toInt64 &&& 63)) ||| ((r24 : Int32).toInt64) : Int64) <<< ((6 : Int32).toInt64 &&& 63)) hx hb dX12_packed_15 rfl ?_
  refine lv_aload_n (pc := 16) hx hb dX12_packed_16 rfl (lv_at hl26 2 rfl) ?_
  refine lv_iload_n (pc := 17) hx hb dX12_packed_17 rfl (lv_at hl26 0 rfl) ?_
  refine cq_i (pc := 18) (wr := []) (k2 := 0) (n2 := 0) (va_runV (As := [.int 4]) (rest := [.long ((((((((((0 : Int64) <<< ((6 : Int32).toInt64 &&& 63)) ||| ((r6 : Int32).toInt64) : Int64) <<< ((6 : Int32).toInt64 &&& 63)) ||| ((r12 : Int32).toInt64) : Int64) <<< ((6 : Int32).toInt64 &&& 63)) ||| ((r18 : Int32).toInt64) : Int64) <<< ((6 : Int32).toInt64 &&& 63)) ||| ((r24 : Int32).toInt64) : Int64) <<< ((6 : Int32).toInt64 &&& 63))]) ⟨hx, hb, hml, hown, hG⟩ (c_charAt l D cy kv H27.size 4 4 86 ("short") 5 (by decide) (by decide) (by decide) (show ¬ ((4 : Int32) < 0 ∨ 5 ≤ (4 : Int32).toNatClampNeg) by decide)) (cwV 1 hG (gi_V g_329 g_330 g_331 g_306 g_324) rfl rfl rfl (by decide +kernel) ⟨Nat.le_of_ble_eq_true rfl, Nat.le_of_ble_eq_true rfl⟩) ⟨pq_blind, (st_recv (hE.2.2.2.2.2.2.2 (4, 86, "short", 5) (by decide)).2 hS27), (pq_pass hP27 hD27 hK hE hS27 hA [] rfl (by decide))⟩ rfl rfl hl26.1 rfl (lv_room (Nat.le_of_ble_eq_true rfl)) dX12_packed_18 ⟨Nat.le_of_ble_eq_true rfl, Nat.le_of_ble_eq_true rfl⟩) hP27 hD27 hS27 hA [] [] rfl rfl (by decide) (by decide) (by decide) (by decide) (fun r29 w29 H29 lo29 e29 hR29 hP29r hD29r hS29 => ?_)
  subst hR29
  have hP29 : va_P D classes [] H29 := hP29r
  have hD29 : va_D A [] := hD29r
  clear hP29r hD29r
  clear hP27 hD27 hS27
  clear H27 lo27
  refine cq_i (pc := 21) (wr := []) (k2 := 0) (n2 := 0) (va_runS (As := [.int r29]) (rest := [.long ((((((((((0 : Int64) <<< ((6 : Int32).toInt64 &&& 63)) ||| ((r6 : Int32).toInt64) : Int64) <<< ((6 : Int32).toInt64 &&& 63)) ||| ((r12 : Int32).toInt64) : Int64) <<< ((6 : Int32).toInt64 &&& 63)) ||| ((r18 : Int32).toInt64) : Int64) <<< ((6 : Int32).toInt64 &&& 63)) ||| ((r24 : Int32).toInt64) : Int64) <<< ((6 : Int32).toInt64 &&& 63))]) ⟨hx, hb, hml, hown, hG⟩ (c_signOf l D cy kv H29.size r29) (va_cwS 1 hG (gi_S g_332 g_333 g_334 g_325) rfl rfl rfl (by decide +kernel) ⟨Nat.le_of_ble_eq_true rfl, Nat.le_of_ble_eq_true rfl⟩) ⟨pq_blind, (pq_pass hP29 hD29 hK hE hS29 hA [] rfl (by decide))⟩ rfl rfl hl26.1 rfl (lv_room (Nat.le_of_ble_eq_true rfl)) dX12_packed_21 ⟨Nat.le_of_ble_eq_true rfl, Nat.le_of_ble_eq_true rfl⟩) hP29 hD29 hS29 hA [] [] rfl rfl (by decide) (by decide) (by decide) (by decide) (fun r30 w30 H30 lo30 e30 hR30 hP30r hD30r hS30 => ?_)
  subst hR30
  have hP30 : va_P D classes [] H30 := hP30r
  have hD30 : va_D A [] := hD30r
  clear hP30r hD30r
  clear hP29 hD29 hS29
  clear H29 lo29
  refine lv_i2l (pc := 24) (v := (r30 : Int32).toInt64) hx hb dX12_packed_24 rfl ?_
  refine lv_lor (pc := 25) hx hb dX12_packed_25 ?_
  refine lv_lstore_n (pc := 26) (lv' := [(1, .long (((((((((((0 : Int64) <<< ((6 : Int32).toInt64 &&& 63)) ||| ((r6 : Int32).toInt64) : Int64) <<< ((6 : Int32).toInt64 &&& 63)) ||| ((r12 : Int32).toInt64) : Int64) <<< ((6 : Int32).toInt64 &&& 63)) ||| ((r18 : Int32).toInt64) : Int64) <<< ((6 : Int32).toInt64 &&& 63)) ||| ((r24 : Int32).toInt64) : Int64) <<< ((6 : Int32).toInt64 &&& 63)) ||| ((r30 : Int32).toInt64))), (3, .int 4), (0, .ref (kv.1 4))]) hx hb dX12_packed_26 rfl hl26 (by decide) rfl (fun ls31 hl31 => ?_)
  clear hl26 ls26
  refine lv_iinc (pc := 27) (v := 5) (lv' := [(3, .int 5), (1, .long (((((((((((0 : Int64) <<< ((6 : Int32).toInt64 &&& 63)) ||| ((r6 : Int32).toInt64) : Int64) <<< ((6 : Int32).toInt64 &&& 63)) ||| ((r12 : Int32).toInt64) : Int64) <<< ((6 : Int32).toInt64 &&& 63)) ||| ((r18 : Int32).toInt64) : Int64) <<< ((6 : Int32).toInt64 &&& 63)) ||| ((r24 : Int32).toInt64) : Int64) <<< ((6 : Int32).toInt64 &&& 63)) ||| ((r30 : Int32).toInt64))), (0, .ref (kv.1 4))]) hx hb dX12_packed_27 hl31 (k := 1) rfl (by decide) (by decide) rfl (fun ls32 hl32 => ?_)
  clear hl31 ls31
  refine lv_goto (pc := 30) (tgt := 4) hx hb dX12_packed_30 (by decide) ?_
  refine lv_iload_n (pc := 4) hx hb dX12_packed_4 rfl (lv_at hl32 0 rfl) ?_
  refine lv_aload_n (pc := 5) hx hb dX12_packed_5 rfl (lv_at hl32 2 rfl) ?_
  refine cq_i (pc := 6) (wr := []) (k2 := 0) (n2 := 0) (va_runV (As := []) (rest := [.int 5]) ⟨hx, hb, hml, hown, hG⟩ (c_strlen l D cy kv H30.size 4 86 ("short") 5 (by decide)) (cwV 0 hG (gi_V g_326 g_327 g_328 g_306 g_307) rfl rfl rfl (by decide +kernel) ⟨Nat.le_of_ble_eq_true rfl, Nat.le_of_ble_eq_true rfl⟩) ⟨pq_blind, (st_recv (hE.2.2.2.2.2.2.2 (4, 86, "short", 5) (by decide)).2 hS30), (pq_pass hP30 hD30 hK hE hS30 hA [] rfl (by decide))⟩ rfl rfl hl32.1 rfl (lv_room (Nat.le_of_ble_eq_true rfl)) dX12_packed_6 ⟨Nat.le_of_ble_eq_true rfl, Nat.le_of_ble_eq_true rfl⟩) hP30 hD30 hS30 hA [] [] rfl rfl (by decide) (by decide) (by decide) (by decide) (fun r33 w33 H33 lo33 e33 hR33 hP33r hD33r hS33 => ?_)
  subst hR33
  subst e33
  have hP33 : va_P D classes [] H33 := hP33r
  have hD33 : va_D A [] := hD33r
  clear hP33r hD33r
  clear hP30 hD30 hS30
  clear H30 lo30
  refine tp_i (y := 5) (by decide) ?_
  refine lv_icmp_ge (pc := 9) (tgt := 33) hx hb dX12_packed_9 (by decide) (fun c34 => ?_) (fun c34 => absurd (by decide) c34)
  refine lv_lload_n (pc := 33) hx hb dX12_packed_33 rfl (lv_at hl32 1 rfl) ?_
  exact W.lret (pc := 34) (v := ((((((((((0 : Int64) <<< ((6 : Int32).toInt64 &&& 63)) ||| ((r6 : Int32).toInt64) : Int64) <<< ((6 : Int32).toInt64 &&& 63)) ||| ((r12 : Int32).toInt64) : Int64) <<< ((6 : Int32).toInt64 &&& 63)) ||| ((r18 : Int32).toInt64) : Int64) <<< ((6 : Int32).toInt64 &&& 63)) ||| ((r24 : Int32).toInt64) : Int64) <<< ((6 : Int32).toInt64 &&& 63)) ||| ((r30 : Int32).toInt64)) hx hb hr (fun t ht hW => ⟨⟨((((((((((0 : Int64) <<< ((6 : Int32).toInt64 &&& 63)) ||| ((r6 : Int32).toInt64) : Int64) <<< ((6 : Int32).toInt64 &&& 63)) ||| ((r12 : Int32).toInt64) : Int64) <<< ((6 : Int32).toInt64 &&& 63)) ||| ((r18 : Int32).toInt64) : Int64) <<< ((6 : Int32).toInt64 &&& 63)) ||| ((r24 : Int32).toInt64) : Int64) <<< ((6 : Int32).toInt64 &&& 63)) ||| ((r30 : Int32).toInt64), (), rfl, trivial, _, rfl, by rw [ht]; exact hP33, hD33⟩, hS33.F ht⟩) hS33.2.2 dX12_packed_34
set_option maxHeartbeats 4000000 in
set_option maxRecDepth 100000 in
/-- X12_packed -/
theorem c_packed5 (l : Launch) (D : va_G) (cy : Nat → ClassId) (kv : KV) (sz : Nat) : Met l yX12_packed (Cond.code yX12_packed cX12_packed 4 (some .long) :: GW) ({ frames := 12, cells := 0, slots := 0, locals := 280 } : Room) (va_Pc [.ref (kv.1 5)] (pcq D cy kv sz [])) (va_Ql (fun r (_ : Unit) => (fun _ => True) r) (fun _ t => bq D (fun w => w = []) (va_A [] sz) t) (va_A [] sz)) 0 0 (va_A [] sz) := by
  refine Met.ofW (cc := cX12_packed) (maxL := 4) (ret := (some .long)) (by decide) rfl ?_
  intro p e s m args below meth c s₁ B hml hv
  obtain ⟨rfl, hsz, hP, hK, hD0, hE⟩ := hv
  have hx := B.exec
  have hb := B.bytes
  have hr := B.returns
  have hG : ∀ w ∈ GW, w.before ([.ref (kv.1 5)] : List Value).toArray s = true := fun w h => atoms_spec (ws := Cond.code yX12_packed cX12_packed 4 (some .long) :: GW) B.pre w (List.mem_cons_of_mem _ h)
  have hown : s.vm.findClass RX12 = some m.cls := findClass_of_methodNamed B.named
  have hlocks := B.notSynchronized
  subst hsz
  have hD := hD0.self (sz := s.heap.size)
  generalize hAe : va_A [] s.heap.size = A at hD hE ⊢
  have hA : ∀ q : Nat, s.heap.size ≤ q → A q := fun q h => by rw [← hAe]; exact Or.inr h
  have hS : va_S A s.heap s.heap [] := va_S.rf
  clear hAe hD0
  have hl0 := lv_entry ([.ref (kv.1 5)]) (n := 4) (Nat.le_of_ble_eq_true rfl)
  rw [lg_entry_eq]
  generalize (lg_sl ([.ref (kv.1 5)]) ++ List.replicate (4 - (lg_sl ([.ref (kv.1 5)])).length) Slot.unset).toArray = ls at hl0 ⊢
  have hl : lv_has ls 4 [(0, .ref (kv.1 5))] := hl0
  clear hl0
  refine lv_lconst (pc := 0) (v := 0) hx hb dX12_packed_0 (by decide) ?_
  refine lv_lstore_n (pc := 1) (lv' := [(1, .long 0), (0, .ref (kv.1 5))]) hx hb dX12_packed_1 rfl hl (by decide) rfl (fun ls1 hl1 => ?_)
  clear hl ls
  refine lv_iconst (pc := 2) (v := 0) hx hb dX12_packed_2 (by decide) ?_
  refine lv_istore_n (pc := 3) (lv' := [(3, .int 0), (1, .long 0), (0, .ref (kv.1 5))]) hx hb dX12_packed_3 rfl hl1 (by decide) rfl (fun ls2 hl2 => ?_)
  clear hl1 ls1
  refine lv_iload_n (pc := 4) hx hb dX12_packed_4 rfl (lv_at hl2 0 rfl) ?_
  refine lv_aload_n (pc := 5) hx hb dX12_packed_5 rfl (lv_at hl2 2 rfl) ?_
  refine cq_i (pc := 6) (wr := []) (k2 := 0) (n2 := 0) (va_runV (As := []) (rest := [.int 0]) ⟨hx, hb, hml, hown, hG⟩ (c_strlen l D cy kv s.heap.size 5 91 ("hidden") 6 (by decide)) (cwV 0 hG (gi_V g_326 g_327 g_328 g_306 g_307) rfl rfl rfl (by decide +kernel) ⟨Nat.le_of_ble_eq_true rfl, Nat.le_of_ble_eq_true rfl⟩) ⟨pq_blind, (st_recv (hE.2.2.2.2.2.2.2 (5, 91, "hidden", 6) (by decide)).2 hS), (pq_pass hP hD hK hE hS hA [] rfl (by decide))⟩ rfl rfl hl2.1 rfl (lv_room (Nat.le_of_ble_eq_true rfl)) dX12_packed_6 ⟨Nat.le_of_ble_eq_true rfl, Nat.le_of_ble_eq_true rfl⟩) hP hD hS hA [] [] rfl rfl (by decide) (by decide) (by decide) (by decide) (fun r3 w3 H3 lo3 e3 hR3 hP3r hD3r hS3 => ?_)
  subst hR3
  subst e3
  have hP3 : va_P D classes [] H3 := hP3r
  have hD3 : va_D A [] := hD3r
  clear hP3r hD3r
  clear hP hD hS
  refine tp_i (y := 6) (by decide) ?_
  refine lv_icmp_ge (pc := 9) (tgt := 33) hx hb dX12_packed_9 (by decide) (fun c4 => absurd c4 (by decide)) (fun c4 => ?_)
  refine lv_lload_n (pc := 12) hx hb dX12_packed_12 rfl (lv_at hl2 1 rfl) ?_
  refine lv_bipush (pc := 13) (v := 6) hx hb dX12_packed_13 (by decide) ?_
  refine lv_lshl (pc := 15) (v := (0 : Int64) <<< ((6 : Int32).toInt64 &&& 63)) hx hb dX12_packed_15 rfl ?_
  refine lv_aload_n (pc := 16) hx hb dX12_packed_16 rfl (lv_at hl2 2 rfl) ?_
  refine lv_iload_n (pc := 17) hx hb dX12_packed_17 rfl (lv_at hl2 0 rfl) ?_
  refine cq_i (pc := 18) (wr := []) (k2 := 0) (n2 := 0) (va_runV (As := [.int 0]) (rest := [.long ((0 : Int64) <<< ((6 : Int32).toInt64 &&& 63))]) ⟨hx, hb, hml, hown, hG⟩ (c_charAt l D cy kv H3.size 0 5 91 ("hidden") 6 (by decide) (by decide) (by decide) (show ¬ ((0 : Int32) < 0 ∨ 6 ≤ (0 : Int32).toNatClampNeg) by decide)) (cwV 1 hG (gi_V g_329 g_330 g_331 g_306 g_324) rfl rfl rfl (by decide +kernel) ⟨Nat.le_of_ble_eq_true rfl, Nat.le_of_ble_eq_true rfl⟩) ⟨pq_blind, (st_recv (hE.2.2.2.2.2.2.2 (5, 91, "hidden", 6) (by decide)).2 hS3), (pq_pass hP3 hD3 hK hE hS3 hA [] rfl (by decide))⟩ rfl rfl hl2.1 rfl (lv_room (Nat.le_of_ble_eq_true rfl)) dX12_packed_18 ⟨Nat.le_of_ble_eq_true rfl, Nat.le_of_ble_eq_true rfl⟩) hP3 hD3 hS3 hA [] [] rfl rfl (by decide) (by decide) (by decide) (by decide) (fun r5 w5 H5 lo5 e5 hR5 hP5r hD5r hS5 => ?_)
  subst hR5
  have hP5 : va_P D classes [] H5 := hP5r
  have hD5 : va_D A [] := hD5r
  clear hP5r hD5r
  clear hP3 hD3 hS3
  clear H3 lo3
  refine cq_i (pc := 21) (wr := []) (k2 := 0) (n2 := 0) (va_runS (As := [.int r5]) (rest := [.long ((0 : Int64) <<< ((6 : Int32).toInt64 &&& 63))]) ⟨hx, hb, hml, hown, hG⟩ (c_signOf l D cy kv H5.size r5) (va_cwS 1 hG (gi_S g_332 g_333 g_334 g_325) rfl rfl rfl (by decide +kernel) ⟨Nat.le_of_ble_eq_true rfl, Nat.le_of_ble_eq_true rfl⟩) ⟨pq_blind, (pq_pass hP5 hD5 hK hE hS5 hA [] rfl (by decide))⟩ rfl rfl hl2.1 rfl (lv_room (Nat.le_of_ble_eq_true rfl)) dX12_packed_21 ⟨Nat.le_of_ble_eq_true rfl, Nat.le_of_ble_eq_true rfl⟩) hP5 hD5 hS5 hA [] [] rfl rfl (by decide) (by decide) (by decide) (by decide) (fun r6 w6 H6 lo6 e6 hR6 hP6r hD6r hS6 => ?_)
  subst hR6
  have hP6 : va_P D classes [] H6 := hP6r
  have hD6 : va_D A [] := hD6r
  clear hP6r hD6r
  clear hP5 hD5 hS5
  clear H5 lo5
  refine lv_i2l (pc := 24) (v := (r6 : Int32).toInt64) hx hb dX12_packed_24 rfl ?_
  refine lv_lor (pc := 25) hx hb dX12_packed_25 ?_
  refine lv_lstore_n (pc := 26) (lv' := [(1, .long (((0 : Int64) <<< ((6 : Int32).toInt64 &&& 63)) ||| ((r6 : Int32).toInt64))), (3, .int 0), (0, .ref (kv.1 5))]) hx hb dX12_packed_26 rfl hl2 (by decide) rfl (fun ls7 hl7 => ?_)
  clear hl2 ls2
  refine lv_iinc (pc := 27) (v := 1) (lv' := [(3, .int 1), (1, .long (((0 : Int64) <<< ((6 : Int32).toInt64 &&& 63)) ||| ((r6 : Int32).toInt64))), (0, .ref (kv.1 5))]) hx hb dX12_packed_27 hl7 (k := 1) rfl (by decide) (by decide) rfl (fun ls8 hl8 => ?_)
  clear hl7 ls7
  refine lv_goto (pc := 30) (tgt := 4) hx hb dX12_packed_30 (by decide) ?_
  refine lv_iload_n (pc := 4) hx hb dX12_packed_4 rfl (lv_at hl8 0 rfl) ?_
  refine lv_aload_n (pc := 5) hx hb dX12_packed_5 rfl (lv_at hl8 2 rfl) ?_
  refine cq_i (pc := 6) (wr := []) (k2 := 0) (n2 := 0) (va_runV (As := []) (rest := [.int 1]) ⟨hx, hb, hml, hown, hG⟩ (c_strlen l D cy kv H6.size 5 91 ("hidden") 6 (by decide)) (cwV 0 hG (gi_V g_326 g_327 g_328 g_306 g_307) rfl rfl rfl (by decide +kernel) ⟨Nat.le_of_ble_eq_true rfl, Nat.le_of_ble_eq_true rfl⟩) ⟨pq_blind, (st_recv (hE.2.2.2.2.2.2.2 (5, 91, "hidden", 6) (by decide)).2 hS6), (pq_pass hP6 hD6 hK hE hS6 hA [] rfl (by decide))⟩ rfl rfl hl8.1 rfl (lv_room (Nat.le_of_ble_eq_true rfl)) dX12_packed_6 ⟨Nat.le_of_ble_eq_true rfl, Nat.le_of_ble_eq_true rfl⟩) hP6 hD6 hS6 hA [] [] rfl rfl (by decide) (by decide) (by decide) (by decide) (fun r9 w9 H9 lo9 e9 hR9 hP9r hD9r hS9 => ?_)
  subst hR9
  subst e9
  have hP9 : va_P D classes [] H9 := hP9r
  have hD9 : va_D A [] := hD9r
  clear hP9r hD9r
  clear hP6 hD6 hS6
  clear H6 lo6
  refine tp_i (y := 6) (by decide) ?_
  refine lv_icmp_ge (pc := 9) (tgt := 33) hx hb dX12_packed_9 (by decide) (fun c10 => absurd c10 (by decide)) (fun c10 => ?_)
  refine lv_lload_n (pc := 12) hx hb dX12_packed_12 rfl (lv_at hl8 1 rfl) ?_
  refine lv_bipush (pc := 13) (v := 6) hx hb dX12_packed_13 (by decide) ?_
  refine lv_lshl (pc := 15) (v := (((0 : Int64) <<< ((6 : Int32).toInt64 &&& 63)) ||| ((r6 : Int32).toInt64) : Int64) <<< ((6 : Int32).toInt64 &&& 63)) hx hb dX12_packed_15 rfl ?_
  refine lv_aload_n (pc := 16) hx hb dX12_packed_16 rfl (lv_at hl8 2 rfl) ?_
  refine lv_iload_n (pc := 17) hx hb dX12_packed_17 rfl (lv_at hl8 0 rfl) ?_
  refine cq_i (pc := 18) (wr := []) (k2 := 0) (n2 := 0) (va_runV (As := [.int 1]) (rest := [.long ((((0 : Int64) <<< ((6 : Int32).toInt64 &&& 63)) ||| ((r6 : Int32).toInt64) : Int64) <<< ((6 : Int32).toInt64 &&& 63))]) ⟨hx, hb, hml, hown, hG⟩ (c_charAt l D cy kv H9.size 1 5 91 ("hidden") 6 (by decide) (by decide) (by decide) (show ¬ ((1 : Int32) < 0 ∨ 6 ≤ (1 : Int32).toNatClampNeg) by decide)) (cwV 1 hG (gi_V g_329 g_330 g_331 g_306 g_324) rfl rfl rfl (by decide +kernel) ⟨Nat.le_of_ble_eq_true rfl, Nat.le_of_ble_eq_true rfl⟩) ⟨pq_blind, (st_recv (hE.2.2.2.2.2.2.2 (5, 91, "hidden", 6) (by decide)).2 hS9), (pq_pass hP9 hD9 hK hE hS9 hA [] rfl (by decide))⟩ rfl rfl hl8.1 rfl (lv_room (Nat.le_of_ble_eq_true rfl)) dX12_packed_18 ⟨Nat.le_of_ble_eq_true rfl, Nat.le_of_ble_eq_true rfl⟩) hP9 hD9 hS9 hA [] [] rfl rfl (by decide) (by decide) (by decide) (by decide) (fun r11 w11 H11 lo11 e11 hR11 hP11r hD11r hS11 => ?_)
  subst hR11
  have hP11 : va_P D classes [] H11 := hP11r
  have hD11 : va_D A [] := hD11r
  clear hP11r hD11r
  clear hP9 hD9 hS9
  clear H9 lo9
  refine cq_i (pc := 21) (wr := []) (k2 := 0) (n2 := 0) (va_runS (As := [.int r11]) (rest := [.long ((((0 : Int64) <<< ((6 : Int32).toInt64 &&& 63)) ||| ((r6 : Int32).toInt64) : Int64) <<< ((6 : Int32).toInt64 &&& 63))]) ⟨hx, hb, hml, hown, hG⟩ (c_signOf l D cy kv H11.size r11) (va_cwS 1 hG (gi_S g_332 g_333 g_334 g_325) rfl rfl rfl (by decide +kernel) ⟨Nat.le_of_ble_eq_true rfl, Nat.le_of_ble_eq_true rfl⟩) ⟨pq_blind, (pq_pass hP11 hD11 hK hE hS11 hA [] rfl (by decide))⟩ rfl rfl hl8.1 rfl (lv_room (Nat.le_of_ble_eq_true rfl)) dX12_packed_21 ⟨Nat.le_of_ble_eq_true rfl, Nat.le_of_ble_eq_true rfl⟩) hP11 hD11 hS11 hA [] [] rfl rfl (by decide) (by decide) (by decide) (by decide) (fun r12 w12 H12 lo12 e12 hR12 hP12r hD12r hS12 => ?_)
  subst hR12
  have hP12 : va_P D classes [] H12 := hP12r
  have hD12 : va_D A [] := hD12r
  clear hP12r hD12r
  clear hP11 hD11 hS11
  clear H11 lo11
  refine lv_i2l (pc := 24) (v := (r12 : Int32).toInt64) hx hb dX12_packed_24 rfl ?_
  refine lv_lor (pc := 25) hx hb dX12_packed_25 ?_
  refine lv_lstore_n (pc := 26) (lv' := [(1, .long (((((0 : Int64) <<< ((6 : Int32).toInt64 &&& 63)) ||| ((r6 : Int32).toInt64) : Int64) <<< ((6 : Int32).toInt64 &&& 63)) ||| ((r12 : Int32).toInt64))), (3, .int 1), (0, .ref (kv.1 5))]) hx hb dX12_packed_26 rfl hl8 (by decide) rfl (fun ls13 hl13 => ?_)
  clear hl8 ls8
  refine lv_iinc (pc := 27) (v := 2) (lv' := [(3, .int 2), (1, .long (((((0 : Int64) <<< ((6 : Int32).toInt64 &&& 63)) ||| ((r6 : Int32).toInt64) : Int64) <<< ((6 : Int32).toInt64 &&& 63)) ||| ((r12 : Int32).toInt64))), (0, .ref (kv.1 5))]) hx hb dX12_packed_27 hl13 (k := 1) rfl (by decide) (by decide) rfl (fun ls14 hl14 => ?_)
  clear hl13 ls13
  refine lv_goto (pc := 30) (tgt := 4) hx hb dX12_packed_30 (by decide) ?_
  refine lv_iload_n (pc := 4) hx hb dX12_packed_4 rfl (lv_at hl14 0 rfl) ?_
  refine lv_aload_n (pc := 5) hx hb dX12_packed_5 rfl (lv_at hl14 2 rfl) ?_
  refine cq_i (pc := 6) (wr := []) (k2 := 0) (n2 := 0) (va_runV (As := []) (rest := [.int 2]) ⟨hx, hb, hml, hown, hG⟩ (c_strlen l D cy kv H12.size 5 91 ("hidden") 6 (by decide)) (cwV 0 hG (gi_V g_326 g_327 g_328 g_306 g_307) rfl rfl rfl (by decide +kernel) ⟨Nat.le_of_ble_eq_true rfl, Nat.le_of_ble_eq_true rfl⟩) ⟨pq_blind, (st_recv (hE.2.2.2.2.2.2.2 (5, 91, "hidden", 6) (by decide)).2 hS12), (pq_pass hP12 hD12 hK hE hS12 hA [] rfl (by decide))⟩ rfl rfl hl14.1 rfl (lv_room (Nat.le_of_ble_eq_true rfl)) dX12_packed_6 ⟨Nat.le_of_ble_eq_true rfl, Nat.le_of_ble_eq_true rfl⟩) hP12 hD12 hS12 hA [] [] rfl rfl (by decide) (by decide) (by decide) (by decide) (fun r15 w15 H15 lo15 e15 hR15 hP15r hD15r hS15 => ?_)
  subst hR15
  subst e15
  have hP15 : va_P D classes [] H15 := hP15r
  have hD15 : va_D A [] := hD15r
  clear hP15r hD15r
  clear hP12 hD12 hS12
  clear H12 lo12
  refine tp_i (y := 6) (by decide) ?_
  refine lv_icmp_ge (pc := 9) (tgt := 33) hx hb dX12_packed_9 (by decide) (fun c16 => absurd c16 (by decide)) (fun c16 => ?_)
  refine lv_lload_n (pc := 12) hx hb dX12_packed_12 rfl (lv_at hl14 1 rfl) ?_
  refine lv_bipush (pc := 13) (v := 6) hx hb dX12_packed_13 (by decide) ?_
  refine lv_lshl (pc := 15) (v := (((((0 : Int64) <<< ((6 : Int32).toInt64 &&& 63)) ||| ((r6 : Int32).toInt64) : Int64) <<< ((6 : Int32).toInt64 &&& 63)) ||| ((r12 : Int32).toInt64) : Int64) <<< ((6 : Int32).toInt64 &&& 63)) hx hb dX12_packed_15 rfl ?_
  refine lv_aload_n (pc := 16) hx hb dX12_packed_16 rfl (lv_at hl14 2 rfl) ?_
  refine lv_iload_n (pc := 17) hx hb dX12_packed_17 rfl (lv_at hl14 0 rfl) ?_
  refine cq_i (pc := 18) (wr := []) (k2 := 0) (n2 := 0) (va_runV (As := [.int 2]) (rest := [.long ((((((0 : Int64) <<< ((6 : Int32).toInt64 &&& 63)) ||| ((r6 : Int32).toInt64) : Int64) <<< ((6 : Int32).toInt64 &&& 63)) ||| ((r12 : Int32).toInt64) : Int64) <<< ((6 : Int32).toInt64 &&& 63))]) ⟨hx, hb, hml, hown, hG⟩ (c_charAt l D cy kv H15.size 2 5 91 ("hidden") 6 (by decide) (by decide) (by decide) (show ¬ ((2 : Int32) < 0 ∨ 6 ≤ (2 : Int32).toNatClampNeg) by decide)) (cwV 1 hG (gi_V g_329 g_330 g_331 g_306 g_324) rfl rfl rfl (by decide +kernel) ⟨Nat.le_of_ble_eq_true rfl, Nat.le_of_ble_eq_true rfl⟩) ⟨pq_blind, (st_recv (hE.2.2.2.2.2.2.2 (5, 91, "hidden", 6) (by decide)).2 hS15), (pq_pass hP15 hD15 hK hE hS15 hA [] rfl (by decide))⟩ rfl rfl hl14.1 rfl (lv_room (Nat.le_of_ble_eq_true rfl)) dX12_packed_18 ⟨Nat.le_of_ble_eq_true rfl, Nat.le_of_ble_eq_true rfl⟩) hP15 hD15 hS15 hA [] [] rfl rfl (by decide) (by decide) (by decide) (by decide) (fun r17 w17 H17 lo17 e17 hR17 hP17r hD17r hS17 => ?_)
  subst hR17
  have hP17 : va_P D classes [] H17 := hP17r
  have hD17 : va_D A [] := hD17r
  clear hP17r hD17r
  clear hP15 hD15 hS15
  clear H15 lo15
  refine cq_i (pc := 21) (wr := []) (k2 := 0) (n2 := 0) (va_runS (As := [.int r17]) (rest := [.long ((((((0 : Int64) <<< ((6 : Int32).toInt64 &&& 63)) ||| ((r6 : Int32).toInt64) : Int64) <<< ((6 : Int32).toInt64 &&& 63)) ||| ((r12 : Int32).toInt64) : Int64) <<< ((6 : Int32).toInt64 &&& 63))]) ⟨hx, hb, hml, hown, hG⟩ (c_signOf l D cy kv H17.size r17) (va_cwS 1 hG (gi_S g_332 g_333 g_334 g_325) rfl rfl rfl (by decide +kernel) ⟨Nat.le_of_ble_eq_true rfl, Nat.le_of_ble_eq_true rfl⟩) ⟨pq_blind, (pq_pass hP17 hD17 hK hE hS17 hA [] rfl (by decide))⟩ rfl rfl hl14.1 rfl (lv_room (Nat.le_of_ble_eq_true rfl)) dX12_packed_21 ⟨Nat.le_of_ble_eq_true rfl, Nat.le_of_ble_eq_true rfl⟩) hP17 hD17 hS17 hA [] [] rfl rfl (by decide) (by decide) (by decide) (by decide) (fun r18 w18 H18 lo18 e18 hR18 hP18r hD18r hS18 => ?_)
  subst hR18
  have hP18 : va_P D classes [] H18 := hP18r
  have hD18 : va_D A [] := hD18r
  clear hP18r hD18r
  clear hP17 hD17 hS17
  clear H17 lo17
  refine lv_i2l (pc := 24) (v := (r18 : Int32).toInt64) hx hb dX12_packed_24 rfl ?_
  refine lv_lor (pc := 25) hx hb dX12_packed_25 ?_
  refine lv_lstore_n (pc := 26) (lv' := [(1, .long (((((((0 : Int64) <<< ((6 : Int32).toInt64 &&& 63)) ||| ((r6 : Int32).toInt64) : Int64) <<< ((6 : Int32).toInt64 &&& 63)) ||| ((r12 : Int32).toInt64) : Int64) <<< ((6 : Int32).toInt64 &&& 63)) ||| ((r18 : Int32).toInt64))), (3, .int 2), (0, .ref (kv.1 5))]) hx hb dX12_packed_26 rfl hl14 (by decide) rfl (fun ls19 hl19 => ?_)
  clear hl14 ls14
  refine lv_iinc (pc := 27) (v := 3) (lv' := [(3, .int 3), (1, .long (((((((0 : Int64) <<< ((6 : Int32).toInt64 &&& 63)) ||| ((r6 : Int32).toInt64) : Int64) <<< ((6 : Int32).toInt64 &&& 63)) ||| ((r12 : Int32).toInt64) : Int64) <<< ((6 : Int32).toInt64 &&& 63)) ||| ((r18 : Int32).toInt64))), (0, .ref (kv.1 5))]) hx hb dX12_packed_27 hl19 (k := 1) rfl (by decide) (by decide) rfl (fun ls20 hl20 => ?_)
  clear hl19 ls19
  refine lv_goto (pc := 30) (tgt := 4) hx hb dX12_packed_30 (by decide) ?_
  refine lv_iload_n (pc := 4) hx hb dX12_packed_4 rfl (lv_at hl20 0 rfl) ?_
  refine lv_aload_n (pc := 5) hx hb dX12_packed_5 rfl (lv_at hl20 2 rfl) ?_
  refine cq_i (pc := 6) (wr := []) (k2 := 0) (n2 := 0) (va_runV (As := []) (rest := [.int 3]) ⟨hx, hb, hml, hown, hG⟩ (c_strlen l D cy kv H18.size 5 91 ("hidden") 6 (by decide)) (cwV 0 hG (gi_V g_326 g_327 g_328 g_306 g_307) rfl rfl rfl (by decide +kernel) ⟨Nat.le_of_ble_eq_true rfl, Nat.le_of_ble_eq_true rfl⟩) ⟨pq_blind, (st_recv (hE.2.2.2.2.2.2.2 (5, 91, "hidden", 6) (by decide)).2 hS18), (pq_pass hP18 hD18 hK hE hS18 hA [] rfl (by decide))⟩ rfl rfl hl20.1 rfl (lv_room (Nat.le_of_ble_eq_true rfl)) dX12_packed_6 ⟨Nat.le_of_ble_eq_true rfl, Nat.le_of_ble_eq_true rfl⟩) hP18 hD18 hS18 hA [] [] rfl rfl (by decide) (by decide) (by decide) (by decide) (fun r21 w21 H21 lo21 e21 hR21 hP21r hD21r hS21 => ?_)
  subst hR21
  subst e21
  have hP21 : va_P D classes [] H21 := hP21r
  have hD21 : va_D A [] := hD21r
  clear hP21r hD21r
  clear hP18 hD18 hS18
  clear H18 lo18
  refine tp_i (y := 6) (by decide) ?_
  refine lv_icmp_ge (pc := 9) (tgt := 33) hx hb dX12_packed_9 (by decide) (fun c22 => absurd c22 (by decide)) (fun c22 => ?_)
  refine lv_lload_n (pc := 12) hx hb dX12_packed_12 rfl (lv_at hl20 1 rfl) ?_
  refine lv_bipush (pc := 13) (v := 6) hx hb dX12_packed_13 (by decide) ?_
  refine lv_lshl (pc := 15) (v := (((((((0 : Int64) <<< ((6 : Int32).toInt64 &&& 63)) ||| ((r6 : Int32).toInt64) : Int64) <<< ((6 : Int32).toInt64 &&& 63)) ||| ((r12 : Int32).toInt64) : Int64) <<< ((6 : Int32).toInt64 &&& 63)) ||| ((r18 : Int32).toInt64) : Int64) <<< ((6 : Int32).toInt64 &&& 63)) hx hb dX12_packed_15 rfl ?_
  refine lv_aload_n (pc := 16) hx hb dX12_packed_16 rfl (lv_at hl20 2 rfl) ?_
  refine lv_iload_n (pc := 17) hx hb dX12_packed_17 rfl (lv_at hl20 0 rfl) ?_
  refine cq_i (pc := 18) (wr := []) (k2 := 0) (n2 := 0) (va_runV (As := [.int 3]) (rest := [.long ((((((((0 : Int64) <<< ((6 : Int32).toInt64 &&& 63)) ||| ((r6 : Int32).toInt64) : Int64) <<< ((6 : Int32).toInt64 &&& 63)) ||| ((r12 : Int32).toInt64) : Int64) <<< ((6 : Int32).toInt64 &&& 63)) ||| ((r18 : Int32).toInt64) : Int64) <<< ((6 : Int32).toInt64 &&& 63))]) ⟨hx, hb, hml, hown, hG⟩ (c_charAt l D cy kv H21.size 3 5 91 ("hidden") 6 (by decide) (by decide) (by decide) (show ¬ ((3 : Int32) < 0 ∨ 6 ≤ (3 : Int32).toNatClampNeg) by decide)) (cwV 1 hG (gi_V g_329 g_330 g_331 g_306 g_324) rfl rfl rfl (by decide +kernel) ⟨Nat.le_of_ble_eq_true rfl, Nat.le_of_ble_eq_true rfl⟩) ⟨pq_blind, (st_recv (hE.2.2.2.2.2.2.2 (5, 91, "hidden", 6) (by decide)).2 hS21), (pq_pass hP21 hD21 hK hE hS21 hA [] rfl (by decide))⟩ rfl rfl hl20.1 rfl (lv_room (Nat.le_of_ble_eq_true rfl)) dX12_packed_18 ⟨Nat.le_of_ble_eq_true rfl, Nat.le_of_ble_eq_true rfl⟩) hP21 hD21 hS21 hA [] [] rfl rfl (by decide) (by decide) (by decide) (by decide) (fun r23 w23 H23 lo23 e23 hR23 hP23r hD23r hS23 => ?_)
  subst hR23
  have hP23 : va_P D classes [] H23 := hP23r
  have hD23 : va_D A [] := hD23r
  clear hP23r hD23r
  clear hP21 hD21 hS21
  clear H21 lo21
  refine cq_i (pc := 21) (wr := []) (k2 := 0) (n2 := 0) (va_runS (As := [.int r23]) (rest := [.long ((((((((0 : Int64) <<< ((6 : Int32).toInt64 &&& 63)) ||| ((r6 : Int32).toInt64) : Int64) <<< ((6 : Int32).toInt64 &&& 63)) ||| ((r12 : Int32).toInt64) : Int64) <<< ((6 : Int32).toInt64 &&& 63)) ||| ((r18 : Int32).toInt64) : Int64) <<< ((6 : Int32).toInt64 &&& 63))]) ⟨hx, hb, hml, hown, hG⟩ (c_signOf l D cy kv H23.size r23) (va_cwS 1 hG (gi_S g_332 g_333 g_334 g_325) rfl rfl rfl (by decide +kernel) ⟨Nat.le_of_ble_eq_true rfl, Nat.le_of_ble_eq_true rfl⟩) ⟨pq_blind, (pq_pass hP23 hD23 hK hE hS23 hA [] rfl (by decide))⟩ rfl rfl hl20.1 rfl (lv_room (Nat.le_of_ble_eq_true rfl)) dX12_packed_21 ⟨Nat.le_of_ble_eq_true rfl, Nat.le_of_ble_eq_true rfl⟩) hP23 hD23 hS23 hA [] [] rfl rfl (by decide) (by decide) (by decide) (by decide) (fun r24 w24 H24 lo24 e24 hR24 hP24r hD24r hS24 => ?_)
  subst hR24
  have hP24 : va_P D classes [] H24 := hP24r
  have hD24 : va_D A [] := hD24r
  clear hP24r hD24r
  clear hP23 hD23 hS23
  clear H23 lo23
  refine lv_i2l (pc := 24) (v := (r24 : Int32).toInt64) hx hb dX12_packed_24 rfl ?_
  refine lv_lor (pc := 25) hx hb dX12_packed_25 ?_
  refine lv_lstore_n (pc := 26) (lv' := [(1, .long (((((((((0 : Int64) <<< ((6 : Int32).toInt64 &&& 63)) ||| ((r6 : Int32).toInt64) : Int64) <<< ((6 : Int32).toInt64 &&& 63)) ||| ((r12 : Int32).toInt64) : Int64) <<< ((6 : Int32).toInt64 &&& 63)) ||| ((r18 : Int32).toInt64) : Int64) <<< ((6 : Int32).toInt64 &&& 63)) ||| ((r24 : Int32).toInt64))), (3, .int 3), (0, .ref (kv.1 5))]) hx hb dX12_packed_26 rfl hl20 (by decide) rfl (fun ls25 hl25 => ?_)
  clear hl20 ls20
  refine lv_iinc (pc := 27) (v := 4) (lv' := [(3, .int 4), (1, .long (((((((((0 : Int64) <<< ((6 : Int32).toInt64 &&& 63)) ||| ((r6 : Int32).toInt64) : Int64) <<< ((6 : Int32).toInt64 &&& 63)) ||| ((r12 : Int32).toInt64) : Int64) <<< ((6 : Int32).toInt64 &&& 63)) ||| ((r18 : Int32).toInt64) : Int64) <<< ((6 : Int32).toInt64 &&& 63)) ||| ((r24 : Int32).toInt64))), (0, .ref (kv.1 5))]) hx hb dX12_packed_27 hl25 (k := 1) rfl (by decide) (by decide) rfl (fun ls26 hl26 => ?_)
  clear hl25 ls25
  refine lv_goto (pc := 30) (tgt := 4) hx hb dX12_packed_30 (by decide) ?_
  refine lv_iload_n (pc := 4) hx hb dX12_packed_4 rfl (lv_at hl26 0 rfl) ?_
  refine lv_aload_n (pc := 5) hx hb dX12_packed_5 rfl (lv_at hl26 2 rfl) ?_
  refine cq_i (pc := 6) (wr := []) (k2 := 0) (n2 := 0) (va_runV (As := []) (rest := [.int 4]) ⟨hx, hb, hml, hown, hG⟩ (c_strlen l D cy kv H24.size 5 91 ("hidden") 6 (by decide)) (cwV 0 hG (gi_V g_326 g_327 g_328 g_306 g_307) rfl rfl rfl (by decide +kernel) ⟨Nat.le_of_ble_eq_true rfl, Nat.le_of_ble_eq_true rfl⟩) ⟨pq_blind, (st_recv (hE.2.2.2.2.2.2.2 (5, 91, "hidden", 6) (by decide)).2 hS24), (pq_pass hP24 hD24 hK hE hS24 hA [] rfl (by decide))⟩ rfl rfl hl26.1 rfl (lv_room (Nat.le_of_ble_eq_true rfl)) dX12_packed_6 ⟨Nat.le_of_ble_eq_true rfl, Nat.le_of_ble_eq_true rfl⟩) hP24 hD24 hS24 hA [] [] rfl rfl (by decide) (by decide) (by decide) (by decide) (fun r27 w27 H27 lo27 e27 hR27 hP27r hD27r hS27 => ?_)
  subst hR27
  subst e27
  have hP27 : va_P D classes [] H27 := hP27r
  have hD27 : va_D A [] := hD27r
  clear hP27r hD27r
  clear hP24 hD24 hS24
  clear H24 lo24
  refine tp_i (y := 6) (by decide) ?_
  refine lv_icmp_ge (pc := 9) (tgt := 33) hx hb dX12_packed_9 (by decide) (fun c28 => absurd c28 (by decide)) (fun c28 => ?_)
  refine lv_lload_n (pc := 12) hx hb dX12_packed_12 rfl (lv_at hl26 1 rfl) ?_
  refine lv_bipush (pc := 13) (v := 6) hx hb dX12_packed_13 (by decide) ?_
  refine lv_lshl (pc := 15) (v := (((((((((0 : Int64) <<< ((6 : Int32).toInt64 &&& 63)) ||| ((r6 : Int32).toInt64) : Int64) <<< ((6 : Int32).toInt64 &&& 63)) ||| ((r12 : Int32).toInt64) : Int64) <<< ((6 : Int32).toInt64 &&& 63)) ||| ((r18 : Int32).toInt64) : Int64) <<< ((6 : Int32).toInt64 &&& 63)) ||| ((r24 : Int32).toInt64) : Int64) <<< ((6 : Int32).toInt64 &&& 63)) hx hb dX12_packed_15 rfl ?_
  refine lv_aload_n (pc := 16) hx hb dX12_packed_16 rfl (lv_at hl26 2 rfl) ?_
  refine lv_iload_n (pc := 17) hx hb dX12_packed_17 rfl (lv_at hl26 0 rfl) ?_
  refine cq_i (pc := 18) (wr := []) (k2 := 0) (n2 := 0) (va_runV (As := [.int 4]) (rest := [.long ((((((((((0 : Int64) <<< ((6 : Int32).toInt64 &&& 63)) ||| ((r6 : Int32).toInt64) : Int64) <<< ((6 : Int32).toInt64 &&& 63)) ||| ((r12 : Int32).toInt64) : Int64) <<< ((6 : Int32).toInt64 &&& 63)) ||| ((r18 : Int32).toInt64) : Int64) <<< ((6 : Int32).toInt64 &&& 63)) ||| ((r24 : Int32).toInt64) : Int64) <<< ((6 : Int32).toInt64 &&& 63))]) ⟨hx, hb, hml, hown, hG⟩ (c_charAt l D cy kv H27.size 4 5 91 ("hidden") 6 (by decide) (by decide) (by decide) (show ¬ ((4 : Int32) < 0 ∨ 6 ≤ (4 : Int32).toNatClampNeg) by decide)) (cwV 1 hG (gi_V g_329 g_330 g_331 g_306 g_324) rfl rfl rfl (by decide +kernel) ⟨Nat.le_of_ble_eq_true rfl, Nat.le_of_ble_eq_true rfl⟩) ⟨pq_blind, (st_recv (hE.2.2.2.2.2.2.2 (5, 91, "hidden", 6) (by decide)).2 hS27), (pq_pass hP27 hD27 hK hE hS27 hA [] rfl (by decide))⟩ rfl rfl hl26.1 rfl (lv_room (Nat.le_of_ble_eq_true rfl)) dX12_packed_18 ⟨Nat.le_of_ble_eq_true rfl, Nat.le_of_ble_eq_true rfl⟩) hP27 hD27 hS27 hA [] [] rfl rfl (by decide) (by decide) (by decide) (by decide) (fun r29 w29 H29 lo29 e29 hR29 hP29r hD29r hS29 => ?_)
  subst hR29
  have hP29 : va_P D classes [] H29 := hP29r
  have hD29 : va_D A [] := hD29r
  clear hP29r hD29r
  clear hP27 hD27 hS27
  clear H27 lo27
  refine cq_i (pc := 21) (wr := []) (k2 := 0) (n2 := 0) (va_runS (As := [.int r29]) (rest := [.long ((((((((((0 : Int64) <<< ((6 : Int32).toInt64 &&& 63)) ||| ((r6 : Int32).toInt64) : Int64) <<< ((6 : Int32).toInt64 &&& 63)) ||| ((r12 : Int32).toInt64) : Int64) <<< ((6 : Int32).toInt64 &&& 63)) ||| ((r18 : Int32).toInt64) : Int64) <<< ((6 : Int32).toInt64 &&& 63)) ||| ((r24 : Int32).toInt64) : Int64) <<< ((6 : Int32).toInt64 &&& 63))]) ⟨hx, hb, hml, hown, hG⟩ (c_signOf l D cy kv H29.size r29) (va_cwS 1 hG (gi_S g_332 g_333 g_334 g_325) rfl rfl rfl (by decide +kernel) ⟨Nat.le_of_ble_eq_true rfl, Nat.le_of_ble_eq_true rfl⟩) ⟨pq_blind, (pq_pass hP29 hD29 hK hE hS29 hA [] rfl (by decide))⟩ rfl rfl hl26.1 rfl (lv_room (Nat.le_of_ble_eq_true rfl)) dX12_packed_21 ⟨Nat.le_of_ble_eq_true rfl, Nat.le_of_ble_eq_true rfl⟩) hP29 hD29 hS29 hA [] [] rfl rfl (by decide) (by decide) (by decide) (by decide) (fun r30 w30 H30 lo30 e30 hR30 hP30r hD30r hS30 => ?_)
  subst hR30
  have hP30 : va_P D classes [] H30 := hP30r
  have hD30 : va_D A [] := hD30r
  clear hP30r hD30r
  clear hP29 hD29 hS29
  clear H29 lo29
  refine lv_i2l (pc := 24) (v := (r30 : Int32).toInt64) hx hb dX12_packed_24 rfl ?_
  refine lv_lor (pc := 25) hx hb dX12_packed_25 ?_
  refine lv_lstore_n (pc := 26) (lv' := [(1, .long (((((((((((0 : Int64) <<< ((6 : Int32).toInt64 &&& 63)) ||| ((r6 : Int32).toInt64) : Int64) <<< ((6 : Int32).toInt64 &&& 63)) ||| ((r12 : Int32).toInt64) : Int64) <<< ((6 : Int32).toInt64 &&& 63)) ||| ((r18 : Int32).toInt64) : Int64) <<< ((6 : Int32).toInt64 &&& 63)) ||| ((r24 : Int32).toInt64) : Int64) <<< ((6 : Int32).toInt64 &&& 63)) ||| ((r30 : Int32).toInt64))), (3, .int 4), (0, .ref (kv.1 5))]) hx hb dX12_packed_26 rfl hl26 (by decide) rfl (fun ls31 hl31 => ?_)
  clear hl26 ls26
  refine lv_iinc (pc := 27) (v := 5) (lv' := [(3, .int 5), (1, .long (((((((((((0 : Int64) <<< ((6 : Int32).toInt64 &&& 63)) ||| ((r6 : Int32).toInt64) : Int64) <<< ((6 : Int32).toInt64 &&& 63)) ||| ((r12 : Int32).toInt64) : Int64) <<< ((6 : Int32).toInt64 &&& 63)) ||| ((r18 : Int32).toInt64) : Int64) <<< ((6 : Int32).toInt64 &&& 63)) ||| ((r24 : Int32).toInt64) : Int64) <<< ((6 : Int32).toInt64 &&& 63)) ||| ((r30 : Int32).toInt64))), (0, .ref (kv.1 5))]) hx hb dX12_packed_27 hl31 (k := 1) rfl (by decide) (by decide) rfl (fun ls32 hl32 => ?_)
  clear hl31 ls31
  refine lv_goto (pc := 30) (tgt := 4) hx hb dX12_packed_30 (by decide) ?_
  refine lv_iload_n (pc := 4) hx hb dX12_packed_4 rfl (lv_at hl32 0 rfl) ?_
  refine lv_aload_n (pc := 5) hx hb dX12_packed_5 rfl (lv_at hl32 2 rfl) ?_
  refine cq_i (pc := 6) (wr := []) (k2 := 0) (n2 := 0) (va_runV (As := []) (rest := [.int 5]) ⟨hx, hb, hml, hown, hG⟩ (c_strlen l D cy kv H30.size 5 91 ("hidden") 6 (by decide)) (cwV 0 hG (gi_V g_326 g_327 g_328 g_306 g_307) rfl rfl rfl (by decide +kernel) ⟨Nat.le_of_ble_eq_true rfl, Nat.le_of_ble_eq_true rfl⟩) ⟨pq_blind, (st_recv (hE.2.2.2.2.2.2.2 (5, 91, "hidden", 6) (by decide)).2 hS30), (pq_pass hP30 hD30 hK hE hS30 hA [] rfl (by decide))⟩ rfl rfl hl32.1 rfl (lv_room (Nat.le_of_ble_eq_true rfl)) dX12_packed_6 ⟨Nat.le_of_ble_eq_true rfl, Nat.le_of_ble_eq_true rfl⟩) hP30 hD30 hS30 hA [] [] rfl rfl (by decide) (by decide) (by decide) (by decide) (fun r33 w33 H33 lo33 e33 hR33 hP33r hD33r hS33 => ?_)
  subst hR33
  subst e33
  have hP33 : va_P D classes [] H33 := hP33r
  have hD33 : va_D A [] := hD33r
  clear hP33r hD33r
  clear hP30 hD30 hS30
  clear H30 lo30
  refine tp_i (y := 6) (by decide) ?_
  refine lv_icmp_ge (pc := 9) (tgt := 33) hx hb dX12_packed_9 (by decide) (fun c34 => absurd c34 (by decide)) (fun c34 => ?_)
  refine lv_lload_n (pc := 12) hx hb dX12_packed_12 rfl (lv_at hl32 1 rfl) ?_
  refine lv_bipush (pc := 13) (v := 6) hx hb dX12_packed_13 (by decide) ?_
  refine lv_lshl (pc := 15) (v := (((((((((((0 : Int64) <<< ((6 : Int32).toInt64 &&& 63)) ||| ((r6 : Int32).toInt64) : Int64) <<< ((6 : Int32).toInt64 &&& 63)) ||| ((r12 : Int32).toInt64) : Int64) <<< ((6 : Int32).toInt64 &&& 63)) ||| ((r18 : Int32).toInt64) : Int64) <<< ((6 : Int32).toInt64 &&& 63)) ||| ((r24 : Int32).toInt64) : Int64) <<< ((6 : Int32).toInt64 &&& 63)) ||| ((r30 : Int32).toInt64) : Int64) <<< ((6 : Int32).toInt64 &&& 63)) hx hb dX12_packed_15 rfl ?_
  refine lv_aload_n (pc := 16) hx hb dX12_packed_16 rfl (lv_at hl32 2 rfl) ?_
  refine lv_iload_n (pc := 17) hx hb dX12_packed_17 rfl (lv_at hl32 0 rfl) ?_
  refine cq_i (pc := 18) (wr := []) (k2 := 0) (n2 := 0) (va_runV (As := [.int 5]) (rest := [.long ((((((((((((0 : Int64) <<< ((6 : Int32).toInt64 &&& 63)) ||| ((r6 : Int32).toInt64) : Int64) <<< ((6 : Int32).toInt64 &&& 63)) ||| ((r12 : Int32).toInt64) : Int64) <<< ((6 : Int32).toInt64 &&& 63)) ||| ((r18 : Int32).toInt64) : Int64) <<< ((6 : Int32).toInt64 &&& 63)) ||| ((r24 : Int32).toInt64) : Int64) <<< ((6 : Int32).toInt64 &&& 63)) ||| ((r30 : Int32).toInt64) : Int64) <<< ((6 : Int32).toInt64 &&& 63))]) ⟨hx, hb, hml, hown, hG⟩ (c_charAt l D cy kv H33.size 5 5 91 ("hidden") 6 (by decide) (by decide) (by decide) (show ¬ ((5 : Int32) < 0 ∨ 6 ≤ (5 : Int32).toNatClampNeg) by decide)) (cwV 1 hG (gi_V g_329 g_330 g_331 g_306 g_324) rfl rfl rfl (by decide +kernel) ⟨Nat.le_of_ble_eq_true rfl, Nat.le_of_ble_eq_true rfl⟩) ⟨pq_blind, (st_recv (hE.2.2.2.2.2.2.2 (5, 91, "hidden", 6) (by decide)).2 hS33), (pq_pass hP33 hD33 hK hE hS33 hA [] rfl (by decide))⟩ rfl rfl hl32.1 rfl (lv_room (Nat.le_of_ble_eq_true rfl)) dX12_packed_18 ⟨Nat.le_of_ble_eq_true rfl, Nat.le_of_ble_eq_true rfl⟩) hP33 hD33 hS33 hA [] [] rfl rfl (by decide) (by decide) (by decide) (by decide) (fun r35 w35 H35 lo35 e35 hR35 hP35r hD35r hS35 => ?_)
  subst hR35
  have hP35 : va_P D classes [] H35 := hP35r
  have hD35 : va_D A [] := hD35r
  clear hP35r hD35r
  clear hP33 hD33 hS33
  clear H33 lo33
  refine cq_i (pc := 21) (wr := []) (k2 := 0) (n2 := 0) (va_runS (As := [.int r35]) (rest := [.long ((((((((((((0 : Int64) <<< ((6 : Int32).toInt64 &&& 63)) ||| ((r6 : Int32).toInt64) : Int64) <<< ((6 : Int32).toInt64 &&& 63)) ||| ((r12 : Int32).toInt64) : Int64) <<< ((6 : Int32).toInt64 &&& 63)) ||| ((r18 : Int32).toInt64) : Int64) <<< ((6 : Int32).toInt64 &&& 63)) ||| ((r24 : Int32).toInt64) : Int64) <<< ((6 : Int32).toInt64 &&& 63)) ||| ((r30 : Int32).toInt64) : Int64) <<< ((6 : Int32).toInt64 &&& 63))]) ⟨hx, hb, hml, hown, hG⟩ (c_signOf l D cy kv H35.size r35) (va_cwS 1 hG (gi_S g_332 g_333 g_334 g_325) rfl rfl rfl (by decide +kernel) ⟨Nat.le_of_ble_eq_true rfl, Nat.le_of_ble_eq_true rfl⟩) ⟨pq_blind, (pq_pass hP35 hD35 hK hE hS35 hA [] rfl (by decide))⟩ rfl rfl hl32.1 rfl (lv_room (Nat.le_of_ble_eq_true rfl)) dX12_packed_21 ⟨Nat.le_of_ble_eq_true rfl, Nat.le_of_ble_eq_true rfl⟩) hP35 hD35 hS35 hA [] [] rfl rfl (by decide) (by decide) (by decide) (by decide) (fun r36 w36 H36 lo36 e36 hR36 hP36r hD36r hS36 => ?_)
  subst hR36
  have hP36 : va_P D classes [] H36 := hP36r
  have hD36 : va_D A [] := hD36r
  clear hP36r hD36r
  clear hP35 hD35 hS35
  clear H35 lo35
  refine lv_i2l (pc := 24) (v := (r36 : Int32).toInt64) hx hb dX12_packed_24 rfl ?_
  refine lv_lor (pc := 25) hx hb dX12_packed_25 ?_
  refine lv_lstore_n (pc := 26) (lv' := [(1, .long (((((((((((((0 : Int64) <<< ((6 : Int32).toInt64 &&& 63)) ||| ((r6 : Int32).toInt64) : Int64) <<< ((6 : Int32).toInt64 &&& 63)) ||| ((r12 : Int32).toInt64) : Int64) <<< ((6 : Int32).toInt64 &&& 63)) ||| ((r18 : Int32).toInt64) : Int64) <<< ((6 : Int32).toInt64 &&& 63)) ||| ((r24 : Int32).toInt64) : Int64) <<< ((6 : Int32).toInt64 &&& 63)) ||| ((r30 : Int32).toInt64) : Int64) <<< ((6 : Int32).toInt64 &&& 63)) ||| ((r36 : Int32).toInt64))), (3, .int 5), (0, .ref (kv.1 5))]) hx hb dX12_packed_26 rfl hl32 (by decide) rfl (fun ls37 hl37 => ?_)
  clear hl32 ls32
  refine lv_iinc (pc := 27) (v := 6) (lv' := [(3, .int 6), (1, .long (((((((((((((0 : Int64) <<< ((6 : Int32).toInt64 &&& 63)) ||| ((r6 : Int32).toInt64) : Int64) <<< ((6 : Int32).toInt64 &&& 63)) ||| ((r12 : Int32).toInt64) : Int64) <<< ((6 : Int32).toInt64 &&& 63)) ||| ((r18 : Int32).toInt64) : Int64) <<< ((6 : Int32).toInt64 &&& 63)) ||| ((r24 : Int32).toInt64) : Int64) <<< ((6 : Int32).toInt64 &&& 63)) ||| ((r30 : Int32).toInt64) : Int64) <<< ((6 : Int32).toInt64 &&& 63)) ||| ((r36 : Int32).toInt64))), (0, .ref (kv.1 5))]) hx hb dX12_packed_27 hl37 (k := 1) rfl (by decide) (by decide) rfl (fun ls38 hl38 => ?_)
  clear hl37 ls37
  refine lv_goto (pc := 30) (tgt := 4) hx hb dX12_packed_30 (by decide) ?_
  refine lv_iload_n (pc := 4) hx hb dX12_packed_4 rfl (lv_at hl38 0 rfl) ?_
  refine lv_aload_n (pc := 5) hx hb dX12_packed_5 rfl (lv_at hl38 2 rfl) ?_
  refine cq_i (pc := 6) (wr := []) (k2 := 0) (n2 := 0) (va_runV (As := []) (rest := [.int 6]) ⟨hx, hb, hml, hown, hG⟩ (c_strlen l D cy kv H36.size 5 91 ("hidden") 6 (by decide)) (cwV 0 hG (gi_V g_326 g_327 g_328 g_306 g_307) rfl rfl rfl (by decide +kernel) ⟨Nat.le_of_ble_eq_true rfl, Nat.le_of_ble_eq_true rfl⟩) ⟨pq_blind, (st_recv (hE.2.2.2.2.2.2.2 (5, 91, "hidden", 6) (by decide)).2 hS36), (pq_pass hP36 hD36 hK hE hS36 hA [] rfl (by decide))⟩ rfl rfl hl38.1 rfl (lv_room (Nat.le_of_ble_eq_true rfl)) dX12_packed_6 ⟨Nat.le_of_ble_eq_true rfl, Nat.le_of_ble_eq_true rfl⟩) hP36 hD36 hS36 hA [] [] rfl rfl (by decide) (by decide) (by decide) (by decide) (fun r39 w39 H39 lo39 e39 hR39 hP39r hD39r hS39 => ?_)
  subst hR39
  subst e39
  have hP39 : va_P D classes [] H39 := hP39r
  have hD39 : va_D A [] := hD39r
  clear hP39r hD39r
  clear hP36 hD36 hS36
  clear H36 lo36
  refine tp_i (y := 6) (by decide) ?_
  refine lv_icmp_ge (pc := 9) (tgt := 33) hx hb dX12_packed_9 (by decide) (fun c40 => ?_) (fun c40 => absurd (by decide) c40)
  refine lv_lload_n (pc := 33) hx hb dX12_packed_33 rfl (lv_at hl38 1 rfl) ?_
  exact W.lret (pc := 34) (v := ((((((((((((0 : Int64) <<< ((6 : Int32).toInt64 &&& 63)) ||| ((r6 : Int32).toInt64) : Int64) <<< ((6 : Int32).toInt64 &&& 63)) ||| ((r12 : Int32).toInt64) : Int64) <<< ((6 : Int32).toInt64 &&& 63)) ||| ((r18 : Int32).toInt64) : Int64) <<< ((6 : Int32).toInt64 &&& 63)) ||| ((r24 : Int32).toInt64) : Int64) <<< ((6 : Int32).toInt64 &&& 63)) ||| ((r30 : Int32).toInt64) : Int64) <<< ((6 : Int32).toInt64 &&& 63)) ||| ((r36 : Int32).toInt64)) hx hb hr (fun t ht hW => ⟨⟨((((((((((((0 : Int64) <<< ((6 : Int32).toInt64 &&& 63)) ||| ((r6 : Int32).toInt64) : Int64) <<< ((6 : Int32).toInt64 &&& 63)) ||| ((r12 : Int32).toInt64) : Int64) <<< ((6 : Int32).toInt64 &&& 63)) ||| ((r18 : Int32).toInt64) : Int64) <<< ((6 : Int32).toInt64 &&& 63)) ||| ((r24 : Int32).toInt64) : Int64) <<< ((6 : Int32).toInt64 &&& 63)) ||| ((r30 : Int32).toInt64) : Int64) <<< ((6 : Int32).toInt64 &&& 63)) ||| ((r36 : Int32).toInt64), (), rfl, trivial, _, rfl, by rw [ht]; exact hP39, hD39⟩, hS39.F ht⟩) hS39.2.2 dX12_packed_34
set_option maxHeartbeats 4000000 in
set_option maxRecDepth 100000 in
/-- X12_packed -/
theorem c_packed6 (l : Launch) (D : va_G) (cy : Nat → ClassId) (kv : KV) (sz : Nat) : Met l yX12_packed (Cond.code yX12_packed cX12_packed 4 (some .long) :: GW) ({ frames := 12, cells := 0, slots := 0, locals := 280 } : Room) (va_Pc [.ref (kv.1 6)] (pcq D cy kv sz [])) (va_Ql (fun r (_ : Unit) => (fun _ => True) r) (fun _ t => bq D (fun w => w = []) (va_A [] sz) t) (va_A [] sz)) 0 0 (va_A [] sz) := by
  refine Met.ofW (cc := cX12_packed) (maxL := 4) (ret := (some .long)) (by decide) rfl ?_
  intro p e s m args below meth c s₁ B hml hv
  obtain ⟨rfl, hsz, hP, hK, hD0, hE⟩ := hv
  have hx := B.exec
  have hb := B.bytes
  have hr := B.returns
  have hG : ∀ w ∈ GW, w.before ([.ref (kv.1 6)] : List Value).toArray s = true := fun w h => atoms_spec (ws := Cond.code yX12_packed cX12_packed 4 (some .long) :: GW) B.pre w (List.mem_cons_of_mem _ h)
  have hown : s.vm.findClass RX12 = some m.cls := findClass_of_methodNamed B.named
  have hlocks := B.notSynchronized
  subst hsz
  have hD := hD0.self (sz := s.heap.size)
  generalize hAe : va_A [] s.heap.size = A at hD hE ⊢
  have hA : ∀ q : Nat, s.heap.size ≤ q → A q := fun q h => by rw [← hAe]; exact Or.inr h
  have hS : va_S A s.heap s.heap [] := va_S.rf
  clear hAe hD0
  have hl0 := lv_entry ([.ref (kv.1 6)]) (n := 4) (Nat.le_of_ble_eq_true rfl)
  rw [lg_entry_eq]
  generalize (lg_sl ([.ref (kv.1 6)]) ++ List.replicate (4 - (lg_sl ([.ref (kv.1 6)])).length) Slot.unset).toArray = ls at hl0 ⊢
  have hl : lv_has ls 4 [(0, .ref (kv.1 6))] := hl0
  clear hl0
  refine lv_lconst (pc := 0) (v := 0) hx hb dX12_packed_0 (by decide) ?_
  refine lv_lstore_n (pc := 1) (lv' := [(1, .long 0), (0, .ref (kv.1 6))]) hx hb dX12_packed_1 rfl hl (by decide) rfl (fun ls1 hl1 => ?_)
  clear hl ls
  refine lv_iconst (pc := 2) (v := 0) hx hb dX12_packed_2 (by decide) ?_
  refine lv_istore_n (pc := 3) (lv' := [(3, .int 0), (1, .long 0), (0, .ref (kv.1 6))]) hx hb dX12_packed_3 rfl hl1 (by decide) rfl (fun ls2 hl2 => ?_)
  clear hl1 ls1
  refine lv_iload_n (pc := 4) hx hb dX12_packed_4 rfl (lv_at hl2 0 rfl) ?_
  refine lv_aload_n (pc := 5) hx hb dX12_packed_5 rfl (lv_at hl2 2 rfl) ?_
  refine cq_i (pc := 6) (wr := []) (k2 := 0) (n2 := 0) (va_runV (As := []) (rest := [.int 0]) ⟨hx, hb, hml, hown, hG⟩ (c_strlen l D cy kv s.heap.size 6 93 ("min") 3 (by decide)) (cwV 0 hG (gi_V g_326 g_327 g_328 g_306 g_307) rfl rfl rfl (by decide +kernel) ⟨Nat.le_of_ble_eq_true rfl, Nat.le_of_ble_eq_true rfl⟩) ⟨pq_blind, (st_recv (hE.2.2.2.2.2.2.2 (6, 93, "min", 3) (by decide)).2 hS), (pq_pass hP hD hK hE hS hA [] rfl (by decide))⟩ rfl rfl hl2.1 rfl (lv_room (Nat.le_of_ble_eq_true rfl)) dX12_packed_6 ⟨Nat.le_of_ble_eq_true rfl, Nat.le_of_ble_eq_true rfl⟩) hP hD hS hA [] [] rfl rfl (by decide) (by decide) (by decide) (by decide) (fun r3 w3 H3 lo3 e3 hR3 hP3r hD3r hS3 => ?_)
  subst hR3
  subst e3
  have hP3 : va_P D classes [] H3 := hP3r
  have hD3 : va_D A [] := hD3r
  clear hP3r hD3r
  clear hP hD hS
  refine tp_i (y := 3) (by decide) ?_
  refine lv_icmp_ge (pc := 9) (tgt := 33) hx hb dX12_packed_9 (by decide) (fun c4 => absurd c4 (by decide)) (fun c4 => ?_)
  refine lv_lload_n (pc := 12) hx hb dX12_packed_12 rfl (lv_at hl2 1 rfl) ?_
  refine lv_bipush (pc := 13) (v := 6) hx hb dX12_packed_13 (by decide) ?_
  refine lv_lshl (pc := 15) (v := (0 : Int64) <<< ((6 : Int32).toInt64 &&& 63)) hx hb dX12_packed_15 rfl ?_
  refine lv_aload_n (pc := 16) hx hb dX12_packed_16 rfl (lv_at hl2 2 rfl) ?_
  refine lv_iload_n (pc := 17) hx hb dX12_packed_17 rfl (lv_at hl2 0 rfl) ?_
  refine cq_i (pc := 18) (wr := []) (k2 := 0) (n2 := 0) (va_runV (As := [.int 0]) (rest := [.long ((0 : Int64) <<< ((6 : Int32).toInt64 &&& 63))]) ⟨hx, hb, hml, hown, hG⟩ (c_charAt l D cy kv H3.size 0 6 93 ("min") 3 (by decide) (by decide) (by decide) (show ¬ ((0 : Int32) < 0 ∨ 3 ≤ (0 : Int32).toNatClampNeg) by decide)) (cwV 1 hG (gi_V g_329 g_330 g_331 g_306 g_324) rfl rfl rfl (by decide +kernel) ⟨Nat.le_of_ble_eq_true rfl, Nat.le_of_ble_eq_true rfl⟩) ⟨pq_blind, (st_recv (hE.2.2.2.2.2.2.2 (6, 93, "min", 3) (by decide)).2 hS3), (pq_pass hP3 hD3 hK hE hS3 hA [] rfl (by decide))⟩ rfl rfl hl2.1 rfl (lv_room (Nat.le_of_ble_eq_true rfl)) dX12_packed_18 ⟨Nat.le_of_ble_eq_true rfl, Nat.le_of_ble_eq_true rfl⟩) hP3 hD3 hS3 hA [] [] rfl rfl (by decide) (by decide) (by decide) (by decide) (fun r5 w5 H5 lo5 e5 hR5 hP5r hD5r hS5 => ?_)
  subst hR5
  have hP5 : va_P D classes [] H5 := hP5r
  have hD5 : va_D A [] := hD5r
  clear hP5r hD5r
  clear hP3 hD3 hS3
  clear H3 lo3
  refine cq_i (pc := 21) (wr := []) (k2 := 0) (n2 := 0) (va_runS (As := [.int r5]) (rest := [.long ((0 : Int64) <<< ((6 : Int32).toInt64 &&& 63))]) ⟨hx, hb, hml, hown, hG⟩ (c_signOf l D cy kv H5.size r5) (va_cwS 1 hG (gi_S g_332 g_333 g_334 g_325) rfl rfl rfl (by decide +kernel) ⟨Nat.le_of_ble_eq_true rfl, Nat.le_of_ble_eq_true rfl⟩) ⟨pq_blind, (pq_pass hP5 hD5 hK hE hS5 hA [] rfl (by decide))⟩ rfl rfl hl2.1 rfl (lv_room (Nat.le_of_ble_eq_true rfl)) dX12_packed_21 ⟨Nat.le_of_ble_eq_true rfl, Nat.le_of_ble_eq_true rfl⟩) hP5 hD5 hS5 hA [] [] rfl rfl (by decide) (by decide) (by decide) (by decide) (fun r6 w6 H6 lo6 e6 hR6 hP6r hD6r hS6 => ?_)
  subst hR6
  have hP6 : va_P D classes [] H6 := hP6r
  have hD6 : va_D A [] := hD6r
  clear hP6r hD6r
  clear hP5 hD5 hS5
  clear H5 lo5
  refine lv_i2l (pc := 24) (v := (r6 : Int32).toInt64) hx hb dX12_packed_24 rfl ?_
  refine lv_lor (pc := 25) hx hb dX12_packed_25 ?_
  refine lv_lstore_n (pc := 26) (lv' := [(1, .long (((0 : Int64) <<< ((6 : Int32).toInt64 &&& 63)) ||| ((r6 : Int32).toInt64))), (3, .int 0), (0, .ref (kv.1 6))]) hx hb dX12_packed_26 rfl hl2 (by decide) rfl (fun ls7 hl7 => ?_)
  clear hl2 ls2
  refine lv_iinc (pc := 27) (v := 1) (lv' := [(3, .int 1), (1, .long (((0 : Int64) <<< ((6 : Int32).toInt64 &&& 63)) ||| ((r6 : Int32).toInt64))), (0, .ref (kv.1 6))]) hx hb dX12_packed_27 hl7 (k := 1) rfl (by decide) (by decide) rfl (fun ls8 hl8 => ?_)
  clear hl7 ls7
  refine lv_goto (pc := 30) (tgt := 4) hx hb dX12_packed_30 (by decide) ?_
  refine lv_iload_n (pc := 4) hx hb dX12_packed_4 rfl (lv_at hl8 0 rfl) ?_
  refine lv_aload_n (pc := 5) hx hb dX12_packed_5 rfl (lv_at hl8 2 rfl) ?_
  refine cq_i (pc := 6) (wr := []) (k2 := 0) (n2 := 0) (va_runV (As := []) (rest := [.int 1]) ⟨hx, hb, hml, hown, hG⟩ (c_strlen l D cy kv H6.size 6 93 ("min") 3 (by decide)) (cwV 0 hG (gi_V g_326 g_327 g_328 g_306 g_307) rfl rfl rfl (by decide +kernel) ⟨Nat.le_of_ble_eq_true rfl, Nat.le_of_ble_eq_true rfl⟩) ⟨pq_blind, (st_recv (hE.2.2.2.2.2.2.2 (6, 93, "min", 3) (by decide)).2 hS6), (pq_pass hP6 hD6 hK hE hS6 hA [] rfl (by decide))⟩ rfl rfl hl8.1 rfl (lv_room (Nat.le_of_ble_eq_true rfl)) dX12_packed_6 ⟨Nat.le_of_ble_eq_true rfl, Nat.le_of_ble_eq_true rfl⟩) hP6 hD6 hS6 hA [] [] rfl rfl (by decide) (by decide) (by decide) (by decide) (fun r9 w9 H9 lo9 e9 hR9 hP9r hD9r hS9 => ?_)
  subst hR9
  subst e9
  have hP9 : va_P D classes [] H9 := hP9r
  have hD9 : va_D A [] := hD9r
  clear hP9r hD9r
  clear hP6 hD6 hS6
  clear H6 lo6
  refine tp_i (y := 3) (by decide) ?_
  refine lv_icmp_ge (pc := 9) (tgt := 33) hx hb dX12_packed_9 (by decide) (fun c10 => absurd c10 (by decide)) (fun c10 => ?_)
  refine lv_lload_n (pc := 12) hx hb dX12_packed_12 rfl (lv_at hl8 1 rfl) ?_
  refine lv_bipush (pc := 13) (v := 6) hx hb dX12_packed_13 (by decide) ?_
  refine lv_lshl (pc := 15) (v := (((0 : Int64) <<< ((6 : Int32).toInt64 &&& 63)) ||| ((r6 : Int32).toInt64) : Int64) <<< ((6 : Int32).toInt64 &&& 63)) hx hb dX12_packed_15 rfl ?_
  refine lv_aload_n (pc := 16) hx hb dX12_packed_16 rfl (lv_at hl8 2 rfl) ?_
  refine lv_iload_n (pc := 17) hx hb dX12_packed_17 rfl (lv_at hl8 0 rfl) ?_
  refine cq_i (pc := 18) (wr := []) (k2 := 0) (n2 := 0) (va_runV (As := [.int 1]) (rest := [.long ((((0 : Int64) <<< ((6 : Int32).toInt64 &&& 63)) ||| ((r6 : Int32).toInt64) : Int64) <<< ((6 : Int32).toInt64 &&& 63))]) ⟨hx, hb, hml, hown, hG⟩ (c_charAt l D cy kv H9.size 1 6 93 ("min") 3 (by decide) (by decide) (by decide) (show ¬ ((1 : Int32) < 0 ∨ 3 ≤ (1 : Int32).toNatClampNeg) by decide)) (cwV 1 hG (gi_V g_329 g_330 g_331 g_306 g_324) rfl rfl rfl (by decide +kernel) ⟨Nat.le_of_ble_eq_true rfl, Nat.le_of_ble_eq_true rfl⟩) ⟨pq_blind, (st_recv (hE.2.2.2.2.2.2.2 (6, 93, "min", 3) (by decide)).2 hS9), (pq_pass hP9 hD9 hK hE hS9 hA [] rfl (by decide))⟩ rfl rfl hl8.1 rfl (lv_room (Nat.le_of_ble_eq_true rfl)) dX12_packed_18 ⟨Nat.le_of_ble_eq_true rfl, Nat.le_of_ble_eq_true rfl⟩) hP9 hD9 hS9 hA [] [] rfl rfl (by decide) (by decide) (by decide) (by decide) (fun r11 w11 H11 lo11 e11 hR11 hP11r hD11r hS11 => ?_)
  subst hR11
  have hP11 : va_P D classes [] H11 := hP11r
  have hD11 : va_D A [] := hD11r
  clear hP11r hD11r
  clear hP9 hD9 hS9
  clear H9 lo9
  refine cq_i (pc := 21) (wr := []) (k2 := 0) (n2 := 0) (va_runS (As := [.int r11]) (rest := [.long ((((0 : Int64) <<< ((6 : Int32).toInt64 &&& 63)) ||| ((r6 : Int32).toInt64) : Int64) <<< ((6 : Int32).toInt64 &&& 63))]) ⟨hx, hb, hml, hown, hG⟩ (c_signOf l D cy kv H11.size r11) (va_cwS 1 hG (gi_S g_332 g_333 g_334 g_325) rfl rfl rfl (by decide +kernel) ⟨Nat.le_of_ble_eq_true rfl, Nat.le_of_ble_eq_true rfl⟩) ⟨pq_blind, (pq_pass hP11 hD11 hK hE hS11 hA [] rfl (by decide))⟩ rfl rfl hl8.1 rfl (lv_room (Nat.le_of_ble_eq_true rfl)) dX12_packed_21 ⟨Nat.le_of_ble_eq_true rfl, Nat.le_of_ble_eq_true rfl⟩) hP11 hD11 hS11 hA [] [] rfl rfl (by decide) (by decide) (by decide) (by decide) (fun r12 w12 H12 lo12 e12 hR12 hP12r hD12r hS12 => ?_)
  subst hR12
  have hP12 : va_P D classes [] H12 := hP12r
  have hD12 : va_D A [] := hD12r
  clear hP12r hD12r
  clear hP11 hD11 hS11
  clear H11 lo11
  refine lv_i2l (pc := 24) (v := (r12 : Int32).toInt64) hx hb dX12_packed_24 rfl ?_
  refine lv_lor (pc := 25) hx hb dX12_packed_25 ?_
  refine lv_lstore_n (pc := 26) (lv' := [(1, .long (((((0 : Int64) <<< ((6 : Int32).toInt64 &&& 63)) ||| ((r6 : Int32).toInt64) : Int64) <<< ((6 : Int32).toInt64 &&& 63)) ||| ((r12 : Int32).toInt64))), (3, .int 1), (0, .ref (kv.1 6))]) hx hb dX12_packed_26 rfl hl8 (by decide) rfl (fun ls13 hl13 => ?_)
  clear hl8 ls8
  refine lv_iinc (pc := 27) (v := 2) (lv' := [(3, .int 2), (1, .long (((((0 : Int64) <<< ((6 : Int32).toInt64 &&& 63)) ||| ((r6 : Int32).toInt64) : Int64) <<< ((6 : Int32).toInt64 &&& 63)) ||| ((r12 : Int32).toInt64))), (0, .ref (kv.1 6))]) hx hb dX12_packed_27 hl13 (k := 1) rfl (by decide) (by decide) rfl (fun ls14 hl14 => ?_)
  clear hl13 ls13
  refine lv_goto (pc := 30) (tgt := 4) hx hb dX12_packed_30 (by decide) ?_
  refine lv_iload_n (pc := 4) hx hb dX12_packed_4 rfl (lv_at hl14 0 rfl) ?_
  refine lv_aload_n (pc := 5) hx hb dX12_packed_5 rfl (lv_at hl14 2 rfl) ?_
  refine cq_i (pc := 6) (wr := []) (k2 := 0) (n2 := 0) (va_runV (As := []) (rest := [.int 2]) ⟨hx, hb, hml, hown, hG⟩ (c_strlen l D cy kv H12.size 6 93 ("min") 3 (by decide)) (cwV 0 hG (gi_V g_326 g_327 g_328 g_306 g_307) rfl rfl rfl (by decide +kernel) ⟨Nat.le_of_ble_eq_true rfl, Nat.le_of_ble_eq_true rfl⟩) ⟨pq_blind, (st_recv (hE.2.2.2.2.2.2.2 (6, 93, "min", 3) (by decide)).2 hS12), (pq_pass hP12 hD12 hK hE hS12 hA [] rfl (by decide))⟩ rfl rfl hl14.1 rfl (lv_room (Nat.le_of_ble_eq_true rfl)) dX12_packed_6 ⟨Nat.le_of_ble_eq_true rfl, Nat.le_of_ble_eq_true rfl⟩) hP12 hD12 hS12 hA [] [] rfl rfl (by decide) (by decide) (by decide) (by decide) (fun r15 w15 H15 lo15 e15 hR15 hP15r hD15r hS15 => ?_)
  subst hR15
  subst e15
  have hP15 : va_P D classes [] H15 := hP15r
  have hD15 : va_D A [] := hD15r
  clear hP15r hD15r
  clear hP12 hD12 hS12
  clear H12 lo12
  refine tp_i (y := 3) (by decide) ?_
  refine lv_icmp_ge (pc := 9) (tgt := 33) hx hb dX12_packed_9 (by decide) (fun c16 => absurd c16 (by decide)) (fun c16 => ?_)
  refine lv_lload_n (pc := 12) hx hb dX12_packed_12 rfl (lv_at hl14 1 rfl) ?_
  refine lv_bipush (pc := 13) (v := 6) hx hb dX12_packed_13 (by decide) ?_
  refine lv_lshl (pc := 15) (v := (((((0 : Int64) <<< ((6 : Int32).toInt64 &&& 63)) ||| ((r6 : Int32).toInt64) : Int64) <<< ((6 : Int32).toInt64 &&& 63)) ||| ((r12 : Int32).toInt64) : Int64) <<< ((6 : Int32).toInt64 &&& 63)) hx hb dX12_packed_15 rfl ?_
  refine lv_aload_n (pc := 16) hx hb dX12_packed_16 rfl (lv_at hl14 2 rfl) ?_
  refine lv_iload_n (pc := 17) hx hb dX12_packed_17 rfl (lv_at hl14 0 rfl) ?_
  refine cq_i (pc := 18) (wr := []) (k2 := 0) (n2 := 0) (va_runV (As := [.int 2]) (rest := [.long ((((((0 : Int64) <<< ((6 : Int32).toInt64 &&& 63)) ||| ((r6 : Int32).toInt64) : Int64) <<< ((6 : Int32).toInt64 &&& 63)) ||| ((r12 : Int32).toInt64) : Int64) <<< ((6 : Int32).toInt64 &&& 63))]) ⟨hx, hb, hml, hown, hG⟩ (c_charAt l D cy kv H15.size 2 6 93 ("min") 3 (by decide) (by decide) (by decide) (show ¬ ((2 : Int32) < 0 ∨ 3 ≤ (2 : Int32).toNatClampNeg) by decide)) (cwV 1 hG (gi_V g_329 g_330 g_331 g_306 g_324) rfl rfl rfl (by decide +kernel) ⟨Nat.le_of_ble_eq_true rfl, Nat.le_of_ble_eq_true rfl⟩) ⟨pq_blind, (st_recv (hE.2.2.2.2.2.2.2 (6, 93, "min", 3) (by decide)).2 hS15), (pq_pass hP15 hD15 hK hE hS15 hA [] rfl (by decide))⟩ rfl rfl hl14.1 rfl (lv_room (Nat.le_of_ble_eq_true rfl)) dX12_packed_18 ⟨Nat.le_of_ble_eq_true rfl, Nat.le_of_ble_eq_true rfl⟩) hP15 hD15 hS15 hA [] [] rfl rfl (by decide) (by decide) (by decide) (by decide) (fun r17 w17 H17 lo17 e17 hR17 hP17r hD17r hS17 => ?_)
  subst hR17
  have hP17 : va_P D classes [] H17 := hP17r
  have hD17 : va_D A [] := hD17r
  clear hP17r hD17r
  clear hP15 hD15 hS15
  clear H15 lo15
  refine cq_i (pc := 21) (wr := []) (k2 := 0) (n2 := 0) (va_runS (As := [.int r17]) (rest := [.long ((((((0 : Int64) <<< ((6 : Int32).toInt64 &&& 63)) ||| ((r6 : Int32).toInt64) : Int64) <<< ((6 : Int32).toInt64 &&& 63)) ||| ((r12 : Int32).toInt64) : Int64) <<< ((6 : Int32).toInt64 &&& 63))]) ⟨hx, hb, hml, hown, hG⟩ (c_signOf l D cy kv H17.size r17) (va_cwS 1 hG (gi_S g_332 g_333 g_334 g_325) rfl rfl rfl (by decide +kernel) ⟨Nat.le_of_ble_eq_true rfl, Nat.le_of_ble_eq_true rfl⟩) ⟨pq_blind, (pq_pass hP17 hD17 hK hE hS17 hA [] rfl (by decide))⟩ rfl rfl hl14.1 rfl (lv_room (Nat.le_of_ble_eq_true rfl)) dX12_packed_21 ⟨Nat.le_of_ble_eq_true rfl, Nat.le_of_ble_eq_true rfl⟩) hP17 hD17 hS17 hA [] [] rfl rfl (by decide) (by decide) (by decide) (by decide) (fun r18 w18 H18 lo18 e18 hR18 hP18r hD18r hS18 => ?_)
  subst hR18
  have hP18 : va_P D classes [] H18 := hP18r
  have hD18 : va_D A [] := hD18r
  clear hP18r hD18r
  clear hP17 hD17 hS17
  clear H17 lo17
  refine lv_i2l (pc := 24) (v := (r18 : Int32).toInt64) hx hb dX12_packed_24 rfl ?_
  refine lv_lor (pc := 25) hx hb dX12_packed_25 ?_
  refine lv_lstore_n (pc := 26) (lv' := [(1, .long (((((((0 : Int64) <<< ((6 : Int32).toInt64 &&& 63)) ||| ((r6 : Int32).toInt64) : Int64) <<< ((6 : Int32).toInt64 &&& 63)) ||| ((r12 : Int32).toInt64) : Int64) <<< ((6 : Int32).toInt64 &&& 63)) ||| ((r18 : Int32).toInt64))), (3, .int 2), (0, .ref (kv.1 6))]) hx hb dX12_packed_26 rfl hl14 (by decide) rfl (fun ls19 hl19 => ?_)
  clear hl14 ls14
  refine lv_iinc (pc := 27) (v := 3) (lv' := [(3, .int 3), (1, .long (((((((0 : Int64) <<< ((6 : Int32).toInt64 &&& 63)) ||| ((r6 : Int32).toInt64) : Int64) <<< ((6 : Int32).toInt64 &&& 63)) ||| ((r12 : Int32).toInt64) : Int64) <<< ((6 : Int32).toInt64 &&& 63)) ||| ((r18 : Int32).toInt64))), (0, .ref (kv.1 6))]) hx hb dX12_packed_27 hl19 (k := 1) rfl (by decide) (by decide) rfl (fun ls20 hl20 => ?_)
  clear hl19 ls19
  refine lv_goto (pc := 30) (tgt := 4) hx hb dX12_packed_30 (by decide) ?_
  refine lv_iload_n (pc := 4) hx hb dX12_packed_4 rfl (lv_at hl20 0 rfl) ?_
  refine lv_aload_n (pc := 5) hx hb dX12_packed_5 rfl (lv_at hl20 2 rfl) ?_
  refine cq_i (pc := 6) (wr := []) (k2 := 0) (n2 := 0) (va_runV (As := []) (rest := [.int 3]) ⟨hx, hb, hml, hown, hG⟩ (c_strlen l D cy kv H18.size 6 93 ("min") 3 (by decide)) (cwV 0 hG (gi_V g_326 g_327 g_328 g_306 g_307) rfl rfl rfl (by decide +kernel) ⟨Nat.le_of_ble_eq_true rfl, Nat.le_of_ble_eq_true rfl⟩) ⟨pq_blind, (st_recv (hE.2.2.2.2.2.2.2 (6, 93, "min", 3) (by decide)).2 hS18), (pq_pass hP18 hD18 hK hE hS18 hA [] rfl (by decide))⟩ rfl rfl hl20.1 rfl (lv_room (Nat.le_of_ble_eq_true rfl)) dX12_packed_6 ⟨Nat.le_of_ble_eq_true rfl, Nat.le_of_ble_eq_true rfl⟩) hP18 hD18 hS18 hA [] [] rfl rfl (by decide) (by decide) (by decide) (by decide) (fun r21 w21 H21 lo21 e21 hR21 hP21r hD21r hS21 => ?_)
  subst hR21
  subst e21
  have hP21 : va_P D classes [] H21 := hP21r
  have hD21 : va_D A [] := hD21r
  clear hP21r hD21r
  clear hP18 hD18 hS18
  clear H18 lo18
  refine tp_i (y := 3) (by decide) ?_
  refine lv_icmp_ge (pc := 9) (tgt := 33) hx hb dX12_packed_9 (by decide) (fun c22 => ?_) (fun c22 => absurd (by decide) c22)
  refine lv_lload_n (pc := 33) hx hb dX12_packed_33 rfl (lv_at hl20 1 rfl) ?_
  exact W.lret (pc := 34) (v := ((((((0 : Int64) <<< ((6 : Int32).toInt64 &&& 63)) ||| ((r6 : Int32).toInt64) : Int64) <<< ((6 : Int32).toInt64 &&& 63)) ||| ((r12 : Int32).toInt64) : Int64) <<< ((6 : Int32).toInt64 &&& 63)) ||| ((r18 : Int32).toInt64)) hx hb hr (fun t ht hW => ⟨⟨((((((0 : Int64) <<< ((6 : Int32).toInt64 &&& 63)) ||| ((r6 : Int32).toInt64) : Int64) <<< ((6 : Int32).toInt64 &&& 63)) ||| ((r12 : Int32).toInt64) : Int64) <<< ((6 : Int32).toInt64 &&& 63)) ||| ((r18 : Int32).toInt64), (), rfl, trivial, _, rfl, by rw [ht]; exact hP21, hD21⟩, hS21.F ht⟩) hS21.2.2 dX12_packed_34
set_option maxHeartbeats 4000000 in
set_option maxRecDepth 100000 in
/-- X12_packed -/
theorem c_packed7 (l : Launch) (D : va_G) (cy : Nat → ClassId) (kv : KV) (sz : Nat) : Met l yX12_packed (Cond.code yX12_packed cX12_packed 4 (some .long) :: GW) ({ frames := 12, cells := 0, slots := 0, locals := 280 } : Room) (va_Pc [.ref (kv.1 7)] (pcq D cy kv sz [])) (va_Ql (fun r (_ : Unit) => (fun _ => True) r) (fun _ t => bq D (fun w => w = []) (va_A [] sz) t) (va_A [] sz)) 0 0 (va_A [] sz) := by
  refine Met.ofW (cc := cX12_packed) (maxL := 4) (ret := (some .long)) (by decide) rfl ?_
  intro p e s m args below meth c s₁ B hml hv
  obtain ⟨rfl, hsz, hP, hK, hD0, hE⟩ := hv
  have hx := B.exec
  have hb := B.bytes
  have hr := B.returns
  have hG : ∀ w ∈ GW, w.before ([.ref (kv.1 7)] : List Value).toArray s = true := fun w h => atoms_spec (ws := Cond.code yX12_packed cX12_packed 4 (some .long) :: GW) B.pre w (List.mem_cons_of_mem _ h)
  have hown : s.vm.findClass RX12 = some m.cls := findClass_of_methodNamed B.named
  have hlocks := B.notSynchronized
  subst hsz
  have hD := hD0.self (sz := s.heap.size)
  generalize hAe : va_A [] s.heap.size = A at hD hE ⊢
  have hA : ∀ q : Nat, s.heap.size ≤ q → A q := fun q h => by rw [← hAe]; exact Or.inr h
  have hS : va_S A s.heap s.heap [] := va_S.rf
  clear hAe hD0
  have hl0 := lv_entry ([.ref (kv.1 7)]) (n := 4) (Nat.le_of_ble_eq_true rfl)
  rw [lg_entry_eq]
  generalize (lg_sl ([.ref (kv.1 7)]) ++ List.replicate (4 - (lg_sl ([.ref (kv.1 7)])).length) Slot.unset).toArray = ls at hl0 ⊢
  have hl : lv_has ls 4 [(0, .ref (kv.1 7))] := hl0
  clear hl0
  refine lv_lconst (pc := 0) (v := 0) hx hb dX12_packed_0 (by decide) ?_
  refine lv_lstore_n (pc := 1) (lv' := [(1, .long 0), (0, .ref (kv.1 7))]) hx hb dX12_packed_1 rfl hl (by decide) rfl (fun ls1 hl1 => ?_)
  clear hl ls
  refine lv_iconst (pc := 2) (v := 0) hx hb dX12_packed_2 (by decide) ?_
  refine lv_istore_n (pc := 3) (lv' := [(3, .int 0), (1, .long 0), (0, .ref (kv.1 7))]) hx hb dX12_packed_3 rfl hl1 (by decide) rfl (fun ls2 hl2 => ?_)
  clear hl1 ls1
  refine lv_iload_n (pc := 4) hx hb dX12_packed_4 rfl (lv_at hl2 0 rfl) ?_
  refine lv_aload_n (pc := 5) hx hb dX12_packed_5 rfl (lv_at hl2 2 rfl) ?_
  refine cq_i (pc := 6) (wr := []) (k2 := 0) (n2 := 0) (va_runV (As := []) (rest := [.int 0]) ⟨hx, hb, hml, hown, hG⟩ (c_strlen l D cy kv s.heap.size 7 95 ("max") 3 (by decide)) (cwV 0 hG (gi_V g_326 g_327 g_328 g_306 g_307) rfl rfl rfl (by decide +kernel) ⟨Nat.le_of_ble_eq_true rfl, Nat.le_of_ble_eq_true rfl⟩) ⟨pq_blind, (st_recv (hE.2.2.2.2.2.2.2 (7, 95, "max", 3) (by decide)).2 hS), (pq_pass hP hD hK hE hS hA [] rfl (by decide))⟩ rfl rfl hl2.1 rfl (lv_room (Nat.le_of_ble_eq_true rfl)) dX12_packed_6 ⟨Nat.le_of_ble_eq_true rfl, Nat.le_of_ble_eq_true rfl⟩) hP hD hS hA [] [] rfl rfl (by decide) (by decide) (by decide) (by decide) (fun r3 w3 H3 lo3 e3 hR3 hP3r hD3r hS3 => ?_)
  subst hR3
  subst e3
  have hP3 : va_P D classes [] H3 := hP3r
  have hD3 : va_D A [] := hD3r
  clear hP3r hD3r
  clear hP hD hS
  refine tp_i (y := 3) (by decide) ?_
  refine lv_icmp_ge (pc := 9) (tgt := 33) hx hb dX12_packed_9 (by decide) (fun c4 => absurd c4 (by decide)) (fun c4 => ?_)
  refine lv_lload_n (pc := 12) hx hb dX12_packed_12 rfl (lv_at hl2 1 rfl) ?_
  refine lv_bipush (pc := 13) (v := 6) hx hb dX12_packed_13 (by decide) ?_
  refine lv_lshl (pc := 15) (v := (0 : Int64) <<< ((6 : Int32).toInt64 &&& 63)) hx hb dX12_packed_15 rfl ?_
  refine lv_aload_n (pc := 16) hx hb dX12_packed_16 rfl (lv_at hl2 2 rfl) ?_
  refine lv_iload_n (pc := 17) hx hb dX12_packed_17 rfl (lv_at hl2 0 rfl) ?_
  refine cq_i (pc := 18) (wr := []) (k2 := 0) (n2 := 0) (va_runV (As := [.int 0]) (rest := [.long ((0 : Int64) <<< ((6 : Int32).toInt64 &&& 63))]) ⟨hx, hb, hml, hown, hG⟩ (c_charAt l D cy kv H3.size 0 7 95 ("max") 3 (by decide) (by decide) (by decide) (show ¬ ((0 : Int32) < 0 ∨ 3 ≤ (0 : Int32).toNatClampNeg) by decide)) (cwV 1 hG (gi_V g_329 g_330 g_331 g_306 g_324) rfl rfl rfl (by decide +kernel) ⟨Nat.le_of_ble_eq_true rfl, Nat.le_of_ble_eq_true rfl⟩) ⟨pq_blind, (st_recv (hE.2.2.2.2.2.2.2 (7, 95, "max", 3) (by decide)).2 hS3), (pq_pass hP3 hD3 hK hE hS3 hA [] rfl (by decide))⟩ rfl rfl hl2.1 rfl (lv_room (Nat.le_of_ble_eq_true rfl)) dX12_packed_18 ⟨Nat.le_of_ble_eq_true rfl, Nat.le_of_ble_eq_true rfl⟩) hP3 hD3 hS3 hA [] [] rfl rfl (by decide) (by decide) (by decide) (by decide) (fun r5 w5 H5 lo5 e5 hR5 hP5r hD5r hS5 => ?_)
  subst hR5
  have hP5 : va_P D classes [] H5 := hP5r
  have hD5 : va_D A [] := hD5r
  clear hP5r hD5r
  clear hP3 hD3 hS3
  clear H3 lo3
  refine cq_i (pc := 21) (wr := []) (k2 := 0) (n2 := 0) (va_runS (As := [.int r5]) (rest := [.long ((0 : Int64) <<< ((6 : Int32).toInt64 &&& 63))]) ⟨hx, hb, hml, hown, hG⟩ (c_signOf l D cy kv H5.size r5) (va_cwS 1 hG (gi_S g_332 g_333 g_334 g_325) rfl rfl rfl (by decide +kernel) ⟨Nat.le_of_ble_eq_true rfl, Nat.le_of_ble_eq_true rfl⟩) ⟨pq_blind, (pq_pass hP5 hD5 hK hE hS5 hA [] rfl (by decide))⟩ rfl rfl hl2.1 rfl (lv_room (Nat.le_of_ble_eq_true rfl)) dX12_packed_21 ⟨Nat.le_of_ble_eq_true rfl, Nat.le_of_ble_eq_true rfl⟩) hP5 hD5 hS5 hA [] [] rfl rfl (by decide) (by decide) (by decide) (by decide) (fun r6 w6 H6 lo6 e6 hR6 hP6r hD6r hS6 => ?_)
  subst hR6
  have hP6 : va_P D classes [] H6 := hP6r
  have hD6 : va_D A [] := hD6r
  clear hP6r hD6r
  clear hP5 hD5 hS5
  clear H5 lo5
  refine lv_i2l (pc := 24) (v := (r6 : Int32).toInt64) hx hb dX12_packed_24 rfl ?_
  refine lv_lor (pc := 25) hx hb dX12_packed_25 ?_
  refine lv_lstore_n (pc := 26) (lv' := [(1, .long (((0 : Int64) <<< ((6 : Int32).toInt64 &&& 63)) ||| ((r6 : Int32).toInt64))), (3, .int 0), (0, .ref (kv.1 7))]) hx hb dX12_packed_26 rfl hl2 (by decide) rfl (fun ls7 hl7 => ?_)
  clear hl2 ls2
  refine lv_iinc (pc := 27) (v := 1) (lv' := [(3, .int 1), (1, .long (((0 : Int64) <<< ((6 : Int32).toInt64 &&& 63)) ||| ((r6 : Int32).toInt64))), (0, .ref (kv.1 7))]) hx hb dX12_packed_27 hl7 (k := 1) rfl (by decide) (by decide) rfl (fun ls8 hl8 => ?_)
  clear hl7 ls7
  refine lv_goto (pc := 30) (tgt := 4) hx hb dX12_packed_30 (by decide) ?_
  refine lv_iload_n (pc := 4) hx hb dX12_packed_4 rfl (lv_at hl8 0 rfl) ?_
  refine lv_aload_n (pc := 5) hx hb dX12_packed_5 rfl (lv_at hl8 2 rfl) ?_
  refine cq_i (pc := 6) (wr := []) (k2 := 0) (n2 := 0) (va_runV (As := []) (rest := [.int 1]) ⟨hx, hb, hml, hown, hG⟩ (c_strlen l D cy kv H6.size 7 95 ("max") 3 (by decide)) (cwV 0 hG (gi_V g_326 g_327 g_328 g_306 g_307) rfl rfl rfl (by decide +kernel) ⟨Nat.le_of_ble_eq_true rfl, Nat.le_of_ble_eq_true rfl⟩) ⟨pq_blind, (st_recv (hE.2.2.2.2.2.2.2 (7, 95, "max", 3) (by decide)).2 hS6), (pq_pass hP6 hD6 hK hE hS6 hA [] rfl (by decide))⟩ rfl rfl hl8.1 rfl (lv_room (Nat.le_of_ble_eq_true rfl)) dX12_packed_6 ⟨Nat.le_of_ble_eq_true rfl, Nat.le_of_ble_eq_true rfl⟩) hP6 hD6 hS6 hA [] [] rfl rfl (by decide) (by decide) (by decide) (by decide) (fun r9 w9 H9 lo9 e9 hR9 hP9r hD9r hS9 => ?_)
  subst hR9
  subst e9
  have hP9 : va_P D classes [] H9 := hP9r
  have hD9 : va_D A [] := hD9r
  clear hP9r hD9r
  clear hP6 hD6 hS6
  clear H6 lo6
  refine tp_i (y := 3) (by decide) ?_
  refine lv_icmp_ge (pc := 9) (tgt := 33) hx hb dX12_packed_9 (by decide) (fun c10 => absurd c10 (by decide)) (fun c10 => ?_)
  refine lv_lload_n (pc := 12) hx hb dX12_packed_12 rfl (lv_at hl8 1 rfl) ?_
  refine lv_bipush (pc := 13) (v := 6) hx hb dX12_packed_13 (by decide) ?_
  refine lv_lshl (pc := 15) (v := (((0 : Int64) <<< ((6 : Int32).toInt64 &&& 63)) ||| ((r6 : Int32).toInt64) : Int64) <<< ((6 : Int32).toInt64 &&& 63)) hx hb dX12_packed_15 rfl ?_
  refine lv_aload_n (pc := 16) hx hb dX12_packed_16 rfl (lv_at hl8 2 rfl) ?_
  refine lv_iload_n (pc := 17) hx hb dX12_packed_17 rfl (lv_at hl8 0 rfl) ?_
  refine cq_i (pc := 18) (wr := []) (k2 := 0) (n2 := 0) (va_runV (As := [.int 1]) (rest := [.long ((((0 : Int64) <<< ((6 : Int32).toInt64 &&& 63)) ||| ((r6 : Int32).toInt64) : Int64) <<< ((6 : Int32).toInt64 &&& 63))]) ⟨hx, hb, hml, hown, hG⟩ (c_charAt l D cy kv H9.size 1 7 95 ("max") 3 (by decide) (by decide) (by decide) (show ¬ ((1 : Int32) < 0 ∨ 3 ≤ (1 : Int32).toNatClampNeg) by decide)) (cwV 1 hG (gi_V g_329 g_330 g_331 g_306 g_324) rfl rfl rfl (by decide +kernel) ⟨Nat.le_of_ble_eq_true rfl, Nat.le_of_ble_eq_true rfl⟩) ⟨pq_blind, (st_recv (hE.2.2.2.2.2.2.2 (7, 95, "max", 3) (by decide)).2 hS9), (pq_pass hP9 hD9 hK hE hS9 hA [] rfl (by decide))⟩ rfl rfl hl8.1 rfl (lv_room (Nat.le_of_ble_eq_true rfl)) dX12_packed_18 ⟨Nat.le_of_ble_eq_true rfl, Nat.le_of_ble_eq_true rfl⟩) hP9 hD9 hS9 hA [] [] rfl rfl (by decide) (by decide) (by decide) (by decide) (fun r11 w11 H11 lo11 e11 hR11 hP11r hD11r hS11 => ?_)
  subst hR11
  have hP11 : va_P D classes [] H11 := hP11r
  have hD11 : va_D A [] := hD11r
  clear hP11r hD11r
  clear hP9 hD9 hS9
  clear H9 lo9
  refine cq_i (pc := 21) (wr := []) (k2 := 0) (n2 := 0) (va_runS (As := [.int r11]) (rest := [.long ((((0 : Int64) <<< ((6 : Int32).toInt64 &&& 63)) ||| ((r6 : Int32).toInt64) : Int64) <<< ((6 : Int32).toInt64 &&& 63))]) ⟨hx, hb, hml, hown, hG⟩ (c_signOf l D cy kv H11.size r11) (va_cwS 1 hG (gi_S g_332 g_333 g_334 g_325) rfl rfl rfl (by decide +kernel) ⟨Nat.le_of_ble_eq_true rfl, Nat.le_of_ble_eq_true rfl⟩) ⟨pq_blind, (pq_pass hP11 hD11 hK hE hS11 hA [] rfl (by decide))⟩ rfl rfl hl8.1 rfl (lv_room (Nat.le_of_ble_eq_true rfl)) dX12_packed_21 ⟨Nat.le_of_ble_eq_true rfl, Nat.le_of_ble_eq_true rfl⟩) hP11 hD11 hS11 hA [] [] rfl rfl (by decide) (by decide) (by decide) (by decide) (fun r12 w12 H12 lo12 e12 hR12 hP12r hD12r hS12 => ?_)
  subst hR12
  have hP12 : va_P D classes [] H12 := hP12r
  have hD12 : va_D A [] := hD12r
  clear hP12r hD12r
  clear hP11 hD11 hS11
  clear H11 lo11
  refine lv_i2l (pc := 24) (v := (r12 : Int32).toInt64) hx hb dX12_packed_24 rfl ?_
  refine lv_lor (pc := 25) hx hb dX12_packed_25 ?_
  refine lv_lstore_n (pc := 26) (lv' := [(1, .long (((((0 : Int64) <<< ((6 : Int32).toInt64 &&& 63)) ||| ((r6 : Int32).toInt64) : Int64) <<< ((6 : Int32).toInt64 &&& 63)) ||| ((r12 : Int32).toInt64))), (3, .int 1), (0, .ref (kv.1 7))]) hx hb dX12_packed_26 rfl hl8 (by decide) rfl (fun ls13 hl13 => ?_)
  clear hl8 ls8
  refine lv_iinc (pc := 27) (v := 2) (lv' := [(3, .int 2), (1, .long (((((0 : Int64) <<< ((6 : Int32).toInt64 &&& 63)) ||| ((r6 : Int32).toInt64) : Int64) <<< ((6 : Int32).toInt64 &&& 63)) ||| ((r12 : Int32).toInt64))), (0, .ref (kv.1 7))]) hx hb dX12_packed_27 hl13 (k := 1) rfl (by decide) (by decide) rfl (fun ls14 hl14 => ?_)
  clear hl13 ls13
  refine lv_goto (pc := 30) (tgt := 4) hx hb dX12_packed_30 (by decide) ?_
  refine lv_iload_n (pc := 4) hx hb dX12_packed_4 rfl (lv_at hl14 0 rfl) ?_
  refine lv_aload_n (pc := 5) hx hb dX12_packed_5 rfl (lv_at hl14 2 rfl) ?_
  refine cq_i (pc := 6) (wr := []) (k2 := 0) (n2 := 0) (va_runV (As := []) (rest := [.int 2]) ⟨hx, hb, hml, hown, hG⟩ (c_strlen l D cy kv H12.size 7 95 ("max") 3 (by decide)) (cwV 0 hG (gi_V g_326 g_327 g_328 g_306 g_307) rfl rfl rfl (by decide +kernel) ⟨Nat.le_of_ble_eq_true rfl, Nat.le_of_ble_eq_true rfl⟩) ⟨pq_blind, (st_recv (hE.2.2.2.2.2.2.2 (7, 95, "max", 3) (by decide)).2 hS12), (pq_pass hP12 hD12 hK hE hS12 hA [] rfl (by decide))⟩ rfl rfl hl14.1 rfl (lv_room (Nat.le_of_ble_eq_true rfl)) dX12_packed_6 ⟨Nat.le_of_ble_eq_true rfl, Nat.le_of_ble_eq_true rfl⟩) hP12 hD12 hS12 hA [] [] rfl rfl (by decide) (by decide) (by decide) (by decide) (fun r15 w15 H15 lo15 e15 hR15 hP15r hD15r hS15 => ?_)
  subst hR15
  subst e15
  have hP15 : va_P D classes [] H15 := hP15r
  have hD15 : va_D A [] := hD15r
  clear hP15r hD15r
  clear hP12 hD12 hS12
  clear H12 lo12
  refine tp_i (y := 3) (by decide) ?_
  refine lv_icmp_ge (pc := 9) (tgt := 33) hx hb dX12_packed_9 (by decide) (fun c16 => absurd c16 (by decide)) (fun c16 => ?_)
  refine lv_lload_n (pc := 12) hx hb dX12_packed_12 rfl (lv_at hl14 1 rfl) ?_
  refine lv_bipush (pc := 13) (v := 6) hx hb dX12_packed_13 (by decide) ?_
  refine lv_lshl (pc := 15) (v := (((((0 : Int64) <<< ((6 : Int32).toInt64 &&& 63)) ||| ((r6 : Int32).toInt64) : Int64) <<< ((6 : Int32).toInt64 &&& 63)) ||| ((r12 : Int32).toInt64) : Int64) <<< ((6 : Int32).toInt64 &&& 63)) hx hb dX12_packed_15 rfl ?_
  refine lv_aload_n (pc := 16) hx hb dX12_packed_16 rfl (lv_at hl14 2 rfl) ?_
  refine lv_iload_n (pc := 17) hx hb dX12_packed_17 rfl (lv_at hl14 0 rfl) ?_
  refine cq_i (pc := 18) (wr := []) (k2 := 0) (n2 := 0) (va_runV (As := [.int 2]) (rest := [.long ((((((0 : Int64) <<< ((6 : Int32).toInt64 &&& 63)) ||| ((r6 : Int32).toInt64) : Int64) <<< ((6 : Int32).toInt64 &&& 63)) ||| ((r12 : Int32).toInt64) : Int64) <<< ((6 : Int32).toInt64 &&& 63))]) ⟨hx, hb, hml, hown, hG⟩ (c_charAt l D cy kv H15.size 2 7 95 ("max") 3 (by decide) (by decide) (by decide) (show ¬ ((2 : Int32) < 0 ∨ 3 ≤ (2 : Int32).toNatClampNeg) by decide)) (cwV 1 hG (gi_V g_329 g_330 g_331 g_306 g_324) rfl rfl rfl (by decide +kernel) ⟨Nat.le_of_ble_eq_true rfl, Nat.le_of_ble_eq_true rfl⟩) ⟨pq_blind, (st_recv (hE.2.2.2.2.2.2.2 (7, 95, "max", 3) (by decide)).2 hS15), (pq_pass hP15 hD15 hK hE hS15 hA [] rfl (by decide))⟩ rfl rfl hl14.1 rfl (lv_room (Nat.le_of_ble_eq_true rfl)) dX12_packed_18 ⟨Nat.le_of_ble_eq_true rfl, Nat.le_of_ble_eq_true rfl⟩) hP15 hD15 hS15 hA [] [] rfl rfl (by decide) (by decide) (by decide) (by decide) (fun r17 w17 H17 lo17 e17 hR17 hP17r hD17r hS17 => ?_)
  subst hR17
  have hP17 : va_P D classes [] H17 := hP17r
  have hD17 : va_D A [] := hD17r
  clear hP17r hD17r
  clear hP15 hD15 hS15
  clear H15 lo15
  refine cq_i (pc := 21) (wr := []) (k2 := 0) (n2 := 0) (va_runS (As := [.int r17]) (rest := [.long ((((((0 : Int64) <<< ((6 : Int32).toInt64 &&& 63)) ||| ((r6 : Int32).toInt64) : Int64) <<< ((6 : Int32).toInt64 &&& 63)) ||| ((r12 : Int32).toInt64) : Int64) <<< ((6 : Int32).toInt64 &&& 63))]) ⟨hx, hb, hml, hown, hG⟩ (c_signOf l D cy kv H17.size r17) (va_cwS 1 hG (gi_S g_332 g_333 g_334 g_325) rfl rfl rfl (by decide +kernel) ⟨Nat.le_of_ble_eq_true rfl, Nat.le_of_ble_eq_true rfl⟩) ⟨pq_blind, (pq_pass hP17 hD17 hK hE hS17 hA [] rfl (by decide))⟩ rfl rfl hl14.1 rfl (lv_room (Nat.le_of_ble_eq_true rfl)) dX12_packed_21 ⟨Nat.le_of_ble_eq_true rfl, Nat.le_of_ble_eq_true rfl⟩) hP17 hD17 hS17 hA [] [] rfl rfl (by decide) (by decide) (by decide) (by decide) (fun r18 w18 H18 lo18 e18 hR18 hP18r hD18r hS18 => ?_)
  subst hR18
  have hP18 : va_P D classes [] H18 := hP18r
  have hD18 : va_D A [] := hD18r
  clear hP18r hD18r
  clear hP17 hD17 hS17
  clear H17 lo17
  refine lv_i2l (pc := 24) (v := (r18 : Int32).toInt64) hx hb dX12_packed_24 rfl ?_
  refine lv_lor (pc := 25) hx hb dX12_packed_25 ?_
  refine lv_lstore_n (pc := 26) (lv' := [(1, .long (((((((0 : Int64) <<< ((6 : Int32).toInt64 &&& 63)) ||| ((r6 : Int32).toInt64) : Int64) <<< ((6 : Int32).toInt64 &&& 63)) ||| ((r12 : Int32).toInt64) : Int64) <<< ((6 : Int32).toInt64 &&& 63)) ||| ((r18 : Int32).toInt64))), (3, .int 2), (0, .ref (kv.1 7))]) hx hb dX12_packed_26 rfl hl14 (by decide) rfl (fun ls19 hl19 => ?_)
  clear hl14 ls14
  refine lv_iinc (pc := 27) (v := 3) (lv' := [(3, .int 3), (1, .long (((((((0 : Int64) <<< ((6 : Int32).toInt64 &&& 63)) ||| ((r6 : Int32).toInt64) : Int64) <<< ((6 : Int32).toInt64 &&& 63)) ||| ((r12 : Int32).toInt64) : Int64) <<< ((6 : Int32).toInt64 &&& 63)) ||| ((r18 : Int32).toInt64))), (0, .ref (kv.1 7))]) hx hb dX12_packed_27 hl19 (k := 1) rfl (by decide) (by decide) rfl (fun ls20 hl20 => ?_)
  clear hl19 ls19
  refine lv_goto (pc := 30) (tgt := 4) hx hb dX12_packed_30 (by decide) ?_
  refine lv_iload_n (pc := 4) hx hb dX12_packed_4 rfl (lv_at hl20 0 rfl) ?_
  refine lv_aload_n (pc := 5) hx hb dX12_packed_5 rfl (lv_at hl20 2 rfl) ?_
  refine cq_i (pc := 6) (wr := []) (k2 := 0) (n2 := 0) (va_runV (As := []) (rest := [.int 3]) ⟨hx, hb, hml, hown, hG⟩ (c_strlen l D cy kv H18.size 7 95 ("max") 3 (by decide)) (cwV 0 hG (gi_V g_326 g_327 g_328 g_306 g_307) rfl rfl rfl (by decide +kernel) ⟨Nat.le_of_ble_eq_true rfl, Nat.le_of_ble_eq_true rfl⟩) ⟨pq_blind, (st_recv (hE.2.2.2.2.2.2.2 (7, 95, "max", 3) (by decide)).2 hS18), (pq_pass hP18 hD18 hK hE hS18 hA [] rfl (by decide))⟩ rfl rfl hl20.1 rfl (lv_room (Nat.le_of_ble_eq_true rfl)) dX12_packed_6 ⟨Nat.le_of_ble_eq_true rfl, Nat.le_of_ble_eq_true rfl⟩) hP18 hD18 hS18 hA [] [] rfl rfl (by decide) (by decide) (by decide) (by decide) (fun r21 w21 H21 lo21 e21 hR21 hP21r hD21r hS21 => ?_)
  subst hR21
  subst e21
  have hP21 : va_P D classes [] H21 := hP21r
  have hD21 : va_D A [] := hD21r
  clear hP21r hD21r
  clear hP18 hD18 hS18
  clear H18 lo18
  refine tp_i (y := 3) (by decide) ?_
  refine lv_icmp_ge (pc := 9) (tgt := 33) hx hb dX12_packed_9 (by decide) (fun c22 => ?_) (fun c22 => absurd (by decide) c22)
  refine lv_lload_n (pc := 33) hx hb dX12_packed_33 rfl (lv_at hl20 1 rfl) ?_
  exact W.lret (pc := 34) (v := ((((((0 : Int64) <<< ((6 : Int32).toInt64 &&& 63)) ||| ((r6 : Int32).toInt64) : Int64) <<< ((6 : Int32).toInt64 &&& 63)) ||| ((r12 : Int32).toInt64) : Int64) <<< ((6 : Int32).toInt64 &&& 63)) ||| ((r18 : Int32).toInt64)) hx hb hr (fun t ht hW => ⟨⟨((((((0 : Int64) <<< ((6 : Int32).toInt64 &&& 63)) ||| ((r6 : Int32).toInt64) : Int64) <<< ((6 : Int32).toInt64 &&& 63)) ||| ((r12 : Int32).toInt64) : Int64) <<< ((6 : Int32).toInt64 &&& 63)) ||| ((r18 : Int32).toInt64), (), rfl, trivial, _, rfl, by rw [ht]; exact hP21, hD21⟩, hS21.F ht⟩) hS21.2.2 dX12_packed_34
set_option maxHeartbeats 4000000 in
set_option maxRecDepth 100000 in
/-- X12_packed -/
theorem c_packed8 (l : Launch) (D : va_G) (cy : Nat → ClassId) (kv : KV) (sz : Nat) : Met l yX12_packed (Cond.code yX12_packed cX12_packed 4 (some .long) :: GW) ({ frames := 12, cells := 0, slots := 0, locals := 280 } : Room) (va_Pc [.ref (kv.1 8)] (pcq D cy kv sz [])) (va_Ql (fun r (_ : Unit) => (fun _ => True) r) (fun _ t => bq D (fun w => w = []) (va_A [] sz) t) (va_A [] sz)) 0 0 (va_A [] sz) := by
  refine Met.ofW (cc := cX12_packed) (maxL := 4) (ret := (some .long)) (by decide) rfl ?_
  intro p e s m args below meth c s₁ B hml hv
  obtain ⟨rfl, hsz, hP, hK, hD0, hE⟩ := hv
  have hx := B.exec
  have hb := B.bytes
  have hr := B.returns
  have hG : ∀ w ∈ GW, w.before ([.ref (kv.1 8)] : List Value).toArray s = true := fun w h => atoms_spec (ws := Cond.code yX12_packed cX12_packed 4 (some .long) :: GW) B.pre w (List.mem_cons_of_mem _ h)
  have hown : s.vm.findClass RX12 = some m.cls := findClass_of_methodNamed B.named
  have hlocks := B.notSynchronized
  subst hsz
  have hD := hD0.self (sz := s.heap.size)
  generalize hAe : va_A [] s.heap.size = A at hD hE ⊢
  have hA : ∀ q : Nat, s.heap.size ≤ q → A q := fun q h => by rw [← hAe]; exact Or.inr h
  have hS : va_S A s.heap s.heap [] := va_S.rf
  clear hAe hD0
  have hl0 := lv_entry ([.ref (kv.1 8)]) (n := 4) (Nat.le_of_ble_eq_true rfl)
  rw [lg_entry_eq]
  generalize (lg_sl ([.ref (kv.1 8)]) ++ List.replicate (4 - (lg_sl ([.ref (kv.1 8)])).length) Slot.unset).toArray = ls at hl0 ⊢
  have hl : lv_has ls 4 [(0, .ref (kv.1 8))] := hl0
  clear hl0
  refine lv_lconst (pc := 0) (v := 0) hx hb dX12_packed_0 (by decide) ?_
  refine lv_lstore_n (pc := 1) (lv' := [(1, .long 0), (0, .ref (kv.1 8))]) hx hb dX12_packed_1 rfl hl (by decide) rfl (fun ls1 hl1 => ?_)
  clear hl ls
  refine lv_iconst (pc := 2) (v := 0) hx hb dX12_packed_2 (by decide) ?_
  refine lv_istore_n (pc := 3) (lv' := [(3, .int 0), (1, .long 0), (0, .ref (kv.1 8))]) hx hb dX12_packed_3 rfl hl1 (by decide) rfl (fun ls2 hl2 => ?_)
  clear hl1 ls1
  refine lv_iload_n (pc := 4) hx hb dX12_packed_4 rfl (lv_at hl2 0 rfl) ?_
  refine lv_aload_n (pc := 5) hx hb dX12_packed_5 rfl (lv_at hl2 2 rfl) ?_
  refine cq_i (pc := 6) (wr := []) (k2 := 0) (n2 := 0) (va_runV (As := []) (rest := [.int 0]) ⟨hx, hb, hml, hown, hG⟩ (c_strlen l D cy kv s.heap.size 8 97 ("default") 7 (by decide)) (cwV 0 hG (gi_V g_326 g_327 g_328 g_306 g_307) rfl rfl rfl (by decide +kernel) ⟨Nat.le_of_ble_eq_true rfl, Nat.le_of_ble_eq_true rfl⟩) ⟨pq_blind, (st_recv (hE.2.2.2.2.2.2.2 (8, 97, "default", 7) (by decide)).2 hS), (pq_pass hP hD hK hE hS hA [] rfl (by decide))⟩ rfl rfl hl2.1 rfl (lv_room (Nat.le_of_ble_eq_true rfl)) dX12_packed_6 ⟨Nat.le_of_ble_eq_true rfl, Nat.le_of_ble_eq_true rfl⟩) hP hD hS hA [] [] rfl rfl (by decide) (by decide) (by decide) (by decide) (fun r3 w3 H3 lo3 e3 hR3 hP3r hD3r hS3 => ?_)
  subst hR3
  subst e3
  have hP3 : va_P D classes [] H3 := hP3r
  have hD3 : va_D A [] := hD3r
  clear hP3r hD3r
  clear hP hD hS
  refine tp_i (y := 7) (by decide) ?_
  refine lv_icmp_ge (pc := 9) (tgt := 33) hx hb dX12_packed_9 (by decide) (fun c4 => absurd c4 (by decide)) (fun c4 => ?_)
  refine lv_lload_n (pc := 12) hx hb dX12_packed_12 rfl (lv_at hl2 1 rfl) ?_
  refine lv_bipush (pc := 13) (v := 6) hx hb dX12_packed_13 (by decide) ?_
  refine lv_lshl (pc := 15) (v := (0 : Int64) <<< ((6 : Int32).toInt64 &&& 63)) hx hb dX12_packed_15 rfl ?_
  refine lv_aload_n (pc := 16) hx hb dX12_packed_16 rfl (lv_at hl2 2 rfl) ?_
  refine lv_iload_n (pc := 17) hx hb dX12_packed_17 rfl (lv_at hl2 0 rfl) ?_
  refine cq_i (pc := 18) (wr := []) (k2 := 0) (n2 := 0) (va_runV (As := [.int 0]) (rest := [.long ((0 : Int64) <<< ((6 : Int32).toInt64 &&& 63))]) ⟨hx, hb, hml, hown, hG⟩ (c_charAt l D cy kv H3.size 0 8 97 ("default") 7 (by decide) (by decide) (by decide) (show ¬ ((0 : Int32) < 0 ∨ 7 ≤ (0 : Int32).toNatClampNeg) by decide)) (cwV 1 hG (gi_V g_329 g_330 g_331 g_306 g_324) rfl rfl rfl (by decide +kernel) ⟨Nat.le_of_ble_eq_true rfl, Nat.le_of_ble_eq_true rfl⟩) ⟨pq_blind, (st_recv (hE.2.2.2.2.2.2.2 (8, 97, "default", 7) (by decide)).2 hS3), (pq_pass hP3 hD3 hK hE hS3 hA [] rfl (by decide))⟩ rfl rfl hl2.1 rfl (lv_room (Nat.le_of_ble_eq_true rfl)) dX12_packed_18 ⟨Nat.le_of_ble_eq_true rfl, Nat.le_of_ble_eq_true rfl⟩) hP3 hD3 hS3 hA [] [] rfl rfl (by decide) (by decide) (by decide) (by decide) (fun r5 w5 H5 lo5 e5 hR5 hP5r hD5r hS5 => ?_)
  subst hR5
  have hP5 : va_P D classes [] H5 := hP5r
  have hD5 : va_D A [] := hD5r
  clear hP5r hD5r
  clear hP3 hD3 hS3
  clear H3 lo3
  refine cq_i (pc := 21) (wr := []) (k2 := 0) (n2 := 0) (va_runS (As := [.int r5]) (rest := [.long ((0 : Int64) <<< ((6 : Int32).toInt64 &&& 63))]) ⟨hx, hb, hml, hown, hG⟩ (c_signOf l D cy kv H5.size r5) (va_cwS 1 hG (gi_S g_332 g_333 g_334 g_325) rfl rfl rfl (by decide +kernel) ⟨Nat.le_of_ble_eq_true rfl, Nat.le_of_ble_eq_true rfl⟩) ⟨pq_blind, (pq_pass hP5 hD5 hK hE hS5 hA [] rfl (by decide))⟩ rfl rfl hl2.1 rfl (lv_room (Nat.le_of_ble_eq_true rfl)) dX12_packed_21 ⟨Nat.le_of_ble_eq_true rfl, Nat.le_of_ble_eq_true rfl⟩) hP5 hD5 hS5 hA [] [] rfl rfl (by decide) (by decide) (by decide) (by decide) (fun r6 w6 H6 lo6 e6 hR6 hP6r hD6r hS6 => ?_)
  subst hR6
  have hP6 : va_P D classes [] H6 := hP6r
  have hD6 : va_D A [] := hD6r
  clear hP6r hD6r
  clear hP5 hD5 hS5
  clear H5 lo5
  refine lv_i2l (pc := 24) (v := (r6 : Int32).toInt64) hx hb dX12_packed_24 rfl ?_
  refine lv_lor (pc := 25) hx hb dX12_packed_25 ?_
  refine lv_lstore_n (pc := 26) (lv' := [(1, .long (((0 : Int64) <<< ((6 : Int32).toInt64 &&& 63)) ||| ((r6 : Int32).toInt64))), (3, .int 0), (0, .ref (kv.1 8))]) hx hb dX12_packed_26 rfl hl2 (by decide) rfl (fun ls7 hl7 => ?_)
  clear hl2 ls2
  refine lv_iinc (pc := 27) (v := 1) (lv' := [(3, .int 1), (1, .long (((0 : Int64) <<< ((6 : Int32).toInt64 &&& 63)) ||| ((r6 : Int32).toInt64))), (0, .ref (kv.1 8))]) hx hb dX12_packed_27 hl7 (k := 1) rfl (by decide) (by decide) rfl (fun ls8 hl8 => ?_)
  clear hl7 ls7
  refine lv_goto (pc := 30) (tgt := 4) hx hb dX12_packed_30 (by decide) ?_
  refine lv_iload_n (pc := 4) hx hb dX12_packed_4 rfl (lv_at hl8 0 rfl) ?_
  refine lv_aload_n (pc := 5) hx hb dX12_packed_5 rfl (lv_at hl8 2 rfl) ?_
  refine cq_i (pc := 6) (wr := []) (k2 := 0) (n2 := 0) (va_runV (As := []) (rest := [.int 1]) ⟨hx, hb, hml, hown, hG⟩ (c_strlen l D cy kv H6.size 8 97 ("default") 7 (by decide)) (cwV 0 hG (gi_V g_326 g_327 g_328 g_306 g_307) rfl rfl rfl (by decide +kernel) ⟨Nat.le_of_ble_eq_true rfl, Nat.le_of_ble_eq_true rfl⟩) ⟨pq_blind, (st_recv (hE.2.2.2.2.2.2.2 (8, 97, "default", 7) (by decide)).2 hS6), (pq_pass hP6 hD6 hK hE hS6 hA [] rfl (by decide))⟩ rfl rfl hl8.1 rfl (lv_room (Nat.le_of_ble_eq_true rfl)) dX12_packed_6 ⟨Nat.le_of_ble_eq_true rfl, Nat.le_of_ble_eq_true rfl⟩) hP6 hD6 hS6 hA [] [] rfl rfl (by decide) (by decide) (by decide) (by decide) (fun r9 w9 H9 lo9 e9 hR9 hP9r hD9r hS9 => ?_)
  subst hR9
  subst e9
  have hP9 : va_P D classes [] H9 := hP9r
  have hD9 : va_D A [] := hD9r
  clear hP9r hD9r
  clear hP6 hD6 hS6
  clear H6 lo6
  refine tp_i (y := 7) (by decide) ?_
  refine lv_icmp_ge (pc := 9) (tgt := 33) hx hb dX12_packed_9 (by decide) (fun c10 => absurd c10 (by decide)) (fun c10 => ?_)
  refine lv_lload_n (pc := 12) hx hb dX12_packed_12 rfl (lv_at hl8 1 rfl) ?_
  refine lv_bipush (pc := 13) (v := 6) hx hb dX12_packed_13 (by decide) ?_
  refine lv_lshl (pc := 15) (v := (((0 : Int64) <<< ((6 : Int32).toInt64 &&& 63)) ||| ((r6 : Int32).toInt64) : Int64) <<< ((6 : Int32).toInt64 &&& 63)) hx hb dX12_packed_15 rfl ?_
  refine lv_aload_n (pc := 16) hx hb dX12_packed_16 rfl (lv_at hl8 2 rfl) ?_
  refine lv_iload_n (pc := 17) hx hb dX12_packed_17 rfl (lv_at hl8 0 rfl) ?_
  refine cq_i (pc := 18) (wr := []) (k2 := 0) (n2 := 0) (va_runV (As := [.int 1]) (rest := [.long ((((0 : Int64) <<< ((6 : Int32).toInt64 &&& 63)) ||| ((r6 : Int32).toInt64) : Int64) <<< ((6 : Int32).toInt64 &&& 63))]) ⟨hx, hb, hml, hown, hG⟩ (c_charAt l D cy kv H9.size 1 8 97 ("default") 7 (by decide) (by decide) (by decide) (show ¬ ((1 : Int32) < 0 ∨ 7 ≤ (1 : Int32).toNatClampNeg) by decide)) (cwV 1 hG (gi_V g_329 g_330 g_331 g_306 g_324) rfl rfl rfl (by decide +kernel) ⟨Nat.le_of_ble_eq_true rfl, Nat.le_of_ble_eq_true rfl⟩) ⟨pq_blind, (st_recv (hE.2.2.2.2.2.2.2 (8, 97, "default", 7) (by decide)).2 hS9), (pq_pass hP9 hD9 hK hE hS9 hA [] rfl (by decide))⟩ rfl rfl hl8.1 rfl (lv_room (Nat.le_of_ble_eq_true rfl)) dX12_packed_18 ⟨Nat.le_of_ble_eq_true rfl, Nat.le_of_ble_eq_true rfl⟩) hP9 hD9 hS9 hA [] [] rfl rfl (by decide) (by decide) (by decide) (by decide) (fun r11 w11 H11 lo11 e11 hR11 hP11r hD11r hS11 => ?_)
  subst hR11
  have hP11 : va_P D classes [] H11 := hP11r
  have hD11 : va_D A [] := hD11r
  clear hP11r hD11r
  clear hP9 hD9 hS9
  clear H9 lo9
  refine cq_i (pc := 21) (wr := []) (k2 := 0) (n2 := 0) (va_runS (As := [.int r11]) (rest := [.long ((((0 : Int64) <<< ((6 : Int32).toInt64 &&& 63)) ||| ((r6 : Int32).toInt64) : Int64) <<< ((6 : Int32).toInt64 &&& 63))]) ⟨hx, hb, hml, hown, hG⟩ (c_signOf l D cy kv H11.size r11) (va_cwS 1 hG (gi_S g_332 g_333 g_334 g_325) rfl rfl rfl (by decide +kernel) ⟨Nat.le_of_ble_eq_true rfl, Nat.le_of_ble_eq_true rfl⟩) ⟨pq_blind, (pq_pass hP11 hD11 hK hE hS11 hA [] rfl (by decide))⟩ rfl rfl hl8.1 rfl (lv_room (Nat.le_of_ble_eq_true rfl)) dX12_packed_21 ⟨Nat.le_of_ble_eq_true rfl, Nat.le_of_ble_eq_true rfl⟩) hP11 hD11 hS11 hA [] [] rfl rfl (by decide) (by decide) (by decide) (by decide) (fun r12 w12 H12 lo12 e12 hR12 hP12r hD12r hS12 => ?_)
  subst hR12
  have hP12 : va_P D classes [] H12 := hP12r
  have hD12 : va_D A [] := hD12r
  clear hP12r hD12r
  clear hP11 hD11 hS11
  clear H11 lo11
  refine lv_i2l (pc := 24) (v := (r12 : Int32).toInt64) hx hb dX12_packed_24 rfl ?_
  refine lv_lor (pc := 25) hx hb dX12_packed_25 ?_
  refine lv_lstore_n (pc := 26) (lv' := [(1, .long (((((0 : Int64) <<< ((6 : Int32).toInt64 &&& 63)) ||| ((r6 : Int32).toInt64) : Int64) <<< ((6 : Int32).toInt64 &&& 63)) ||| ((r12 : Int32).toInt64))), (3, .int 1), (0, .ref (kv.1 8))]) hx hb dX12_packed_26 rfl hl8 (by decide) rfl (fun ls13 hl13 => ?_)
  clear hl8 ls8
  refine lv_iinc (pc := 27) (v := 2) (lv' := [(3, .int 2), (1, .long (((((0 : Int64) <<< ((6 : Int32).toInt64 &&& 63)) ||| ((r6 : Int32).toInt64) : Int64) <<< ((6 : Int32).toInt64 &&& 63)) ||| ((r12 : Int32).toInt64))), (0, .ref (kv.1 8))]) hx hb dX12_packed_27 hl13 (k := 1) rfl (by decide) (by decide) rfl (fun ls14 hl14 => ?_)
  clear hl13 ls13
  refine lv_goto (pc := 30) (tgt := 4) hx hb dX12_packed_30 (by decide) ?_
  refine lv_iload_n (pc := 4) hx hb dX12_packed_4 rfl (lv_at hl14 0 rfl) ?_
  refine lv_aload_n (pc := 5) hx hb dX12_packed_5 rfl (lv_at hl14 2 rfl) ?_
  refine cq_i (pc := 6) (wr := []) (k2 := 0) (n2 := 0) (va_runV (As := []) (rest := [.int 2]) ⟨hx, hb, hml, hown, hG⟩ (c_strlen l D cy kv H12.size 8 97 ("default") 7 (by decide)) (cwV 0 hG (gi_V g_326 g_327 g_328 g_306 g_307) rfl rfl rfl (by decide +kernel) ⟨Nat.le_of_ble_eq_true rfl, Nat.le_of_ble_eq_true rfl⟩) ⟨pq_blind, (st_recv (hE.2.2.2.2.2.2.2 (8, 97, "default", 7) (by decide)).2 hS12), (pq_pass hP12 hD12 hK hE hS12 hA [] rfl (by decide))⟩ rfl rfl hl14.1 rfl (lv_room (Nat.le_of_ble_eq_true rfl)) dX12_packed_6 ⟨Nat.le_of_ble_eq_true rfl, Nat.le_of_ble_eq_true rfl⟩) hP12 hD12 hS12 hA [] [] rfl rfl (by decide) (by decide) (by decide) (by decide) (fun r15 w15 H15 lo15 e15 hR15 hP15r hD15r hS15 => ?_)
  subst hR15
  subst e15
  have hP15 : va_P D classes [] H15 := hP15r
  have hD15 : va_D A [] := hD15r
  clear hP15r hD15r
  clear hP12 hD12 hS12
  clear H12 lo12
  refine tp_i (y := 7) (by decide) ?_
  refine lv_icmp_ge (pc := 9) (tgt := 33) hx hb dX12_packed_9 (by decide) (fun c16 => absurd c16 (by decide)) (fun c16 => ?_)
  refine lv_lload_n (pc := 12) hx hb dX12_packed_12 rfl (lv_at hl14 1 rfl) ?_
  refine lv_bipush (pc := 13) (v := 6) hx hb dX12_packed_13 (by decide) ?_
  refine lv_lshl (pc := 15) (v := (((((0 : Int64) <<< ((6 : Int32).toInt64 &&& 63)) ||| ((r6 : Int32).toInt64) : Int64) <<< ((6 : Int32).toInt64 &&& 63)) ||| ((r12 : Int32).toInt64) : Int64) <<< ((6 : Int32).toInt64 &&& 63)) hx hb dX12_packed_15 rfl ?_
  refine lv_aload_n (pc := 16) hx hb dX12_packed_16 rfl (lv_at hl14 2 rfl) ?_
  refine lv_iload_n (pc := 17) hx hb dX12_packed_17 rfl (lv_at hl14 0 rfl) ?_
  refine cq_i (pc := 18) (wr := []) (k2 := 0) (n2 := 0) (va_runV (As := [.int 2]) (rest := [.long ((((((0 : Int64) <<< ((6 : Int32).toInt64 &&& 63)) ||| ((r6 : Int32).toInt64) : Int64) <<< ((6 : Int32).toInt64 &&& 63)) ||| ((r12 : Int32).toInt64) : Int64) <<< ((6 : Int32).toInt64 &&& 63))]) ⟨hx, hb, hml, hown, hG⟩ (c_charAt l D cy kv H15.size 2 8 97 ("default") 7 (by decide) (by decide) (by decide) (show ¬ ((2 : Int32) < 0 ∨ 7 ≤ (2 : Int32).toNatClampNeg) by decide)) (cwV 1 hG (gi_V g_329 g_330 g_331 g_306 g_324) rfl rfl rfl (by decide +kernel) ⟨Nat.le_of_ble_eq_true rfl, Nat.le_of_ble_eq_true rfl⟩) ⟨pq_blind, (st_recv (hE.2.2.2.2.2.2.2 (8, 97, "default", 7) (by decide)).2 hS15), (pq_pass hP15 hD15 hK hE hS15 hA [] rfl (by decide))⟩ rfl rfl hl14.1 rfl (lv_room (Nat.le_of_ble_eq_true rfl)) dX12_packed_18 ⟨Nat.le_of_ble_eq_true rfl, Nat.le_of_ble_eq_true rfl⟩) hP15 hD15 hS15 hA [] [] rfl rfl (by decide) (by decide) (by decide) (by decide) (fun r17 w17 H17 lo17 e17 hR17 hP17r hD17r hS17 => ?_)
  subst hR17
  have hP17 : va_P D classes [] H17 := hP17r
  have hD17 : va_D A [] := hD17r
  clear hP17r hD17r
  clear hP15 hD15 hS15
  clear H15 lo15
  refine cq_i (pc := 21) (wr := []) (k2 := 0) (n2 := 0) (va_runS (As := [.int r17]) (rest := [.long ((((((0 : Int64) <<< ((6 : Int32).toInt64 &&& 63)) ||| ((r6 : Int32).toInt64) : Int64) <<< ((6 : Int32).toInt64 &&& 63)) ||| ((r12 : Int32).toInt64) : Int64) <<< ((6 : Int32).toInt64 &&& 63))]) ⟨hx, hb, hml, hown, hG⟩ (c_signOf l D cy kv H17.size r17) (va_cwS 1 hG (gi_S g_332 g_333 g_334 g_325) rfl rfl rfl (by decide +kernel) ⟨Nat.le_of_ble_eq_true rfl, Nat.le_of_ble_eq_true rfl⟩) ⟨pq_blind, (pq_pass hP17 hD17 hK hE hS17 hA [] rfl (by decide))⟩ rfl rfl hl14.1 rfl (lv_room (Nat.le_of_ble_eq_true rfl)) dX12_packed_21 ⟨Nat.le_of_ble_eq_true rfl, Nat.le_of_ble_eq_true rfl⟩) hP17 hD17 hS17 hA [] [] rfl rfl (by decide) (by decide) (by decide) (by decide) (fun r18 w18 H18 lo18 e18 hR18 hP18r hD18r hS18 => ?_)
  subst hR18
  have hP18 : va_P D classes [] H18 := hP18r
  have hD18 : va_D A [] := hD18r
  clear hP18r hD18r
  clear hP17 hD17 hS17
  clear H17 lo17
  refine lv_i2l (pc := 24) (v := (r18 : Int32).toInt64) hx hb dX12_packed_24 rfl ?_
  refine lv_lor (pc := 25) hx hb dX12_packed_25 ?_
  refine lv_lstore_n (pc := 26) (lv' := [(1, .long (((((((0 : Int64) <<< ((6 : Int32).toInt64 &&& 63)) ||| ((r6 : Int32).toInt64) : Int64) <<< ((6 : Int32).toInt64 &&& 63)) ||| ((r12 : Int32).toInt64) : Int64) <<< ((6 : Int32).toInt64 &&& 63)) ||| ((r18 : Int32).toInt64))), (3, .int 2), (0, .ref (kv.1 8))]) hx hb dX12_packed_26 rfl hl14 (by decide) rfl (fun ls19 hl19 => ?_)
  clear hl14 ls14
  refine lv_iinc (pc := 27) (v := 3) (lv' := [(3, .int 3), (1, .long (((((((0 : Int64) <<< ((6 : Int32).toInt64 &&& 63)) ||| ((r6 : Int32).toInt64) : Int64) <<< ((6 : Int32).toInt64 &&& 63)) ||| ((r12 : Int32).toInt64) : Int64) <<< ((6 : Int32).toInt64 &&& 63)) ||| ((r18 : Int32).toInt64))), (0, .ref (kv.1 8))]) hx hb dX12_packed_27 hl19 (k := 1) rfl (by decide) (by decide) rfl (fun ls20 hl20 => ?_)
  clear hl19 ls19
  refine lv_goto (pc := 30) (tgt := 4) hx hb dX12_packed_30 (by decide) ?_
  refine lv_iload_n (pc := 4) hx hb dX12_packed_4 rfl (lv_at hl20 0 rfl) ?_
  refine lv_aload_n (pc := 5) hx hb dX12_packed_5 rfl (lv_at hl20 2 rfl) ?_
  refine cq_i (pc := 6) (wr := []) (k2 := 0) (n2 := 0) (va_runV (As := []) (rest := [.int 3]) ⟨hx, hb, hml, hown, hG⟩ (c_strlen l D cy kv H18.size 8 97 ("default") 7 (by decide)) (cwV 0 hG (gi_V g_326 g_327 g_328 g_306 g_307) rfl rfl rfl (by decide +kernel) ⟨Nat.le_of_ble_eq_true rfl, Nat.le_of_ble_eq_true rfl⟩) ⟨pq_blind, (st_recv (hE.2.2.2.2.2.2.2 (8, 97, "default", 7) (by decide)).2 hS18), (pq_pass hP18 hD18 hK hE hS18 hA [] rfl (by decide))⟩ rfl rfl hl20.1 rfl (lv_room (Nat.le_of_ble_eq_true rfl)) dX12_packed_6 ⟨Nat.le_of_ble_eq_true rfl, Nat.le_of_ble_eq_true rfl⟩) hP18 hD18 hS18 hA [] [] rfl rfl (by decide) (by decide) (by decide) (by decide) (fun r21 w21 H21 lo21 e21 hR21 hP21r hD21r hS21 => ?_)
  subst hR21
  subst e21
  have hP21 : va_P D classes [] H21 := hP21r
  have hD21 : va_D A [] := hD21r
  clear hP21r hD21r
  clear hP18 hD18 hS18
  clear H18 lo18
  refine tp_i (y := 7) (by decide) ?_
  refine lv_icmp_ge (pc := 9) (tgt := 33) hx hb dX12_packed_9 (by decide) (fun c22 => absurd c22 (by decide)) (fun c22 => ?_)
  refine lv_lload_n (pc := 12) hx hb dX12_packed_12 rfl (lv_at hl20 1 rfl) ?_
  refine lv_bipush (pc := 13) (v := 6) hx hb dX12_packed_13 (by decide) ?_
  refine lv_lshl (pc := 15) (v := (((((((0 : Int64) <<< ((6 : Int32).toInt64 &&& 63)) ||| ((r6 : Int32).toInt64) : Int64) <<< ((6 : Int32).toInt64 &&& 63)) ||| ((r12 : Int32).toInt64) : Int64) <<< ((6 : Int32).toInt64 &&& 63)) ||| ((r18 : Int32).toInt64) : Int64) <<< ((6 : Int32).toInt64 &&& 63)) hx hb dX12_packed_15 rfl ?_
  refine lv_aload_n (pc := 16) hx hb dX12_packed_16 rfl (lv_at hl20 2 rfl) ?_
  refine lv_iload_n (pc := 17) hx hb dX12_packed_17 rfl (lv_at hl20 0 rfl) ?_
  refine cq_i (pc := 18) (wr := []) (k2 := 0) (n2 := 0) (va_runV (As := [.int 3]) (rest := [.long ((((((((0 : Int64) <<< ((6 : Int32).toInt64 &&& 63)) ||| ((r6 : Int32).toInt64) : Int64) <<< ((6 : Int32).toInt64 &&& 63)) ||| ((r12 : Int32).toInt64) : Int64) <<< ((6 : Int32).toInt64 &&& 63)) ||| ((r18 : Int32).toInt64) : Int64) <<< ((6 : Int32).toInt64 &&& 63))]) ⟨hx, hb, hml, hown, hG⟩ (c_charAt l D cy kv H21.size 3 8 97 ("default") 7 (by decide) (by decide) (by decide) (show ¬ ((3 : Int32) < 0 ∨ 7 ≤ (3 : Int32).toNatClampNeg) by decide)) (cwV 1 hG (gi_V g_329 g_330 g_331 g_306 g_324) rfl rfl rfl (by decide +kernel) ⟨Nat.le_of_ble_eq_true rfl, Nat.le_of_ble_eq_true rfl⟩) ⟨pq_blind, (st_recv (hE.2.2.2.2.2.2.2 (8, 97, "default", 7) (by decide)).2 hS21), (pq_pass hP21 hD21 hK hE hS21 hA [] rfl (by decide))⟩ rfl rfl hl20.1 rfl (lv_room (Nat.le_of_ble_eq_true rfl)) dX12_packed_18 ⟨Nat.le_of_ble_eq_true rfl, Nat.le_of_ble_eq_true rfl⟩) hP21 hD21 hS21 hA [] [] rfl rfl (by decide) (by decide) (by decide) (by decide) (fun r23 w23 H23 lo23 e23 hR23 hP23r hD23r hS23 => ?_)
  subst hR23
  have hP23 : va_P D classes [] H23 := hP23r
  have hD23 : va_D A [] := hD23r
  clear hP23r hD23r
  clear hP21 hD21 hS21
  clear H21 lo21
  refine cq_i (pc := 21) (wr := []) (k2 := 0) (n2 := 0) (va_runS (As := [.int r23]) (rest := [.long ((((((((0 : Int64) <<< ((6 : Int32).toInt64 &&& 63)) ||| ((r6 : Int32).toInt64) : Int64) <<< ((6 : Int32).toInt64 &&& 63)) ||| ((r12 : Int32).toInt64) : Int64) <<< ((6 : Int32).toInt64 &&& 63)) ||| ((r18 : Int32).toInt64) : Int64) <<< ((6 : Int32).toInt64 &&& 63))]) ⟨hx, hb, hml, hown, hG⟩ (c_signOf l D cy kv H23.size r23) (va_cwS 1 hG (gi_S g_332 g_333 g_334 g_325) rfl rfl rfl (by decide +kernel) ⟨Nat.le_of_ble_eq_true rfl, Nat.le_of_ble_eq_true rfl⟩) ⟨pq_blind, (pq_pass hP23 hD23 hK hE hS23 hA [] rfl (by decide))⟩ rfl rfl hl20.1 rfl (lv_room (Nat.le_of_ble_eq_true rfl)) dX12_packed_21 ⟨Nat.le_of_ble_eq_true rfl, Nat.le_of_ble_eq_true rfl⟩) hP23 hD23 hS23 hA [] [] rfl rfl (by decide) (by decide) (by decide) (by decide) (fun r24 w24 H24 lo24 e24 hR24 hP24r hD24r hS24 => ?_)
  subst hR24
  have hP24 : va_P D classes [] H24 := hP24r
  have hD24 : va_D A [] := hD24r
  clear hP24r hD24r
  clear hP23 hD23 hS23
  clear H23 lo23
  refine lv_i2l (pc := 24) (v := (r24 : Int32).toInt64) hx hb dX12_packed_24 rfl ?_
  refine lv_lor (pc := 25) hx hb dX12_packed_25 ?_
  refine lv_lstore_n (pc := 26) (lv' := [(1, .long (((((((((0 : Int64) <<< ((6 : Int32).toInt64 &&& 63)) ||| ((r6 : Int32).toInt64) : Int64) <<< ((6 : Int32).toInt64 &&& 63)) ||| ((r12 : Int32).toInt64) : Int64) <<< ((6 : Int32).toInt64 &&& 63)) ||| ((r18 : Int32).toInt64) : Int64) <<< ((6 : Int32).toInt64 &&& 63)) ||| ((r24 : Int32).toInt64))), (3, .int 3), (0, .ref (kv.1 8))]) hx hb dX12_packed_26 rfl hl20 (by decide) rfl (fun ls25 hl25 => ?_)
  clear hl20 ls20
  refine lv_iinc (pc := 27) (v := 4) (lv' := [(3, .int 4), (1, .long (((((((((0 : Int64) <<< ((6 : Int32).toInt64 &&& 63)) ||| ((r6 : Int32).toInt64) : Int64) <<< ((6 : Int32).toInt64 &&& 63)) ||| ((r12 : Int32).toInt64) : Int64) <<< ((6 : Int32).toInt64 &&& 63)) ||| ((r18 : Int32).toInt64) : Int64) <<< ((6 : Int32).toInt64 &&& 63)) ||| ((r24 : Int32).toInt64))), (0, .ref (kv.1 8))]) hx hb dX12_packed_27 hl25 (k := 1) rfl (by decide) (by decide) rfl (fun ls26 hl26 => ?_)
  clear hl25 ls25
  refine lv_goto (pc := 30) (tgt := 4) hx hb dX12_packed_30 (by decide) ?_
  refine lv_iload_n (pc := 4) hx hb dX12_packed_4 rfl (lv_at hl26 0 rfl) ?_
  refine lv_aload_n (pc := 5) hx hb dX12_packed_5 rfl (lv_at hl26 2 rfl) ?_
  refine cq_i (pc := 6) (wr := []) (k2 := 0) (n2 := 0) (va_runV (As := []) (rest := [.int 4]) ⟨hx, hb, hml, hown, hG⟩ (c_strlen l D cy kv H24.size 8 97 ("default") 7 (by decide)) (cwV 0 hG (gi_V g_326 g_327 g_328 g_306 g_307) rfl rfl rfl (by decide +kernel) ⟨Nat.le_of_ble_eq_true rfl, Nat.le_of_ble_eq_true rfl⟩) ⟨pq_blind, (st_recv (hE.2.2.2.2.2.2.2 (8, 97, "default", 7) (by decide)).2 hS24), (pq_pass hP24 hD24 hK hE hS24 hA [] rfl (by decide))⟩ rfl rfl hl26.1 rfl (lv_room (Nat.le_of_ble_eq_true rfl)) dX12_packed_6 ⟨Nat.le_of_ble_eq_true rfl, Nat.le_of_ble_eq_true rfl⟩) hP24 hD24 hS24 hA [] [] rfl rfl (by decide) (by decide) (by decide) (by decide) (fun r27 w27 H27 lo27 e27 hR27 hP27r hD27r hS27 => ?_)
  subst hR27
  subst e27
  have hP27 : va_P D classes [] H27 := hP27r
  have hD27 : va_D A [] := hD27r
  clear hP27r hD27r
  clear hP24 hD24 hS24
  clear H24 lo24
  refine tp_i (y := 7) (by decide) ?_
  refine lv_icmp_ge (pc := 9) (tgt := 33) hx hb dX12_packed_9 (by decide) (fun c28 => absurd c28 (by decide)) (fun c28 => ?_)
  refine lv_lload_n (pc := 12) hx hb dX12_packed_12 rfl (lv_at hl26 1 rfl) ?_
  refine lv_bipush (pc := 13) (v := 6) hx hb dX12_packed_13 (by decide) ?_
  refine lv_lshl (pc := 15) (v := (((((((((0 : Int64) <<< ((6 : Int32).toInt64 &&& 63)) ||| ((r6 : Int32).toInt64) : Int64) <<< ((6 : Int32).toInt64 &&& 63)) ||| ((r12 : Int32).toInt64) : Int64) <<< ((6 : Int32).toInt64 &&& 63)) ||| ((r18 : Int32).toInt64) : Int64) <<< ((6 : Int32).toInt64 &&& 63)) ||| ((r24 : Int32).toInt64) : Int64) <<< ((6 : Int32).toInt64 &&& 63)) hx hb dX12_packed_15 rfl ?_
  refine lv_aload_n (pc := 16) hx hb dX12_packed_16 rfl (lv_at hl26 2 rfl) ?_
  refine lv_iload_n (pc := 17) hx hb dX12_packed_17 rfl (lv_at hl26 0 rfl) ?_
  refine cq_i (pc := 18) (wr := []) (k2 := 0) (n2 := 0) (va_runV (As := [.int 4]) (rest := [.long ((((((((((0 : Int64) <<< ((6 : Int32).toInt64 &&& 63)) ||| ((r6 : Int32).toInt64) : Int64) <<< ((6 : Int32).toInt64 &&& 63)) ||| ((r12 : Int32).toInt64) : Int64) <<< ((6 : Int32).toInt64 &&& 63)) ||| ((r18 : Int32).toInt64) : Int64) <<< ((6 : Int32).toInt64 &&& 63)) ||| ((r24 : Int32).toInt64) : Int64) <<< ((6 : Int32).toInt64 &&& 63))]) ⟨hx, hb, hml, hown, hG⟩ (c_charAt l D cy kv H27.size 4 8 97 ("default") 7 (by decide) (by decide) (by decide) (show ¬ ((4 : Int32) < 0 ∨ 7 ≤ (4 : Int32).toNatClampNeg) by decide)) (cwV 1 hG (gi_V g_329 g_330 g_331 g_306 g_324) rfl rfl rfl (by decide +kernel) ⟨Nat.le_of_ble_eq_true rfl, Nat.le_of_ble_eq_true rfl⟩) ⟨pq_blind, (st_recv (hE.2.2.2.2.2.2.2 (8, 97, "default", 7) (by decide)).2 hS27), (pq_pass hP27 hD27 hK hE hS27 hA [] rfl (by decide))⟩ rfl rfl hl26.1 rfl (lv_room (Nat.le_of_ble_eq_true rfl)) dX12_packed_18 ⟨Nat.le_of_ble_eq_true rfl, Nat.le_of_ble_eq_true rfl⟩) hP27 hD27 hS27 hA [] [] rfl rfl (by decide) (by decide) (by decide) (by decide) (fun r29 w29 H29 lo29 e29 hR29 hP29r hD29r hS29 => ?_)
  subst hR29
  have hP29 : va_P D classes [] H29 := hP29r
  have hD29 : va_D A [] := hD29r
  clear hP29r hD29r
  clear hP27 hD27 hS27
  clear H27 lo27
  refine cq_i (pc := 21) (wr := []) (k2 := 0) (n2 := 0) (va_runS (As := [.int r29]) (rest := [.long ((((((((((0 : Int64) <<< ((6 : Int32).toInt64 &&& 63)) ||| ((r6 : Int32).toInt64) : Int64) <<< ((6 : Int32).toInt64 &&& 63)) ||| ((r12 : Int32).toInt64) : Int64) <<< ((6 : Int32).toInt64 &&& 63)) ||| ((r18 : Int32).toInt64) : Int64) <<< ((6 : Int32).toInt64 &&& 63)) ||| ((r24 : Int32).toInt64) : Int64) <<< ((6 : Int32).toInt64 &&& 63))]) ⟨hx, hb, hml, hown, hG⟩ (c_signOf l D cy kv H29.size r29) (va_cwS 1 hG (gi_S g_332 g_333 g_334 g_325) rfl rfl rfl (by decide +kernel) ⟨Nat.le_of_ble_eq_true rfl, Nat.le_of_ble_eq_true rfl⟩) ⟨pq_blind, (pq_pass hP29 hD29 hK hE hS29 hA [] rfl (by decide))⟩ rfl rfl hl26.1 rfl (lv_room (Nat.le_of_ble_eq_true rfl)) dX12_packed_21 ⟨Nat.le_of_ble_eq_true rfl, Nat.le_of_ble_eq_true rfl⟩) hP29 hD29 hS29 hA [] [] rfl rfl (by decide) (by decide) (by decide) (by decide) (fun r30 w30 H30 lo30 e30 hR30 hP30r hD30r hS30 => ?_)
  subst hR30
  have hP30 : va_P D classes [] H30 := hP30r
  have hD30 : va_D A [] := hD30r
  clear hP30r hD30r
  clear hP29 hD29 hS29
  clear H29 lo29
  refine lv_i2l (pc := 24) (v := (r30 : Int32).toInt64) hx hb dX12_packed_24 rfl ?_
  refine lv_lor (pc := 25) hx hb dX12_packed_25 ?_
  refine lv_lstore_n (pc := 26) (lv' := [(1, .long (((((((((((0 : Int64) <<< ((6 : Int32).toInt64 &&& 63)) ||| ((r6 : Int32).toInt64) : Int64) <<< ((6 : Int32).toInt64 &&& 63)) ||| ((r12 : Int32).toInt64) : Int64) <<< ((6 : Int32).toInt64 &&& 63)) ||| ((r18 : Int32).toInt64) : Int64) <<< ((6 : Int32).toInt64 &&& 63)) ||| ((r24 : Int32).toInt64) : Int64) <<< ((6 : Int32).toInt64 &&& 63)) ||| ((r30 : Int32).toInt64))), (3, .int 4), (0, .ref (kv.1 8))]) hx hb dX12_packed_26 rfl hl26 (by decide) rfl (fun ls31 hl31 => ?_)
  clear hl26 ls26
  refine lv_iinc (pc := 27) (v := 5) (lv' := [(3, .int 5), (1, .long (((((((((((0 : Int64) <<< ((6 : Int32).toInt64 &&& 63)) ||| ((r6 : Int32).toInt64) : Int64) <<< ((6 : Int32).toInt64 &&& 63)) ||| ((r12 : Int32).toInt64) : Int64) <<< ((6 : Int32).toInt64 &&& 63)) ||| ((r18 : Int32).toInt64) : Int64) <<< ((6 : Int32).toInt64 &&& 63)) ||| ((r24 : Int32).toInt64) : Int64) <<< ((6 : Int32).toInt64 &&& 63)) ||| ((r30 : Int32).toInt64))), (0, .ref (kv.1 8))]) hx hb dX12_packed_27 hl31 (k := 1) rfl (by decide) (by decide) rfl (fun ls32 hl32 => ?_)
  clear hl31 ls31
  refine lv_goto (pc := 30) (tgt := 4) hx hb dX12_packed_30 (by decide) ?_
  refine lv_iload_n (pc := 4) hx hb dX12_packed_4 rfl (lv_at hl32 0 rfl) ?_
  refine lv_aload_n (pc := 5) hx hb dX12_packed_5 rfl (lv_at hl32 2 rfl) ?_
  refine cq_i (pc := 6) (wr := []) (k2 := 0) (n2 := 0) (va_runV (As := []) (rest := [.int 5]) ⟨hx, hb, hml, hown, hG⟩ (c_strlen l D cy kv H30.size 8 97 ("default") 7 (by decide)) (cwV 0 hG (gi_V g_326 g_327 g_328 g_306 g_307) rfl rfl rfl (by decide +kernel) ⟨Nat.le_of_ble_eq_true rfl, Nat.le_of_ble_eq_true rfl⟩) ⟨pq_blind, (st_recv (hE.2.2.2.2.2.2.2 (8, 97, "default", 7) (by decide)).2 hS30), (pq_pass hP30 hD30 hK hE hS30 hA [] rfl (by decide))⟩ rfl rfl hl32.1 rfl (lv_room (Nat.le_of_ble_eq_true rfl)) dX12_packed_6 ⟨Nat.le_of_ble_eq_true rfl, Nat.le_of_ble_eq_true rfl⟩) hP30 hD30 hS30 hA [] [] rfl rfl (by decide) (by decide) (by decide) (by decide) (fun r33 w33 H33 lo33 e33 hR33 hP33r hD33r hS33 => ?_)
  subst hR33
  subst e33
  have hP33 : va_P D classes [] H33 := hP33r
  have hD33 : va_D A [] := hD33r
  clear hP33r hD33r
  clear hP30 hD30 hS30
  clear H30 lo30
  refine tp_i (y := 7) (by decide) ?_
  refine lv_icmp_ge (pc := 9) (tgt := 33) hx hb dX12_packed_9 (by decide) (fun c34 => absurd c34 (by decide)) (fun c34 => ?_)
  refine lv_lload_n (pc := 12) hx hb dX12_packed_12 rfl (lv_at hl32 1 rfl) ?_
  refine lv_bipush (pc := 13) (v := 6) hx hb dX12_packed_13 (by decide) ?_
  refine lv_lshl (pc := 15) (v := (((((((((((0 : Int64) <<< ((6 : Int32).toInt64 &&& 63)) ||| ((r6 : Int32).toInt64) : Int64) <<< ((6 : Int32).toInt64 &&& 63)) ||| ((r12 : Int32).toInt64) : Int64) <<< ((6 : Int32).toInt64 &&& 63)) ||| ((r18 : Int32).toInt64) : Int64) <<< ((6 : Int32).toInt64 &&& 63)) ||| ((r24 : Int32).toInt64) : Int64) <<< ((6 : Int32).toInt64 &&& 63)) ||| ((r30 : Int32).toInt64) : Int64) <<< ((6 : Int32).toInt64 &&& 63)) hx hb dX12_packed_15 rfl ?_
  refine lv_aload_n (pc := 16) hx hb dX12_packed_16 rfl (lv_at hl32 2 rfl) ?_
  refine lv_iload_n (pc := 17) hx hb dX12_packed_17 rfl (lv_at hl32 0 rfl) ?_
  refine cq_i (pc := 18) (wr := []) (k2 := 0) (n2 := 0) (va_runV (As := [.int 5]) (rest := [.long ((((((((((((0 : Int64) <<< ((6 : Int32).toInt64 &&& 63)) ||| ((r6 : Int32).toInt64) : Int64) <<< ((6 : Int32).toInt64 &&& 63)) ||| ((r12 : Int32).toInt64) : Int64) <<< ((6 : Int32).toInt64 &&& 63)) ||| ((r18 : Int32).toInt64) : Int64) <<< ((6 : Int32).toInt64 &&& 63)) ||| ((r24 : Int32).toInt64) : Int64) <<< ((6 : Int32).toInt64 &&& 63)) ||| ((r30 : Int32).toInt64) : Int64) <<< ((6 : Int32).toInt64 &&& 63))]) ⟨hx, hb, hml, hown, hG⟩ (c_charAt l D cy kv H33.size 5 8 97 ("default") 7 (by decide) (by decide) (by decide) (show ¬ ((5 : Int32) < 0 ∨ 7 ≤ (5 : Int32).toNatClampNeg) by decide)) (cwV 1 hG (gi_V g_329 g_330 g_331 g_306 g_324) rfl rfl rfl (by decide +kernel) ⟨Nat.le_of_ble_eq_true rfl, Nat.le_of_ble_eq_true rfl⟩) ⟨pq_blind, (st_recv (hE.2.2.2.2.2.2.2 (8, 97, "default", 7) (by decide)).2 hS33), (pq_pass hP33 hD33 hK hE hS33 hA [] rfl (by decide))⟩ rfl rfl hl32.1 rfl (lv_room (Nat.le_of_ble_eq_true rfl)) dX12_packed_18 ⟨Nat.le_of_ble_eq_true rfl, Nat.le_of_ble_eq_true rfl⟩) hP33 hD33 hS33 hA [] [] rfl rfl (by decide) (by decide) (by decide) (by decide) (fun r35 w35 H35 lo35 e35 hR35 hP35r hD35r hS35 => ?_)
  subst hR35
  have hP35 : va_P D classes [] H35 := hP35r
  have hD35 : va_D A [] := hD35r
  clear hP35r hD35r
  clear hP33 hD33 hS33
  clear H33 lo33
  refine cq_i (pc := 21) (wr := []) (k2 := 0) (n2 := 0) (va_runS (As := [.int r35]) (rest := [.long ((((((((((((0 : Int64) <<< ((6 : Int32).toInt64 &&& 63)) ||| ((r6 : Int32).toInt64) : Int64) <<< ((6 : Int32).toInt64 &&& 63)) ||| ((r12 : Int32).toInt64) : Int64) <<< ((6 : Int32).toInt64 &&& 63)) ||| ((r18 : Int32).toInt64) : Int64) <<< ((6 : Int32).toInt64 &&& 63)) ||| ((r24 : Int32).toInt64) : Int64) <<< ((6 : Int32).toInt64 &&& 63)) ||| ((r30 : Int32).toInt64) : Int64) <<< ((6 : Int32).toInt64 &&& 63))]) ⟨hx, hb, hml, hown, hG⟩ (c_signOf l D cy kv H35.size r35) (va_cwS 1 hG (gi_S g_332 g_333 g_334 g_325) rfl rfl rfl (by decide +kernel) ⟨Nat.le_of_ble_eq_true rfl, Nat.le_of_ble_eq_true rfl⟩) ⟨pq_blind, (pq_pass hP35 hD35 hK hE hS35 hA [] rfl (by decide))⟩ rfl rfl hl32.1 rfl (lv_room (Nat.le_of_ble_eq_true rfl)) dX12_packed_21 ⟨Nat.le_of_ble_eq_true rfl, Nat.le_of_ble_eq_true rfl⟩) hP35 hD35 hS35 hA [] [] rfl rfl (by decide) (by decide) (by decide) (by decide) (fun r36 w36 H36 lo36 e36 hR36 hP36r hD36r hS36 => ?_)
  subst hR36
  have hP36 : va_P D classes [] H36 := hP36r
  have hD36 : va_D A [] := hD36r
  clear hP36r hD36r
  clear hP35 hD35 hS35
  clear H35 lo35
  refine lv_i2l (pc := 24) (v := (r36 : Int32).toInt64) hx hb dX12_packed_24 rfl ?_
  refine lv_lor (pc := 25) hx hb dX12_packed_25 ?_
  refine lv_lstore_n (pc := 26) (lv' := [(1, .long (((((((((((((0 : Int64) <<< ((6 : Int32).toInt64 &&& 63)) ||| ((r6 : Int32).toInt64) : Int64) <<< ((6 : Int32).toInt64 &&& 63)) ||| ((r12 : Int32).toInt64) : Int64) <<< ((6 : Int32).toInt64 &&& 63)) ||| ((r18 : Int32).toInt64) : Int64) <<< ((6 : Int32).toInt64 &&& 63)) ||| ((r24 : Int32).toInt64) : Int64) <<< ((6 : Int32).toInt64 &&& 63)) ||| ((r30 : Int32).toInt64) : Int64) <<< ((6 : Int32).toInt64 &&& 63)) ||| ((r36 : Int32).toInt64))), (3, .int 5), (0, .ref (kv.1 8))]) hx hb dX12_packed_26 rfl hl32 (by decide) rfl (fun ls37 hl37 => ?_)
  clear hl32 ls32
  refine lv_iinc (pc := 27) (v := 6) (lv' := [(3, .int 6), (1, .long (((((((((((((0 : Int64) <<< ((6 : Int32).toInt64 &&& 63)) ||| ((r6 : Int32).toInt64) : Int64) <<< ((6 : Int32).toInt64 &&& 63)) ||| ((r12 : Int32).toInt64) : Int64) <<< ((6 : Int32).toInt64 &&& 63)) ||| ((r18 : Int32).toInt64) : Int64) <<< ((6 : Int32).toInt64 &&& 63)) ||| ((r24 : Int32).toInt64) : Int64) <<< ((6 : Int32).toInt64 &&& 63)) ||| ((r30 : Int32).toInt64) : Int64) <<< ((6 : Int32).toInt64 &&& 63)) ||| ((r36 : Int32).toInt64))), (0, .ref (kv.1 8))]) hx hb dX12_packed_27 hl37 (k := 1) rfl (by decide) (by decide) rfl (fun ls38 hl38 => ?_)
  clear hl37 ls37
  refine lv_goto (pc := 30) (tgt := 4) hx hb dX12_packed_30 (by decide) ?_
  refine lv_iload_n (pc := 4) hx hb dX12_packed_4 rfl (lv_at hl38 0 rfl) ?_
  refine lv_aload_n (pc := 5) hx hb dX12_packed_5 rfl (lv_at hl38 2 rfl) ?_
  refine cq_i (pc := 6) (wr := []) (k2 := 0) (n2 := 0) (va_runV (As := []) (rest := [.int 6]) ⟨hx, hb, hml, hown, hG⟩ (c_strlen l D cy kv H36.size 8 97 ("default") 7 (by decide)) (cwV 0 hG (gi_V g_326 g_327 g_328 g_306 g_307) rfl rfl rfl (by decide +kernel) ⟨Nat.le_of_ble_eq_true rfl, Nat.le_of_ble_eq_true rfl⟩) ⟨pq_blind, (st_recv (hE.2.2.2.2.2.2.2 (8, 97, "default", 7) (by decide)).2 hS36), (pq_pass hP36 hD36 hK hE hS36 hA [] rfl (by decide))⟩ rfl rfl hl38.1 rfl (lv_room (Nat.le_of_ble_eq_true rfl)) dX12_packed_6 ⟨Nat.le_of_ble_eq_true rfl, Nat.le_of_ble_eq_true rfl⟩) hP36 hD36 hS36 hA [] [] rfl rfl (by decide) (by decide) (by decide) (by decide) (fun r39 w39 H39 lo39 e39 hR39 hP39r hD39r hS39 => ?_)
  subst hR39
  subst e39
  have hP39 : va_P D classes [] H39 := hP39r
  have hD39 : va_D A [] := hD39r
  clear hP39r hD39r
  clear hP36 hD36 hS36
  clear H36 lo36
  refine tp_i (y := 7) (by decide) ?_
  refine lv_icmp_ge (pc := 9) (tgt := 33) hx hb dX12_packed_9 (by decide) (fun c40 => absurd c40 (by decide)) (fun c40 => ?_)
  refine lv_lload_n (pc := 12) hx hb dX12_packed_12 rfl (lv_at hl38 1 rfl) ?_
  refine lv_bipush (pc := 13) (v := 6) hx hb dX12_packed_13 (by decide) ?_
  refine lv_lshl (pc := 15) (v := (((((((((((((0 : Int64) <<< ((6 : Int32).toInt64 &&& 63)) ||| ((r6 : Int32).toInt64) : Int64) <<< ((6 : Int32).toInt64 &&& 63)) ||| ((r12 : Int32).toInt64) : Int64) <<< ((6 : Int32).toInt64 &&& 63)) ||| ((r18 : Int32).toInt64) : Int64) <<< ((6 : Int32).toInt64 &&& 63)) ||| ((r24 : Int32).toInt64) : Int64) <<< ((6 : Int32).toInt64 &&& 63)) ||| ((r30 : Int32).toInt64) : Int64) <<< ((6 : Int32).toInt64 &&& 63)) ||| ((r36 : Int32).toInt64) : Int64) <<< ((6 : Int32).toInt64 &&& 63)) hx hb dX12_packed_15 rfl ?_
  refine lv_aload_n (pc := 16) hx hb dX12_packed_16 rfl (lv_at hl38 2 rfl) ?_
  refine lv_iload_n (pc := 17) hx hb dX12_packed_17 rfl (lv_at hl38 0 rfl) ?_
  refine cq_i (pc := 18) (wr := []) (k2 := 0) (n2 := 0) (va_runV (As := [.int 6]) (rest := [.long ((((((((((((((0 : Int64) <<< ((6 : Int32).toInt64 &&& 63)) ||| ((r6 : Int32).toInt64) : Int64) <<< ((6 : Int32).toInt64 &&& 63)) ||| ((r12 : Int32).toInt64) : Int64) <<< ((6 : Int32).toInt64 &&& 63)) ||| ((r18 : Int32).toInt64) : Int64) <<< ((6 : Int32).toInt64 &&& 63)) ||| ((r24 : Int32).toInt64) : Int64) <<< ((6 : Int32).toInt64 &&& 63)) ||| ((r30 : Int32).toInt64) : Int64) <<< ((6 : Int32).toInt64 &&& 63)) ||| ((r36 : Int32).toInt64) : Int64) <<< ((6 : Int32).toInt64 &&& 63))]) ⟨hx, hb, hml, hown, hG⟩ (c_charAt l D cy kv H39.size 6 8 97 ("default") 7 (by decide) (by decide) (by decide) (show ¬ ((6 : Int32) < 0 ∨ 7 ≤ (6 : Int32).toNatClampNeg) by decide)) (cwV 1 hG (gi_V g_329 g_330 g_331 g_306 g_324) rfl rfl rfl (by decide +kernel) ⟨Nat.le_of_ble_eq_true rfl, Nat.le_of_ble_eq_true rfl⟩) ⟨pq_blind, (st_recv (hE.2.2.2.2.2.2.2 (8, 97, "default", 7) (by decide)).2 hS39), (pq_pass hP39 hD39 hK hE hS39 hA [] rfl (by decide))⟩ rfl rfl hl38.1 rfl (lv_room (Nat.le_of_ble_eq_true rfl)) dX12_packed_18 ⟨Nat.le_of_ble_eq_true rfl, Nat.le_of_ble_eq_true rfl⟩) hP39 hD39 hS39 hA [] [] rfl rfl (by decide) (by decide) (by decide) (by decide) (fun r41 w41 H41 lo41 e41 hR41 hP41r hD41r hS41 => ?_)
  subst hR41
  have hP41 : va_P D classes [] H41 := hP41r
  have hD41 : va_D A [] := hD41r
  clear hP41r hD41r
  clear hP39 hD39 hS39
  clear H39 lo39
  refine cq_i (pc := 21) (wr := []) (k2 := 0) (n2 := 0) (va_runS (As := [.int r41]) (rest := [.long ((((((((((((((0 : Int64) <<< ((6 : Int32).toInt64 &&& 63)) ||| ((r6 : Int32).toInt64) : Int64) <<< ((6 : Int32).toInt64 &&& 63)) ||| ((r12 : Int32).toInt64) : Int64) <<< ((6 : Int32).toInt64 &&& 63)) ||| ((r18 : Int32).toInt64) : Int64) <<< ((6 : Int32).toInt64 &&& 63)) ||| ((r24 : Int32).toInt64) : Int64) <<< ((6 : Int32).toInt64 &&& 63)) ||| ((r30 : Int32).toInt64) : Int64) <<< ((6 : Int32).toInt64 &&& 63)) ||| ((r36 : Int32).toInt64) : Int64) <<< ((6 : Int32).toInt64 &&& 63))]) ⟨hx, hb, hml, hown, hG⟩ (c_signOf l D cy kv H41.size r41) (va_cwS 1 hG (gi_S g_332 g_333 g_334 g_325) rfl rfl rfl (by decide +kernel) ⟨Nat.le_of_ble_eq_true rfl, Nat.le_of_ble_eq_true rfl⟩) ⟨pq_blind, (pq_pass hP41 hD41 hK hE hS41 hA [] rfl (by decide))⟩ rfl rfl hl38.1 rfl (lv_room (Nat.le_of_ble_eq_true rfl)) dX12_packed_21 ⟨Nat.le_of_ble_eq_true rfl, Nat.le_of_ble_eq_true rfl⟩) hP41 hD41 hS41 hA [] [] rfl rfl (by decide) (by decide) (by decide) (by decide) (fun r42 w42 H42 lo42 e42 hR42 hP42r hD42r hS42 => ?_)
  subst hR42
  have hP42 : va_P D classes [] H42 := hP42r
  have hD42 : va_D A [] := hD42r
  clear hP42r hD42r
  clear hP41 hD41 hS41
  clear H41 lo41
  refine lv_i2l (pc := 24) (v := (r42 : Int32).toInt64) hx hb dX12_packed_24 rfl ?_
  refine lv_lor (pc := 25) hx hb dX12_packed_25 ?_
  refine lv_lstore_n (pc := 26) (lv' := [(1, .long (((((((((((((((0 : Int64) <<< ((6 : Int32).toInt64 &&& 63)) ||| ((r6 : Int32).toInt64) : Int64) <<< ((6 : Int32).toInt64 &&& 63)) ||| ((r12 : Int32).toInt64) : Int64) <<< ((6 : Int32).toInt64 &&& 63)) ||| ((r18 : Int32).toInt64) : Int64) <<< ((6 : Int32).toInt64 &&& 63)) ||| ((r24 : Int32).toInt64) : Int64) <<< ((6 : Int32).toInt64 &&& 63)) ||| ((r30 : Int32).toInt64) : Int64) <<< ((6 : Int32).toInt64 &&& 63)) ||| ((r36 : Int32).toInt64) : Int64) <<< ((6 : Int32).toInt64 &&& 63)) ||| ((r42 : Int32).toInt64))), (3, .int 6), (0, .ref (kv.1 8))]) hx hb dX12_packed_26 rfl hl38 (by decide) rfl (fun ls43 hl43 => ?_)
  clear hl38 ls38
  refine lv_iinc (pc := 27) (v := 7) (lv' := [(3, .int 7), (1, .long (((((((((((((((0 : Int64) <<< ((6 : Int32).toInt64 &&& 63)) ||| ((r6 : Int32).toInt64) : Int64) <<< ((6 : Int32).toInt64 &&& 63)) ||| ((r12 : Int32).toInt64) : Int64) <<< ((6 : Int32).toInt64 &&& 63)) ||| ((r18 : Int32).toInt64) : Int64) <<< ((6 : Int32).toInt64 &&& 63)) ||| ((r24 : Int32).toInt64) : Int64) <<< ((6 : Int32).toInt64 &&& 63)) ||| ((r30 : Int32).toInt64) : Int64) <<< ((6 : Int32).toInt64 &&& 63)) ||| ((r36 : Int32).toInt64) : Int64) <<< ((6 : Int32).toInt64 &&& 63)) ||| ((r42 : Int32).toInt64))), (0, .ref (kv.1 8))]) hx hb dX12_packed_27 hl43 (k := 1) rfl (by decide) (by decide) rfl (fun ls44 hl44 => ?_)
  clear hl43 ls43
  refine lv_goto (pc := 30) (tgt := 4) hx hb dX12_packed_30 (by decide) ?_
  refine lv_iload_n (pc := 4) hx hb dX12_packed_4 rfl (lv_at hl44 0 rfl) ?_
  refine lv_aload_n (pc := 5) hx hb dX12_packed_5 rfl (lv_at hl44 2 rfl) ?_
  refine cq_i (pc := 6) (wr := []) (k2 := 0) (n2 := 0) (va_runV (As := []) (rest := [.int 7]) ⟨hx, hb, hml, hown, hG⟩ (c_strlen l D cy kv H42.size 8 97 ("default") 7 (by decide)) (cwV 0 hG (gi_V g_326 g_327 g_328 g_306 g_307) rfl rfl rfl (by decide +kernel) ⟨Nat.le_of_ble_eq_true rfl, Nat.le_of_ble_eq_true rfl⟩) ⟨pq_blind, (st_recv (hE.2.2.2.2.2.2.2 (8, 97, "default", 7) (by decide)).2 hS42), (pq_pass hP42 hD42 hK hE hS42 hA [] rfl (by decide))⟩ rfl rfl hl44.1 rfl (lv_room (Nat.le_of_ble_eq_true rfl)) dX12_packed_6 ⟨Nat.le_of_ble_eq_true rfl, Nat.le_of_ble_eq_true rfl⟩) hP42 hD42 hS42 hA [] [] rfl rfl (by decide) (by decide) (by decide) (by decide) (fun r45 w45 H45 lo45 e45 hR45 hP45r hD45r hS45 => ?_)
  subst hR45
  subst e45
  have hP45 : va_P D classes [] H45 := hP45r
  have hD45 : va_D A [] := hD45r
  clear hP45r hD45r
  clear hP42 hD42 hS42
  clear H42 lo42
  refine tp_i (y := 7) (by decide) ?_
  refine lv_icmp_ge (pc := 9) (tgt := 33) hx hb dX12_packed_9 (by decide) (fun c46 => ?_) (fun c46 => absurd (by decide) c46)
  refine lv_lload_n (pc := 33) hx hb dX12_packed_33 rfl (lv_at hl44 1 rfl) ?_
  exact W.lret (pc := 34) (v := ((((((((((((((0 : Int64) <<< ((6 : Int32).toInt64 &&& 63)) ||| ((r6 : Int32).toInt64) : Int64) <<< ((6 : Int32).toInt64 &&& 63)) ||| ((r12 : Int32).toInt64) : Int64) <<< ((6 : Int32).toInt64 &&& 63)) ||| ((r18 : Int32).toInt64) : Int64) <<< ((6 : Int32).toInt64 &&& 63)) ||| ((r24 : Int32).toInt64) : Int64) <<< ((6 : Int32).toInt64 &&& 63)) ||| ((r30 : Int32).toInt64) : Int64) <<< ((6 : Int32).toInt64 &&& 63)) ||| ((r36 : Int32).toInt64) : Int64) <<< ((6 : Int32).toInt64 &&& 63)) ||| ((r42 : Int32).toInt64)) hx hb hr (fun t ht hW => ⟨⟨((((((((((((((0 : Int64) <<< ((6 : Int32).toInt64 &&& 63)) ||| ((r6 : Int32).toInt64) : Int64) <<< ((6 : Int32).toInt64 &&& 63)) ||| ((r12 : Int32).toInt64) : Int64) <<< ((6 : Int32).toInt64 &&& 63)) ||| ((r18 : Int32).toInt64) : Int64) <<< ((6 : Int32).toInt64 &&& 63)) ||| ((r24 : Int32).toInt64) : Int64) <<< ((6 : Int32).toInt64 &&& 63)) ||| ((r30 : Int32).toInt64) : Int64) <<< ((6 : Int32).toInt64 &&& 63)) ||| ((r36 : Int32).toInt64) : Int64) <<< ((6 : Int32).toInt64 &&& 63)) ||| ((r42 : Int32).toInt64), (), rfl, trivial, _, rfl, by rw [ht]; exact hP45, hD45⟩, hS45.F ht⟩) hS45.2.2 dX12_packed_34
set_option maxHeartbeats 4000000 in
set_option maxRecDepth 100000 in
/-- X12_packed -/
theorem c_packed9 (l : Launch) (D : va_G) (cy : Nat → ClassId) (kv : KV) (sz : Nat) : Met l yX12_packed (Cond.code yX12_packed cX12_packed 4 (some .long) :: GW) ({ frames := 12, cells := 0, slots := 0, locals := 280 } : Room) (va_Pc [.ref (kv.1 9)] (pcq D cy kv sz [])) (va_Ql (fun r (_ : Unit) => (fun _ => True) r) (fun _ t => bq D (fun w => w = []) (va_A [] sz) t) (va_A [] sz)) 0 0 (va_A [] sz) := by
  refine Met.ofW (cc := cX12_packed) (maxL := 4) (ret := (some .long)) (by decide) rfl ?_
  intro p e s m args below meth c s₁ B hml hv
  obtain ⟨rfl, hsz, hP, hK, hD0, hE⟩ := hv
  have hx := B.exec
  have hb := B.bytes
  have hr := B.returns
  have hG : ∀ w ∈ GW, w.before ([.ref (kv.1 9)] : List Value).toArray s = true := fun w h => atoms_spec (ws := Cond.code yX12_packed cX12_packed 4 (some .long) :: GW) B.pre w (List.mem_cons_of_mem _ h)
  have hown : s.vm.findClass RX12 = some m.cls := findClass_of_methodNamed B.named
  have hlocks := B.notSynchronized
  subst hsz
  have hD := hD0.self (sz := s.heap.size)
  generalize hAe : va_A [] s.heap.size = A at hD hE ⊢
  have hA : ∀ q : Nat, s.heap.size ≤ q → A q := fun q h => by rw [← hAe]; exact Or.inr h
  have hS : va_S A s.heap s.heap [] := va_S.rf
  clear hAe hD0
  have hl0 := lv_entry ([.ref (kv.1 9)]) (n := 4) (Nat.le_of_ble_eq_true rfl)
  rw [lg_entry_eq]
  generalize (lg_sl ([.ref (kv.1 9)]) ++ List.replicate (4 - (lg_sl ([.ref (kv.1 9)])).length) Slot.unset).toArray = ls at hl0 ⊢
  have hl : lv_has ls 4 [(0, .ref (kv.1 9))] := hl0
  clear hl0
  refine lv_lconst (pc := 0) (v := 0) hx hb dX12_packed_0 (by decide) ?_
  refine lv_lstore_n (pc := 1) (lv' := [(1, .long 0), (0, .ref (kv.1 9))]) hx hb dX12_packed_1 rfl hl (by decide) rfl (fun ls1 hl1 => ?_)
  clear hl ls
  refine lv_iconst (pc := 2) (v := 0) hx hb dX12_packed_2 (by decide) ?_
  refine lv_istore_n (pc := 3) (lv' := [(3, .int 0), (1, .long 0), (0, .ref (kv.1 9))]) hx hb dX12_packed_3 rfl hl1 (by decide) rfl (fun ls2 hl2 => ?_)
  clear hl1 ls1
  refine lv_iload_n (pc := 4) hx hb dX12_packed_4 rfl (lv_at hl2 0 rfl) ?_
  refine lv_aload_n (pc := 5) hx hb dX12_packed_5 rfl (lv_at hl2 2 rfl) ?_
  refine cq_i (pc := 6) (wr := []) (k2 := 0) (n2 := 0) (va_runV (As := []) (rest := [.int 0]) ⟨hx, hb, hml, hown, hG⟩ (c_strlen l D cy kv s.heap.size 9 99 ("env") 3 (by decide)) (cwV 0 hG (gi_V g_326 g_327 g_328 g_306 g_307) rfl rfl rfl (by decide +kernel) ⟨Nat.le_of_ble_eq_true rfl, Nat.le_of_ble_eq_true rfl⟩) ⟨pq_blind, (st_recv (hE.2.2.2.2.2.2.2 (9, 99, "env", 3) (by decide)).2 hS), (pq_pass hP hD hK hE hS hA [] rfl (by decide))⟩ rfl rfl hl2.1 rfl (lv_room (Nat.le_of_ble_eq_true rfl)) dX12_packed_6 ⟨Nat.le_of_ble_eq_true rfl, Nat.le_of_ble_eq_true rfl⟩) hP hD hS hA [] [] rfl rfl (by decide) (by decide) (by decide) (by decide) (fun r3 w3 H3 lo3 e3 hR3 hP3r hD3r hS3 => ?_)
  subst hR3
  subst e3
  have hP3 : va_P D classes [] H3 := hP3r
  have hD3 : va_D A [] := hD3r
  clear hP3r hD3r
  clear hP hD hS
  refine tp_i (y := 3) (by decide) ?_
  refine lv_icmp_ge (pc := 9) (tgt := 33) hx hb dX12_packed_9 (by decide) (fun c4 => absurd c4 (by decide)) (fun c4 => ?_)
  refine lv_lload_n (pc := 12) hx hb dX12_packed_12 rfl (lv_at hl2 1 rfl) ?_
  refine lv_bipush (pc := 13) (v := 6) hx hb dX12_packed_13 (by decide) ?_
  refine lv_lshl (pc := 15) (v := (0 : Int64) <<< ((6 : Int32).toInt64 &&& 63)) hx hb dX12_packed_15 rfl ?_
  refine lv_aload_n (pc := 16) hx hb dX12_packed_16 rfl (lv_at hl2 2 rfl) ?_
  refine lv_iload_n (pc := 17) hx hb dX12_packed_17 rfl (lv_at hl2 0 rfl) ?_
  refine cq_i (pc := 18) (wr := []) (k2 := 0) (n2 := 0) (va_runV (As := [.int 0]) (rest := [.long ((0 : Int64) <<< ((6 : Int32).toInt64 &&& 63))]) ⟨hx, hb, hml, hown, hG⟩ (c_charAt l D cy kv H3.size 0 9 99 ("env") 3 (by decide) (by decide) (by decide) (show ¬ ((0 : Int32) < 0 ∨ 3 ≤ (0 : Int32).toNatClampNeg) by decide)) (cwV 1 hG (gi_V g_329 g_330 g_331 g_306 g_324) rfl rfl rfl (by decide +kernel) ⟨Nat.le_of_ble_eq_true rfl, Nat.le_of_ble_eq_true rfl⟩) ⟨pq_blind, (st_recv (hE.2.2.2.2.2.2.2 (9, 99, "env", 3) (by decide)).2 hS3), (pq_pass hP3 hD3 hK hE hS3 hA [] rfl (by decide))⟩ rfl rfl hl2.1 rfl (lv_room (Nat.le_of_ble_eq_true rfl)) dX12_packed_18 ⟨Nat.le_of_ble_eq_true rfl, Nat.le_of_ble_eq_true rfl⟩) hP3 hD3 hS3 hA [] [] rfl rfl (by decide) (by decide) (by decide) (by decide) (fun r5 w5 H5 lo5 e5 hR5 hP5r hD5r hS5 => ?_)
  subst hR5
  have hP5 : va_P D classes [] H5 := hP5r
  have hD5 : va_D A [] := hD5r
  clear hP5r hD5r
  clear hP3 hD3 hS3
  clear H3 lo3
  refine cq_i (pc := 21) (wr := []) (k2 := 0) (n2 := 0) (va_runS (As := [.int r5]) (rest := [.long ((0 : Int64) <<< ((6 : Int32).toInt64 &&& 63))]) ⟨hx, hb, hml, hown, hG⟩ (c_signOf l D cy kv H5.size r5) (va_cwS 1 hG (gi_S g_332 g_333 g_334 g_325) rfl rfl rfl (by decide +kernel) ⟨Nat.le_of_ble_eq_true rfl, Nat.le_of_ble_eq_true rfl⟩) ⟨pq_blind, (pq_pass hP5 hD5 hK hE hS5 hA [] rfl (by decide))⟩ rfl rfl hl2.1 rfl (lv_room (Nat.le_of_ble_eq_true rfl)) dX12_packed_21 ⟨Nat.le_of_ble_eq_true rfl, Nat.le_of_ble_eq_true rfl⟩) hP5 hD5 hS5 hA [] [] rfl rfl (by decide) (by decide) (by decide) (by decide) (fun r6 w6 H6 lo6 e6 hR6 hP6r hD6r hS6 => ?_)
  subst hR6
  have hP6 : va_P D classes [] H6 := hP6r
  have hD6 : va_D A [] := hD6r
  clear hP6r hD6r
  clear hP5 hD5 hS5
  clear H5 lo5
  refine lv_i2l (pc := 24) (v := (r6 : Int32).toInt64) hx hb dX12_packed_24 rfl ?_
  refine lv_lor (pc := 25) hx hb dX12_packed_25 ?_
  refine lv_lstore_n (pc := 26) (lv' := [(1, .long (((0 : Int64) <<< ((6 : Int32).toInt64 &&& 63)) ||| ((r6 : Int32).toInt64))), (3, .int 0), (0, .ref (kv.1 9))]) hx hb dX12_packed_26 rfl hl2 (by decide) rfl (fun ls7 hl7 => ?_)
  clear hl2 ls2
  refine lv_iinc (pc := 27) (v := 1) (lv' := [(3, .int 1), (1, .long (((0 : Int64) <<< ((6 : Int32).toInt64 &&& 63)) ||| ((r6 : Int32).toInt64))), (0, .ref (kv.1 9))]) hx hb dX12_packed_27 hl7 (k := 1) rfl (by decide) (by decide) rfl (fun ls8 hl8 => ?_)
  clear hl7 ls7
  refine lv_goto (pc := 30) (tgt := 4) hx hb dX12_packed_30 (by decide) ?_
  refine lv_iload_n (pc := 4) hx hb dX12_packed_4 rfl (lv_at hl8 0 rfl) ?_
  refine lv_aload_n (pc := 5) hx hb dX12_packed_5 rfl (lv_at hl8 2 rfl) ?_
  refine cq_i (pc := 6) (wr := []) (k2 := 0) (n2 := 0) (va_runV (As := []) (rest := [.int 1]) ⟨hx, hb, hml, hown, hG⟩ (c_strlen l D cy kv H6.size 9 99 ("env") 3 (by decide)) (cwV 0 hG (gi_V g_326 g_327 g_328 g_306 g_307) rfl rfl rfl (by decide +kernel) ⟨Nat.le_of_ble_eq_true rfl, Nat.le_of_ble_eq_true rfl⟩) ⟨pq_blind, (st_recv (hE.2.2.2.2.2.2.2 (9, 99, "env", 3) (by decide)).2 hS6), (pq_pass hP6 hD6 hK hE hS6 hA [] rfl (by decide))⟩ rfl rfl hl8.1 rfl (lv_room (Nat.le_of_ble_eq_true rfl)) dX12_packed_6 ⟨Nat.le_of_ble_eq_true rfl, Nat.le_of_ble_eq_true rfl⟩) hP6 hD6 hS6 hA [] [] rfl rfl (by decide) (by decide) (by decide) (by decide) (fun r9 w9 H9 lo9 e9 hR9 hP9r hD9r hS9 => ?_)
  subst hR9
  subst e9
  have hP9 : va_P D classes [] H9 := hP9r
  have hD9 : va_D A [] := hD9r
  clear hP9r hD9r
  clear hP6 hD6 hS6
  clear H6 lo6
  refine tp_i (y := 3) (by decide) ?_
  refine lv_icmp_ge (pc := 9) (tgt := 33) hx hb dX12_packed_9 (by decide) (fun c10 => absurd c10 (by decide)) (fun c10 => ?_)
  refine lv_lload_n (pc := 12) hx hb dX12_packed_12 rfl (lv_at hl8 1 rfl) ?_
  refine lv_bipush (pc := 13) (v := 6) hx hb dX12_packed_13 (by decide) ?_
  refine lv_lshl (pc := 15) (v := (((0 : Int64) <<< ((6 : Int32).toInt64 &&& 63)) ||| ((r6 : Int32).toInt64) : Int64) <<< ((6 : Int32).toInt64 &&& 63)) hx hb dX12_packed_15 rfl ?_
  refine lv_aload_n (pc := 16) hx hb dX12_packed_16 rfl (lv_at hl8 2 rfl) ?_
  refine lv_iload_n (pc := 17) hx hb dX12_packed_17 rfl (lv_at hl8 0 rfl) ?_
  refine cq_i (pc := 18) (wr := []) (k2 := 0) (n2 := 0) (va_runV (As := [.int 1]) (rest := [.long ((((0 : Int64) <<< ((6 : Int32).toInt64 &&& 63)) ||| ((r6 : Int32).toInt64) : Int64) <<< ((6 : Int32).toInt64 &&& 63))]) ⟨hx, hb, hml, hown, hG⟩ (c_charAt l D cy kv H9.size 1 9 99 ("env") 3 (by decide) (by decide) (by decide) (show ¬ ((1 : Int32) < 0 ∨ 3 ≤ (1 : Int32).toNatClampNeg) by decide)) (cwV 1 hG (gi_V g_329 g_330 g_331 g_306 g_324) rfl rfl rfl (by decide +kernel) ⟨Nat.le_of_ble_eq_true rfl, Nat.le_of_ble_eq_true rfl⟩) ⟨pq_blind, (st_recv (hE.2.2.2.2.2.2.2 (9, 99, "env", 3) (by decide)).2 hS9), (pq_pass hP9 hD9 hK hE hS9 hA [] rfl (by decide))⟩ rfl rfl hl8.1 rfl (lv_room (Nat.le_of_ble_eq_true rfl)) dX12_packed_18 ⟨Nat.le_of_ble_eq_true rfl, Nat.le_of_ble_eq_true rfl⟩) hP9 hD9 hS9 hA [] [] rfl rfl (by decide) (by decide) (by decide) (by decide) (fun r11 w11 H11 lo11 e11 hR11 hP11r hD11r hS11 => ?_)
  subst hR11
  have hP11 : va_P D classes [] H11 := hP11r
  have hD11 : va_D A [] := hD11r
  clear hP11r hD11r
  clear hP9 hD9 hS9
  clear H9 lo9
  refine cq_i (pc := 21) (wr := []) (k2 := 0) (n2 := 0) (va_runS (As := [.int r11]) (rest := [.long ((((0 : Int64) <<< ((6 : Int32).toInt64 &&& 63)) ||| ((r6 : Int32).toInt64) : Int64) <<< ((6 : Int32).toInt64 &&& 63))]) ⟨hx, hb, hml, hown, hG⟩ (c_signOf l D cy kv H11.size r11) (va_cwS 1 hG (gi_S g_332 g_333 g_334 g_325) rfl rfl rfl (by decide +kernel) ⟨Nat.le_of_ble_eq_true rfl, Nat.le_of_ble_eq_true rfl⟩) ⟨pq_blind, (pq_pass hP11 hD11 hK hE hS11 hA [] rfl (by decide))⟩ rfl rfl hl8.1 rfl (lv_room (Nat.le_of_ble_eq_true rfl)) dX12_packed_21 ⟨Nat.le_of_ble_eq_true rfl, Nat.le_of_ble_eq_true rfl⟩) hP11 hD11 hS11 hA [] [] rfl rfl (by decide) (by decide) (by decide) (by decide) (fun r12 w12 H12 lo12 e12 hR12 hP12r hD12r hS12 => ?_)
  subst hR12
  have hP12 : va_P D classes [] H12 := hP12r
  have hD12 : va_D A [] := hD12r
  clear hP12r hD12r
  clear hP11 hD11 hS11
  clear H11 lo11
  refine lv_i2l (pc := 24) (v := (r12 : Int32).toInt64) hx hb dX12_packed_24 rfl ?_
  refine lv_lor (pc := 25) hx hb dX12_packed_25 ?_
  refine lv_lstore_n (pc := 26) (lv' := [(1, .long (((((0 : Int64) <<< ((6 : Int32).toInt64 &&& 63)) ||| ((r6 : Int32).toInt64) : Int64) <<< ((6 : Int32).toInt64 &&& 63)) ||| ((r12 : Int32).toInt64))), (3, .int 1), (0, .ref (kv.1 9))]) hx hb dX12_packed_26 rfl hl8 (by decide) rfl (fun ls13 hl13 => ?_)
  clear hl8 ls8
  refine lv_iinc (pc := 27) (v := 2) (lv' := [(3, .int 2), (1, .long (((((0 : Int64) <<< ((6 : Int32).toInt64 &&& 63)) ||| ((r6 : Int32).toInt64) : Int64) <<< ((6 : Int32).toInt64 &&& 63)) ||| ((r12 : Int32).toInt64))), (0, .ref (kv.1 9))]) hx hb dX12_packed_27 hl13 (k := 1) rfl (by decide) (by decide) rfl (fun ls14 hl14 => ?_)
  clear hl13 ls13
  refine lv_goto (pc := 30) (tgt := 4) hx hb dX12_packed_30 (by decide) ?_
  refine lv_iload_n (pc := 4) hx hb dX12_packed_4 rfl (lv_at hl14 0 rfl) ?_
  refine lv_aload_n (pc := 5) hx hb dX12_packed_5 rfl (lv_at hl14 2 rfl) ?_
  refine cq_i (pc := 6) (wr := []) (k2 := 0) (n2 := 0) (va_runV (As := []) (rest := [.int 2]) ⟨hx, hb, hml, hown, hG⟩ (c_strlen l D cy kv H12.size 9 99 ("env") 3 (by decide)) (cwV 0 hG (gi_V g_326 g_327 g_328 g_306 g_307) rfl rfl rfl (by decide +kernel) ⟨Nat.le_of_ble_eq_true rfl, Nat.le_of_ble_eq_true rfl⟩) ⟨pq_blind, (st_recv (hE.2.2.2.2.2.2.2 (9, 99, "env", 3) (by decide)).2 hS12), (pq_pass hP12 hD12 hK hE hS12 hA [] rfl (by decide))⟩ rfl rfl hl14.1 rfl (lv_room (Nat.le_of_ble_eq_true rfl)) dX12_packed_6 ⟨Nat.le_of_ble_eq_true rfl, Nat.le_of_ble_eq_true rfl⟩) hP12 hD12 hS12 hA [] [] rfl rfl (by decide) (by decide) (by decide) (by decide) (fun r15 w15 H15 lo15 e15 hR15 hP15r hD15r hS15 => ?_)
  subst hR15
  subst e15
  have hP15 : va_P D classes [] H15 := hP15r
  have hD15 : va_D A [] := hD15r
  clear hP15r hD15r
  clear hP12 hD12 hS12
  clear H12 lo12
  refine tp_i (y := 3) (by decide) ?_
  refine lv_icmp_ge (pc := 9) (tgt := 33) hx hb dX12_packed_9 (by decide) (fun c16 => absurd c16 (by decide)) (fun c16 => ?_)
  refine lv_lload_n (pc := 12) hx hb dX12_packed_12 rfl (lv_at hl14 1 rfl) ?_
  refine lv_bipush (pc := 13) (v := 6) hx hb dX12_packed_13 (by decide) ?_
  refine lv_lshl (pc := 15) (v := (((((0 : Int64) <<< ((6 : Int32).toInt64 &&& 63)) ||| ((r6 : Int32).toInt64) : Int64) <<< ((6 : Int32).toInt64 &&& 63)) ||| ((r12 : Int32).toInt64) : Int64) <<< ((6 : Int32).toInt64 &&& 63)) hx hb dX12_packed_15 rfl ?_
  refine lv_aload_n (pc := 16) hx hb dX12_packed_16 rfl (lv_at hl14 2 rfl) ?_
  refine lv_iload_n (pc := 17) hx hb dX12_packed_17 rfl (lv_at hl14 0 rfl) ?_
  refine cq_i (pc := 18) (wr := []) (k2 := 0) (n2 := 0) (va_runV (As := [.int 2]) (rest := [.long ((((((0 : Int64) <<< ((6 : Int32).toInt64 &&& 63)) ||| ((r6 : Int32).toInt64) : Int64) <<< ((6 : Int32).toInt64 &&& 63)) ||| ((r12 : Int32).toInt64) : Int64) <<< ((6 : Int32).toInt64 &&& 63))]) ⟨hx, hb, hml, hown, hG⟩ (c_charAt l D cy kv H15.size 2 9 99 ("env") 3 (by decide) (by decide) (by decide) (show ¬ ((2 : Int32) < 0 ∨ 3 ≤ (2 : Int32).toNatClampNeg) by decide)) (cwV 1 hG (gi_V g_329 g_330 g_331 g_306 g_324) rfl rfl rfl (by decide +kernel) ⟨Nat.le_of_ble_eq_true rfl, Nat.le_of_ble_eq_true rfl⟩) ⟨pq_blind, (st_recv (hE.2.2.2.2.2.2.2 (9, 99, "env", 3) (by decide)).2 hS15), (pq_pass hP15 hD15 hK hE hS15 hA [] rfl (by decide))⟩ rfl rfl hl14.1 rfl (lv_room (Nat.le_of_ble_eq_true rfl)) dX12_packed_18 ⟨Nat.le_of_ble_eq_true rfl, Nat.le_of_ble_eq_true rfl⟩) hP15 hD15 hS15 hA [] [] rfl rfl (by decide) (by decide) (by decide) (by decide) (fun r17 w17 H17 lo17 e17 hR17 hP17r hD17r hS17 => ?_)
  subst hR17
  have hP17 : va_P D classes [] H17 := hP17r
  have hD17 : va_D A [] := hD17r
  clear hP17r hD17r
  clear hP15 hD15 hS15
  clear H15 lo15
  refine cq_i (pc := 21) (wr := []) (k2 := 0) (n2 := 0) (va_runS (As := [.int r17]) (rest := [.long ((((((0 : Int64) <<< ((6 : Int32).toInt64 &&& 63)) ||| ((r6 : Int32).toInt64) : Int64) <<< ((6 : Int32).toInt64 &&& 63)) ||| ((r12 : Int32).toInt64) : Int64) <<< ((6 : Int32).toInt64 &&& 63))]) ⟨hx, hb, hml, hown, hG⟩ (c_signOf l D cy kv H17.size r17) (va_cwS 1 hG (gi_S g_332 g_333 g_334 g_325) rfl rfl rfl (by decide +kernel) ⟨Nat.le_of_ble_eq_true rfl, Nat.le_of_ble_eq_true rfl⟩) ⟨pq_blind, (pq_pass hP17 hD17 hK hE hS17 hA [] rfl (by decide))⟩ rfl rfl hl14.1 rfl (lv_room (Nat.le_of_ble_eq_true rfl)) dX12_packed_21 ⟨Nat.le_of_ble_eq_true rfl, Nat.le_of_ble_eq_true rfl⟩) hP17 hD17 hS17 hA [] [] rfl rfl (by decide) (by decide) (by decide) (by decide) (fun r18 w18 H18 lo18 e18 hR18 hP18r hD18r hS18 => ?_)
  subst hR18
  have hP18 : va_P D classes [] H18 := hP18r
  have hD18 : va_D A [] := hD18r
  clear hP18r hD18r
  clear hP17 hD17 hS17
  clear H17 lo17
  refine lv_i2l (pc := 24) (v := (r18 : Int32).toInt64) hx hb dX12_packed_24 rfl ?_
  refine lv_lor (pc := 25) hx hb dX12_packed_25 ?_
  refine lv_lstore_n (pc := 26) (lv' := [(1, .long (((((((0 : Int64) <<< ((6 : Int32).toInt64 &&& 63)) ||| ((r6 : Int32).toInt64) : Int64) <<< ((6 : Int32).toInt64 &&& 63)) ||| ((r12 : Int32).toInt64) : Int64) <<< ((6 : Int32).toInt64 &&& 63)) ||| ((r18 : Int32).toInt64))), (3, .int 2), (0, .ref (kv.1 9))]) hx hb dX12_packed_26 rfl hl14 (by decide) rfl (fun ls19 hl19 => ?_)
  clear hl14 ls14
  refine lv_iinc (pc := 27) (v := 3) (lv' := [(3, .int 3), (1, .long (((((((0 : Int64) <<< ((6 : Int32).toInt64 &&& 63)) ||| ((r6 : Int32).toInt64) : Int64) <<< ((6 : Int32).toInt64 &&& 63)) ||| ((r12 : Int32).toInt64) : Int64) <<< ((6 : Int32).toInt64 &&& 63)) ||| ((r18 : Int32).toInt64))), (0, .ref (kv.1 9))]) hx hb dX12_packed_27 hl19 (k := 1) rfl (by decide) (by decide) rfl (fun ls20 hl20 => ?_)
  clear hl19 ls19
  refine lv_goto (pc := 30) (tgt := 4) hx hb dX12_packed_30 (by decide) ?_
  refine lv_iload_n (pc := 4) hx hb dX12_packed_4 rfl (lv_at hl20 0 rfl) ?_
  refine lv_aload_n (pc := 5) hx hb dX12_packed_5 rfl (lv_at hl20 2 rfl) ?_
  refine cq_i (pc := 6) (wr := []) (k2 := 0) (n2 := 0) (va_runV (As := []) (rest := [.int 3]) ⟨hx, hb, hml, hown, hG⟩ (c_strlen l D cy kv H18.size 9 99 ("env") 3 (by decide)) (cwV 0 hG (gi_V g_326 g_327 g_328 g_306 g_307) rfl rfl rfl (by decide +kernel) ⟨Nat.le_of_ble_eq_true rfl, Nat.le_of_ble_eq_true rfl⟩) ⟨pq_blind, (st_recv (hE.2.2.2.2.2.2.2 (9, 99, "env", 3) (by decide)).2 hS18), (pq_pass hP18 hD18 hK hE hS18 hA [] rfl (by decide))⟩ rfl rfl hl20.1 rfl (lv_room (Nat.le_of_ble_eq_true rfl)) dX12_packed_6 ⟨Nat.le_of_ble_eq_true rfl, Nat.le_of_ble_eq_true rfl⟩) hP18 hD18 hS18 hA [] [] rfl rfl (by decide) (by decide) (by decide) (by decide) (fun r21 w21 H21 lo21 e21 hR21 hP21r hD21r hS21 => ?_)
  subst hR21
  subst e21
  have hP21 : va_P D classes [] H21 := hP21r
  have hD21 : va_D A [] := hD21r
  clear hP21r hD21r
  clear hP18 hD18 hS18
  clear H18 lo18
  refine tp_i (y := 3) (by decide) ?_
  refine lv_icmp_ge (pc := 9) (tgt := 33) hx hb dX12_packed_9 (by decide) (fun c22 => ?_) (fun c22 => absurd (by decide) c22)
  refine lv_lload_n (pc := 33) hx hb dX12_packed_33 rfl (lv_at hl20 1 rfl) ?_
  exact W.lret (pc := 34) (v := ((((((0 : Int64) <<< ((6 : Int32).toInt64 &&& 63)) ||| ((r6 : Int32).toInt64) : Int64) <<< ((6 : Int32).toInt64 &&& 63)) ||| ((r12 : Int32).toInt64) : Int64) <<< ((6 : Int32).toInt64 &&& 63)) ||| ((r18 : Int32).toInt64)) hx hb hr (fun t ht hW => ⟨⟨((((((0 : Int64) <<< ((6 : Int32).toInt64 &&& 63)) ||| ((r6 : Int32).toInt64) : Int64) <<< ((6 : Int32).toInt64 &&& 63)) ||| ((r12 : Int32).toInt64) : Int64) <<< ((6 : Int32).toInt64 &&& 63)) ||| ((r18 : Int32).toInt64), (), rfl, trivial, _, rfl, by rw [ht]; exact hP21, hD21⟩, hS21.F ht⟩) hS21.2.2 dX12_packed_34
set_option maxHeartbeats 4000000 in
set_option maxRecDepth 100000 in
/-- X12_packed -/
theorem c_packed10 (l : Launch) (D : va_G) (cy : Nat → ClassId) (kv : KV) (sz : Nat) : Met l yX12_packed (Cond.code yX12_packed cX12_packed 4 (some .long) :: GW) ({ frames := 12, cells := 0, slots := 0, locals := 280 } : Room) (va_Pc [.ref (kv.1 10)] (pcq D cy kv sz [])) (va_Ql (fun r (_ : Unit) => (fun _ => True) r) (fun _ t => bq D (fun w => w = []) (va_A [] sz) t) (va_A [] sz)) 0 0 (va_A [] sz) := by
  refine Met.ofW (cc := cX12_packed) (maxL := 4) (ret := (some .long)) (by decide) rfl ?_
  intro p e s m args below meth c s₁ B hml hv
  obtain ⟨rfl, hsz, hP, hK, hD0, hE⟩ := hv
  have hx := B.exec
  have hb := B.bytes
  have hr := B.returns
  have hG : ∀ w ∈ GW, w.before ([.ref (kv.1 10)] : List Value).toArray s = true := fun w h => atoms_spec (ws := Cond.code yX12_packed cX12_packed 4 (some .long) :: GW) B.pre w (List.mem_cons_of_mem _ h)
  have hown : s.vm.findClass RX12 = some m.cls := findClass_of_methodNamed B.named
  have hlocks := B.notSynchronized
  subst hsz
  have hD := hD0.self (sz := s.heap.size)
  generalize hAe : va_A [] s.heap.size = A at hD hE ⊢
  have hA : ∀ q : Nat, s.heap.size ≤ q → A q := fun q h => by rw [← hAe]; exact Or.inr h
  have hS : va_S A s.heap s.heap [] := va_S.rf
  clear hAe hD0
  have hl0 := lv_entry ([.ref (kv.1 10)]) (n := 4) (Nat.le_of_ble_eq_true rfl)
  rw [lg_entry_eq]
  generalize (lg_sl ([.ref (kv.1 10)]) ++ List.replicate (4 - (lg_sl ([.ref (kv.1 10)])).length) Slot.unset).toArray = ls at hl0 ⊢
  have hl : lv_has ls 4 [(0, .ref (kv.1 10))] := hl0
  clear hl0
  refine lv_lconst (pc := 0) (v := 0) hx hb dX12_packed_0 (by decide) ?_
  refine lv_lstore_n (pc := 1) (lv' := [(1, .long 0), (0, .ref (kv.1 10))]) hx hb dX12_packed_1 rfl hl (by decide) rfl (fun ls1 hl1 => ?_)
  clear hl ls
  refine lv_iconst (pc := 2) (v := 0) hx hb dX12_packed_2 (by decide) ?_
  refine lv_istore_n (pc := 3) (lv' := [(3, .int 0), (1, .long 0), (0, .ref (kv.1 10))]) hx hb dX12_packed_3 rfl hl1 (by decide) rfl (fun ls2 hl2 => ?_)
  clear hl1 ls1
  refine lv_iload_n (pc := 4) hx hb dX12_packed_4 rfl (lv_at hl2 0 rfl) ?_
  refine lv_aload_n (pc := 5) hx hb dX12_packed_5 rfl (lv_at hl2 2 rfl) ?_
  refine cq_i (pc := 6) (wr := []) (k2 := 0) (n2 := 0) (va_runV (As := []) (rest := [.int 0]) ⟨hx, hb, hml, hown, hG⟩ (c_strlen l D cy kv s.heap.size 10 101 ("not") 3 (by decide)) (cwV 0 hG (gi_V g_326 g_327 g_328 g_306 g_307) rfl rfl rfl (by decide +kernel) ⟨Nat.le_of_ble_eq_true rfl, Nat.le_of_ble_eq_true rfl⟩) ⟨pq_blind, (st_recv (hE.2.2.2.2.2.2.2 (10, 101, "not", 3) (by decide)).2 hS), (pq_pass hP hD hK hE hS hA [] rfl (by decide))⟩ rfl rfl hl2.1 rfl (lv_room (Nat.le_of_ble_eq_true rfl)) dX12_packed_6 ⟨Nat.le_of_ble_eq_true rfl, Nat.le_of_ble_eq_true rfl⟩) hP hD hS hA [] [] rfl rfl (by decide) (by decide) (by decide) (by decide) (fun r3 w3 H3 lo3 e3 hR3 hP3r hD3r hS3 => ?_)
  subst hR3
  subst e3
  have hP3 : va_P D classes [] H3 := hP3r
  have hD3 : va_D A [] := hD3r
  clear hP3r hD3r
  clear hP hD hS
  refine tp_i (y := 3) (by decide) ?_
  refine lv_icmp_ge (pc := 9) (tgt := 33) hx hb dX12_packed_9 (by decide) (fun c4 => absurd c4 (by decide)) (fun c4 => ?_)
  refine lv_lload_n (pc := 12) hx hb dX12_packed_12 rfl (lv_at hl2 1 rfl) ?_
  refine lv_bipush (pc := 13) (v := 6) hx hb dX12_packed_13 (by decide) ?_
  refine lv_lshl (pc := 15) (v := (0 : Int64) <<< ((6 : Int32).toInt64 &&& 63)) hx hb dX12_packed_15 rfl ?_
  refine lv_aload_n (pc := 16) hx hb dX12_packed_16 rfl (lv_at hl2 2 rfl) ?_
  refine lv_iload_n (pc := 17) hx hb dX12_packed_17 rfl (lv_at hl2 0 rfl) ?_
  refine cq_i (pc := 18) (wr := []) (k2 := 0) (n2 := 0) (va_runV (As := [.int 0]) (rest := [.long ((0 : Int64) <<< ((6 : Int32).toInt64 &&& 63))]) ⟨hx, hb, hml, hown, hG⟩ (c_charAt l D cy kv H3.size 0 10 101 ("not") 3 (by decide) (by decide) (by decide) (show ¬ ((0 : Int32) < 0 ∨ 3 ≤ (0 : Int32).toNatClampNeg) by decide)) (cwV 1 hG (gi_V g_329 g_330 g_331 g_306 g_324) rfl rfl rfl (by decide +kernel) ⟨Nat.le_of_ble_eq_true rfl, Nat.le_of_ble_eq_true rfl⟩) ⟨pq_blind, (st_recv (hE.2.2.2.2.2.2.2 (10, 101, "not", 3) (by decide)).2 hS3), (pq_pass hP3 hD3 hK hE hS3 hA [] rfl (by decide))⟩ rfl rfl hl2.1 rfl (lv_room (Nat.le_of_ble_eq_true rfl)) dX12_packed_18 ⟨Nat.le_of_ble_eq_true rfl, Nat.le_of_ble_eq_true rfl⟩) hP3 hD3 hS3 hA [] [] rfl rfl (by decide) (by decide) (by decide) (by decide) (fun r5 w5 H5 lo5 e5 hR5 hP5r hD5r hS5 => ?_)
  subst hR5
  have hP5 : va_P D classes [] H5 := hP5r
  have hD5 : va_D A [] := hD5r
  clear hP5r hD5r
  clear hP3 hD3 hS3
  clear H3 lo3
  refine cq_i (pc := 21) (wr := []) (k2 := 0) (n2 := 0) (va_runS (As := [.int r5]) (rest := [.long ((0 : Int64) <<< ((6 : Int32).toInt64 &&& 63))]) ⟨hx, hb, hml, hown, hG⟩ (c_signOf l D cy kv H5.size r5) (va_cwS 1 hG (gi_S g_332 g_333 g_334 g_325) rfl rfl rfl (by decide +kernel) ⟨Nat.le_of_ble_eq_true rfl, Nat.le_of_ble_eq_true rfl⟩) ⟨pq_blind, (pq_pass hP5 hD5 hK hE hS5 hA [] rfl (by decide))⟩ rfl rfl hl2.1 rfl (lv_room (Nat.le_of_ble_eq_true rfl)) dX12_packed_21 ⟨Nat.le_of_ble_eq_true rfl, Nat.le_of_ble_eq_true rfl⟩) hP5 hD5 hS5 hA [] [] rfl rfl (by decide) (by decide) (by decide) (by decide) (fun r6 w6 H6 lo6 e6 hR6 hP6r hD6r hS6 => ?_)
  subst hR6
  have hP6 : va_P D classes [] H6 := hP6r
  have hD6 : va_D A [] := hD6r
  clear hP6r hD6r
  clear hP5 hD5 hS5
  clear H5 lo5
  refine lv_i2l (pc := 24) (v := (r6 : Int32).toInt64) hx hb dX12_packed_24 rfl ?_
  refine lv_lor (pc := 25) hx hb dX12_packed_25 ?_
  refine lv_lstore_n (pc := 26) (lv' := [(1, .long (((0 : Int64) <<< ((6 : Int32).toInt64 &&& 63)) ||| ((r6 : Int32).toInt64))), (3, .int 0), (0, .ref (kv.1 10))]) hx hb dX12_packed_26 rfl hl2 (by decide) rfl (fun ls7 hl7 => ?_)
  clear hl2 ls2
  refine lv_iinc (pc := 27) (v := 1) (lv' := [(3, .int 1), (1, .long (((0 : Int64) <<< ((6 : Int32).toInt64 &&& 63)) ||| ((r6 : Int32).toInt64))), (0, .ref (kv.1 10))]) hx hb dX12_packed_27 hl7 (k := 1) rfl (by decide) (by decide) rfl (fun ls8 hl8 => ?_)
  clear hl7 ls7
  refine lv_goto (pc := 30) (tgt := 4) hx hb dX12_packed_30 (by decide) ?_
  refine lv_iload_n (pc := 4) hx hb dX12_packed_4 rfl (lv_at hl8 0 rfl) ?_
  refine lv_aload_n (pc := 5) hx hb dX12_packed_5 rfl (lv_at hl8 2 rfl) ?_
  refine cq_i (pc := 6) (wr := []) (k2 := 0) (n2 := 0) (va_runV (As := []) (rest := [.int 1]) ⟨hx, hb, hml, hown, hG⟩ (c_strlen l D cy kv H6.size 10 101 ("not") 3 (by decide)) (cwV 0 hG (gi_V g_326 g_327 g_328 g_306 g_307) rfl rfl rfl (by decide +kernel) ⟨Nat.le_of_ble_eq_true rfl, Nat.le_of_ble_eq_true rfl⟩) ⟨pq_blind, (st_recv (hE.2.2.2.2.2.2.2 (10, 101, "not", 3) (by decide)).2 hS6), (pq_pass hP6 hD6 hK hE hS6 hA [] rfl (by decide))⟩ rfl rfl hl8.1 rfl (lv_room (Nat.le_of_ble_eq_true rfl)) dX12_packed_6 ⟨Nat.le_of_ble_eq_true rfl, Nat.le_of_ble_eq_true rfl⟩) hP6 hD6 hS6 hA [] [] rfl rfl (by decide) (by decide) (by decide) (by decide) (fun r9 w9 H9 lo9 e9 hR9 hP9r hD9r hS9 => ?_)
  subst hR9
  subst e9
  have hP9 : va_P D classes [] H9 := hP9r
  have hD9 : va_D A [] := hD9r
  clear hP9r hD9r
  clear hP6 hD6 hS6
  clear H6 lo6
  refine tp_i (y := 3) (by decide) ?_
  refine lv_icmp_ge (pc := 9) (tgt := 33) hx hb dX12_packed_9 (by decide) (fun c10 => absurd c10 (by decide)) (fun c10 => ?_)
  refine lv_lload_n (pc := 12) hx hb dX12_packed_12 rfl (lv_at hl8 1 rfl) ?_
  refine lv_bipush (pc := 13) (v := 6) hx hb dX12_packed_13 (by decide) ?_
  refine lv_lshl (pc := 15) (v := (((0 : Int64) <<< ((6 : Int32).toInt64 &&& 63)) ||| ((r6 : Int32).toInt64) : Int64) <<< ((6 : Int32).toInt64 &&& 63)) hx hb dX12_packed_15 rfl ?_
  refine lv_aload_n (pc := 16) hx hb dX12_packed_16 rfl (lv_at hl8 2 rfl) ?_
  refine lv_iload_n (pc := 17) hx hb dX12_packed_17 rfl (lv_at hl8 0 rfl) ?_
  refine cq_i (pc := 18) (wr := []) (k2 := 0) (n2 := 0) (va_runV (As := [.int 1]) (rest := [.long ((((0 : Int64) <<< ((6 : Int32).toInt64 &&& 63)) ||| ((r6 : Int32).toInt64) : Int64) <<< ((6 : Int32).toInt64 &&& 63))]) ⟨hx, hb, hml, hown, hG⟩ (c_charAt l D cy kv H9.size 1 10 101 ("not") 3 (by decide) (by decide) (by decide) (show ¬ ((1 : Int32) < 0 ∨ 3 ≤ (1 : Int32).toNatClampNeg) by decide)) (cwV 1 hG (gi_V g_329 g_330 g_331 g_306 g_324) rfl rfl rfl (by decide +kernel) ⟨Nat.le_of_ble_eq_true rfl, Nat.le_of_ble_eq_true rfl⟩) ⟨pq_blind, (st_recv (hE.2.2.2.2.2.2.2 (10, 101, "not", 3) (by decide)).2 hS9), (pq_pass hP9 hD9 hK hE hS9 hA [] rfl (by decide))⟩ rfl rfl hl8.1 rfl (lv_room (Nat.le_of_ble_eq_true rfl)) dX12_packed_18 ⟨Nat.le_of_ble_eq_true rfl, Nat.le_of_ble_eq_true rfl⟩) hP9 hD9 hS9 hA [] [] rfl rfl (by decide) (by decide) (by decide) (by decide) (fun r11 w11 H11 lo11 e11 hR11 hP11r hD11r hS11 => ?_)
  subst hR11
  have hP11 : va_P D classes [] H11 := hP11r
  have hD11 : va_D A [] := hD11r
  clear hP11r hD11r
  clear hP9 hD9 hS9
  clear H9 lo9
  refine cq_i (pc := 21) (wr := []) (k2 := 0) (n2 := 0) (va_runS (As := [.int r11]) (rest := [.long ((((0 : Int64) <<< ((6 : Int32).toInt64 &&& 63)) ||| ((r6 : Int32).toInt64) : Int64) <<< ((6 : Int32).toInt64 &&& 63))]) ⟨hx, hb, hml, hown, hG⟩ (c_signOf l D cy kv H11.size r11) (va_cwS 1 hG (gi_S g_332 g_333 g_334 g_325) rfl rfl rfl (by decide +kernel) ⟨Nat.le_of_ble_eq_true rfl, Nat.le_of_ble_eq_true rfl⟩) ⟨pq_blind, (pq_pass hP11 hD11 hK hE hS11 hA [] rfl (by decide))⟩ rfl rfl hl8.1 rfl (lv_room (Nat.le_of_ble_eq_true rfl)) dX12_packed_21 ⟨Nat.le_of_ble_eq_true rfl, Nat.le_of_ble_eq_true rfl⟩) hP11 hD11 hS11 hA [] [] rfl rfl (by decide) (by decide) (by decide) (by decide) (fun r12 w12 H12 lo12 e12 hR12 hP12r hD12r hS12 => ?_)
  subst hR12
  have hP12 : va_P D classes [] H12 := hP12r
  have hD12 : va_D A [] := hD12r
  clear hP12r hD12r
  clear hP11 hD11 hS11
  clear H11 lo11
  refine lv_i2l (pc := 24) (v := (r12 : Int32).toInt64) hx hb dX12_packed_24 rfl ?_
  refine lv_lor (pc := 25) hx hb dX12_packed_25 ?_
  refine lv_lstore_n (pc := 26) (lv' := [(1, .long (((((0 : Int64) <<< ((6 : Int32).toInt64 &&& 63)) ||| ((r6 : Int32).toInt64) : Int64) <<< ((6 : Int32).toInt64 &&& 63)) ||| ((r12 : Int32).toInt64))), (3, .int 1), (0, .ref (kv.1 10))]) hx hb dX12_packed_26 rfl hl8 (by decide) rfl (fun ls13 hl13 => ?_)
  clear hl8 ls8
  refine lv_iinc (pc := 27) (v := 2) (lv' := [(3, .int 2), (1, .long (((((0 : Int64) <<< ((6 : Int32).toInt64 &&& 63)) ||| ((r6 : Int32).toInt64) : Int64) <<< ((6 : Int32).toInt64 &&& 63)) ||| ((r12 : Int32).toInt64))), (0, .ref (kv.1 10))]) hx hb dX12_packed_27 hl13 (k := 1) rfl (by decide) (by decide) rfl (fun ls14 hl14 => ?_)
  clear hl13 ls13
  refine lv_goto (pc := 30) (tgt := 4) hx hb dX12_packed_30 (by decide) ?_
  refine lv_iload_n (pc := 4) hx hb dX12_packed_4 rfl (lv_at hl14 0 rfl) ?_
  refine lv_aload_n (pc := 5) hx hb dX12_packed_5 rfl (lv_at hl14 2 rfl) ?_
  refine cq_i (pc := 6) (wr := []) (k2 := 0) (n2 := 0) (va_runV (As := []) (rest := [.int 2]) ⟨hx, hb, hml, hown, hG⟩ (c_strlen l D cy kv H12.size 10 101 ("not") 3 (by decide)) (cwV 0 hG (gi_V g_326 g_327 g_328 g_306 g_307) rfl rfl rfl (by decide +kernel) ⟨Nat.le_of_ble_eq_true rfl, Nat.le_of_ble_eq_true rfl⟩) ⟨pq_blind, (st_recv (hE.2.2.2.2.2.2.2 (10, 101, "not", 3) (by decide)).2 hS12), (pq_pass hP12 hD12 hK hE hS12 hA [] rfl (by decide))⟩ rfl rfl hl14.1 rfl (lv_room (Nat.le_of_ble_eq_true rfl)) dX12_packed_6 ⟨Nat.le_of_ble_eq_true rfl, Nat.le_of_ble_eq_true rfl⟩) hP12 hD12 hS12 hA [] [] rfl rfl (by decide) (by decide) (by decide) (by decide) (fun r15 w15 H15 lo15 e15 hR15 hP15r hD15r hS15 => ?_)
  subst hR15
  subst e15
  have hP15 : va_P D classes [] H15 := hP15r
  have hD15 : va_D A [] := hD15r
  clear hP15r hD15r
  clear hP12 hD12 hS12
  clear H12 lo12
  refine tp_i (y := 3) (by decide) ?_
  refine lv_icmp_ge (pc := 9) (tgt := 33) hx hb dX12_packed_9 (by decide) (fun c16 => absurd c16 (by decide)) (fun c16 => ?_)
  refine lv_lload_n (pc := 12) hx hb dX12_packed_12 rfl (lv_at hl14 1 rfl) ?_
  refine lv_bipush (pc := 13) (v := 6) hx hb dX12_packed_13 (by decide) ?_
  refine lv_lshl (pc := 15) (v := (((((0 : Int64) <<< ((6 : Int32).toInt64 &&& 63)) ||| ((r6 : Int32).toInt64) : Int64) <<< ((6 : Int32).toInt64 &&& 63)) ||| ((r12 : Int32).toInt64) : Int64) <<< ((6 : Int32).toInt64 &&& 63)) hx hb dX12_packed_15 rfl ?_
  refine lv_aload_n (pc := 16) hx hb dX12_packed_16 rfl (lv_at hl14 2 rfl) ?_
  refine lv_iload_n (pc := 17) hx hb dX12_packed_17 rfl (lv_at hl14 0 rfl) ?_
  refine cq_i (pc := 18) (wr := []) (k2 := 0) (n2 := 0) (va_runV (As := [.int 2]) (rest := [.long ((((((0 : Int64) <<< ((6 : Int32).toInt64 &&& 63)) ||| ((r6 : Int32).toInt64) : Int64) <<< ((6 : Int32).toInt64 &&& 63)) ||| ((r12 : Int32).toInt64) : Int64) <<< ((6 : Int32).toInt64 &&& 63))]) ⟨hx, hb, hml, hown, hG⟩ (c_charAt l D cy kv H15.size 2 10 101 ("not") 3 (by decide) (by decide) (by decide) (show ¬ ((2 : Int32) < 0 ∨ 3 ≤ (2 : Int32).toNatClampNeg) by decide)) (cwV 1 hG (gi_V g_329 g_330 g_331 g_306 g_324) rfl rfl rfl (by decide +kernel) ⟨Nat.le_of_ble_eq_true rfl, Nat.le_of_ble_eq_true rfl⟩) ⟨pq_blind, (st_recv (hE.2.2.2.2.2.2.2 (10, 101, "not", 3) (by decide)).2 hS15), (pq_pass hP15 hD15 hK hE hS15 hA [] rfl (by decide))⟩ rfl rfl hl14.1 rfl (lv_room (Nat.le_of_ble_eq_true rfl)) dX12_packed_18 ⟨Nat.le_of_ble_eq_true rfl, Nat.le_of_ble_eq_true rfl⟩) hP15 hD15 hS15 hA [] [] rfl rfl (by decide) (by decide) (by decide) (by decide) (fun r17 w17 H17 lo17 e17 hR17 hP17r hD17r hS17 => ?_)
  subst hR17
  have hP17 : va_P D classes [] H17 := hP17r
  have hD17 : va_D A [] := hD17r
  clear hP17r hD17r
  clear hP15 hD15 hS15
  clear H15 lo15
  refine cq_i (pc := 21) (wr := []) (k2 := 0) (n2 := 0) (va_runS (As := [.int r17]) (rest := [.long ((((((0 : Int64) <<< ((6 : Int32).toInt64 &&& 63)) ||| ((r6 : Int32).toInt64) : Int64) <<< ((6 : Int32).toInt64 &&& 63)) ||| ((r12 : Int32).toInt64) : Int64) <<< ((6 : Int32).toInt64 &&& 63))]) ⟨hx, hb, hml, hown, hG⟩ (c_signOf l D cy kv H17.size r17) (va_cwS 1 hG (gi_S g_332 g_333 g_334 g_325) rfl rfl rfl (by decide +kernel) ⟨Nat.le_of_ble_eq_true rfl, Nat.le_of_ble_eq_true rfl⟩) ⟨pq_blind, (pq_pass hP17 hD17 hK hE hS17 hA [] rfl (by decide))⟩ rfl rfl hl14.1 rfl (lv_room (Nat.le_of_ble_eq_true rfl)) dX12_packed_21 ⟨Nat.le_of_ble_eq_true rfl, Nat.le_of_ble_eq_true rfl⟩) hP17 hD17 hS17 hA [] [] rfl rfl (by decide) (by decide) (by decide) (by decide) (fun r18 w18 H18 lo18 e18 hR18 hP18r hD18r hS18 => ?_)
  subst hR18
  have hP18 : va_P D classes [] H18 := hP18r
  have hD18 : va_D A [] := hD18r
  clear hP18r hD18r
  clear hP17 hD17 hS17
  clear H17 lo17
  refine lv_i2l (pc := 24) (v := (r18 : Int32).toInt64) hx hb dX12_packed_24 rfl ?_
  refine lv_lor (pc := 25) hx hb dX12_packed_25 ?_
  refine lv_lstore_n (pc := 26) (lv' := [(1, .long (((((((0 : Int64) <<< ((6 : Int32).toInt64 &&& 63)) ||| ((r6 : Int32).toInt64) : Int64) <<< ((6 : Int32).toInt64 &&& 63)) ||| ((r12 : Int32).toInt64) : Int64) <<< ((6 : Int32).toInt64 &&& 63)) ||| ((r18 : Int32).toInt64))), (3, .int 2), (0, .ref (kv.1 10))]) hx hb dX12_packed_26 rfl hl14 (by decide) rfl (fun ls19 hl19 => ?_)
  clear hl14 ls14
  refine lv_iinc (pc := 27) (v := 3) (lv' := [(3, .int 3), (1, .long (((((((0 : Int64) <<< ((6 : Int32).toInt64 &&& 63)) ||| ((r6 : Int32).toInt64) : Int64) <<< ((6 : Int32).toInt64 &&& 63)) ||| ((r12 : Int32).toInt64) : Int64) <<< ((6 : Int32).toInt64 &&& 63)) ||| ((r18 : Int32).toInt64))), (0, .ref (kv.1 10))]) hx hb dX12_packed_27 hl19 (k := 1) rfl (by decide) (by decide) rfl (fun ls20 hl20 => ?_)
  clear hl19 ls19
  refine lv_goto (pc := 30) (tgt := 4) hx hb dX12_packed_30 (by decide) ?_
  refine lv_iload_n (pc := 4) hx hb dX12_packed_4 rfl (lv_at hl20 0 rfl) ?_
  refine lv_aload_n (pc := 5) hx hb dX12_packed_5 rfl (lv_at hl20 2 rfl) ?_
  refine cq_i (pc := 6) (wr := []) (k2 := 0) (n2 := 0) (va_runV (As := []) (rest := [.int 3]) ⟨hx, hb, hml, hown, hG⟩ (c_strlen l D cy kv H18.size 10 101 ("not") 3 (by decide)) (cwV 0 hG (gi_V g_326 g_327 g_328 g_306 g_307) rfl rfl rfl (by decide +kernel) ⟨Nat.le_of_ble_eq_true rfl, Nat.le_of_ble_eq_true rfl⟩) ⟨pq_blind, (st_recv (hE.2.2.2.2.2.2.2 (10, 101, "not", 3) (by decide)).2 hS18), (pq_pass hP18 hD18 hK hE hS18 hA [] rfl (by decide))⟩ rfl rfl hl20.1 rfl (lv_room (Nat.le_of_ble_eq_true rfl)) dX12_packed_6 ⟨Nat.le_of_ble_eq_true rfl, Nat.le_of_ble_eq_true rfl⟩) hP18 hD18 hS18 hA [] [] rfl rfl (by decide) (by decide) (by decide) (by decide) (fun r21 w21 H21 lo21 e21 hR21 hP21r hD21r hS21 => ?_)
  subst hR21
  subst e21
  have hP21 : va_P D classes [] H21 := hP21r
  have hD21 : va_D A [] := hD21r
  clear hP21r hD21r
  clear hP18 hD18 hS18
  clear H18 lo18
  refine tp_i (y := 3) (by decide) ?_
  refine lv_icmp_ge (pc := 9) (tgt := 33) hx hb dX12_packed_9 (by decide) (fun c22 => ?_) (fun c22 => absurd (by decide) c22)
  refine lv_lload_n (pc := 33) hx hb dX12_packed_33 rfl (lv_at hl20 1 rfl) ?_
  exact W.lret (pc := 34) (v := ((((((0 : Int64) <<< ((6 : Int32).toInt64 &&& 63)) ||| ((r6 : Int32).toInt64) : Int64) <<< ((6 : Int32).toInt64 &&& 63)) ||| ((r12 : Int32).toInt64) : Int64) <<< ((6 : Int32).toInt64 &&& 63)) ||| ((r18 : Int32).toInt64)) hx hb hr (fun t ht hW => ⟨⟨((((((0 : Int64) <<< ((6 : Int32).toInt64 &&& 63)) ||| ((r6 : Int32).toInt64) : Int64) <<< ((6 : Int32).toInt64 &&& 63)) ||| ((r12 : Int32).toInt64) : Int64) <<< ((6 : Int32).toInt64 &&& 63)) ||| ((r18 : Int32).toInt64), (), rfl, trivial, _, rfl, by rw [ht]; exact hP21, hD21⟩, hS21.F ht⟩) hS21.2.2 dX12_packed_34
set_option maxHeartbeats 4000000 in
set_option maxRecDepth 100000 in
/-- X12_packed -/
theorem c_packed11 (l : Launch) (D : va_G) (cy : Nat → ClassId) (kv : KV) (sz : Nat) : Met l yX12_packed (Cond.code yX12_packed cX12_packed 4 (some .long) :: GW) ({ frames := 12, cells := 0, slots := 0, locals := 280 } : Room) (va_Pc [.ref (kv.1 11)] (pcq D cy kv sz [])) (va_Ql (fun r (_ : Unit) => (fun _ => True) r) (fun _ t => bq D (fun w => w = []) (va_A [] sz) t) (va_A [] sz)) 0 0 (va_A [] sz) := by
  refine Met.ofW (cc := cX12_packed) (maxL := 4) (ret := (some .long)) (by decide) rfl ?_
  intro p e s m args below meth c s₁ B hml hv
  obtain ⟨rfl, hsz, hP, hK, hD0, hE⟩ := hv
  have hx := B.exec
  have hb := B.bytes
  have hr := B.returns
  have hG : ∀ w ∈ GW, w.before ([.ref (kv.1 11)] : List Value).toArray s = true := fun w h => atoms_spec (ws := Cond.code yX12_packed cX12_packed 4 (some .long) :: GW) B.pre w (List.mem_cons_of_mem _ h)
  have hown : s.vm.findClass RX12 = some m.cls := findClass_of_methodNamed B.named
  have hlocks := B.notSynchronized
  subst hsz
  have hD := hD0.self (sz := s.heap.size)
  generalize hAe : va_A [] s.heap.size = A at hD hE ⊢
  have hA : ∀ q : Nat, s.heap.size ≤ q → A q := fun q h => by rw [← hAe]; exact Or.inr h
  have hS : va_S A s.heap s.heap [] := va_S.rf
  clear hAe hD0
  have hl0 := lv_entry ([.ref (kv.1 11)]) (n := 4) (Nat.le_of_ble_eq_true rfl)
  rw [lg_entry_eq]
  generalize (lg_sl ([.ref (kv.1 11)]) ++ List.replicate (4 - (lg_sl ([.ref (kv.1 11)])).length) Slot.unset).toArray = ls at hl0 ⊢
  have hl : lv_has ls 4 [(0, .ref (kv.1 11))] := hl0
  clear hl0
  refine lv_lconst (pc := 0) (v := 0) hx hb dX12_packed_0 (by decide) ?_
  refine lv_lstore_n (pc := 1) (lv' := [(1, .long 0), (0, .ref (kv.1 11))]) hx hb dX12_packed_1 rfl hl (by decide) rfl (fun ls1 hl1 => ?_)
  clear hl ls
  refine lv_iconst (pc := 2) (v := 0) hx hb dX12_packed_2 (by decide) ?_
  refine lv_istore_n (pc := 3) (lv' := [(3, .int 0), (1, .long 0), (0, .ref (kv.1 11))]) hx hb dX12_packed_3 rfl hl1 (by decide) rfl (fun ls2 hl2 => ?_)
  clear hl1 ls1
  refine lv_iload_n (pc := 4) hx hb dX12_packed_4 rfl (lv_at hl2 0 rfl) ?_
  refine lv_aload_n (pc := 5) hx hb dX12_packed_5 rfl (lv_at hl2 2 rfl) ?_
  refine cq_i (pc := 6) (wr := []) (k2 := 0) (n2 := 0) (va_runV (As := []) (rest := [.int 0]) ⟨hx, hb, hml, hown, hG⟩ (c_strlen l D cy kv s.heap.size 11 103 ("with") 4 (by decide)) (cwV 0 hG (gi_V g_326 g_327 g_328 g_306 g_307) rfl rfl rfl (by decide +kernel) ⟨Nat.le_of_ble_eq_true rfl, Nat.le_of_ble_eq_true rfl⟩) ⟨pq_blind, (st_recv (hE.2.2.2.2.2.2.2 (11, 103, "with", 4) (by decide)).2 hS), (pq_pass hP hD hK hE hS hA [] rfl (by decide))⟩ rfl rfl hl2.1 rfl (lv_room (Nat.le_of_ble_eq_true rfl)) dX12_packed_6 ⟨Nat.le_of_ble_eq_true rfl, Nat.le_of_ble_eq_true rfl⟩) hP hD hS hA [] [] rfl rfl (by decide) (by decide) (by decide) (by decide) (fun r3 w3 H3 lo3 e3 hR3 hP3r hD3r hS3 => ?_)
  subst hR3
  subst e3
  have hP3 : va_P D classes [] H3 := hP3r
  have hD3 : va_D A [] := hD3r
  clear hP3r hD3r
  clear hP hD hS
  refine tp_i (y := 4) (by decide) ?_
  refine lv_icmp_ge (pc := 9) (tgt := 33) hx hb dX12_packed_9 (by decide) (fun c4 => absurd c4 (by decide)) (fun c4 => ?_)
  refine lv_lload_n (pc := 12) hx hb dX12_packed_12 rfl (lv_at hl2 1 rfl) ?_
  refine lv_bipush (pc := 13) (v := 6) hx hb dX12_packed_13 (by decide) ?_
  refine lv_lshl (pc := 15) (v := (0 : Int64) <<< ((6 : Int32).toInt64 &&& 63)) hx hb dX12_packed_15 rfl ?_
  refine lv_aload_n (pc := 16) hx hb dX12_packed_16 rfl (lv_at hl2 2 rfl) ?_
  refine lv_iload_n (pc := 17) hx hb dX12_packed_17 rfl (lv_at hl2 0 rfl) ?_
  refine cq_i (pc := 18) (wr := []) (k2 := 0) (n2 := 0) (va_runV (As := [.int 0]) (rest := [.long ((0 : Int64) <<< ((6 : Int32).toInt64 &&& 63))]) ⟨hx, hb, hml, hown, hG⟩ (c_charAt l D cy kv H3.size 0 11 103 ("with") 4 (by decide) (by decide) (by decide) (show ¬ ((0 : Int32) < 0 ∨ 4 ≤ (0 : Int32).toNatClampNeg) by decide)) (cwV 1 hG (gi_V g_329 g_330 g_331 g_306 g_324) rfl rfl rfl (by decide +kernel) ⟨Nat.le_of_ble_eq_true rfl, Nat.le_of_ble_eq_true rfl⟩) ⟨pq_blind, (st_recv (hE.2.2.2.2.2.2.2 (11, 103, "with", 4) (by decide)).2 hS3), (pq_pass hP3 hD3 hK hE hS3 hA [] rfl (by decide))⟩ rfl rfl hl2.1 rfl (lv_room (Nat.le_of_ble_eq_true rfl)) dX12_packed_18 ⟨Nat.le_of_ble_eq_true rfl, Nat.le_of_ble_eq_true rfl⟩) hP3 hD3 hS3 hA [] [] rfl rfl (by decide) (by decide) (by decide) (by decide) (fun r5 w5 H5 lo5 e5 hR5 hP5r hD5r hS5 => ?_)
  subst hR5
  have hP5 : va_P D classes [] H5 := hP5r
  have hD5 : va_D A [] := hD5r
  clear hP5r hD5r
  clear hP3 hD3 hS3
  clear H3 lo3
  refine cq_i (pc := 21) (wr := []) (k2 := 0) (n2 := 0) (va_runS (As := [.int r5]) (rest := [.long ((0 : Int64) <<< ((6 : Int32).toInt64 &&& 63))]) ⟨hx, hb, hml, hown, hG⟩ (c_signOf l D cy kv H5.size r5) (va_cwS 1 hG (gi_S g_332 g_333 g_334 g_325) rfl rfl rfl (by decide +kernel) ⟨Nat.le_of_ble_eq_true rfl, Nat.le_of_ble_eq_true rfl⟩) ⟨pq_blind, (pq_pass hP5 hD5 hK hE hS5 hA [] rfl (by decide))⟩ rfl rfl hl2.1 rfl (lv_room (Nat.le_of_ble_eq_true rfl)) dX12_packed_21 ⟨Nat.le_of_ble_eq_true rfl, Nat.le_of_ble_eq_true rfl⟩) hP5 hD5 hS5 hA [] [] rfl rfl (by decide) (by decide) (by decide) (by decide) (fun r6 w6 H6 lo6 e6 hR6 hP6r hD6r hS6 => ?_)
  subst hR6
  have hP6 : va_P D classes [] H6 := hP6r
  have hD6 : va_D A [] := hD6r
  clear hP6r hD6r
  clear hP5 hD5 hS5
  clear H5 lo5
  refine lv_i2l (pc := 24) (v := (r6 : Int32).toInt64) hx hb dX12_packed_24 rfl ?_
  refine lv_lor (pc := 25) hx hb dX12_packed_25 ?_
  refine lv_lstore_n (pc := 26) (lv' := [(1, .long (((0 : Int64) <<< ((6 : Int32).toInt64 &&& 63)) ||| ((r6 : Int32).toInt64))), (3, .int 0), (0, .ref (kv.1 11))]) hx hb dX12_packed_26 rfl hl2 (by decide) rfl (fun ls7 hl7 => ?_)
  clear hl2 ls2
  refine lv_iinc (pc := 27) (v := 1) (lv' := [(3, .int 1), (1, .long (((0 : Int64) <<< ((6 : Int32).toInt64 &&& 63)) ||| ((r6 : Int32).toInt64))), (0, .ref (kv.1 11))]) hx hb dX12_packed_27 hl7 (k := 1) rfl (by decide) (by decide) rfl (fun ls8 hl8 => ?_)
  clear hl7 ls7
  refine lv_goto (pc := 30) (tgt := 4) hx hb dX12_packed_30 (by decide) ?_
  refine lv_iload_n (pc := 4) hx hb dX12_packed_4 rfl (lv_at hl8 0 rfl) ?_
  refine lv_aload_n (pc := 5) hx hb dX12_packed_5 rfl (lv_at hl8 2 rfl) ?_
  refine cq_i (pc := 6) (wr := []) (k2 := 0) (n2 := 0) (va_runV (As := []) (rest := [.int 1]) ⟨hx, hb, hml, hown, hG⟩ (c_strlen l D cy kv H6.size 11 103 ("with") 4 (by decide)) (cwV 0 hG (gi_V g_326 g_327 g_328 g_306 g_307) rfl rfl rfl (by decide +kernel) ⟨Nat.le_of_ble_eq_true rfl, Nat.le_of_ble_eq_true rfl⟩) ⟨pq_blind, (st_recv (hE.2.2.2.2.2.2.2 (11, 103, "with", 4) (by decide)).2 hS6), (pq_pass hP6 hD6 hK hE hS6 hA [] rfl (by decide))⟩ rfl rfl hl8.1 rfl (lv_room (Nat.le_of_ble_eq_true rfl)) dX12_packed_6 ⟨Nat.le_of_ble_eq_true rfl, Nat.le_of_ble_eq_true rfl⟩) hP6 hD6 hS6 hA [] [] rfl rfl (by decide) (by decide) (by decide) (by decide) (fun r9 w9 H9 lo9 e9 hR9 hP9r hD9r hS9 => ?_)
  subst hR9
  subst e9
  have hP9 : va_P D classes [] H9 := hP9r
  have hD9 : va_D A [] := hD9r
  clear hP9r hD9r
  clear hP6 hD6 hS6
  clear H6 lo6
  refine tp_i (y := 4) (by decide) ?_
  refine lv_icmp_ge (pc := 9) (tgt := 33) hx hb dX12_packed_9 (by decide) (fun c10 => absurd c10 (by decide)) (fun c10 => ?_)
  refine lv_lload_n (pc := 12) hx hb dX12_packed_12 rfl (lv_at hl8 1 rfl) ?_
  refine lv_bipush (pc := 13) (v := 6) hx hb dX12_packed_13 (by decide) ?_
  refine lv_lshl (pc := 15) (v := (((0 : Int64) <<< ((6 : Int32).toInt64 &&& 63)) ||| ((r6 : Int32).toInt64) : Int64) <<< ((6 : Int32).toInt64 &&& 63)) hx hb dX12_packed_15 rfl ?_
  refine lv_aload_n (pc := 16) hx hb dX12_packed_16 rfl (lv_at hl8 2 rfl) ?_
  refine lv_iload_n (pc := 17) hx hb dX12_packed_17 rfl (lv_at hl8 0 rfl) ?_
  refine cq_i (pc := 18) (wr := []) (k2 := 0) (n2 := 0) (va_runV (As := [.int 1]) (rest := [.long ((((0 : Int64) <<< ((6 : Int32).toInt64 &&& 63)) ||| ((r6 : Int32).toInt64) : Int64) <<< ((6 : Int32).toInt64 &&& 63))]) ⟨hx, hb, hml, hown, hG⟩ (c_charAt l D cy kv H9.size 1 11 103 ("with") 4 (by decide) (by decide) (by decide) (show ¬ ((1 : Int32) < 0 ∨ 4 ≤ (1 : Int32).toNatClampNeg) by decide)) (cwV 1 hG (gi_V g_329 g_330 g_331 g_306 g_324) rfl rfl rfl (by decide +kernel) ⟨Nat.le_of_ble_eq_true rfl, Nat.le_of_ble_eq_true rfl⟩) ⟨pq_blind, (st_recv (hE.2.2.2.2.2.2.2 (11, 103, "with", 4) (by decide)).2 hS9), (pq_pass hP9 hD9 hK hE hS9 hA [] rfl (by decide))⟩ rfl rfl hl8.1 rfl (lv_room (Nat.le_of_ble_eq_true rfl)) dX12_packed_18 ⟨Nat.le_of_ble_eq_true rfl, Nat.le_of_ble_eq_true rfl⟩) hP9 hD9 hS9 hA [] [] rfl rfl (by decide) (by decide) (by decide) (by decide) (fun r11 w11 H11 lo11 e11 hR11 hP11r hD11r hS11 => ?_)
  subst hR11
  have hP11 : va_P D classes [] H11 := hP11r
  have hD11 : va_D A [] := hD11r
  clear hP11r hD11r
  clear hP9 hD9 hS9
  clear H9 lo9
  refine cq_i (pc := 21) (wr := []) (k2 := 0) (n2 := 0) (va_runS (As := [.int r11]) (rest := [.long ((((0 : Int64) <<< ((6 : Int32).toInt64 &&& 63)) ||| ((r6 : Int32).toInt64) : Int64) <<< ((6 : Int32).toInt64 &&& 63))]) ⟨hx, hb, hml, hown, hG⟩ (c_signOf l D cy kv H11.size r11) (va_cwS 1 hG (gi_S g_332 g_333 g_334 g_325) rfl rfl rfl (by decide +kernel) ⟨Nat.le_of_ble_eq_true rfl, Nat.le_of_ble_eq_true rfl⟩) ⟨pq_blind, (pq_pass hP11 hD11 hK hE hS11 hA [] rfl (by decide))⟩ rfl rfl hl8.1 rfl (lv_room (Nat.le_of_ble_eq_true rfl)) dX12_packed_21 ⟨Nat.le_of_ble_eq_true rfl, Nat.le_of_ble_eq_true rfl⟩) hP11 hD11 hS11 hA [] [] rfl rfl (by decide) (by decide) (by decide) (by decide) (fun r12 w12 H12 lo12 e12 hR12 hP12r hD12r hS12 => ?_)
  subst hR12
  have hP12 : va_P D classes [] H12 := hP12r
  have hD12 : va_D A [] := hD12r
  clear hP12r hD12r
  clear hP11 hD11 hS11
  clear H11 lo11
  refine lv_i2l (pc := 24) (v := (r12 : Int32).toInt64) hx hb dX12_packed_24 rfl ?_
  refine lv_lor (pc := 25) hx hb dX12_packed_25 ?_
  refine lv_lstore_n (pc := 26) (lv' := [(1, .long (((((0 : Int64) <<< ((6 : Int32).toInt64 &&& 63)) ||| ((r6 : Int32).toInt64) : Int64) <<< ((6 : Int32).toInt64 &&& 63)) ||| ((r12 : Int32).toInt64))), (3, .int 1), (0, .ref (kv.1 11))]) hx hb dX12_packed_26 rfl hl8 (by decide) rfl (fun ls13 hl13 => ?_)
  clear hl8 ls8
  refine lv_iinc (pc := 27) (v := 2) (lv' := [(3, .int 2), (1, .long (((((0 : Int64) <<< ((6 : Int32).toInt64 &&& 63)) ||| ((r6 : Int32).toInt64) : Int64) <<< ((6 : Int32).toInt64 &&& 63)) ||| ((r12 : Int32).toInt64))), (0, .ref (kv.1 11))]) hx hb dX12_packed_27 hl13 (k := 1) rfl (by decide) (by decide) rfl (fun ls14 hl14 => ?_)
  clear hl13 ls13
  refine lv_goto (pc := 30) (tgt := 4) hx hb dX12_packed_30 (by decide) ?_
  refine lv_iload_n (pc := 4) hx hb dX12_packed_4 rfl (lv_at hl14 0 rfl) ?_
  refine lv_aload_n (pc := 5) hx hb dX12_packed_5 rfl (lv_at hl14 2 rfl) ?_
  refine cq_i (pc := 6) (wr := []) (k2 := 0) (n2 := 0) (va_runV (As := []) (rest := [.int 2]) ⟨hx, hb, hml, hown, hG⟩ (c_strlen l D cy kv H12.size 11 103 ("with") 4 (by decide)) (cwV 0 hG (gi_V g_326 g_327 g_328 g_306 g_307) rfl rfl rfl (by decide +kernel) ⟨Nat.le_of_ble_eq_true rfl, Nat.le_of_ble_eq_true rfl⟩) ⟨pq_blind, (st_recv (hE.2.2.2.2.2.2.2 (11, 103, "with", 4) (by decide)).2 hS12), (pq_pass hP12 hD12 hK hE hS12 hA [] rfl (by decide))⟩ rfl rfl hl14.1 rfl (lv_room (Nat.le_of_ble_eq_true rfl)) dX12_packed_6 ⟨Nat.le_of_ble_eq_true rfl, Nat.le_of_ble_eq_true rfl⟩) hP12 hD12 hS12 hA [] [] rfl rfl (by decide) (by decide) (by decide) (by decide) (fun r15 w15 H15 lo15 e15 hR15 hP15r hD15r hS15 => ?_)
  subst hR15
  subst e15
  have hP15 : va_P D classes [] H15 := hP15r
  have hD15 : va_D A [] := hD15r
  clear hP15r hD15r
  clear hP12 hD12 hS12
  clear H12 lo12
  refine tp_i (y := 4) (by decide) ?_
  refine lv_icmp_ge (pc := 9) (tgt := 33) hx hb dX12_packed_9 (by decide) (fun c16 => absurd c16 (by decide)) (fun c16 => ?_)
  refine lv_lload_n (pc := 12) hx hb dX12_packed_12 rfl (lv_at hl14 1 rfl) ?_
  refine lv_bipush (pc := 13) (v := 6) hx hb dX12_packed_13 (by decide) ?_
  refine lv_lshl (pc := 15) (v := (((((0 : Int64) <<< ((6 : Int32).toInt64 &&& 63)) ||| ((r6 : Int32).toInt64) : Int64) <<< ((6 : Int32).toInt64 &&& 63)) ||| ((r12 : Int32).toInt64) : Int64) <<< ((6 : Int32).toInt64 &&& 63)) hx hb dX12_packed_15 rfl ?_
  refine lv_aload_n (pc := 16) hx hb dX12_packed_16 rfl (lv_at hl14 2 rfl) ?_
  refine lv_iload_n (pc := 17) hx hb dX12_packed_17 rfl (lv_at hl14 0 rfl) ?_
  refine cq_i (pc := 18) (wr := []) (k2 := 0) (n2 := 0) (va_runV (As := [.int 2]) (rest := [.long ((((((0 : Int64) <<< ((6 : Int32).toInt64 &&& 63)) ||| ((r6 : Int32).toInt64) : Int64) <<< ((6 : Int32).toInt64 &&& 63)) ||| ((r12 : Int32).toInt64) : Int64) <<< ((6 : Int32).toInt64 &&& 63))]) ⟨hx, hb, hml, hown, hG⟩ (c_charAt l D cy kv H15.size 2 11 103 ("with") 4 (by decide) (by decide) (by decide) (show ¬ ((2 : Int32) < 0 ∨ 4 ≤ (2 : Int32).toNatClampNeg) by decide)) (cwV 1 hG (gi_V g_329 g_330 g_331 g_306 g_324) rfl rfl rfl (by decide +kernel) ⟨Nat.le_of_ble_eq_true rfl, Nat.le_of_ble_eq_true rfl⟩) ⟨pq_blind, (st_recv (hE.2.2.2.2.2.2.2 (11, 103, "with", 4) (by decide)).2 hS15), (pq_pass hP15 hD15 hK hE hS15 hA [] rfl (by decide))⟩ rfl rfl hl14.1 rfl (lv_room (Nat.le_of_ble_eq_true rfl)) dX12_packed_18 ⟨Nat.le_of_ble_eq_true rfl, Nat.le_of_ble_eq_true rfl⟩) hP15 hD15 hS15 hA [] [] rfl rfl (by decide) (by decide) (by decide) (by decide) (fun r17 w17 H17 lo17 e17 hR17 hP17r hD17r hS17 => ?_)
  subst hR17
  have hP17 : va_P D classes [] H17 := hP17r
  have hD17 : va_D A [] := hD17r
  clear hP17r hD17r
  clear hP15 hD15 hS15
  clear H15 lo15
  refine cq_i (pc := 21) (wr := []) (k2 := 0) (n2 := 0) (va_runS (As := [.int r17]) (rest := [.long ((((((0 : Int64) <<< ((6 : Int32).toInt64 &&& 63)) ||| ((r6 : Int32).toInt64) : Int64) <<< ((6 : Int32).toInt64 &&& 63)) ||| ((r12 : Int32).toInt64) : Int64) <<< ((6 : Int32).toInt64 &&& 63))]) ⟨hx, hb, hml, hown, hG⟩ (c_signOf l D cy kv H17.size r17) (va_cwS 1 hG (gi_S g_332 g_333 g_334 g_325) rfl rfl rfl (by decide +kernel) ⟨Nat.le_of_ble_eq_true rfl, Nat.le_of_ble_eq_true rfl⟩) ⟨pq_blind, (pq_pass hP17 hD17 hK hE hS17 hA [] rfl (by decide))⟩ rfl rfl hl14.1 rfl (lv_room (Nat.le_of_ble_eq_true rfl)) dX12_packed_21 ⟨Nat.le_of_ble_eq_true rfl, Nat.le_of_ble_eq_true rfl⟩) hP17 hD17 hS17 hA [] [] rfl rfl (by decide) (by decide) (by decide) (by decide) (fun r18 w18 H18 lo18 e18 hR18 hP18r hD18r hS18 => ?_)
  subst hR18
  have hP18 : va_P D classes [] H18 := hP18r
  have hD18 : va_D A [] := hD18r
  clear hP18r hD18r
  clear hP17 hD17 hS17
  clear H17 lo17
  refine lv_i2l (pc := 24) (v := (r18 : Int32).toInt64) hx hb dX12_packed_24 rfl ?_
  refine lv_lor (pc := 25) hx hb dX12_packed_25 ?_
  refine lv_lstore_n (pc := 26) (lv' := [(1, .long (((((((0 : Int64) <<< ((6 : Int32).toInt64 &&& 63)) ||| ((r6 : Int32).toInt64) : Int64) <<< ((6 : Int32).toInt64 &&& 63)) ||| ((r12 : Int32).toInt64) : Int64) <<< ((6 : Int32).toInt64 &&& 63)) ||| ((r18 : Int32).toInt64))), (3, .int 2), (0, .ref (kv.1 11))]) hx hb dX12_packed_26 rfl hl14 (by decide) rfl (fun ls19 hl19 => ?_)
  clear hl14 ls14
  refine lv_iinc (pc := 27) (v := 3) (lv' := [(3, .int 3), (1, .long (((((((0 : Int64) <<< ((6 : Int32).toInt64 &&& 63)) ||| ((r6 : Int32).toInt64) : Int64) <<< ((6 : Int32).toInt64 &&& 63)) ||| ((r12 : Int32).toInt64) : Int64) <<< ((6 : Int32).toInt64 &&& 63)) ||| ((r18 : Int32).toInt64))), (0, .ref (kv.1 11))]) hx hb dX12_packed_27 hl19 (k := 1) rfl (by decide) (by decide) rfl (fun ls20 hl20 => ?_)
  clear hl19 ls19
  refine lv_goto (pc := 30) (tgt := 4) hx hb dX12_packed_30 (by decide) ?_
  refine lv_iload_n (pc := 4) hx hb dX12_packed_4 rfl (lv_at hl20 0 rfl) ?_
  refine lv_aload_n (pc := 5) hx hb dX12_packed_5 rfl (lv_at hl20 2 rfl) ?_
  refine cq_i (pc := 6) (wr := []) (k2 := 0) (n2 := 0) (va_runV (As := []) (rest := [.int 3]) ⟨hx, hb, hml, hown, hG⟩ (c_strlen l D cy kv H18.size 11 103 ("with") 4 (by decide)) (cwV 0 hG (gi_V g_326 g_327 g_328 g_306 g_307) rfl rfl rfl (by decide +kernel) ⟨Nat.le_of_ble_eq_true rfl, Nat.le_of_ble_eq_true rfl⟩) ⟨pq_blind, (st_recv (hE.2.2.2.2.2.2.2 (11, 103, "with", 4) (by decide)).2 hS18), (pq_pass hP18 hD18 hK hE hS18 hA [] rfl (by decide))⟩ rfl rfl hl20.1 rfl (lv_room (Nat.le_of_ble_eq_true rfl)) dX12_packed_6 ⟨Nat.le_of_ble_eq_true rfl, Nat.le_of_ble_eq_true rfl⟩) hP18 hD18 hS18 hA [] [] rfl rfl (by decide) (by decide) (by decide) (by decide) (fun r21 w21 H21 lo21 e21 hR21 hP21r hD21r hS21 => ?_)
  subst hR21
  subst e21
  have hP21 : va_P D classes [] H21 := hP21r
  have hD21 : va_D A [] := hD21r
  clear hP21r hD21r
  clear hP18 hD18 hS18
  clear H18 lo18
  refine tp_i (y := 4) (by decide) ?_
  refine lv_icmp_ge (pc := 9) (tgt := 33) hx hb dX12_packed_9 (by decide) (fun c22 => absurd c22 (by decide)) (fun c22 => ?_)
  refine lv_lload_n (pc := 12) hx hb dX12_packed_12 rfl (lv_at hl20 1 rfl) ?_
  refine lv_bipush (pc := 13) (v := 6) hx hb dX12_packed_13 (by decide) ?_
  refine lv_lshl (pc := 15) (v := (((((((0 : Int64) <<< ((6 : Int32).toInt64 &&& 63)) ||| ((r6 : Int32).toInt64) : Int64) <<< ((6 : Int32).toInt64 &&& 63)) ||| ((r12 : Int32).toInt64) : Int64) <<< ((6 : Int32).toInt64 &&& 63)) ||| ((r18 : Int32).toInt64) : Int64) <<< ((6 : Int32).toInt64 &&& 63)) hx hb dX12_packed_15 rfl ?_
  refine lv_aload_n (pc := 16) hx hb dX12_packed_16 rfl (lv_at hl20 2 rfl) ?_
  refine lv_iload_n (pc := 17) hx hb dX12_packed_17 rfl (lv_at hl20 0 rfl) ?_
  refine cq_i (pc := 18) (wr := []) (k2 := 0) (n2 := 0) (va_runV (As := [.int 3]) (rest := [.long ((((((((0 : Int64) <<< ((6 : Int32).toInt64 &&& 63)) ||| ((r6 : Int32).toInt64) : Int64) <<< ((6 : Int32).toInt64 &&& 63)) ||| ((r12 : Int32).toInt64) : Int64) <<< ((6 : Int32).toInt64 &&& 63)) ||| ((r18 : Int32).toInt64) : Int64) <<< ((6 : Int32).toInt64 &&& 63))]) ⟨hx, hb, hml, hown, hG⟩ (c_charAt l D cy kv H21.size 3 11 103 ("with") 4 (by decide) (by decide) (by decide) (show ¬ ((3 : Int32) < 0 ∨ 4 ≤ (3 : Int32).toNatClampNeg) by decide)) (cwV 1 hG (gi_V g_329 g_330 g_331 g_306 g_324) rfl rfl rfl (by decide +kernel) ⟨Nat.le_of_ble_eq_true rfl, Nat.le_of_ble_eq_true rfl⟩) ⟨pq_blind, (st_recv (hE.2.2.2.2.2.2.2 (11, 103, "with", 4) (by decide)).2 hS21), (pq_pass hP21 hD21 hK hE hS21 hA [] rfl (by decide))⟩ rfl rfl hl20.1 rfl (lv_room (Nat.le_of_ble_eq_true rfl)) dX12_packed_18 ⟨Nat.le_of_ble_eq_true rfl, Nat.le_of_ble_eq_true rfl⟩) hP21 hD21 hS21 hA [] [] rfl rfl (by decide) (by decide) (by decide) (by decide) (fun r23 w23 H23 lo23 e23 hR23 hP23r hD23r hS23 => ?_)
  subst hR23
  have hP23 : va_P D classes [] H23 := hP23r
  have hD23 : va_D A [] := hD23r
  clear hP23r hD23r
  clear hP21 hD21 hS21
  clear H21 lo21
  refine cq_i (pc := 21) (wr := []) (k2 := 0) (n2 := 0) (va_runS (As := [.int r23]) (rest := [.long ((((((((0 : Int64) <<< ((6 : Int32).toInt64 &&& 63)) ||| ((r6 : Int32).toInt64) : Int64) <<< ((6 : Int32).toInt64 &&& 63)) ||| ((r12 : Int32).toInt64) : Int64) <<< ((6 : Int32).toInt64 &&& 63)) ||| ((r18 : Int32).toInt64) : Int64) <<< ((6 : Int32).toInt64 &&& 63))]) ⟨hx, hb, hml, hown, hG⟩ (c_signOf l D cy kv H23.size r23) (va_cwS 1 hG (gi_S g_332 g_333 g_334 g_325) rfl rfl rfl (by decide +kernel) ⟨Nat.le_of_ble_eq_true rfl, Nat.le_of_ble_eq_true rfl⟩) ⟨pq_blind, (pq_pass hP23 hD23 hK hE hS23 hA [] rfl (by decide))⟩ rfl rfl hl20.1 rfl (lv_room (Nat.le_of_ble_eq_true rfl)) dX12_packed_21 ⟨Nat.le_of_ble_eq_true rfl, Nat.le_of_ble_eq_true rfl⟩) hP23 hD23 hS23 hA [] [] rfl rfl (by decide) (by decide) (by decide) (by decide) (fun r24 w24 H24 lo24 e24 hR24 hP24r hD24r hS24 => ?_)
  subst hR24
  have hP24 : va_P D classes [] H24 := hP24r
  have hD24 : va_D A [] := hD24r
  clear hP24r hD24r
  clear hP23 hD23 hS23
  clear H23 lo23
  refine lv_i2l (pc := 24) (v := (r24 : Int32).toInt64) hx hb dX12_packed_24 rfl ?_
  refine lv_lor (pc := 25) hx hb dX12_packed_25 ?_
  refine lv_lstore_n (pc := 26) (lv' := [(1, .long (((((((((0 : Int64) <<< ((6 : Int32).toInt64 &&& 63)) ||| ((r6 : Int32).toInt64) : Int64) <<< ((6 : Int32).toInt64 &&& 63)) ||| ((r12 : Int32).toInt64) : Int64) <<< ((6 : Int32).toInt64 &&& 63)) ||| ((r18 : Int32).toInt64) : Int64) <<< ((6 : Int32).toInt64 &&& 63)) ||| ((r24 : Int32).toInt64))), (3, .int 3), (0, .ref (kv.1 11))]) hx hb dX12_packed_26 rfl hl20 (by decide) rfl (fun ls25 hl25 => ?_)
  clear hl20 ls20
  refine lv_iinc (pc := 27) (v := 4) (lv' := [(3, .int 4), (1, .long (((((((((0 : Int64) <<< ((6 : Int32).toInt64 &&& 63)) ||| ((r6 : Int32).toInt64) : Int64) <<< ((6 : Int32).toInt64 &&& 63)) ||| ((r12 : Int32).toInt64) : Int64) <<< ((6 : Int32).toInt64 &&& 63)) ||| ((r18 : Int32).toInt64) : Int64) <<< ((6 : Int32).toInt64 &&& 63)) ||| ((r24 : Int32).toInt64))), (0, .ref (kv.1 11))]) hx hb dX12_packed_27 hl25 (k := 1) rfl (by decide) (by decide) rfl (fun ls26 hl26 => ?_)
  clear hl25 ls25
  refine lv_goto (pc := 30) (tgt := 4) hx hb dX12_packed_30 (by decide) ?_
  refine lv_iload_n (pc := 4) hx hb dX12_packed_4 rfl (lv_at hl26 0 rfl) ?_
  refine lv_aload_n (pc := 5) hx hb dX12_packed_5 rfl (lv_at hl26 2 rfl) ?_
  refine cq_i (pc := 6) (wr := []) (k2 := 0) (n2 := 0) (va_runV (As := []) (rest := [.int 4]) ⟨hx, hb, hml, hown, hG⟩ (c_strlen l D cy kv H24.size 11 103 ("with") 4 (by decide)) (cwV 0 hG (gi_V g_326 g_327 g_328 g_306 g_307) rfl rfl rfl (by decide +kernel) ⟨Nat.le_of_ble_eq_true rfl, Nat.le_of_ble_eq_true rfl⟩) ⟨pq_blind, (st_recv (hE.2.2.2.2.2.2.2 (11, 103, "with", 4) (by decide)).2 hS24), (pq_pass hP24 hD24 hK hE hS24 hA [] rfl (by decide))⟩ rfl rfl hl26.1 rfl (lv_room (Nat.le_of_ble_eq_true rfl)) dX12_packed_6 ⟨Nat.le_of_ble_eq_true rfl, Nat.le_of_ble_eq_true rfl⟩) hP24 hD24 hS24 hA [] [] rfl rfl (by decide) (by decide) (by decide) (by decide) (fun r27 w27 H27 lo27 e27 hR27 hP27r hD27r hS27 => ?_)
  subst hR27
  subst e27
  have hP27 : va_P D classes [] H27 := hP27r
  have hD27 : va_D A [] := hD27r
  clear hP27r hD27r
  clear hP24 hD24 hS24
  clear H24 lo24
  refine tp_i (y := 4) (by decide) ?_
  refine lv_icmp_ge (pc := 9) (tgt := 33) hx hb dX12_packed_9 (by decide) (fun c28 => ?_) (fun c28 => absurd (by decide) c28)
  refine lv_lload_n (pc := 33) hx hb dX12_packed_33 rfl (lv_at hl26 1 rfl) ?_
  exact W.lret (pc := 34) (v := ((((((((0 : Int64) <<< ((6 : Int32).toInt64 &&& 63)) ||| ((r6 : Int32).toInt64) : Int64) <<< ((6 : Int32).toInt64 &&& 63)) ||| ((r12 : Int32).toInt64) : Int64) <<< ((6 : Int32).toInt64 &&& 63)) ||| ((r18 : Int32).toInt64) : Int64) <<< ((6 : Int32).toInt64 &&& 63)) ||| ((r24 : Int32).toInt64)) hx hb hr (fun t ht hW => ⟨⟨((((((((0 : Int64) <<< ((6 : Int32).toInt64 &&& 63)) ||| ((r6 : Int32).toInt64) : Int64) <<< ((6 : Int32).toInt64 &&& 63)) ||| ((r12 : Int32).toInt64) : Int64) <<< ((6 : Int32).toInt64 &&& 63)) ||| ((r18 : Int32).toInt64) : Int64) <<< ((6 : Int32).toInt64 &&& 63)) ||| ((r24 : Int32).toInt64), (), rfl, trivial, _, rfl, by rw [ht]; exact hP27, hD27⟩, hS27.F ht⟩) hS27.2.2 dX12_packed_34
set_option maxHeartbeats 4000000 in
set_option maxRecDepth 100000 in
/-- X12_packed -/
theorem c_packed12 (l : Launch) (D : va_G) (cy : Nat → ClassId) (kv : KV) (sz : Nat) : Met l yX12_packed (Cond.code yX12_packed cX12_packed 4 (some .long) :: GW) ({ frames := 12, cells := 0, slots := 0, locals := 280 } : Room) (va_Pc [.ref (kv.1 12)] (pcq D cy kv sz [])) (va_Ql (fun r (_ : Unit) => (fun _ => True) r) (fun _ t => bq D (fun w => w = []) (va_A [] sz) t) (va_A [] sz)) 0 0 (va_A [] sz) := by
  refine Met.ofW (cc := cX12_packed) (maxL := 4) (ret := (some .long)) (by decide) rfl ?_
  intro p e s m args below meth c s₁ B hml hv
  obtain ⟨rfl, hsz, hP, hK, hD0, hE⟩ := hv
  have hx := B.exec
  have hb := B.bytes
  have hr := B.returns
  have hG : ∀ w ∈ GW, w.before ([.ref (kv.1 12)] : List Value).toArray s = true := fun w h => atoms_spec (ws := Cond.code yX12_packed cX12_packed 4 (some .long) :: GW) B.pre w (List.mem_cons_of_mem _ h)
  have hown : s.vm.findClass RX12 = some m.cls := findClass_of_methodNamed B.named
  have hlocks := B.notSynchronized
  subst hsz
  have hD := hD0.self (sz := s.heap.size)
  generalize hAe : va_A [] s.heap.size = A at hD hE ⊢
  have hA : ∀ q : Nat, s.heap.size ≤ q → A q := fun q h => by rw [← hAe]; exact Or.inr h
  have hS : va_S A s.heap s.heap [] := va_S.rf
  clear hAe hD0
  have hl0 := lv_entry ([.ref (kv.1 12)]) (n := 4) (Nat.le_of_ble_eq_true rfl)
  rw [lg_entry_eq]
  generalize (lg_sl ([.ref (kv.1 12)]) ++ List.replicate (4 - (lg_sl ([.ref (kv.1 12)])).length) Slot.unset).toArray = ls at hl0 ⊢
  have hl : lv_has ls 4 [(0, .ref (kv.1 12))] := hl0
  clear hl0
  refine lv_lconst (pc := 0) (v := 0) hx hb dX12_packed_0 (by decide) ?_
  refine lv_lstore_n (pc := 1) (lv' := [(1, .long 0), (0, .ref (kv.1 12))]) hx hb dX12_packed_1 rfl hl (by decide) rfl (fun ls1 hl1 => ?_)
  clear hl ls
  refine lv_iconst (pc := 2) (v := 0) hx hb dX12_packed_2 (by decide) ?_
  refine lv_istore_n (pc := 3) (lv' := [(3, .int 0), (1, .long 0), (0, .ref (kv.1 12))]) hx hb dX12_packed_3 rfl hl1 (by decide) rfl (fun ls2 hl2 => ?_)
  clear hl1 ls1
  refine lv_iload_n (pc := 4) hx hb dX12_packed_4 rfl (lv_at hl2 0 rfl) ?_
  refine lv_aload_n (pc := 5) hx hb dX12_packed_5 rfl (lv_at hl2 2 rfl) ?_
  refine cq_i (pc := 6) (wr := []) (k2 := 0) (n2 := 0) (va_runV (As := []) (rest := [.int 0]) ⟨hx, hb, hml, hown, hG⟩ (c_strlen l D cy kv s.heap.size 12 108 ("no") 2 (by decide)) (cwV 0 hG (gi_V g_326 g_327 g_328 g_306 g_307) rfl rfl rfl (by decide +kernel) ⟨Nat.le_of_ble_eq_true rfl, Nat.le_of_ble_eq_true rfl⟩) ⟨pq_blind, (st_recv (hE.2.2.2.2.2.2.2 (12, 108, "no", 2) (by decide)).2 hS), (pq_pass hP hD hK hE hS hA [] rfl (by decide))⟩ rfl rfl hl2.1 rfl (lv_room (Nat.le_of_ble_eq_true rfl)) dX12_packed_6 ⟨Nat.le_of_ble_eq_true rfl, Nat.le_of_ble_eq_true rfl⟩) hP hD hS hA [] [] rfl rfl (by decide) (by decide) (by decide) (by decide) (fun r3 w3 H3 lo3 e3 hR3 hP3r hD3r hS3 => ?_)
  subst hR3
  subst e3
  have hP3 : va_P D classes [] H3 := hP3r
  have hD3 : va_D A [] := hD3r
  clear hP3r hD3r
  clear hP hD hS
  refine tp_i (y := 2) (by decide) ?_
  refine lv_icmp_ge (pc := 9) (tgt := 33) hx hb dX12_packed_9 (by decide) (fun c4 => absurd c4 (by decide)) (fun c4 => ?_)
  refine lv_lload_n (pc := 12) hx hb dX12_packed_12 rfl (lv_at hl2 1 rfl) ?_
  refine lv_bipush (pc := 13) (v := 6) hx hb dX12_packed_13 (by decide) ?_
  refine lv_lshl (pc := 15) (v := (0 : Int64) <<< ((6 : Int32).toInt64 &&& 63)) hx hb dX12_packed_15 rfl ?_
  refine lv_aload_n (pc := 16) hx hb dX12_packed_16 rfl (lv_at hl2 2 rfl) ?_
  refine lv_iload_n (pc := 17) hx hb dX12_packed_17 rfl (lv_at hl2 0 rfl) ?_
  refine cq_i (pc := 18) (wr := []) (k2 := 0) (n2 := 0) (va_runV (As := [.int 0]) (rest := [.long ((0 : Int64) <<< ((6 : Int32).toInt64 &&& 63))]) ⟨hx, hb, hml, hown, hG⟩ (c_charAt l D cy kv H3.size 0 12 108 ("no") 2 (by decide) (by decide) (by decide) (show ¬ ((0 : Int32) < 0 ∨ 2 ≤ (0 : Int32).toNatClampNeg) by decide)) (cwV 1 hG (gi_V g_329 g_330 g_331 g_306 g_324) rfl rfl rfl (by decide +kernel) ⟨Nat.le_of_ble_eq_true rfl, Nat.le_of_ble_eq_true rfl⟩) ⟨pq_blind, (st_recv (hE.2.2.2.2.2.2.2 (12, 108, "no", 2) (by decide)).2 hS3), (pq_pass hP3 hD3 hK hE hS3 hA [] rfl (by decide))⟩ rfl rfl hl2.1 rfl (lv_room (Nat.le_of_ble_eq_true rfl)) dX12_packed_18 ⟨Nat.le_of_ble_eq_true rfl, Nat.le_of_ble_eq_true rfl⟩) hP3 hD3 hS3 hA [] [] rfl rfl (by decide) (by decide) (by decide) (by decide) (fun r5 w5 H5 lo5 e5 hR5 hP5r hD5r hS5 => ?_)
  subst hR5
  have hP5 : va_P D classes [] H5 := hP5r
  have hD5 : va_D A [] := hD5r
  clear hP5r hD5r
  clear hP3 hD3 hS3
  clear H3 lo3
  refine cq_i (pc := 21) (wr := []) (k2 := 0) (n2 := 0) (va_runS (As := [.int r5]) (rest := [.long ((0 : Int64) <<< ((6 : Int32).toInt64 &&& 63))]) ⟨hx, hb, hml, hown, hG⟩ (c_signOf l D cy kv H5.size r5) (va_cwS 1 hG (gi_S g_332 g_333 g_334 g_325) rfl rfl rfl (by decide +kernel) ⟨Nat.le_of_ble_eq_true rfl, Nat.le_of_ble_eq_true rfl⟩) ⟨pq_blind, (pq_pass hP5 hD5 hK hE hS5 hA [] rfl (by decide))⟩ rfl rfl hl2.1 rfl (lv_room (Nat.le_of_ble_eq_true rfl)) dX12_packed_21 ⟨Nat.le_of_ble_eq_true rfl, Nat.le_of_ble_eq_true rfl⟩) hP5 hD5 hS5 hA [] [] rfl rfl (by decide) (by decide) (by decide) (by decide) (fun r6 w6 H6 lo6 e6 hR6 hP6r hD6r hS6 => ?_)
  subst hR6
  have hP6 : va_P D classes [] H6 := hP6r
  have hD6 : va_D A [] := hD6r
  clear hP6r hD6r
  clear hP5 hD5 hS5
  clear H5 lo5
  refine lv_i2l (pc := 24) (v := (r6 : Int32).toInt64) hx hb dX12_packed_24 rfl ?_
  refine lv_lor (pc := 25) hx hb dX12_packed_25 ?_
  refine lv_lstore_n (pc := 26) (lv' := [(1, .long (((0 : Int64) <<< ((6 : Int32).toInt64 &&& 63)) ||| ((r6 : Int32).toInt64))), (3, .int 0), (0, .ref (kv.1 12))]) hx hb dX12_packed_26 rfl hl2 (by decide) rfl (fun ls7 hl7 => ?_)
  clear hl2 ls2
  refine lv_iinc (pc := 27) (v := 1) (lv' := [(3, .int 1), (1, .long (((0 : Int64) <<< ((6 : Int32).toInt64 &&& 63)) ||| ((r6 : Int32).toInt64))), (0, .ref (kv.1 12))]) hx hb dX12_packed_27 hl7 (k := 1) rfl (by decide) (by decide) rfl (fun ls8 hl8 => ?_)
  clear hl7 ls7
  refine lv_goto (pc := 30) (tgt := 4) hx hb dX12_packed_30 (by decide) ?_
  refine lv_iload_n (pc := 4) hx hb dX12_packed_4 rfl (lv_at hl8 0 rfl) ?_
  refine lv_aload_n (pc := 5) hx hb dX12_packed_5 rfl (lv_at hl8 2 rfl) ?_
  refine cq_i (pc := 6) (wr := []) (k2 := 0) (n2 := 0) (va_runV (As := []) (rest := [.int 1]) ⟨hx, hb, hml, hown, hG⟩ (c_strlen l D cy kv H6.size 12 108 ("no") 2 (by decide)) (cwV 0 hG (gi_V g_326 g_327 g_328 g_306 g_307) rfl rfl rfl (by decide +kernel) ⟨Nat.le_of_ble_eq_true rfl, Nat.le_of_ble_eq_true rfl⟩) ⟨pq_blind, (st_recv (hE.2.2.2.2.2.2.2 (12, 108, "no", 2) (by decide)).2 hS6), (pq_pass hP6 hD6 hK hE hS6 hA [] rfl (by decide))⟩ rfl rfl hl8.1 rfl (lv_room (Nat.le_of_ble_eq_true rfl)) dX12_packed_6 ⟨Nat.le_of_ble_eq_true rfl, Nat.le_of_ble_eq_true rfl⟩) hP6 hD6 hS6 hA [] [] rfl rfl (by decide) (by decide) (by decide) (by decide) (fun r9 w9 H9 lo9 e9 hR9 hP9r hD9r hS9 => ?_)
  subst hR9
  subst e9
  have hP9 : va_P D classes [] H9 := hP9r
  have hD9 : va_D A [] := hD9r
  clear hP9r hD9r
  clear hP6 hD6 hS6
  clear H6 lo6
  refine tp_i (y := 2) (by decide) ?_
  refine lv_icmp_ge (pc := 9) (tgt := 33) hx hb dX12_packed_9 (by decide) (fun c10 => absurd c10 (by decide)) (fun c10 => ?_)
  refine lv_lload_n (pc := 12) hx hb dX12_packed_12 rfl (lv_at hl8 1 rfl) ?_
  refine lv_bipush (pc := 13) (v := 6) hx hb dX12_packed_13 (by decide) ?_
  refine lv_lshl (pc := 15) (v := (((0 : Int64) <<< ((6 : Int32).toInt64 &&& 63)) ||| ((r6 : Int32).toInt64) : Int64) <<< ((6 : Int32).toInt64 &&& 63)) hx hb dX12_packed_15 rfl ?_
  refine lv_aload_n (pc := 16) hx hb dX12_packed_16 rfl (lv_at hl8 2 rfl) ?_
  refine lv_iload_n (pc := 17) hx hb dX12_packed_17 rfl (lv_at hl8 0 rfl) ?_
  refine cq_i (pc := 18) (wr := []) (k2 := 0) (n2 := 0) (va_runV (As := [.int 1]) (rest := [.long ((((0 : Int64) <<< ((6 : Int32).toInt64 &&& 63)) ||| ((r6 : Int32).toInt64) : Int64) <<< ((6 : Int32).toInt64 &&& 63))]) ⟨hx, hb, hml, hown, hG⟩ (c_charAt l D cy kv H9.size 1 12 108 ("no") 2 (by decide) (by decide) (by decide) (show ¬ ((1 : Int32) < 0 ∨ 2 ≤ (1 : Int32).toNatClampNeg) by decide)) (cwV 1 hG (gi_V g_329 g_330 g_331 g_306 g_324) rfl rfl rfl (by decide +kernel) ⟨Nat.le_of_ble_eq_true rfl, Nat.le_of_ble_eq_true rfl⟩) ⟨pq_blind, (st_recv (hE.2.2.2.2.2.2.2 (12, 108, "no", 2) (by decide)).2 hS9), (pq_pass hP9 hD9 hK hE hS9 hA [] rfl (by decide))⟩ rfl rfl hl8.1 rfl (lv_room (Nat.le_of_ble_eq_true rfl)) dX12_packed_18 ⟨Nat.le_of_ble_eq_true rfl, Nat.le_of_ble_eq_true rfl⟩) hP9 hD9 hS9 hA [] [] rfl rfl (by decide) (by decide) (by decide) (by decide) (fun r11 w11 H11 lo11 e11 hR11 hP11r hD11r hS11 => ?_)
  subst hR11
  have hP11 : va_P D classes [] H11 := hP11r
  have hD11 : va_D A [] := hD11r
  clear hP11r hD11r
  clear hP9 hD9 hS9
  clear H9 lo9
  refine cq_i (pc := 21) (wr := []) (k2 := 0) (n2 := 0) (va_runS (As := [.int r11]) (rest := [.long ((((0 : Int64) <<< ((6 : Int32).toInt64 &&& 63)) ||| ((r6 : Int32).toInt64) : Int64) <<< ((6 : Int32).toInt64 &&& 63))]) ⟨hx, hb, hml, hown, hG⟩ (c_signOf l D cy kv H11.size r11) (va_cwS 1 hG (gi_S g_332 g_333 g_334 g_325) rfl rfl rfl (by decide +kernel) ⟨Nat.le_of_ble_eq_true rfl, Nat.le_of_ble_eq_true rfl⟩) ⟨pq_blind, (pq_pass hP11 hD11 hK hE hS11 hA [] rfl (by decide))⟩ rfl rfl hl8.1 rfl (lv_room (Nat.le_of_ble_eq_true rfl)) dX12_packed_21 ⟨Nat.le_of_ble_eq_true rfl, Nat.le_of_ble_eq_true rfl⟩) hP11 hD11 hS11 hA [] [] rfl rfl (by decide) (by decide) (by decide) (by decide) (fun r12 w12 H12 lo12 e12 hR12 hP12r hD12r hS12 => ?_)
  subst hR12
  have hP12 : va_P D classes [] H12 := hP12r
  have hD12 : va_D A [] := hD12r
  clear hP12r hD12r
  clear hP11 hD11 hS11
  clear H11 lo11
  refine lv_i2l (pc := 24) (v := (r12 : Int32).toInt64) hx hb dX12_packed_24 rfl ?_
  refine lv_lor (pc := 25) hx hb dX12_packed_25 ?_
  refine lv_lstore_n (pc := 26) (lv' := [(1, .long (((((0 : Int64) <<< ((6 : Int32).toInt64 &&& 63)) ||| ((r6 : Int32).toInt64) : Int64) <<< ((6 : Int32).toInt64 &&& 63)) ||| ((r12 : Int32).toInt64))), (3, .int 1), (0, .ref (kv.1 12))]) hx hb dX12_packed_26 rfl hl8 (by decide) rfl (fun ls13 hl13 => ?_)
  clear hl8 ls8
  refine lv_iinc (pc := 27) (v := 2) (lv' := [(3, .int 2), (1, .long (((((0 : Int64) <<< ((6 : Int32).toInt64 &&& 63)) ||| ((r6 : Int32).toInt64) : Int64) <<< ((6 : Int32).toInt64 &&& 63)) ||| ((r12 : Int32).toInt64))), (0, .ref (kv.1 12))]) hx hb dX12_packed_27 hl13 (k := 1) rfl (by decide) (by decide) rfl (fun ls14 hl14 => ?_)
  clear hl13 ls13
  refine lv_goto (pc := 30) (tgt := 4) hx hb dX12_packed_30 (by decide) ?_
  refine lv_iload_n (pc := 4) hx hb dX12_packed_4 rfl (lv_at hl14 0 rfl) ?_
  refine lv_aload_n (pc := 5) hx hb dX12_packed_5 rfl (lv_at hl14 2 rfl) ?_
  refine cq_i (pc := 6) (wr := []) (k2 := 0) (n2 := 0) (va_runV (As := []) (rest := [.int 2]) ⟨hx, hb, hml, hown, hG⟩ (c_strlen l D cy kv H12.size 12 108 ("no") 2 (by decide)) (cwV 0 hG (gi_V g_326 g_327 g_328 g_306 g_307) rfl rfl rfl (by decide +kernel) ⟨Nat.le_of_ble_eq_true rfl, Nat.le_of_ble_eq_true rfl⟩) ⟨pq_blind, (st_recv (hE.2.2.2.2.2.2.2 (12, 108, "no", 2) (by decide)).2 hS12), (pq_pass hP12 hD12 hK hE hS12 hA [] rfl (by decide))⟩ rfl rfl hl14.1 rfl (lv_room (Nat.le_of_ble_eq_true rfl)) dX12_packed_6 ⟨Nat.le_of_ble_eq_true rfl, Nat.le_of_ble_eq_true rfl⟩) hP12 hD12 hS12 hA [] [] rfl rfl (by decide) (by decide) (by decide) (by decide) (fun r15 w15 H15 lo15 e15 hR15 hP15r hD15r hS15 => ?_)
  subst hR15
  subst e15
  have hP15 : va_P D classes [] H15 := hP15r
  have hD15 : va_D A [] := hD15r
  clear hP15r hD15r
  clear hP12 hD12 hS12
  clear H12 lo12
  refine tp_i (y := 2) (by decide) ?_
  refine lv_icmp_ge (pc := 9) (tgt := 33) hx hb dX12_packed_9 (by decide) (fun c16 => ?_) (fun c16 => absurd (by decide) c16)
  refine lv_lload_n (pc := 33) hx hb dX12_packed_33 rfl (lv_at hl14 1 rfl) ?_
  exact W.lret (pc := 34) (v := ((((0 : Int64) <<< ((6 : Int32).toInt64 &&& 63)) ||| ((r6 : Int32).toInt64) : Int64) <<< ((6 : Int32).toInt64 &&& 63)) ||| ((r12 : Int32).toInt64)) hx hb hr (fun t ht hW => ⟨⟨((((0 : Int64) <<< ((6 : Int32).toInt64 &&& 63)) ||| ((r6 : Int32).toInt64) : Int64) <<< ((6 : Int32).toInt64 &&& 63)) ||| ((r12 : Int32).toInt64), (), rfl, trivial, _, rfl, by rw [ht]; exact hP15, hD15⟩, hS15.F ht⟩) hS15.2.2 dX12_packed_34
