set_option maxHeartbeats 4000000 in
set_option maxRecDepth 100000 in
/-- X12_thrown -/
theorem m_thrown0 (l : Launch) (D : va_G) (cy : Nat → ClassId) (kv : KV) (sz : Nat) (ad0 : Nat) (fn0 : Nat → Value) (h0_0 : fn0 0 = .int 0) : Met l yX12_thrown (Cond.code yX12_thrown cX12_thrown 1 (some .int) :: GW) ({ frames := 8, cells := 0, slots := 0, locals := 120 } : Room) (va_Pc [.ref ad0] (pcq D cy kv sz [(ad0, ob 12 114 fn0)])) (va_Qi (fun r (_ : Unit) => r = 0) (fun _ t => bq D (fun w => w = [(ad0, ob 12 114 fn0)]) (va_A [(ad0, ob 12 114 fn0)] sz) t) (va_A [(ad0, ob 12 114 fn0)] sz)) 0 0 (va_A [(ad0, ob 12 114 fn0)] sz) := by
  refine Met.ofW (cc := cX12_thrown) (maxL := 1) (ret := (some .int)) (by decide) rfl ?_
  intro p e s m args below meth c s₁ B hml hv
  obtain ⟨rfl, hsz, hP, hK, hD0, hE⟩ := hv
  have hx := B.exec
  have hb := B.bytes
  have hr := B.returns
  have hG : ∀ w ∈ GW, w.before ([.ref ad0] : List Value).toArray s = true := fun w h => atoms_spec (ws := Cond.code yX12_thrown cX12_thrown 1 (some .int) :: GW) B.pre w (List.mem_cons_of_mem _ h)
  have hown : s.vm.findClass RX12 = some m.cls := findClass_of_methodNamed B.named
  have hlocks := B.notSynchronized
  subst hsz
  have hD := hD0.self (sz := s.heap.size)
  generalize hAe : va_A [(ad0, ob 12 114 fn0)] s.heap.size = A at hD hE ⊢
  have hA : ∀ q : Nat, s.heap.size ≤ q → A q := fun q h => by rw [← hAe]; exact Or.inr h
  have hS : va_S A s.heap s.heap [] := va_S.rf
  clear hAe hD0
  have hl0 := lv_entry ([.ref ad0]) (n := 1) (Nat.le_of_ble_eq_true rfl)
  rw [lg_entry_eq]
  generalize (lg_sl ([.ref ad0]) ++ List.replicate (1 - (lg_sl ([.ref ad0])).length) Slot.unset).toArray = ls at hl0 ⊢
  have hl : lv_has ls 1 [(0, .ref ad0)] := hl0
  clear hl0
  refine lv_aload_n (pc := 0) hx hb dX12_thrown_0 rfl (lv_at hl 0 rfl) ?_
  refine ob_get (pc := 1) (v := .int 0) (ci := 12) (C := RX12) (T := TX12) (N := 114) hx hb hG in_X12 hown hK hP 0 rfl rfl 0 (by decide) (hG _ g_432) rfl h0_0 dX12_thrown_1 ?_
  exact W.iret (pc := 4) (v := 0) hx hb hr (fun t ht hW => ⟨⟨0, (), rfl, rfl, _, rfl, by rw [ht]; exact hP, hD⟩, hS.F ht⟩) hS.2.2 dX12_thrown_4
set_option maxHeartbeats 4000000 in
set_option maxRecDepth 100000 in
/-- X12_thrown -/
theorem m_thrown1 (l : Launch) (D : va_G) (cy : Nat → ClassId) (kv : KV) (sz : Nat) (ad0 : Nat) (fn0 : Nat → Value) (h0_0 : fn0 0 = .int 1) : Met l yX12_thrown (Cond.code yX12_thrown cX12_thrown 1 (some .int) :: GW) ({ frames := 8, cells := 0, slots := 0, locals := 120 } : Room) (va_Pc [.ref ad0] (pcq D cy kv sz [(ad0, ob 12 114 fn0)])) (va_Qi (fun r (_ : Unit) => r = 1) (fun _ t => bq D (fun w => w = [(ad0, ob 12 114 fn0)]) (va_A [(ad0, ob 12 114 fn0)] sz) t) (va_A [(ad0, ob 12 114 fn0)] sz)) 0 0 (va_A [(ad0, ob 12 114 fn0)] sz) := by
  refine Met.ofW (cc := cX12_thrown) (maxL := 1) (ret := (some .int)) (by decide) rfl ?_
  intro p e s m args below meth c s₁ B hml hv
  obtain ⟨rfl, hsz, hP, hK, hD0, hE⟩ := hv
  have hx := B.exec
  have hb := B.bytes
  have hr := B.returns
  have hG : ∀ w ∈ GW, w.before ([.ref ad0] : List Value).toArray s = true := fun w h => atoms_spec (ws := Cond.code yX12_thrown cX12_thrown 1 (some .int) :: GW) B.pre w (List.mem_cons_of_mem _ h)
  have hown : s.vm.findClass RX12 = some m.cls := findClass_of_methodNamed B.named
  have hlocks := B.notSynchronized
  subst hsz
  have hD := hD0.self (sz := s.heap.size)
  generalize hAe : va_A [(ad0, ob 12 114 fn0)] s.heap.size = A at hD hE ⊢
  have hA : ∀ q : Nat, s.heap.size ≤ q → A q := fun q h => by rw [← hAe]; exact Or.inr h
  have hS : va_S A s.heap s.heap [] := va_S.rf
  clear hAe hD0
  have hl0 := lv_entry ([.ref ad0]) (n := 1) (Nat.le_of_ble_eq_true rfl)
  rw [lg_entry_eq]
  generalize (lg_sl ([.ref ad0]) ++ List.replicate (1 - (lg_sl ([.ref ad0])).length) Slot.unset).toArray = ls at hl0 ⊢
  have hl : lv_has ls 1 [(0, .ref ad0)] := hl0
  clear hl0
  refine lv_aload_n (pc := 0) hx hb dX12_thrown_0 rfl (lv_at hl 0 rfl) ?_
  refine ob_get (pc := 1) (v := .int 1) (ci := 12) (C := RX12) (T := TX12) (N := 114) hx hb hG in_X12 hown hK hP 0 rfl rfl 0 (by decide) (hG _ g_432) rfl h0_0 dX12_thrown_1 ?_
  exact W.iret (pc := 4) (v := 1) hx hb hr (fun t ht hW => ⟨⟨1, (), rfl, rfl, _, rfl, by rw [ht]; exact hP, hD⟩, hS.F ht⟩) hS.2.2 dX12_thrown_4
set_option maxHeartbeats 4000000 in
set_option maxRecDepth 100000 in
/-- X12_may -/
theorem m_may1 (l : Launch) (D : va_G) (cy : Nat → ClassId) (kv : KV) (sz : Nat) (ad0 : Nat) (fn0 : Nat → Value) (h0_0 : fn0 0 = .int 0) : Met l yX12_may (Cond.code yX12_may cX12_may 3 (some .boolean) :: GW) ({ frames := 8, cells := 0, slots := 0, locals := 120 } : Room) (va_Pc [.ref ad0, .int 1, .int 1] (pcq D cy kv sz [(ad0, ob 12 114 fn0)])) (va_Qi (fun r (_ : Unit) => r = 1) (fun _ t => bq D (fun w => w = [(ad0, ob 12 114 fn0)]) (va_A [(ad0, ob 12 114 fn0)] sz) t) (va_A [(ad0, ob 12 114 fn0)] sz)) 0 0 (va_A [(ad0, ob 12 114 fn0)] sz) := by
  refine Met.ofW (cc := cX12_may) (maxL := 3) (ret := (some .boolean)) (by decide) rfl ?_
  intro p e s m args below meth c s₁ B hml hv
  obtain ⟨rfl, hsz, hP, hK, hD0, hE⟩ := hv
  have hx := B.exec
  have hb := B.bytes
  have hr := B.returns
  have hG : ∀ w ∈ GW, w.before ([.ref ad0, .int 1, .int 1] : List Value).toArray s = true := fun w h => atoms_spec (ws := Cond.code yX12_may cX12_may 3 (some .boolean) :: GW) B.pre w (List.mem_cons_of_mem _ h)
  have hown : s.vm.findClass RX12 = some m.cls := findClass_of_methodNamed B.named
  have hlocks := B.notSynchronized
  subst hsz
  have hD := hD0.self (sz := s.heap.size)
  generalize hAe : va_A [(ad0, ob 12 114 fn0)] s.heap.size = A at hD hE ⊢
  have hA : ∀ q : Nat, s.heap.size ≤ q → A q := fun q h => by rw [← hAe]; exact Or.inr h
  have hS : va_S A s.heap s.heap [] := va_S.rf
  clear hAe hD0
  have hl0 := lv_entry ([.ref ad0, .int 1, .int 1]) (n := 3) (Nat.le_of_ble_eq_true rfl)
  rw [lg_entry_eq]
  generalize (lg_sl ([.ref ad0, .int 1, .int 1]) ++ List.replicate (3 - (lg_sl ([.ref ad0, .int 1, .int 1])).length) Slot.unset).toArray = ls at hl0 ⊢
  have hl : lv_has ls 3 [(0, .ref ad0), (1, .int 1), (2, .int 1)] := hl0
  clear hl0
  refine lv_iload_n (pc := 0) hx hb dX12_may_0 rfl (lv_at hl 1 rfl) ?_
  refine lv_if_ne (pc := 1) (tgt := 16) hx hb dX12_may_1 (by decide) (fun c1 => ?_) (fun c1 => absurd c1 (by decide))
  refine lv_aload_n (pc := 16) hx hb dX12_may_16 rfl (lv_at hl 0 rfl) ?_
  refine ob_get (pc := 17) (v := .int 0) (ci := 12) (C := RX12) (T := TX12) (N := 114) hx hb hG in_X12 hown hK hP 0 rfl rfl 0 (by decide) (hG _ g_432) rfl h0_0 dX12_may_17 ?_
  refine lv_if_ne (pc := 20) (tgt := 27) hx hb dX12_may_20 (by decide) (fun c2 => absurd (by decide) c2) (fun c2 => ?_)
  refine lv_iconst (pc := 23) (v := 1) hx hb dX12_may_23 (by decide) ?_
  refine lv_goto (pc := 24) (tgt := 28) hx hb dX12_may_24 (by decide) ?_
  exact W.zret (pc := 28) (v := 1) (ty := .boolean) hx hb hr rfl (fun t ht hW => ⟨⟨1, (), rfl, rfl, _, rfl, by rw [ht]; exact hP, hD⟩, hS.F ht⟩) hS.2.2 dX12_may_28
set_option maxHeartbeats 4000000 in
set_option maxRecDepth 100000 in
/-- X12_may -/
theorem m_may2 (l : Launch) (D : va_G) (cy : Nat → ClassId) (kv : KV) (sz : Nat) (ad0 : Nat) (fn0 : Nat → Value) (h0_0 : fn0 0 = .int 0) : Met l yX12_may (Cond.code yX12_may cX12_may 3 (some .boolean) :: GW) ({ frames := 8, cells := 0, slots := 0, locals := 120 } : Room) (va_Pc [.ref ad0, .int 1, .int 2] (pcq D cy kv sz [(ad0, ob 12 114 fn0)])) (va_Qi (fun r (_ : Unit) => r = 1) (fun _ t => bq D (fun w => w = [(ad0, ob 12 114 fn0)]) (va_A [(ad0, ob 12 114 fn0)] sz) t) (va_A [(ad0, ob 12 114 fn0)] sz)) 0 0 (va_A [(ad0, ob 12 114 fn0)] sz) := by
  refine Met.ofW (cc := cX12_may) (maxL := 3) (ret := (some .boolean)) (by decide) rfl ?_
  intro p e s m args below meth c s₁ B hml hv
  obtain ⟨rfl, hsz, hP, hK, hD0, hE⟩ := hv
  have hx := B.exec
  have hb := B.bytes
  have hr := B.returns
  have hG : ∀ w ∈ GW, w.before ([.ref ad0, .int 1, .int 2] : List Value).toArray s = true := fun w h => atoms_spec (ws := Cond.code yX12_may cX12_may 3 (some .boolean) :: GW) B.pre w (List.mem_cons_of_mem _ h)
  have hown : s.vm.findClass RX12 = some m.cls := findClass_of_methodNamed B.named
  have hlocks := B.notSynchronized
  subst hsz
  have hD := hD0.self (sz := s.heap.size)
  generalize hAe : va_A [(ad0, ob 12 114 fn0)] s.heap.size = A at hD hE ⊢
  have hA : ∀ q : Nat, s.heap.size ≤ q → A q := fun q h => by rw [← hAe]; exact Or.inr h
  have hS : va_S A s.heap s.heap [] := va_S.rf
  clear hAe hD0
  have hl0 := lv_entry ([.ref ad0, .int 1, .int 2]) (n := 3) (Nat.le_of_ble_eq_true rfl)
  rw [lg_entry_eq]
  generalize (lg_sl ([.ref ad0, .int 1, .int 2]) ++ List.replicate (3 - (lg_sl ([.ref ad0, .int 1, .int 2])).length) Slot.unset).toArray = ls at hl0 ⊢
  have hl : lv_has ls 3 [(0, .ref ad0), (1, .int 1), (2, .int 2)] := hl0
  clear hl0
  refine lv_iload_n (pc := 0) hx hb dX12_may_0 rfl (lv_at hl 1 rfl) ?_
  refine lv_if_ne (pc := 1) (tgt := 16) hx hb dX12_may_1 (by decide) (fun c1 => ?_) (fun c1 => absurd c1 (by decide))
  refine lv_aload_n (pc := 16) hx hb dX12_may_16 rfl (lv_at hl 0 rfl) ?_
  refine ob_get (pc := 17) (v := .int 0) (ci := 12) (C := RX12) (T := TX12) (N := 114) hx hb hG in_X12 hown hK hP 0 rfl rfl 0 (by decide) (hG _ g_432) rfl h0_0 dX12_may_17 ?_
  refine lv_if_ne (pc := 20) (tgt := 27) hx hb dX12_may_20 (by decide) (fun c2 => absurd (by decide) c2) (fun c2 => ?_)
  refine lv_iconst (pc := 23) (v := 1) hx hb dX12_may_23 (by decide) ?_
  refine lv_goto (pc := 24) (tgt := 28) hx hb dX12_may_24 (by decide) ?_
  exact W.zret (pc := 28) (v := 1) (ty := .boolean) hx hb hr rfl (fun t ht hW => ⟨⟨1, (), rfl, rfl, _, rfl, by rw [ht]; exact hP, hD⟩, hS.F ht⟩) hS.2.2 dX12_may_28
set_option maxHeartbeats 4000000 in
set_option maxRecDepth 100000 in
/-- X12_may -/
theorem m_may0 (l : Launch) (D : va_G) (cy : Nat → ClassId) (kv : KV) (sz : Nat) (ad0 : Nat) (fn0 : Nat → Value) (h0_0 : fn0 0 = .int 0) : Met l yX12_may (Cond.code yX12_may cX12_may 3 (some .boolean) :: GW) ({ frames := 8, cells := 0, slots := 0, locals := 120 } : Room) (va_Pc [.ref ad0, .int 0, .int 1] (pcq D cy kv sz [(ad0, ob 12 114 fn0)])) (va_Qi (fun r (_ : Unit) => r = 0) (fun _ t => bq D (fun w => w = [(ad0, ob 12 114 (vup fn0 0 (.int 1)))]) (va_A [(ad0, ob 12 114 fn0)] sz) t) (va_A [(ad0, ob 12 114 fn0)] sz)) 0 0 (va_A [(ad0, ob 12 114 fn0)] sz) := by
  refine Met.ofW (cc := cX12_may) (maxL := 3) (ret := (some .boolean)) (by decide) rfl ?_
  intro p e s m args below meth c s₁ B hml hv
  obtain ⟨rfl, hsz, hP, hK, hD0, hE⟩ := hv
  have hx := B.exec
  have hb := B.bytes
  have hr := B.returns
  have hG : ∀ w ∈ GW, w.before ([.ref ad0, .int 0, .int 1] : List Value).toArray s = true := fun w h => atoms_spec (ws := Cond.code yX12_may cX12_may 3 (some .boolean) :: GW) B.pre w (List.mem_cons_of_mem _ h)
  have hown : s.vm.findClass RX12 = some m.cls := findClass_of_methodNamed B.named
  have hlocks := B.notSynchronized
  subst hsz
  have hD := hD0.self (sz := s.heap.size)
  generalize hAe : va_A [(ad0, ob 12 114 fn0)] s.heap.size = A at hD hE ⊢
  have hA : ∀ q : Nat, s.heap.size ≤ q → A q := fun q h => by rw [← hAe]; exact Or.inr h
  have hS : va_S A s.heap s.heap [] := va_S.rf
  clear hAe hD0
  have hl0 := lv_entry ([.ref ad0, .int 0, .int 1]) (n := 3) (Nat.le_of_ble_eq_true rfl)
  rw [lg_entry_eq]
  generalize (lg_sl ([.ref ad0, .int 0, .int 1]) ++ List.replicate (3 - (lg_sl ([.ref ad0, .int 0, .int 1])).length) Slot.unset).toArray = ls at hl0 ⊢
  have hl : lv_has ls 3 [(0, .ref ad0), (1, .int 0), (2, .int 1)] := hl0
  clear hl0
  refine lv_iload_n (pc := 0) hx hb dX12_may_0 rfl (lv_at hl 1 rfl) ?_
  refine lv_if_ne (pc := 1) (tgt := 16) hx hb dX12_may_1 (by decide) (fun c1 => absurd (by decide) c1) (fun c1 => ?_)
  refine lv_aload_n (pc := 4) hx hb dX12_may_4 rfl (lv_at hl 0 rfl) ?_
  refine ob_get (pc := 5) (v := .int 0) (ci := 12) (C := RX12) (T := TX12) (N := 114) hx hb hG in_X12 hown hK hP 0 rfl rfl 0 (by decide) (hG _ g_432) rfl h0_0 dX12_may_5 ?_
  refine lv_if_ne (pc := 8) (tgt := 16) hx hb dX12_may_8 (by decide) (fun c2 => absurd (by decide) c2) (fun c2 => ?_)
  refine lv_aload_n (pc := 11) hx hb dX12_may_11 rfl (lv_at hl 0 rfl) ?_
  refine lv_iload_n (pc := 12) hx hb dX12_may_12 rfl (lv_at hl 2 rfl) ?_
  refine ob_put (pc := 13) (v := .int 1) (ci := 12) (C := RX12) (T := TX12) (N := 114) hx hb hG in_X12 tyX12 tyX12_ok nmX12 hown hK hP hD hS 0 rfl rfl 0 (by decide) (hG _ g_432) rfl rfl rfl rfl dX12_may_13 (ws' := [(ad0, ob 12 114 (vup fn0 0 (.int 1)))]) rfl (fun H3 lo3 hP3 hD3 hS3 => ?_)
  clear hP hD hS
  refine lv_aload_n (pc := 16) hx hb dX12_may_16 rfl (lv_at hl 0 rfl) ?_
  refine ob_get (pc := 17) (v := .int 1) (ci := 12) (C := RX12) (T := TX12) (N := 114) hx hb hG in_X12 hown hK hP3 0 rfl rfl 0 (by decide) (hG _ g_432) rfl rfl dX12_may_17 ?_
  refine lv_if_ne (pc := 20) (tgt := 27) hx hb dX12_may_20 (by decide) (fun c4 => ?_) (fun c4 => absurd c4 (by decide))
  refine lv_iconst (pc := 27) (v := 0) hx hb dX12_may_27 (by decide) ?_
  exact W.zret (pc := 28) (v := 0) (ty := .boolean) hx hb hr rfl (fun t ht hW => ⟨⟨0, (), rfl, rfl, _, rfl, by rw [ht]; exact hP3, hD3⟩, hS3.F ht⟩) hS3.2.2 dX12_may_28
set_option maxHeartbeats 4000000 in
set_option maxRecDepth 100000 in
/-- X12_feed -/
theorem m_feed (l : Launch) (D : va_G) (cy : Nat → ClassId) (kv : KV) (sz : Nat) (ad0 : Nat) (xi0 : Int32) (xi1 : Int32) (xi2 : Int32) (xi3 : Int32) (xi4 : Int32) (fn0 : Nat → Value) (ad1 : Nat) (ct1 : Nat → Int32) (h0_31 : fn0 31 = .ref ad1) (h0_32 : fn0 32 = .int 0) : Met l yX12_feed (Cond.code yX12_feed cX12_feed 8 (some .int) :: GW) ({ frames := 8, cells := 0, slots := 0, locals := 120 } : Room) (va_Pc [.ref ad0, .int xi0, .int xi1, .int xi2, .int xi3, .int xi4] (pcq D cy kv sz [(ad0, ob 12 114 fn0), (ad1, ari (cy 0) 2000 ct1)])) (va_Qi (fun r (_ : Unit) => r = 20) (fun _ t => bq D (fun w => ∃ (nc900 : Nat → Int32) (nc901 : Nat → Value), w = [(ad0, ob 12 114 nc901), (ad1, ari (cy 0) 2000 nc900)] ∧ nc901 0 = .int 0) (va_A [(ad0, ob 12 114 fn0), (ad1, ari (cy 0) 2000 ct1)] sz) t) (va_A [(ad0, ob 12 114 fn0), (ad1, ari (cy 0) 2000 ct1)] sz)) 0 0 (va_A [(ad0, ob 12 114 fn0), (ad1, ari (cy 0) 2000 ct1)] sz) := by
  refine Met.ofW (cc := cX12_feed) (maxL := 8) (ret := (some .int)) (by decide) rfl ?_
  intro p e s m args below meth c s₁ B hml hv
  obtain ⟨rfl, hsz, hP, hK, hD0, hE⟩ := hv
  have hx := B.exec
  have hb := B.bytes
  have hr := B.returns
  have hG : ∀ w ∈ GW, w.before ([.ref ad0, .int xi0, .int xi1, .int xi2, .int xi3, .int xi4] : List Value).toArray s = true := fun w h => atoms_spec (ws := Cond.code yX12_feed cX12_feed 8 (some .int) :: GW) B.pre w (List.mem_cons_of_mem _ h)
  have hown : s.vm.findClass RX12 = some m.cls := findClass_of_methodNamed B.named
  have hlocks := B.notSynchronized
  subst hsz
  have hD := hD0.self (sz := s.heap.size)
  generalize hAe : va_A [(ad0, ob 12 114 fn0), (ad1, ari (cy 0) 2000 ct1)] s.heap.size = A at hD hE ⊢
  have hA : ∀ q : Nat, s.heap.size ≤ q → A q := fun q h => by rw [← hAe]; exact Or.inr h
  have hS : va_S A s.heap s.heap [] := va_S.rf
  clear hAe hD0
  have hl0 := lv_entry ([.ref ad0, .int xi0, .int xi1, .int xi2, .int xi3, .int xi4]) (n := 8) (Nat.le_of_ble_eq_true rfl)
  rw [lg_entry_eq]
  generalize (lg_sl ([.ref ad0, .int xi0, .int xi1, .int xi2, .int xi3, .int xi4]) ++ List.replicate (8 - (lg_sl ([.ref ad0, .int xi0, .int xi1, .int xi2, .int xi3, .int xi4])).length) Slot.unset).toArray = ls at hl0 ⊢
  have hl : lv_has ls 8 [(0, .ref ad0), (1, .int xi0), (2, .int xi1), (3, .int xi2), (4, .int xi3), (5, .int xi4)] := hl0
  clear hl0
  refine lv_aload_n (pc := 0) hx hb dX12_feed_0 rfl (lv_at hl 0 rfl) ?_
  refine lv_iconst (pc := 1) (v := 0) hx hb dX12_feed_1 (by decide) ?_
  refine ob_put (pc := 2) (v := .int 0) (ci := 12) (C := RX12) (T := TX12) (N := 114) hx hb hG in_X12 tyX12 tyX12_ok nmX12 hown hK hP hD hS 0 rfl rfl 0 (by decide) (hG _ g_432) rfl rfl rfl rfl dX12_feed_2 (ws' := [(ad0, ob 12 114 (vup fn0 0 (.int 0))), (ad1, ari (cy 0) 2000 ct1)]) rfl (fun H1 lo1 hP1 hD1 hS1 => ?_)
  clear hP hD hS
  refine lv_aload_n (pc := 5) hx hb dX12_feed_5 rfl (lv_at hl 0 rfl) ?_
  refine ob_get (pc := 6) (v := .int 0) (ci := 12) (C := RX12) (T := TX12) (N := 114) hx hb hG in_X12 hown hK hP1 0 rfl rfl 32 (by decide) (hG _ g_435) rfl h0_32 dX12_feed_6 ?_
  refine lv_bipush (pc := 9) (v := 20) hx hb dX12_feed_9 (by decide) ?_
  refine lv_iadd (pc := 11) hx hb dX12_feed_11 ?_
  refine tp_i (y := 20) (by decide) ?_
  refine lv_sipush (pc := 12) (v := 2000) hx hb dX12_feed_12 (by decide) ?_
  refine lv_icmp_le (pc := 15) (tgt := 20) hx hb dX12_feed_15 (by decide) (fun c2 => ?_) (fun c2 => absurd (by decide) c2)
  refine lv_iconst (pc := 20) (v := 0) hx hb dX12_feed_20 (by decide) ?_
  refine lv_istore (pc := 21) (lv' := [(6, .int 0), (0, .ref ad0), (1, .int xi0), (2, .int xi1), (3, .int xi2), (4, .int xi3), (5, .int xi4)]) hx hb dX12_feed_21 hl (by decide) rfl (fun ls3 hl3 => ?_)
  clear hl ls
  refine lv_iload (pc := 23) hx hb dX12_feed_23 (lv_at hl3 0 rfl) ?_
  refine lv_bipush (pc := 25) (v := 20) hx hb dX12_feed_25 (by decide) ?_
  refine lv_icmp_ge (pc := 27) (tgt := 120) hx hb dX12_feed_27 (by decide) (fun c4 => absurd c4 (by decide)) (fun c4 => ?_)
  refine lv_iload (pc := 30) hx hb dX12_feed_30 (lv_at hl3 0 rfl) ?_
  refine lv_iconst (pc := 32) (v := 4) hx hb dX12_feed_32 (by decide) ?_
  refine lv_icmp_ge (pc := 33) (tgt := 40) hx hb dX12_feed_33 (by decide) (fun c5 => absurd c5 (by decide)) (fun c5 => ?_)
  refine lv_iload_n (pc := 36) hx hb dX12_feed_36 rfl (lv_at hl3 2 rfl) ?_
  refine lv_goto (pc := 37) (tgt := 76) hx hb dX12_feed_37 (by decide) ?_
  refine lv_istore (pc := 76) (lv' := [(7, .int xi0), (6, .int 0), (0, .ref ad0), (1, .int xi0), (2, .int xi1), (3, .int xi2), (4, .int xi3), (5, .int xi4)]) hx hb dX12_feed_76 hl3 (by decide) rfl (fun ls6 hl6 => ?_)
  clear hl3 ls3
  refine lv_aload_n (pc := 78) hx hb dX12_feed_78 rfl (lv_at hl6 2 rfl) ?_
  refine ob_get (pc := 79) (v := .ref ad1) (ci := 12) (C := RX12) (T := TX12) (N := 114) hx hb hG in_X12 hown hK hP1 0 rfl rfl 31 (by decide) (hG _ g_379) rfl h0_31 dX12_feed_79 ?_
  refine lv_aload_n (pc := 82) hx hb dX12_feed_82 rfl (lv_at hl6 2 rfl) ?_
  refine ob_get (pc := 83) (v := .int 0) (ci := 12) (C := RX12) (T := TX12) (N := 114) hx hb hG in_X12 hown hK hP1 0 rfl rfl 32 (by decide) (hG _ g_435) rfl h0_32 dX12_feed_83 ?_
  refine lv_iload (pc := 86) hx hb dX12_feed_86 (lv_at hl6 0 rfl) ?_
  refine lv_bipush (pc := 88) (v := 24) hx hb dX12_feed_88 (by decide) ?_
  refine lv_bipush (pc := 90) (v := 8) hx hb dX12_feed_90 (by decide) ?_
  refine lv_iload (pc := 92) hx hb dX12_feed_92 (lv_at hl6 1 rfl) ?_
  refine lv_iconst (pc := 94) (v := 4) hx hb dX12_feed_94 (by decide) ?_
  refine lv_irem (pc := 95) hx hb dX12_feed_95 (by decide) ?_
  refine tp_i (y := 0) (by decide) ?_
  refine lv_imul (pc := 96) hx hb dX12_feed_96 ?_
  refine tp_i (y := 0) (by decide) ?_
  refine lv_isub (pc := 97) hx hb dX12_feed_97 ?_
  refine tp_i (y := 24) (by decide) ?_
  refine lv_ishr (pc := 98) hx hb dX12_feed_98 ?_
  refine lv_sipush (pc := 99) (v := 255) hx hb dX12_feed_99 (by decide) ?_
  refine lv_iand (pc := 102) hx hb dX12_feed_102 ?_
  refine va_iast (pc := 103) hx hb hK hP1 hD1 hS1 1 0 rfl rfl (show ¬ ((0 : Int32) < 0 ∨ 2000 ≤ (0 : Int32).toNatClampNeg) by decide) dX12_feed_103 (fun H7 lo7 hP7r hD7r hS7 => ?_)
  have hP7 : va_P D classes [(ad0, ob 12 114 (vup fn0 0 (.int 0))), (ad1, ari (cy 0) 2000 (upd ct1 (0 : Int32).toNatClampNeg ((xi0 >>> (24 &&& 31)) &&& 255)))] H7 := hP7r
  have hD7 : va_D A [(ad0, ob 12 114 (vup fn0 0 (.int 0))), (ad1, ari (cy 0) 2000 (upd ct1 (0 : Int32).toNatClampNeg ((xi0 >>> (24 &&& 31)) &&& 255)))] := hD7r
  clear hP7r hD7r
  generalize (upd ct1 (0 : Int32).toNatClampNeg ((xi0 >>> (24 &&& 31)) &&& 255)) = nc8 at hP7 hD7
  clear hP1 hD1 hS1
  clear H1 lo1
  refine lv_aload_n (pc := 104) hx hb dX12_feed_104 rfl (lv_at hl6 2 rfl) ?_
  refine lv_dup (pc := 105) hx hb dX12_feed_105 rfl ?_
  refine ob_get (pc := 106) (v := .int 0) (ci := 12) (C := RX12) (T := TX12) (N := 114) hx hb hG in_X12 hown hK hP7 0 rfl rfl 32 (by decide) (hG _ g_435) rfl h0_32 dX12_feed_106 ?_
  refine lv_iconst (pc := 109) (v := 1) hx hb dX12_feed_109 (by decide) ?_
  refine lv_iadd (pc := 110) hx hb dX12_feed_110 ?_
  refine tp_i (y := 1) (by decide) ?_
  refine ob_put (pc := 111) (v := .int 1) (ci := 12) (C := RX12) (T := TX12) (N := 114) hx hb hG in_X12 tyX12 tyX12_ok nmX12 hown hK hP7 hD7 hS7 0 rfl rfl 32 (by decide) (hG _ g_435) rfl rfl rfl rfl dX12_feed_111 (ws' := [(ad0, ob 12 114 (vup (vup fn0 0 (.int 0)) 32 (.int 1))), (ad1, ari (cy 0) 2000 nc8)]) rfl (fun H9 lo9 hP9 hD9 hS9 => ?_)
  clear hP7 hD7 hS7
  clear H7 lo7
  refine lv_iinc (pc := 114) (v := 1) (lv' := [(6, .int 1), (7, .int xi0), (0, .ref ad0), (1, .int xi0), (2, .int xi1), (3, .int xi2), (4, .int xi3), (5, .int xi4)]) hx hb dX12_feed_114 hl6 (k := 1) rfl (by decide) (by decide) rfl (fun ls10 hl10 => ?_)
  clear hl6 ls6
  refine lv_goto (pc := 117) (tgt := 23) hx hb dX12_feed_117 (by decide) ?_
  refine lv_iload (pc := 23) hx hb dX12_feed_23 (lv_at hl10 0 rfl) ?_
  refine lv_bipush (pc := 25) (v := 20) hx hb dX12_feed_25 (by decide) ?_
  refine lv_icmp_ge (pc := 27) (tgt := 120) hx hb dX12_feed_27 (by decide) (fun c11 => absurd c11 (by decide)) (fun c11 => ?_)
  refine lv_iload (pc := 30) hx hb dX12_feed_30 (lv_at hl10 0 rfl) ?_
  refine lv_iconst (pc := 32) (v := 4) hx hb dX12_feed_32 (by decide) ?_
  refine lv_icmp_ge (pc := 33) (tgt := 40) hx hb dX12_feed_33 (by decide) (fun c12 => absurd c12 (by decide)) (fun c12 => ?_)
  refine lv_iload_n (pc := 36) hx hb dX12_feed_36 rfl (lv_at hl10 3 rfl) ?_
  refine lv_goto (pc := 37) (tgt := 76) hx hb dX12_feed_37 (by decide) ?_
  refine lv_istore (pc := 76) (lv' := [(7, .int xi0), (6, .int 1), (0, .ref ad0), (1, .int xi0), (2, .int xi1), (3, .int xi2), (4, .int xi3), (5, .int xi4)]) hx hb dX12_feed_76 hl10 (by decide) rfl (fun ls13 hl13 => ?_)
  clear hl10 ls10
  refine lv_aload_n (pc := 78) hx hb dX12_feed_78 rfl (lv_at hl13 2 rfl) ?_
  refine ob_get (pc := 79) (v := .ref ad1) (ci := 12) (C := RX12) (T := TX12) (N := 114) hx hb hG in_X12 hown hK hP9 0 rfl rfl 31 (by decide) (hG _ g_379) rfl h0_31 dX12_feed_79 ?_
  refine lv_aload_n (pc := 82) hx hb dX12_feed_82 rfl (lv_at hl13 2 rfl) ?_
  refine ob_get (pc := 83) (v := .int 1) (ci := 12) (C := RX12) (T := TX12) (N := 114) hx hb hG in_X12 hown hK hP9 0 rfl rfl 32 (by decide) (hG _ g_435) rfl rfl dX12_feed_83 ?_
  refine lv_iload (pc := 86) hx hb dX12_feed_86 (lv_at hl13 0 rfl) ?_
  refine lv_bipush (pc := 88) (v := 24) hx hb dX12_feed_88 (by decide) ?_
  refine lv_bipush (pc := 90) (v := 8) hx hb dX12_feed_90 (by decide) ?_
  refine lv_iload (pc := 92) hx hb dX12_feed_92 (lv_at hl13 1 rfl) ?_
  refine lv_iconst (pc := 94) (v := 4) hx hb dX12_feed_94 (by decide) ?_
  refine lv_irem (pc := 95) hx hb dX12_feed_95 (by decide) ?_
  refine tp_i (y := 1) (by decide) ?_
  refine lv_imul (pc := 96) hx hb dX12_feed_96 ?_
  refine tp_i (y := 8) (by decide) ?_
  refine lv_isub (pc := 97) hx hb dX12_feed_97 ?_
  refine tp_i (y := 16) (by decide) ?_
  refine lv_ishr (pc := 98) hx hb dX12_feed_98 ?_
  refine lv_sipush (pc := 99) (v := 255) hx hb dX12_feed_99 (by decide) ?_
  refine lv_iand (pc := 102) hx hb dX12_feed_102 ?_
  refine va_iast (pc := 103) hx hb hK hP9 hD9 hS9 1 0 rfl rfl (show ¬ ((1 : Int32) < 0 ∨ 2000 ≤ (1 : Int32).toNatClampNeg) by decide) dX12_feed_103 (fun H14 lo14 hP14r hD14r hS14 => ?_)
  have hP14 : va_P D classes [(ad0, ob 12 114 (vup (vup fn0 0 (.int 0)) 32 (.int 1))), (ad1, ari (cy 0) 2000 (upd nc8 (1 : Int32).toNatClampNeg ((xi0 >>> (16 &&& 31)) &&& 255)))] H14 := hP14r
  have hD14 : va_D A [(ad0, ob 12 114 (vup (vup fn0 0 (.int 0)) 32 (.int 1))), (ad1, ari (cy 0) 2000 (upd nc8 (1 : Int32).toNatClampNeg ((xi0 >>> (16 &&& 31)) &&& 255)))] := hD14r
  clear hP14r hD14r
  generalize (upd nc8 (1 : Int32).toNatClampNeg ((xi0 >>> (16 &&& 31)) &&& 255)) = nc15 at hP14 hD14
  clear hP9 hD9 hS9
  clear H9 lo9
  refine lv_aload_n (pc := 104) hx hb dX12_feed_104 rfl (lv_at hl13 2 rfl) ?_
  refine lv_dup (pc := 105) hx hb dX12_feed_105 rfl ?_
  refine ob_get (pc := 106) (v := .int 1) (ci := 12) (C := RX12) (T := TX12) (N := 114) hx hb hG in_X12 hown hK hP14 0 rfl rfl 32 (by decide) (hG _ g_435) rfl rfl dX12_feed_106 ?_
  refine lv_iconst (pc := 109) (v := 1) hx hb dX12_feed_109 (by decide) ?_
  refine lv_iadd (pc := 110) hx hb dX12_feed_110 ?_
  refine tp_i (y := 2) (by decide) ?_
  refine ob_put (pc := 111) (v := .int 2) (ci := 12) (C := RX12) (T := TX12) (N := 114) hx hb hG in_X12 tyX12 tyX12_ok nmX12 hown hK hP14 hD14 hS14 0 rfl rfl 32 (by decide) (hG _ g_435) rfl rfl rfl rfl dX12_feed_111 (ws' := [(ad0, ob 12 114 (vup (vup (vup fn0 0 (.int 0)) 32 (.int 1)) 32 (.int 2))), (ad1, ari (cy 0) 2000 nc15)]) rfl (fun H16 lo16 hP16 hD16 hS16 => ?_)
  clear hP14 hD14 hS14
  clear H14 lo14
  refine lv_iinc (pc := 114) (v := 2) (lv' := [(6, .int 2), (7, .int xi0), (0, .ref ad0), (1, .int xi0), (2, .int xi1), (3, .int xi2), (4, .int xi3), (5, .int xi4)]) hx hb dX12_feed_114 hl13 (k := 1) rfl (by decide) (by decide) rfl (fun ls17 hl17 => ?_)
  clear hl13 ls13
  refine lv_goto (pc := 117) (tgt := 23) hx hb dX12_feed_117 (by decide) ?_
  refine lv_iload (pc := 23) hx hb dX12_feed_23 (lv_at hl17 0 rfl) ?_
  refine lv_bipush (pc := 25) (v := 20) hx hb dX12_feed_25 (by decide) ?_
  refine lv_icmp_ge (pc := 27) (tgt := 120) hx hb dX12_feed_27 (by decide) (fun c18 => absurd c18 (by decide)) (fun c18 => ?_)
  refine lv_iload (pc := 30) hx hb dX12_feed_30 (lv_at hl17 0 rfl) ?_
  refine lv_iconst (pc := 32) (v := 4) hx hb dX12_feed_32 (by decide) ?_
  refine lv_icmp_ge (pc := 33) (tgt := 40) hx hb dX12_feed_33 (by decide) (fun c19 => absurd c19 (by decide)) (fun c19 => ?_)
  refine lv_iload_n (pc := 36) hx hb dX12_feed_36 rfl (lv_at hl17 3 rfl) ?_
  refine lv_goto (pc := 37) (tgt := 76) hx hb dX12_feed_37 (by decide) ?_
  refine lv_istore (pc := 76) (lv' := [(7, .int xi0), (6, .int 2), (0, .ref ad0), (1, .int xi0), (2, .int xi1), (3, .int xi2), (4, .int xi3), (5, .int xi4)]) hx hb dX12_feed_76 hl17 (by decide) rfl (fun ls20 hl20 => ?_)
  clear hl17 ls17
  refine lv_aload_n (pc := 78) hx hb dX12_feed_78 rfl (lv_at hl20 2 rfl) ?_
  refine ob_get (pc := 79) (v := .ref ad1) (ci := 12) (C := RX12) (T := TX12) (N := 114) hx hb hG in_X12 hown hK hP16 0 rfl rfl 31 (by decide) (hG _ g_379) rfl h0_31 dX12_feed_79 ?_
  refine lv_aload_n (pc := 82) hx hb dX12_feed_82 rfl (lv_at hl20 2 rfl) ?_
  refine ob_get (pc := 83) (v := .int 2) (ci := 12) (C := RX12) (T := TX12) (N := 114) hx hb hG in_X12 hown hK hP16 0 rfl rfl 32 (by decide) (hG _ g_435) rfl rfl dX12_feed_83 ?_
  refine lv_iload (pc := 86) hx hb dX12_feed_86 (lv_at hl20 0 rfl) ?_
  refine lv_bipush (pc := 88) (v := 24) hx hb dX12_feed_88 (by decide) ?_
  refine lv_bipush (pc := 90) (v := 8) hx hb dX12_feed_90 (by decide) ?_
  refine lv_iload (pc := 92) hx hb dX12_feed_92 (lv_at hl20 1 rfl) ?_
  refine lv_iconst (pc := 94) (v := 4) hx hb dX12_feed_94 (by decide) ?_
  refine lv_irem (pc := 95) hx hb dX12_feed_95 (by decide) ?_
  refine tp_i (y := 2) (by decide) ?_
  refine lv_imul (pc := 96) hx hb dX12_feed_96 ?_
  refine tp_i (y := 16) (by decide) ?_
  refine lv_isub (pc := 97) hx hb dX12_feed_97 ?_
  refine tp_i (y := 8) (by decide) ?_
  refine lv_ishr (pc := 98) hx hb dX12_feed_98 ?_
  refine lv_sipush (pc := 99) (v := 255) hx hb dX12_feed_99 (by decide) ?_
  refine lv_iand (pc := 102) hx hb dX12_feed_102 ?_
  refine va_iast (pc := 103) hx hb hK hP16 hD16 hS16 1 0 rfl rfl (show ¬ ((2 : Int32) < 0 ∨ 2000 ≤ (2 : Int32).toNatClampNeg) by decide) dX12_feed_103 (fun H21 lo21 hP21r hD21r hS21 => ?_)
  have hP21 : va_P D classes [(ad0, ob 12 114 (vup (vup (vup fn0 0 (.int 0)) 32 (.int 1)) 32 (.int 2))), (ad1, ari (cy 0) 2000 (upd nc15 (2 : Int32).toNatClampNeg ((xi0 >>> (8 &&& 31)) &&& 255)))] H21 := hP21r
  have hD21 : va_D A [(ad0, ob 12 114 (vup (vup (vup fn0 0 (.int 0)) 32 (.int 1)) 32 (.int 2))), (ad1, ari (cy 0) 2000 (upd nc15 (2 : Int32).toNatClampNeg ((xi0 >>> (8 &&& 31)) &&& 255)))] := hD21r
  clear hP21r hD21r
  generalize (upd nc15 (2 : Int32).toNatClampNeg ((xi0 >>> (8 &&& 31)) &&& 255)) = nc22 at hP21 hD21
  clear hP16 hD16 hS16
  clear H16 lo16
  refine lv_aload_n (pc := 104) hx hb dX12_feed_104 rfl (lv_at hl20 2 rfl) ?_
  refine lv_dup (pc := 105) hx hb dX12_feed_105 rfl ?_
  refine ob_get (pc := 106) (v := .int 2) (ci := 12) (C := RX12) (T := TX12) (N := 114) hx hb hG in_X12 hown hK hP21 0 rfl rfl 32 (by decide) (hG _ g_435) rfl rfl dX12_feed_106 ?_
  refine lv_iconst (pc := 109) (v := 1) hx hb dX12_feed_109 (by decide) ?_
  refine lv_iadd (pc := 110) hx hb dX12_feed_110 ?_
  refine tp_i (y := 3) (by decide) ?_
  refine ob_put (pc := 111) (v := .int 3) (ci := 12) (C := RX12) (T := TX12) (N := 114) hx hb hG in_X12 tyX12 tyX12_ok nmX12 hown hK hP21 hD21 hS21 0 rfl rfl 32 (by decide) (hG _ g_435) rfl rfl rfl rfl dX12_feed_111 (ws' := [(ad0, ob 12 114 (vup (vup (vup (vup fn0 0 (.int 0)) 32 (.int 1)) 32 (.int 2)) 32 (.int 3))), (ad1, ari (cy 0) 2000 nc22)]) rfl (fun H23 lo23 hP23 hD23 hS23 => ?_)
  clear hP21 hD21 hS21
  clear H21 lo21
  refine lv_iinc (pc := 114) (v := 3) (lv' := [(6, .int 3), (7, .int xi0), (0, .ref ad0), (1, .int xi0), (2, .int xi1), (3, .int xi2), (4, .int xi3), (5, .int xi4)]) hx hb dX12_feed_114 hl20 (k := 1) rfl (by decide) (by decide) rfl (fun ls24 hl24 => ?_)
  clear hl20 ls20
  refine lv_goto (pc := 117) (tgt := 23) hx hb dX12_feed_117 (by decide) ?_
  refine lv_iload (pc := 23) hx hb dX12_feed_23 (lv_at hl24 0 rfl) ?_
  refine lv_bipush (pc := 25) (v := 20) hx hb dX12_feed_25 (by decide) ?_
  refine lv_icmp_ge (pc := 27) (tgt := 120) hx hb dX12_feed_27 (by decide) (fun c25 => absurd c25 (by decide)) (fun c25 => ?_)
  refine lv_iload (pc := 30) hx hb dX12_feed_30 (lv_at hl24 0 rfl) ?_
  refine lv_iconst (pc := 32) (v := 4) hx hb dX12_feed_32 (by decide) ?_
  refine lv_icmp_ge (pc := 33) (tgt := 40) hx hb dX12_feed_33 (by decide) (fun c26 => absurd c26 (by decide)) (fun c26 => ?_)
  refine lv_iload_n (pc := 36) hx hb dX12_feed_36 rfl (lv_at hl24 3 rfl) ?_
  refine lv_goto (pc := 37) (tgt := 76) hx hb dX12_feed_37 (by decide) ?_
  refine lv_istore (pc := 76) (lv' := [(7, .int xi0), (6, .int 3), (0, .ref ad0), (1, .int xi0), (2, .int xi1), (3, .int xi2), (4, .int xi3), (5, .int xi4)]) hx hb dX12_feed_76 hl24 (by decide) rfl (fun ls27 hl27 => ?_)
  clear hl24 ls24
  refine lv_aload_n (pc := 78) hx hb dX12_feed_78 rfl (lv_at hl27 2 rfl) ?_
  refine ob_get (pc := 79) (v := .ref ad1) (ci := 12) (C := RX12) (T := TX12) (N := 114) hx hb hG in_X12 hown hK hP23 0 rfl rfl 31 (by decide) (hG _ g_379) rfl h0_31 dX12_feed_79 ?_
  refine lv_aload_n (pc := 82) hx hb dX12_feed_82 rfl (lv_at hl27 2 rfl) ?_
  refine ob_get (pc := 83) (v := .int 3) (ci := 12) (C := RX12) (T := TX12) (N := 114) hx hb hG in_X12 hown hK hP23 0 rfl rfl 32 (by decide) (hG _ g_435) rfl rfl dX12_feed_83 ?_
  refine lv_iload (pc := 86) hx hb dX12_feed_86 (lv_at hl27 0 rfl) ?_
  refine lv_bipush (pc := 88) (v := 24) hx hb dX12_feed_88 (by decide) ?_
  refine lv_bipush (pc := 90) (v := 8) hx hb dX12_feed_90 (by decide) ?_
  refine lv_iload (pc := 92) hx hb dX12_feed_92 (lv_at hl27 1 rfl) ?_
  refine lv_iconst (pc := 94) (v := 4) hx hb dX12_feed_94 (by decide) ?_
  refine lv_irem (pc := 95) hx hb dX12_feed_95 (by decide) ?_
  refine tp_i (y := 3) (by decide) ?_
  refine lv_imul (pc := 96) hx hb dX12_feed_96 ?_
  refine tp_i (y := 24) (by decide) ?_
  refine lv_isub (pc := 97) hx hb dX12_feed_97 ?_
  refine tp_i (y := 0) (by decide) ?_
  refine lv_ishr (pc := 98) hx hb dX12_feed_98 ?_
  refine lv_sipush (pc := 99) (v := 255) hx hb dX12_feed_99 (by decide) ?_
  refine lv_iand (pc := 102) hx hb dX12_feed_102 ?_
  refine va_iast (pc := 103) hx hb hK hP23 hD23 hS23 1 0 rfl rfl (show ¬ ((3 : Int32) < 0 ∨ 2000 ≤ (3 : Int32).toNatClampNeg) by decide) dX12_feed_103 (fun H28 lo28 hP28r hD28r hS28 => ?_)
  have hP28 : va_P D classes [(ad0, ob 12 114 (vup (vup (vup (vup fn0 0 (.int 0)) 32 (.int 1)) 32 (.int 2)) 32 (.int 3))), (ad1, ari (cy 0) 2000 (upd nc22 (3 : Int32).toNatClampNeg ((xi0 >>> (0 &&& 31)) &&& 255)))] H28 := hP28r
  have hD28 : va_D A [(ad0, ob 12 114 (vup (vup (vup (vup fn0 0 (.int 0)) 32 (.int 1)) 32 (.int 2)) 32 (.int 3))), (ad1, ari (cy 0) 2000 (upd nc22 (3 : Int32).toNatClampNeg ((xi0 >>> (0 &&& 31)) &&& 255)))] := hD28r
  clear hP28r hD28r
  generalize (upd nc22 (3 : Int32).toNatClampNeg ((xi0 >>> (0 &&& 31)) &&& 255)) = nc29 at hP28 hD28
  clear hP23 hD23 hS23
  clear H23 lo23
  refine lv_aload_n (pc := 104) hx hb dX12_feed_104 rfl (lv_at hl27 2 rfl) ?_
  refine lv_dup (pc := 105) hx hb dX12_feed_105 rfl ?_
  refine ob_get (pc := 106) (v := .int 3) (ci := 12) (C := RX12) (T := TX12) (N := 114) hx hb hG in_X12 hown hK hP28 0 rfl rfl 32 (by decide) (hG _ g_435) rfl rfl dX12_feed_106 ?_
  refine lv_iconst (pc := 109) (v := 1) hx hb dX12_feed_109 (by decide) ?_
  refine lv_iadd (pc := 110) hx hb dX12_feed_110 ?_
  refine tp_i (y := 4) (by decide) ?_
  refine ob_put (pc := 111) (v := .int 4) (ci := 12) (C := RX12) (T := TX12) (N := 114) hx hb hG in_X12 tyX12 tyX12_ok nmX12 hown hK hP28 hD28 hS28 0 rfl rfl 32 (by decide) (hG _ g_435) rfl rfl rfl rfl dX12_feed_111 (ws' := [(ad0, ob 12 114 (vup (vup (vup (vup (vup fn0 0 (.int 0)) 32 (.int 1)) 32 (.int 2)) 32 (.int 3)) 32 (.int 4))), (ad1, ari (cy 0) 2000 nc29)]) rfl (fun H30 lo30 hP30 hD30 hS30 => ?_)
  clear hP28 hD28 hS28
  clear H28 lo28
  refine lv_iinc (pc := 114) (v := 4) (lv' := [(6, .int 4), (7, .int xi0), (0, .ref ad0), (1, .int xi0), (2, .int xi1), (3, .int xi2), (4, .int xi3), (5, .int xi4)]) hx hb dX12_feed_114 hl27 (k := 1) rfl (by decide) (by decide) rfl (fun ls31 hl31 => ?_)
  clear hl27 ls27
  refine lv_goto (pc := 117) (tgt := 23) hx hb dX12_feed_117 (by decide) ?_
  refine lv_iload (pc := 23) hx hb dX12_feed_23 (lv_at hl31 0 rfl) ?_
  refine lv_bipush (pc := 25) (v := 20) hx hb dX12_feed_25 (by decide) ?_
  refine lv_icmp_ge (pc := 27) (tgt := 120) hx hb dX12_feed_27 (by decide) (fun c32 => absurd c32 (by decide)) (fun c32 => ?_)
  refine lv_iload (pc := 30) hx hb dX12_feed_30 (lv_at hl31 0 rfl) ?_
  refine lv_iconst (pc := 32) (v := 4) hx hb dX12_feed_32 (by decide) ?_
  refine lv_icmp_ge (pc := 33) (tgt := 40) hx hb dX12_feed_33 (by decide) (fun c33 => ?_) (fun c33 => absurd (by decide) c33)
  refine lv_iload (pc := 40) hx hb dX12_feed_40 (lv_at hl31 0 rfl) ?_
  refine lv_bipush (pc := 42) (v := 8) hx hb dX12_feed_42 (by decide) ?_
  refine lv_icmp_ge (pc := 44) (tgt := 51) hx hb dX12_feed_44 (by decide) (fun c34 => absurd c34 (by decide)) (fun c34 => ?_)
  refine lv_iload_n (pc := 47) hx hb dX12_feed_47 rfl (lv_at hl31 4 rfl) ?_
  refine lv_goto (pc := 48) (tgt := 76) hx hb dX12_feed_48 (by decide) ?_
  refine lv_istore (pc := 76) (lv' := [(7, .int xi1), (6, .int 4), (0, .ref ad0), (1, .int xi0), (2, .int xi1), (3, .int xi2), (4, .int xi3), (5, .int xi4)]) hx hb dX12_feed_76 hl31 (by decide) rfl (fun ls35 hl35 => ?_)
  clear hl31 ls31
  refine lv_aload_n (pc := 78) hx hb dX12_feed_78 rfl (lv_at hl35 2 rfl) ?_
  refine ob_get (pc := 79) (v := .ref ad1) (ci := 12) (C := RX12) (T := TX12) (N := 114) hx hb hG in_X12 hown hK hP30 0 rfl rfl 31 (by decide) (hG _ g_379) rfl h0_31 dX12_feed_79 ?_
  refine lv_aload_n (pc := 82) hx hb dX12_feed_82 rfl (lv_at hl35 2 rfl) ?_
  refine ob_get (pc := 83) (v := .int 4) (ci := 12) (C := RX12) (T := TX12) (N := 114) hx hb hG in_X12 hown hK hP30 0 rfl rfl 32 (by decide) (hG _ g_435) rfl rfl dX12_feed_83 ?_
  refine lv_iload (pc := 86) hx hb dX12_feed_86 (lv_at hl35 0 rfl) ?_
  refine lv_bipush (pc := 88) (v := 24) hx hb dX12_feed_88 (by decide) ?_
  refine lv_bipush (pc := 90) (v := 8) hx hb dX12_feed_90 (by decide) ?_
  refine lv_iload (pc := 92) hx hb dX12_feed_92 (lv_at hl35 1 rfl) ?_
  refine lv_iconst (pc := 94) (v := 4) hx hb dX12_feed_94 (by decide) ?_
  refine lv_irem (pc := 95) hx hb dX12_feed_95 (by decide) ?_
  refine tp_i (y := 0) (by decide) ?_
  refine lv_imul (pc := 96) hx hb dX12_feed_96 ?_
  refine tp_i (y := 0) (by decide) ?_
  refine lv_isub (pc := 97) hx hb dX12_feed_97 ?_
  refine tp_i (y := 24) (by decide) ?_
  refine lv_ishr (pc := 98) hx hb dX12_feed_98 ?_
  refine lv_sipush (pc := 99) (v := 255) hx hb dX12_feed_99 (by decide) ?_
  refine lv_iand (pc := 102) hx hb dX12_feed_102 ?_
  refine va_iast (pc := 103) hx hb hK hP30 hD30 hS30 1 0 rfl rfl (show ¬ ((4 : Int32) < 0 ∨ 2000 ≤ (4 : Int32).toNatClampNeg) by decide) dX12_feed_103 (fun H36 lo36 hP36r hD36r hS36 => ?_)
  have hP36 : va_P D classes [(ad0, ob 12 114 (vup (vup (vup (vup (vup fn0 0 (.int 0)) 32 (.int 1)) 32 (.int 2)) 32 (.int 3)) 32 (.int 4))), (ad1, ari (cy 0) 2000 (upd nc29 (4 : Int32).toNatClampNeg ((xi1 >>> (24 &&& 31)) &&& 255)))] H36 := hP36r
  have hD36 : va_D A [(ad0, ob 12 114 (vup (vup (vup (vup (vup fn0 0 (.int 0)) 32 (.int 1)) 32 (.int 2)) 32 (.int 3)) 32 (.int 4))), (ad1, ari (cy 0) 2000 (upd nc29 (4 : Int32).toNatClampNeg ((xi1 >>> (24 &&& 31)) &&& 255)))] := hD36r
  clear hP36r hD36r
  generalize (upd nc29 (4 : Int32).toNatClampNeg ((xi1 >>> (24 &&& 31)) &&& 255)) = nc37 at hP36 hD36
  clear hP30 hD30 hS30
  clear H30 lo30
  refine lv_aload_n (pc := 104) hx hb dX12_feed_104 rfl (lv_at hl35 2 rfl) ?_
  refine lv_dup (pc := 105) hx hb dX12_feed_105 rfl ?_
  refine ob_get (pc := 106) (v := .int 4) (ci := 12) (C := RX12) (T := TX12) (N := 114) hx hb hG in_X12 hown hK hP36 0 rfl rfl 32 (by decide) (hG _ g_435) rfl rfl dX12_feed_106 ?_
  refine lv_iconst (pc := 109) (v := 1) hx hb dX12_feed_109 (by decide) ?_
  refine lv_iadd (pc := 110) hx hb dX12_feed_110 ?_
  refine tp_i (y := 5) (by decide) ?_
  refine ob_put (pc := 111) (v := .int 5) (ci := 12) (C := RX12) (T := TX12) (N := 114) hx hb hG in_X12 tyX12 tyX12_ok nmX12 hown hK hP36 hD36 hS36 0 rfl rfl 32 (by decide) (hG _ g_435) rfl rfl rfl rfl dX12_feed_111 (ws' := [(ad0, ob 12 114 (vup (vup (vup (vup (vup (vup fn0 0 (.int 0)) 32 (.int 1)) 32 (.int 2)) 32 (.int 3)) 32 (.int 4)) 32 (.int 5))), (ad1, ari (cy 0) 2000 nc37)]) rfl (fun H38 lo38 hP38 hD38 hS38 => ?_)
  clear hP36 hD36 hS36
  clear H36 lo36
  refine lv_iinc (pc := 114) (v := 5) (lv' := [(6, .int 5), (7, .int xi1), (0, .ref ad0), (1, .int xi0), (2, .int xi1), (3, .int xi2), (4, .int xi3), (5, .int xi4)]) hx hb dX12_feed_114 hl35 (k := 1) rfl (by decide) (by decide) rfl (fun ls39 hl39 => ?_)
  clear hl35 ls35
  refine lv_goto (pc := 117) (tgt := 23) hx hb dX12_feed_117 (by decide) ?_
  refine lv_iload (pc := 23) hx hb dX12_feed_23 (lv_at hl39 0 rfl) ?_
  refine lv_bipush (pc := 25) (v := 20) hx hb dX12_feed_25 (by decide) ?_
  refine lv_icmp_ge (pc := 27) (tgt := 120) hx hb dX12_feed_27 (by decide) (fun c40 => absurd c40 (by decide)) (fun c40 => ?_)
  refine lv_iload (pc := 30) hx hb dX12_feed_30 (lv_at hl39 0 rfl) ?_
  refine lv_iconst (pc := 32) (v := 4) hx hb dX12_feed_32 (by decide) ?_
  refine lv_icmp_ge (pc := 33) (tgt := 40) hx hb dX12_feed_33 (by decide) (fun c41 => ?_) (fun c41 => absurd (by decide) c41)
  refine lv_iload (pc := 40) hx hb dX12_feed_40 (lv_at hl39 0 rfl) ?_
  refine lv_bipush (pc := 42) (v := 8) hx hb dX12_feed_42 (by decide) ?_
  refine lv_icmp_ge (pc := 44) (tgt := 51) hx hb dX12_feed_44 (by decide) (fun c42 => absurd c42 (by decide)) (fun c42 => ?_)
  refine lv_iload_n (pc := 47) hx hb dX12_feed_47 rfl (lv_at hl39 4 rfl) ?_
  refine lv_goto (pc := 48) (tgt := 76) hx hb dX12_feed_48 (by decide) ?_
  refine lv_istore (pc := 76) (lv' := [(7, .int xi1), (6, .int 5), (0, .ref ad0), (1, .int xi0), (2, .int xi1), (3, .int xi2), (4, .int xi3), (5, .int xi4)]) hx hb dX12_feed_76 hl39 (by decide) rfl (fun ls43 hl43 => ?_)
  clear hl39 ls39
  refine lv_aload_n (pc := 78) hx hb dX12_feed_78 rfl (lv_at hl43 2 rfl) ?_
  refine ob_get (pc := 79) (v := .ref ad1) (ci := 12) (C := RX12) (T := TX12) (N := 114) hx hb hG in_X12 hown hK hP38 0 rfl rfl 31 (by decide) (hG _ g_379) rfl h0_31 dX12_feed_79 ?_
  refine lv_aload_n (pc := 82) hx hb dX12_feed_82 rfl (lv_at hl43 2 rfl) ?_
  refine ob_get (pc := 83) (v := .int 5) (ci := 12) (C := RX12) (T := TX12) (N := 114) hx hb hG in_X12 hown hK hP38 0 rfl rfl 32 (by decide) (hG _ g_435) rfl rfl dX12_feed_83 ?_
  refine lv_iload (pc := 86) hx hb dX12_feed_86 (lv_at hl43 0 rfl) ?_
  refine lv_bipush (pc := 88) (v := 24) hx hb dX12_feed_88 (by decide) ?_
  refine lv_bipush (pc := 90) (v := 8) hx hb dX12_feed_90 (by decide) ?_
  refine lv_iload (pc := 92) hx hb dX12_feed_92 (lv_at hl43 1 rfl) ?_
  refine lv_iconst (pc := 94) (v := 4) hx hb dX12_feed_94 (by decide) ?_
  refine lv_irem (pc := 95) hx hb dX12_feed_95 (by decide) ?_
  refine tp_i (y := 1) (by decide) ?_
  refine lv_imul (pc := 96) hx hb dX12_feed_96 ?_
  refine tp_i (y := 8) (by decide) ?_
  refine lv_isub (pc := 97) hx hb dX12_feed_97 ?_
  refine tp_i (y := 16) (by decide) ?_
  refine lv_ishr (pc := 98) hx hb dX12_feed_98 ?_
  refine lv_sipush (pc := 99) (v := 255) hx hb dX12_feed_99 (by decide) ?_
  refine lv_iand (pc := 102) hx hb dX12_feed_102 ?_
  refine va_iast (pc := 103) hx hb hK hP38 hD38 hS38 1 0 rfl rfl (show ¬ ((5 : Int32) < 0 ∨ 2000 ≤ (5 : Int32).toNatClampNeg) by decide) dX12_feed_103 (fun H44 lo44 hP44r hD44r hS44 => ?_)
  have hP44 : va_P D classes [(ad0, ob 12 114 (vup (vup (vup (vup (vup (vup fn0 0 (.int 0)) 32 (.int 1)) 32 (.int 2)) 32 (.int 3)) 32 (.int 4)) 32 (.int 5))), (ad1, ari (cy 0) 2000 (upd nc37 (5 : Int32).toNatClampNeg ((xi1 >>> (16 &&& 31)) &&& 255)))] H44 := hP44r
  have hD44 : va_D A [(ad0, ob 12 114 (vup (vup (vup (vup (vup (vup fn0 0 (.int 0)) 32 (.int 1)) 32 (.int 2)) 32 (.int 3)) 32 (.int 4)) 32 (.int 5))), (ad1, ari (cy 0) 2000 (upd nc37 (5 : Int32).toNatClampNeg ((xi1 >>> (16 &&& 31)) &&& 255)))] := hD44r
  clear hP44r hD44r
  generalize (upd nc37 (5 : Int32).toNatClampNeg ((xi1 >>> (16 &&& 31)) &&& 255)) = nc45 at hP44 hD44
  clear hP38 hD38 hS38
  clear H38 lo38
  refine lv_aload_n (pc := 104) hx hb dX12_feed_104 rfl (lv_at hl43 2 rfl) ?_
  refine lv_dup (pc := 105) hx hb dX12_feed_105 rfl ?_
  refine ob_get (pc := 106) (v := .int 5) (ci := 12) (C := RX12) (T := TX12) (N := 114) hx hb hG in_X12 hown hK hP44 0 rfl rfl 32 (by decide) (hG _ g_435) rfl rfl dX12_feed_106 ?_
  refine lv_iconst (pc := 109) (v := 1) hx hb dX12_feed_109 (by decide) ?_
  refine lv_iadd (pc := 110) hx hb dX12_feed_110 ?_
  refine tp_i (y := 6) (by decide) ?_
  refine ob_put (pc := 111) (v := .int 6) (ci := 12) (C := RX12) (T := TX12) (N := 114) hx hb hG in_X12 tyX12 tyX12_ok nmX12 hown hK hP44 hD44 hS44 0 rfl rfl 32 (by decide) (hG _ g_435) rfl rfl rfl rfl dX12_feed_111 (ws' := [(ad0, ob 12 114 (vup (vup (vup (vup (vup (vup (vup fn0 0 (.int 0)) 32 (.int 1)) 32 (.int 2)) 32 (.int 3)) 32 (.int 4)) 32 (.int 5)) 32 (.int 6))), (ad1, ari (cy 0) 2000 nc45)]) rfl (fun H46 lo46 hP46 hD46 hS46 => ?_)
  clear hP44 hD44 hS44
  clear H44 lo44
  refine lv_iinc (pc := 114) (v := 6) (lv' := [(6, .int 6), (7, .int xi1), (0, .ref ad0), (1, .int xi0), (2, .int xi1), (3, .int xi2), (4, .int xi3), (5, .int xi4)]) hx hb dX12_feed_114 hl43 (k := 1) rfl (by decide) (by decide) rfl (fun ls47 hl47 => ?_)
  clear hl43 ls43
  refine lv_goto (pc := 117) (tgt := 23) hx hb dX12_feed_117 (by decide) ?_
  refine lv_iload (pc := 23) hx hb dX12_feed_23 (lv_at hl47 0 rfl) ?_
  refine lv_bipush (pc := 25) (v := 20) hx hb dX12_feed_25 (by decide) ?_
  refine lv_icmp_ge (pc := 27) (tgt := 120) hx hb dX12_feed_27 (by decide) (fun c48 => absurd c48 (by decide)) (fun c48 => ?_)
  refine lv_iload (pc := 30) hx hb dX12_feed_30 (lv_at hl47 0 rfl) ?_
  refine lv_iconst (pc := 32) (v := 4) hx hb dX12_feed_32 (by decide) ?_
  refine lv_icmp_ge (pc := 33) (tgt := 40) hx hb dX12_feed_33 (by decide) (fun c49 => ?_) (fun c49 => absurd (by decide) c49)
  refine lv_iload (pc := 40) hx hb dX12_feed_40 (lv_at hl47 0 rfl) ?_
  refine lv_bipush (pc := 42) (v := 8) hx hb dX12_feed_42 (by decide) ?_
  refine lv_icmp_ge (pc := 44) (tgt := 51) hx hb dX12_feed_44 (by decide) (fun c50 => absurd c50 (by decide)) (fun c50 => ?_)
  refine lv_iload_n (pc := 47) hx hb dX12_feed_47 rfl (lv_at hl47 4 rfl) ?_
  refine lv_goto (pc := 48) (tgt := 76) hx hb dX12_feed_48 (by decide) ?_
  refine lv_istore (pc := 76) (lv' := [(7, .int xi1), (6, .int 6), (0, .ref ad0), (1, .int xi0), (2, .int xi1), (3, .int xi2), (4, .int xi3), (5, .int xi4)]) hx hb dX12_feed_76 hl47 (by decide) rfl (fun ls51 hl51 => ?_)
  clear hl47 ls47
  refine lv_aload_n (pc := 78) hx hb dX12_feed_78 rfl (lv_at hl51 2 rfl) ?_
  refine ob_get (pc := 79) (v := .ref ad1) (ci := 12) (C := RX12) (T := TX12) (N := 114) hx hb hG in_X12 hown hK hP46 0 rfl rfl 31 (by decide) (hG _ g_379) rfl h0_31 dX12_feed_79 ?_
  refine lv_aload_n (pc := 82) hx hb dX12_feed_82 rfl (lv_at hl51 2 rfl) ?_
  refine ob_get (pc := 83) (v := .int 6) (ci := 12) (C := RX12) (T := TX12) (N := 114) hx hb hG in_X12 hown hK hP46 0 rfl rfl 32 (by decide) (hG _ g_435) rfl rfl dX12_feed_83 ?_
  refine lv_iload (pc := 86) hx hb dX12_feed_86 (lv_at hl51 0 rfl) ?_
  refine lv_bipush (pc := 88) (v := 24) hx hb dX12_feed_88 (by decide) ?_
  refine lv_bipush (pc := 90) (v := 8) hx hb dX12_feed_90 (by decide) ?_
  refine lv_iload (pc := 92) hx hb dX12_feed_92 (lv_at hl51 1 rfl) ?_
  refine lv_iconst (pc := 94) (v := 4) hx hb dX12_feed_94 (by decide) ?_
  refine lv_irem (pc := 95) hx hb dX12_feed_95 (by decide) ?_
  refine tp_i (y := 2) (by decide) ?_
  refine lv_imul (pc := 96) hx hb dX12_feed_96 ?_
  refine tp_i (y := 16) (by decide) ?_
  refine lv_isub (pc := 97) hx hb dX12_feed_97 ?_
  refine tp_i (y := 8) (by decide) ?_
  refine lv_ishr (pc := 98) hx hb dX12_feed_98 ?_
  refine lv_sipush (pc := 99) (v := 255) hx hb dX12_feed_99 (by decide) ?_
  refine lv_iand (pc := 102) hx hb dX12_feed_102 ?_
  refine va_iast (pc := 103) hx hb hK hP46 hD46 hS46 1 0 rfl rfl (show ¬ ((6 : Int32) < 0 ∨ 2000 ≤ (6 : Int32).toNatClampNeg) by decide) dX12_feed_103 (fun H52 lo52 hP52r hD52r hS52 => ?_)
  have hP52 : va_P D classes [(ad0, ob 12 114 (vup (vup (vup (vup (vup (vup (vup fn0 0 (.int 0)) 32 (.int 1)) 32 (.int 2)) 32 (.int 3)) 32 (.int 4)) 32 (.int 5)) 32 (.int 6))), (ad1, ari (cy 0) 2000 (upd nc45 (6 : Int32).toNatClampNeg ((xi1 >>> (8 &&& 31)) &&& 255)))] H52 := hP52r
  have hD52 : va_D A [(ad0, ob 12 114 (vup (vup (vup (vup (vup (vup (vup fn0 0 (.int 0)) 32 (.int 1)) 32 (.int 2)) 32 (.int 3)) 32 (.int 4)) 32 (.int 5)) 32 (.int 6))), (ad1, ari (cy 0) 2000 (upd nc45 (6 : Int32).toNatClampNeg ((xi1 >>> (8 &&& 31)) &&& 255)))] := hD52r
  clear hP52r hD52r
  generalize (upd nc45 (6 : Int32).toNatClampNeg ((xi1 >>> (8 &&& 31)) &&& 255)) = nc53 at hP52 hD52
  clear hP46 hD46 hS46
  clear H46 lo46
  refine lv_aload_n (pc := 104) hx hb dX12_feed_104 rfl (lv_at hl51 2 rfl) ?_
  refine lv_dup (pc := 105) hx hb dX12_feed_105 rfl ?_
  refine ob_get (pc := 106) (v := .int 6) (ci := 12) (C := RX12) (T := TX12) (N := 114) hx hb hG in_X12 hown hK hP52 0 rfl rfl 32 (by decide) (hG _ g_435) rfl rfl dX12_feed_106 ?_
  refine lv_iconst (pc := 109) (v := 1) hx hb dX12_feed_109 (by decide) ?_
  refine lv_iadd (pc := 110) hx hb dX12_feed_110 ?_
  refine tp_i (y := 7) (by decide) ?_
  refine ob_put (pc := 111) (v := .int 7) (ci := 12) (C := RX12) (T := TX12) (N := 114) hx hb hG in_X12 tyX12 tyX12_ok nmX12 hown hK hP52 hD52 hS52 0 rfl rfl 32 (by decide) (hG _ g_435) rfl rfl rfl rfl dX12_feed_111 (ws' := [(ad0, ob 12 114 (vup (vup (vup (vup (vup (vup (vup (vup fn0 0 (.int 0)) 32 (.int 1)) 32 (.int 2)) 32 (.int 3)) 32 (.int 4)) 32 (.int 5)) 32 (.int 6)) 32 (.int 7))), (ad1, ari (cy 0) 2000 nc53)]) rfl (fun H54 lo54 hP54 hD54 hS54 => ?_)
  clear hP52 hD52 hS52
  clear H52 lo52
  refine lv_iinc (pc := 114) (v := 7) (lv' := [(6, .int 7), (7, .int xi1), (0, .ref ad0), (1, .int xi0), (2, .int xi1), (3, .int xi2), (4, .int xi3), (5, .int xi4)]) hx hb dX12_feed_114 hl51 (k := 1) rfl (by decide) (by decide) rfl (fun ls55 hl55 => ?_)
  clear hl51 ls51
  refine lv_goto (pc := 117) (tgt := 23) hx hb dX12_feed_117 (by decide) ?_
  refine lv_iload (pc := 23) hx hb dX12_feed_23 (lv_at hl55 0 rfl) ?_
  refine lv_bipush (pc := 25) (v := 20) hx hb dX12_feed_25 (by decide) ?_
  refine lv_icmp_ge (pc := 27) (tgt := 120) hx hb dX12_feed_27 (by decide) (fun c56 => absurd c56 (by decide)) (fun c56 => ?_)
  refine lv_iload (pc := 30) hx hb dX12_feed_30 (lv_at hl55 0 rfl) ?_
  refine lv_iconst (pc := 32) (v := 4) hx hb dX12_feed_32 (by decide) ?_
  refine lv_icmp_ge (pc := 33) (tgt := 40) hx hb dX12_feed_33 (by decide) (fun c57 => ?_) (fun c57 => absurd (by decide) c57)
  refine lv_iload (pc := 40) hx hb dX12_feed_40 (lv_at hl55 0 rfl) ?_
  refine lv_bipush (pc := 42) (v := 8) hx hb dX12_feed_42 (by decide) ?_
  refine lv_icmp_ge (pc := 44) (tgt := 51) hx hb dX12_feed_44 (by decide) (fun c58 => absurd c58 (by decide)) (fun c58 => ?_)
  refine lv_iload_n (pc := 47) hx hb dX12_feed_47 rfl (lv_at hl55 4 rfl) ?_
  refine lv_goto (pc := 48) (tgt := 76) hx hb dX12_feed_48 (by decide) ?_
  refine lv_istore (pc := 76) (lv' := [(7, .int xi1), (6, .int 7), (0, .ref ad0), (1, .int xi0), (2, .int xi1), (3, .int xi2), (4, .int xi3), (5, .int xi4)]) hx hb dX12_feed_76 hl55 (by decide) rfl (fun ls59 hl59 => ?_)
  clear hl55 ls55
  refine lv_aload_n (pc := 78) hx hb dX12_feed_78 rfl (lv_at hl59 2 rfl) ?_
  refine ob_get (pc := 79) (v := .ref ad1) (ci := 12) (C := RX12) (T := TX12) (N := 114) hx hb hG in_X12 hown hK hP54 0 rfl rfl 31 (by decide) (hG _ g_379) rfl h0_31 dX12_feed_79 ?_
  refine lv_aload_n (pc := 82) hx hb dX12_feed_82 rfl (lv_at hl59 2 rfl) ?_
  refine ob_get (pc := 83) (v := .int 7) (ci := 12) (C := RX12) (T := TX12) (N := 114) hx hb hG in_X12 hown hK hP54 0 rfl rfl 32 (by decide) (hG _ g_435) rfl rfl dX12_feed_83 ?_
  refine lv_iload (pc := 86) hx hb dX12_feed_86 (lv_at hl59 0 rfl) ?_
  refine lv_bipush (pc := 88) (v := 24) hx hb dX12_feed_88 (by decide) ?_
  refine lv_bipush (pc := 90) (v := 8) hx hb dX12_feed_90 (by decide) ?_
  refine lv_iload (pc := 92) hx hb dX12_feed_92 (lv_at hl59 1 rfl) ?_
  refine lv_iconst (pc := 94) (v := 4) hx hb dX12_feed_94 (by decide) ?_
  refine lv_irem (pc := 95) hx hb dX12_feed_95 (by decide) ?_
  refine tp_i (y := 3) (by decide) ?_
  refine lv_imul (pc := 96) hx hb dX12_feed_96 ?_
  refine tp_i (y := 24) (by decide) ?_
  refine lv_isub (pc := 97) hx hb dX12_feed_97 ?_
  refine tp_i (y := 0) (by decide) ?_
  refine lv_ishr (pc := 98) hx hb dX12_feed_98 ?_
  refine lv_sipush (pc := 99) (v := 255) hx hb dX12_feed_99 (by decide) ?_
  refine lv_iand (pc := 102) hx hb dX12_feed_102 ?_
  refine va_iast (pc := 103) hx hb hK hP54 hD54 hS54 1 0 rfl rfl (show ¬ ((7 : Int32) < 0 ∨ 2000 ≤ (7 : Int32).toNatClampNeg) by decide) dX12_feed_103 (fun H60 lo60 hP60r hD60r hS60 => ?_)
  have hP60 : va_P D classes [(ad0, ob 12 114 (vup (vup (vup (vup (vup (vup (vup (vup fn0 0 (.int 0)) 32 (.int 1)) 32 (.int 2)) 32 (.int 3)) 32 (.int 4)) 32 (.int 5)) 32 (.int 6)) 32 (.int 7))), (ad1, ari (cy 0) 2000 (upd nc53 (7 : Int32).toNatClampNeg ((xi1 >>> (0 &&& 31)) &&& 255)))] H60 := hP60r
  have hD60 : va_D A [(ad0, ob 12 114 (vup (vup (vup (vup (vup (vup (vup (vup fn0 0 (.int 0)) 32 (.int 1)) 32 (.int 2)) 32 (.int 3)) 32 (.int 4)) 32 (.int 5)) 32 (.int 6)) 32 (.int 7))), (ad1, ari (cy 0) 2000 (upd nc53 (7 : Int32).toNatClampNeg ((xi1 >>> (0 &&& 31)) &&& 255)))] := hD60r
  clear hP60r hD60r
  generalize (upd nc53 (7 : Int32).toNatClampNeg ((xi1 >>> (0 &&& 31)) &&& 255)) = nc61 at hP60 hD60
  clear hP54 hD54 hS54
  clear H54 lo54
  refine lv_aload_n (pc := 104) hx hb dX12_feed_104 rfl (lv_at hl59 2 rfl) ?_
  refine lv_dup (pc := 105) hx hb dX12_feed_105 rfl ?_
  refine ob_get (pc := 106) (v := .int 7) (ci := 12) (C := RX12) (T := TX12) (N := 114) hx hb hG in_X12 hown hK hP60 0 rfl rfl 32 (by decide) (hG _ g_435) rfl rfl dX12_feed_106 ?_
  refine lv_iconst (pc := 109) (v := 1) hx hb dX12_feed_109 (by decide) ?_
  refine lv_iadd (pc := 110) hx hb dX12_feed_110 ?_
  refine tp_i (y := 8) (by decide) ?_
  refine ob_put (pc := 111) (v := .int 8) (ci := 12) (C := RX12) (T := TX12) (N := 114) hx hb hG in_X12 tyX12 tyX12_ok nmX12 hown hK hP60 hD60 hS60 0 rfl rfl 32 (by decide) (hG _ g_435) rfl rfl rfl rfl dX12_feed_111 (ws' := [(ad0, ob 12 114 (vup (vup (vup (vup (vup (vup (vup (vup (vup fn0 0 (.int 0)) 32 (.int 1)) 32 (.int 2)) 32 (.int 3)) 32 (.int 4)) 32 (.int 5)) 32 (.int 6)) 32 (.int 7)) 32 (.int 8))), (ad1, ari (cy 0) 2000 nc61)]) rfl (fun H62 lo62 hP62 hD62 hS62 => ?_)
  clear hP60 hD60 hS60
  clear H60 lo60
  refine lv_iinc (pc := 114) (v := 8) (lv' := [(6, .int 8), (7, .int xi1), (0, .ref ad0), (1, .int xi0), (2, .int xi1), (3, .int xi2), (4, .int xi3), (5, .int xi4)]) hx hb dX12_feed_114 hl59 (k := 1) rfl (by decide) (by decide) rfl (fun ls63 hl63 => ?_)
  clear hl59 ls59
  refine lv_goto (pc := 117) (tgt := 23) hx hb dX12_feed_117 (by decide) ?_
  refine lv_iload (pc := 23) hx hb dX12_feed_23 (lv_at hl63 0 rfl) ?_
  refine lv_bipush (pc := 25) (v := 20) hx hb dX12_feed_25 (by decide) ?_
  refine lv_icmp_ge (pc := 27) (tgt := 120) hx hb dX12_feed_27 (by decide) (fun c64 => absurd c64 (by decide)) (fun c64 => ?_)
  refine lv_iload (pc := 30) hx hb dX12_feed_30 (lv_at hl63 0 rfl) ?_
  refine lv_iconst (pc := 32) (v := 4) hx hb dX12_feed_32 (by decide) ?_
  refine lv_icmp_ge (pc := 33) (tgt := 40) hx hb dX12_feed_33 (by decide) (fun c65 => ?_) (fun c65 => absurd (by decide) c65)
  refine lv_iload (pc := 40) hx hb dX12_feed_40 (lv_at hl63 0 rfl) ?_
  refine lv_bipush (pc := 42) (v := 8) hx hb dX12_feed_42 (by decide) ?_
  refine lv_icmp_ge (pc := 44) (tgt := 51) hx hb dX12_feed_44 (by decide) (fun c66 => ?_) (fun c66 => absurd (by decide) c66)
  refine lv_iload (pc := 51) hx hb dX12_feed_51 (lv_at hl63 0 rfl) ?_
  refine lv_bipush (pc := 53) (v := 12) hx hb dX12_feed_53 (by decide) ?_
  refine lv_icmp_ge (pc := 55) (tgt := 62) hx hb dX12_feed_55 (by decide) (fun c67 => absurd c67 (by decide)) (fun c67 => ?_)
  refine lv_iload_n (pc := 58) hx hb dX12_feed_58 rfl (lv_at hl63 5 rfl) ?_
  refine lv_goto (pc := 59) (tgt := 76) hx hb dX12_feed_59 (by decide) ?_
  refine lv_istore (pc := 76) (lv' := [(7, .int xi2), (6, .int 8), (0, .ref ad0), (1, .int xi0), (2, .int xi1), (3, .int xi2), (4, .int xi3), (5, .int xi4)]) hx hb dX12_feed_76 hl63 (by decide) rfl (fun ls68 hl68 => ?_)
  clear hl63 ls63
  refine lv_aload_n (pc := 78) hx hb dX12_feed_78 rfl (lv_at hl68 2 rfl) ?_
  refine ob_get (pc := 79) (v := .ref ad1) (ci := 12) (C := RX12) (T := TX12) (N := 114) hx hb hG in_X12 hown hK hP62 0 rfl rfl 31 (by decide) (hG _ g_379) rfl h0_31 dX12_feed_79 ?_
  refine lv_aload_n (pc := 82) hx hb dX12_feed_82 rfl (lv_at hl68 2 rfl) ?_
  refine ob_get (pc := 83) (v := .int 8) (ci := 12) (C := RX12) (T := TX12) (N := 114) hx hb hG in_X12 hown hK hP62 0 rfl rfl 32 (by decide) (hG _ g_435) rfl rfl dX12_feed_83 ?_
  refine lv_iload (pc := 86) hx hb dX12_feed_86 (lv_at hl68 0 rfl) ?_
  refine lv_bipush (pc := 88) (v := 24) hx hb dX12_feed_88 (by decide) ?_
  refine lv_bipush (pc := 90) (v := 8) hx hb dX12_feed_90 (by decide) ?_
  refine lv_iload (pc := 92) hx hb dX12_feed_92 (lv_at hl68 1 rfl) ?_
  refine lv_iconst (pc := 94) (v := 4) hx hb dX12_feed_94 (by decide) ?_
  refine lv_irem (pc := 95) hx hb dX12_feed_95 (by decide) ?_
  refine tp_i (y := 0) (by decide) ?_
  refine lv_imul (pc := 96) hx hb dX12_feed_96 ?_
  refine tp_i (y := 0) (by decide) ?_
  refine lv_isub (pc := 97) hx hb dX12_feed_97 ?_
  refine tp_i (y := 24) (by decide) ?_
  refine lv_ishr (pc := 98) hx hb dX12_feed_98 ?_
  refine lv_sipush (pc := 99) (v := 255) hx hb dX12_feed_99 (by decide) ?_
  refine lv_iand (pc := 102) hx hb dX12_feed_102 ?_
  refine va_iast (pc := 103) hx hb hK hP62 hD62 hS62 1 0 rfl rfl (show ¬ ((8 : Int32) < 0 ∨ 2000 ≤ (8 : Int32).toNatClampNeg) by decide) dX12_feed_103 (fun H69 lo69 hP69r hD69r hS69 => ?_)
  have hP69 : va_P D classes [(ad0, ob 12 114 (vup (vup (vup (vup (vup (vup (vup (vup (vup fn0 0 (.int 0)) 32 (.int 1)) 32 (.int 2)) 32 (.int 3)) 32 (.int 4)) 32 (.int 5)) 32 (.int 6)) 32 (.int 7)) 32 (.int 8))), (ad1, ari (cy 0) 2000 (upd nc61 (8 : Int32).toNatClampNeg ((xi2 >>> (24 &&& 31)) &&& 255)))] H69 := hP69r
  have hD69 : va_D A [(ad0, ob 12 114 (vup (vup (vup (vup (vup (vup (vup (vup (vup fn0 0 (.int 0)) 32 (.int 1)) 32 (.int 2)) 32 (.int 3)) 32 (.int 4)) 32 (.int 5)) 32 (.int 6)) 32 (.int 7)) 32 (.int 8))), (ad1, ari (cy 0) 2000 (upd nc61 (8 : Int32).toNatClampNeg ((xi2 >>> (24 &&& 31)) &&& 255)))] := hD69r
  clear hP69r hD69r
  generalize (upd nc61 (8 : Int32).toNatClampNeg ((xi2 >>> (24 &&& 31)) &&& 255)) = nc70 at hP69 hD69
  clear hP62 hD62 hS62
  clear H62 lo62
  refine lv_aload_n (pc := 104) hx hb dX12_feed_104 rfl (lv_at hl68 2 rfl) ?_
  refine lv_dup (pc := 105) hx hb dX12_feed_105 rfl ?_
  refine ob_get (pc := 106) (v := .int 8) (ci := 12) (C := RX12) (T := TX12) (N := 114) hx hb hG in_X12 hown hK hP69 0 rfl rfl 32 (by decide) (hG _ g_435) rfl rfl dX12_feed_106 ?_
  refine lv_iconst (pc := 109) (v := 1) hx hb dX12_feed_109 (by decide) ?_
  refine lv_iadd (pc := 110) hx hb dX12_feed_110 ?_
  refine tp_i (y := 9) (by decide) ?_
  refine ob_put (pc := 111) (v := .int 9) (ci := 12) (C := RX12) (T := TX12) (N := 114) hx hb hG in_X12 tyX12 tyX12_ok nmX12 hown hK hP69 hD69 hS69 0 rfl rfl 32 (by decide) (hG _ g_435) rfl rfl rfl rfl dX12_feed_111 (ws' := [(ad0, ob 12 114 (vup (vup (vup (vup (vup (vup (vup (vup (vup (vup fn0 0 (.int 0)) 32 (.int 1)) 32 (.int 2)) 32 (.int 3)) 32 (.int 4)) 32 (.int 5)) 32 (.int 6)) 32 (.int 7)) 32 (.int 8)) 32 (.int 9))), (ad1, ari (cy 0) 2000 nc70)]) rfl (fun H71 lo71 hP71 hD71 hS71 => ?_)
  clear hP69 hD69 hS69
  clear H69 lo69
  refine lv_iinc (pc := 114) (v := 9) (lv' := [(6, .int 9), (7, .int xi2), (0, .ref ad0), (1, .int xi0), (2, .int xi1), (3, .int xi2), (4, .int xi3), (5, .int xi4)]) hx hb dX12_feed_114 hl68 (k := 1) rfl (by decide) (by decide) rfl (fun ls72 hl72 => ?_)
  clear hl68 ls68
  refine lv_goto (pc := 117) (tgt := 23) hx hb dX12_feed_117 (by decide) ?_
  refine lv_iload (pc := 23) hx hb dX12_feed_23 (lv_at hl72 0 rfl) ?_
  refine lv_bipush (pc := 25) (v := 20) hx hb dX12_feed_25 (by decide) ?_
  refine lv_icmp_ge (pc := 27) (tgt := 120) hx hb dX12_feed_27 (by decide) (fun c73 => absurd c73 (by decide)) (fun c73 => ?_)
  refine lv_iload (pc := 30) hx hb dX12_feed_30 (lv_at hl72 0 rfl) ?_
  refine lv_iconst (pc := 32) (v := 4) hx hb dX12_feed_32 (by decide) ?_
  refine lv_icmp_ge (pc := 33) (tgt := 40) hx hb dX12_feed_33 (by decide) (fun c74 => ?_) (fun c74 => absurd (by decide) c74)
  refine lv_iload (pc := 40) hx hb dX12_feed_40 (lv_at hl72 0 rfl) ?_
  refine lv_bipush (pc := 42) (v := 8) hx hb dX12_feed_42 (by decide) ?_
  refine lv_icmp_ge (pc := 44) (tgt := 51) hx hb dX12_feed_44 (by decide) (fun c75 => ?_) (fun c75 => absurd (by decide) c75)
  refine lv_iload (pc := 51) hx hb dX12_feed_51 (lv_at hl72 0 rfl) ?_
  refine lv_bipush (pc := 53) (v := 12) hx hb dX12_feed_53 (by decide) ?_
  refine lv_icmp_ge (pc := 55) (tgt := 62) hx hb dX12_feed_55 (by decide) (fun c76 => absurd c76 (by decide)) (fun c76 => ?_)
  refine lv_iload_n (pc := 58) hx hb dX12_feed_58 rfl (lv_at hl72 5 rfl) ?_
  refine lv_goto (pc := 59) (tgt := 76) hx hb dX12_feed_59 (by decide) ?_
  refine lv_istore (pc := 76) (lv' := [(7, .int xi2), (6, .int 9), (0, .ref ad0), (1, .int xi0), (2, .int xi1), (3, .int xi2), (4, .int xi3), (5, .int xi4)]) hx hb dX12_feed_76 hl72 (by decide) rfl (fun ls77 hl77 => ?_)
  clear hl72 ls72
  refine lv_aload_n (pc := 78) hx hb dX12_feed_78 rfl (lv_at hl77 2 rfl) ?_
  refine ob_get (pc := 79) (v := .ref ad1) (ci := 12) (C := RX12) (T := TX12) (N := 114) hx hb hG in_X12 hown hK hP71 0 rfl rfl 31 (by decide) (hG _ g_379) rfl h0_31 dX12_feed_79 ?_
  refine lv_aload_n (pc := 82) hx hb dX12_feed_82 rfl (lv_at hl77 2 rfl) ?_
  refine ob_get (pc := 83) (v := .int 9) (ci := 12) (C := RX12) (T := TX12) (N := 114) hx hb hG in_X12 hown hK hP71 0 rfl rfl 32 (by decide) (hG _ g_435) rfl rfl dX12_feed_83 ?_
  refine lv_iload (pc := 86) hx hb dX12_feed_86 (lv_at hl77 0 rfl) ?_
  refine lv_bipush (pc := 88) (v := 24) hx hb dX12_feed_88 (by decide) ?_
  refine lv_bipush (pc := 90) (v := 8) hx hb dX12_feed_90 (by decide) ?_
  refine lv_iload (pc := 92) hx hb dX12_feed_92 (lv_at hl77 1 rfl) ?_
  refine lv_iconst (pc := 94) (v := 4) hx hb dX12_feed_94 (by decide) ?_
  refine lv_irem (pc := 95) hx hb dX12_feed_95 (by decide) ?_
  refine tp_i (y := 1) (by decide) ?_
  refine lv_imul (pc := 96) hx hb dX12_feed_96 ?_
  refine tp_i (y := 8) (by decide) ?_
  refine lv_isub (pc := 97) hx hb dX12_feed_97 ?_
  refine tp_i (y := 16) (by decide) ?_
  refine lv_ishr (pc := 98) hx hb dX12_feed_98 ?_
  refine lv_sipush (pc := 99) (v := 255) hx hb dX12_feed_99 (by decide) ?_
  refine lv_iand (pc := 102) hx hb dX12_feed_102 ?_
  refine va_iast (pc := 103) hx hb hK hP71 hD71 hS71 1 0 rfl rfl (show ¬ ((9 : Int32) < 0 ∨ 2000 ≤ (9 : Int32).toNatClampNeg) by decide) dX12_feed_103 (fun H78 lo78 hP78r hD78r hS78 => ?_)
  have hP78 : va_P D classes [(ad0, ob 12 114 (vup (vup (vup (vup (vup (vup (vup (vup (vup (vup fn0 0 (.int 0)) 32 (.int 1)) 32 (.int 2)) 32 (.int 3)) 32 (.int 4)) 32 (.int 5)) 32 (.int 6)) 32 (.int 7)) 32 (.int 8)) 32 (.int 9))), (ad1, ari (cy 0) 2000 (upd nc70 (9 : Int32).toNatClampNeg ((xi2 >>> (16 &&& 31)) &&& 255)))] H78 := hP78r
  have hD78 : va_D A [(ad0, ob 12 114 (vup (vup (vup (vup (vup (vup (vup (vup (vup (vup fn0 0 (.int 0)) 32 (.int 1)) 32 (.int 2)) 32 (.int 3)) 32 (.int 4)) 32 (.int 5)) 32 (.int 6)) 32 (.int 7)) 32 (.int 8)) 32 (.int 9))), (ad1, ari (cy 0) 2000 (upd nc70 (9 : Int32).toNatClampNeg ((xi2 >>> (16 &&& 31)) &&& 255)))] := hD78r
  clear hP78r hD78r
  generalize (upd nc70 (9 : Int32).toNatClampNeg ((xi2 >>> (16 &&& 31)) &&& 255)) = nc79 at hP78 hD78
  clear hP71 hD71 hS71
  clear H71 lo71
  refine lv_aload_n (pc := 104) hx hb dX12_feed_104 rfl (lv_at hl77 2 rfl) ?_
  refine lv_dup (pc := 105) hx hb dX12_feed_105 rfl ?_
  refine ob_get (pc := 106) (v := .int 9) (ci := 12) (C := RX12) (T := TX12) (N := 114) hx hb hG in_X12 hown hK hP78 0 rfl rfl 32 (by decide) (hG _ g_435) rfl rfl dX12_feed_106 ?_
  refine lv_iconst (pc := 109) (v := 1) hx hb dX12_feed_109 (by decide) ?_
  refine lv_iadd (pc := 110) hx hb dX12_feed_110 ?_
  refine tp_i (y := 10) (by decide) ?_
  refine ob_put (pc := 111) (v := .int 10) (ci := 12) (C := RX12) (T := TX12) (N := 114) hx hb hG in_X12 tyX12 tyX12_ok nmX12 hown hK hP78 hD78 hS78 0 rfl rfl 32 (by decide) (hG _ g_435) rfl rfl rfl rfl dX12_feed_111 (ws' := [(ad0, ob 12 114 (vup (vup (vup (vup (vup (vup (vup (vup (vup (vup (vup fn0 0 (.int 0)) 32 (.int 1)) 32 (.int 2)) 32 (.int 3)) 32 (.int 4)) 32 (.int 5)) 32 (.int 6)) 32 (.int 7)) 32 (.int 8)) 32 (.int 9)) 32 (.int 10))), (ad1, ari (cy 0) 2000 nc79)]) rfl (fun H80 lo80 hP80 hD80 hS80 => ?_)
  clear hP78 hD78 hS78
  clear H78 lo78
  refine lv_iinc (pc := 114) (v := 10) (lv' := [(6, .int 10), (7, .int xi2), (0, .ref ad0), (1, .int xi0), (2, .int xi1), (3, .int xi2), (4, .int xi3), (5, .int xi4)]) hx hb dX12_feed_114 hl77 (k := 1) rfl (by decide) (by decide) rfl (fun ls81 hl81 => ?_)
  clear hl77 ls77
  refine lv_goto (pc := 117) (tgt := 23) hx hb dX12_feed_117 (by decide) ?_
  refine lv_iload (pc := 23) hx hb dX12_feed_23 (lv_at hl81 0 rfl) ?_
  refine lv_bipush (pc := 25) (v := 20) hx hb dX12_feed_25 (by decide) ?_
  refine lv_icmp_ge (pc := 27) (tgt := 120) hx hb dX12_feed_27 (by decide) (fun c82 => absurd c82 (by decide)) (fun c82 => ?_)
  refine lv_iload (pc := 30) hx hb dX12_feed_30 (lv_at hl81 0 rfl) ?_
  refine lv_iconst (pc := 32) (v := 4) hx hb dX12_feed_32 (by decide) ?_
  refine lv_icmp_ge (pc := 33) (tgt := 40) hx hb dX12_feed_33 (by decide) (fun c83 => ?_) (fun c83 => absurd (by decide) c83)
  refine lv_iload (pc := 40) hx hb dX12_feed_40 (lv_at hl81 0 rfl) ?_
  refine lv_bipush (pc := 42) (v := 8) hx hb dX12_feed_42 (by decide) ?_
  refine lv_icmp_ge (pc := 44) (tgt := 51) hx hb dX12_feed_44 (by decide) (fun c84 => ?_) (fun c84 => absurd (by decide) c84)
  refine lv_iload (pc := 51) hx hb dX12_feed_51 (lv_at hl81 0 rfl) ?_
  refine lv_bipush (pc := 53) (v := 12) hx hb dX12_feed_53 (by decide) ?_
  refine lv_icmp_ge (pc := 55) (tgt := 62) hx hb dX12_feed_55 (by decide) (fun c85 => absurd c85 (by decide)) (fun c85 => ?_)
  refine lv_iload_n (pc := 58) hx hb dX12_feed_58 rfl (lv_at hl81 5 rfl) ?_
  refine lv_goto (pc := 59) (tgt := 76) hx hb dX12_feed_59 (by decide) ?_
  refine lv_istore (pc := 76) (lv' := [(7, .int xi2), (6, .int 10), (0, .ref ad0), (1, .int xi0), (2, .int xi1), (3, .int xi2), (4, .int xi3), (5, .int xi4)]) hx hb dX12_feed_76 hl81 (by decide) rfl (fun ls86 hl86 => ?_)
  clear hl81 ls81
  refine lv_aload_n (pc := 78) hx hb dX12_feed_78 rfl (lv_at hl86 2 rfl) ?_
  refine ob_get (pc := 79) (v := .ref ad1) (ci := 12) (C := RX12) (T := TX12) (N := 114) hx hb hG in_X12 hown hK hP80 0 rfl rfl 31 (by decide) (hG _ g_379) rfl h0_31 dX12_feed_79 ?_
  refine lv_aload_n (pc := 82) hx hb dX12_feed_82 rfl (lv_at hl86 2 rfl) ?_
  refine ob_get (pc := 83) (v := .int 10) (ci := 12) (C := RX12) (T := TX12) (N := 114) hx hb hG in_X12 hown hK hP80 0 rfl rfl 32 (by decide) (hG _ g_435) rfl rfl dX12_feed_83 ?_
  refine lv_iload (pc := 86) hx hb dX12_feed_86 (lv_at hl86 0 rfl) ?_
  refine lv_bipush (pc := 88) (v := 24) hx hb dX12_feed_88 (by decide) ?_
  refine lv_bipush (pc := 90) (v := 8) hx hb dX12_feed_90 (by decide) ?_
  refine lv_iload (pc := 92) hx hb dX12_feed_92 (lv_at hl86 1 rfl) ?_
  refine lv_iconst (pc := 94) (v := 4) hx hb dX12_feed_94 (by decide) ?_
  refine lv_irem (pc := 95) hx hb dX12_feed_95 (by decide) ?_
  refine tp_i (y := 2) (by decide) ?_
  refine lv_imul (pc := 96) hx hb dX12_feed_96 ?_
  refine tp_i (y := 16) (by decide) ?_
  refine lv_isub (pc := 97) hx hb dX12_feed_97 ?_
  refine tp_i (y := 8) (by decide) ?_
  refine lv_ishr (pc := 98) hx hb dX12_feed_98 ?_
  refine lv_sipush (pc := 99) (v := 255) hx hb dX12_feed_99 (by decide) ?_
  refine lv_iand (pc := 102) hx hb dX12_feed_102 ?_
  refine va_iast (pc := 103) hx hb hK hP80 hD80 hS80 1 0 rfl rfl (show ¬ ((10 : Int32) < 0 ∨ 2000 ≤ (10 : Int32).toNatClampNeg) by decide) dX12_feed_103 (fun H87 lo87 hP87r hD87r hS87 => ?_)
  have hP87 : va_P D classes [(ad0, ob 12 114 (vup (vup (vup (vup (vup (vup (vup (vup (vup (vup (vup fn0 0 (.int 0)) 32 (.int 1)) 32 (.int 2)) 32 (.int 3)) 32 (.int 4)) 32 (.int 5)) 32 (.int 6)) 32 (.int 7)) 32 (.int 8)) 32 (.int 9)) 32 (.int 10))), (ad1, ari (cy 0) 2000 (upd nc79 (10 : Int32).toNatClampNeg ((xi2 >>> (8 &&& 31)) &&& 255)))] H87 := hP87r
  have hD87 : va_D A [(ad0, ob 12 114 (vup (vup (vup (vup (vup (vup (vup (vup (vup (vup (vup fn0 0 (.int 0)) 32 (.int 1)) 32 (.int 2)) 32 (.int 3)) 32 (.int 4)) 32 (.int 5)) 32 (.int 6)) 32 (.int 7)) 32 (.int 8)) 32 (.int 9)) 32 (.int 10))), (ad1, ari (cy 0) 2000 (upd nc79 (10 : Int32).toNatClampNeg ((xi2 >>> (8 &&& 31)) &&& 255)))] := hD87r
  clear hP87r hD87r
  generalize (upd nc79 (10 : Int32).toNatClampNeg ((xi2 >>> (8 &&& 31)) &&& 255)) = nc88 at hP87 hD87
  clear hP80 hD80 hS80
  clear H80 lo80
  refine lv_aload_n (pc := 104) hx hb dX12_feed_104 rfl (lv_at hl86 2 rfl) ?_
  refine lv_dup (pc := 105) hx hb dX12_feed_105 rfl ?_
  refine ob_get (pc := 106) (v := .int 10) (ci := 12) (C := RX12) (T := TX12) (N := 114) hx hb hG in_X12 hown hK hP87 0 rfl rfl 32 (by decide) (hG _ g_435) rfl rfl dX12_feed_106 ?_
  refine lv_iconst (pc := 109) (v := 1) hx hb dX12_feed_109 (by decide) ?_
  refine lv_iadd (pc := 110) hx hb dX12_feed_110 ?_
  refine tp_i (y := 11) (by decide) ?_
  refine ob_put (pc := 111) (v := .int 11) (ci := 12) (C := RX12) (T := TX12) (N := 114) hx hb hG in_X12 tyX12 tyX12_ok nmX12 hown hK hP87 hD87 hS87 0 rfl rfl 32 (by decide) (hG _ g_435) rfl rfl rfl rfl dX12_feed_111 (ws' := [(ad0, ob 12 114 (vup (vup (vup (vup (vup (vup (vup (vup (vup (vup (vup (vup fn0 0 (.int 0)) 32 (.int 1)) 32 (.int 2)) 32 (.int 3)) 32 (.int 4)) 32 (.int 5)) 32 (.int 6)) 32 (.int 7)) 32 (.int 8)) 32 (.int 9)) 32 (.int 10)) 32 (.int 11))), (ad1, ari (cy 0) 2000 nc88)]) rfl (fun H89 lo89 hP89 hD89 hS89 => ?_)
  clear hP87 hD87 hS87
  clear H87 lo87
  refine lv_iinc (pc := 114) (v := 11) (lv' := [(6, .int 11), (7, .int xi2), (0, .ref ad0), (1, .int xi0), (2, .int xi1), (3, .int xi2), (4, .int xi3), (5, .int xi4)]) hx hb dX12_feed_114 hl86 (k := 1) rfl (by decide) (by decide) rfl (fun ls90 hl90 => ?_)
  clear hl86 ls86
  refine lv_goto (pc := 117) (tgt := 23) hx hb dX12_feed_117 (by decide) ?_
  refine lv_iload (pc := 23) hx hb dX12_feed_23 (lv_at hl90 0 rfl) ?_
  refine lv_bipush (pc := 25) (v := 20) hx hb dX12_feed_25 (by decide) ?_
  refine lv_icmp_ge (pc := 27) (tgt := 120) hx hb dX12_feed_27 (by decide) (fun c91 => absurd c91 (by decide)) (fun c91 => ?_)
  refine lv_iload (pc := 30) hx hb dX12_feed_30 (lv_at hl90 0 rfl) ?_
  refine lv_iconst (pc := 32) (v := 4) hx hb dX12_feed_32 (by decide) ?_
  refine lv_icmp_ge (pc := 33) (tgt := 40) hx hb dX12_feed_33 (by decide) (fun c92 => ?_) (fun c92 => absurd (by decide) c92)
  refine lv_iload (pc := 40) hx hb dX12_feed_40 (lv_at hl90 0 rfl) ?_
  refine lv_bipush (pc := 42) (v := 8) hx hb dX12_feed_42 (by decide) ?_
  refine lv_icmp_ge (pc := 44) (tgt := 51) hx hb dX12_feed_44 (by decide) (fun c93 => ?_) (fun c93 => absurd (by decide) c93)
  refine lv_iload (pc := 51) hx hb dX12_feed_51 (lv_at hl90 0 rfl) ?_
  refine lv_bipush (pc := 53) (v := 12) hx hb dX12_feed_53 (by decide) ?_
  refine lv_icmp_ge (pc := 55) (tgt := 62) hx hb dX12_feed_55 (by decide) (fun c94 => absurd c94 (by decide)) (fun c94 => ?_)
  refine lv_iload_n (pc := 58) hx hb dX12_feed_58 rfl (lv_at hl90 5 rfl) ?_
  refine lv_goto (pc := 59) (tgt := 76) hx hb dX12_feed_59 (by decide) ?_
  refine lv_istore (pc := 76) (lv' := [(7, .int xi2), (6, .int 11), (0, .ref ad0), (1, .int xi0), (2, .int xi1), (3, .int xi2), (4, .int xi3), (5, .int xi4)]) hx hb dX12_feed_76 hl90 (by decide) rfl (fun ls95 hl95 => ?_)
  clear hl90 ls90
  refine lv_aload_n (pc := 78) hx hb dX12_feed_78 rfl (lv_at hl95 2 rfl) ?_
  refine ob_get (pc := 79) (v := .ref ad1) (ci := 12) (C := RX12) (T := TX12) (N := 114) hx hb hG in_X12 hown hK hP89 0 rfl rfl 31 (by decide) (hG _ g_379) rfl h0_31 dX12_feed_79 ?_
  refine lv_aload_n (pc := 82) hx hb dX12_feed_82 rfl (lv_at hl95 2 rfl) ?_
  refine ob_get (pc := 83) (v := .int 11) (ci := 12) (C := RX12) (T := TX12) (N := 114) hx hb hG in_X12 hown hK hP89 0 rfl rfl 32 (by decide) (hG _ g_435) rfl rfl dX12_feed_83 ?_
  refine lv_iload (pc := 86) hx hb dX12_feed_86 (lv_at hl95 0 rfl) ?_
  refine lv_bipush (pc := 88) (v := 24) hx hb dX12_feed_88 (by decide) ?_
  refine lv_bipush (pc := 90) (v := 8) hx hb dX12_feed_90 (by decide) ?_
  refine lv_iload (pc := 92) hx hb dX12_feed_92 (lv_at hl95 1 rfl) ?_
  refine lv_iconst (pc := 94) (v := 4) hx hb dX12_feed_94 (by decide) ?_
  refine lv_irem (pc := 95) hx hb dX12_feed_95 (by decide) ?_
  refine tp_i (y := 3) (by decide) ?_
  refine lv_imul (pc := 96) hx hb dX12_feed_96 ?_
  refine tp_i (y := 24) (by decide) ?_
  refine lv_isub (pc := 97) hx hb dX12_feed_97 ?_
  refine tp_i (y := 0) (by decide) ?_
  refine lv_ishr (pc := 98) hx hb dX12_feed_98 ?_
  refine lv_sipush (pc := 99) (v := 255) hx hb dX12_feed_99 (by decide) ?_
  refine lv_iand (pc := 102) hx hb dX12_feed_102 ?_
  refine va_iast (pc := 103) hx hb hK hP89 hD89 hS89 1 0 rfl rfl (show ¬ ((11 : Int32) < 0 ∨ 2000 ≤ (11 : Int32).toNatClampNeg) by decide) dX12_feed_103 (fun H96 lo96 hP96r hD96r hS96 => ?_)
  have hP96 : va_P D classes [(ad0, ob 12 114 (vup (vup (vup (vup (vup (vup (vup (vup (vup (vup (vup (vup fn0 0 (.int 0)) 32 (.int 1)) 32 (.int 2)) 32 (.int 3)) 32 (.int 4)) 32 (.int 5)) 32 (.int 6)) 32 (.int 7)) 32 (.int 8)) 32 (.int 9)) 32 (.int 10)) 32 (.int 11))), (ad1, ari (cy 0) 2000 (upd nc88 (11 : Int32).toNatClampNeg ((xi2 >>> (0 &&& 31)) &&& 255)))] H96 := hP96r
  have hD96 : va_D A [(ad0, ob 12 114 (vup (vup (vup (vup (vup (vup (vup (vup (vup (vup (vup (vup fn0 0 (.int 0)) 32 (.int 1)) 32 (.int 2)) 32 (.int 3)) 32 (.int 4)) 32 (.int 5)) 32 (.int 6)) 32 (.int 7)) 32 (.int 8)) 32 (.int 9)) 32 (.int 10)) 32 (.int 11))), (ad1, ari (cy 0) 2000 (upd nc88 (11 : Int32).toNatClampNeg ((xi2 >>> (0 &&& 31)) &&& 255)))] := hD96r
  clear hP96r hD96r
  generalize (upd nc88 (11 : Int32).toNatClampNeg ((xi2 >>> (0 &&& 31)) &&& 255)) = nc97 at hP96 hD96
  clear hP89 hD89 hS89
  clear H89 lo89
  refine lv_aload_n (pc := 104) hx hb dX12_feed_104 rfl (lv_at hl95 2 rfl) ?_
  refine lv_dup (pc := 105) hx hb dX12_feed_105 rfl ?_
  refine ob_get (pc := 106) (v := .int 11) (ci := 12) (C := RX12) (T := TX12) (N := 114) hx hb hG in_X12 hown hK hP96 0 rfl rfl 32 (by decide) (hG _ g_435) rfl rfl dX12_feed_106 ?_
  refine lv_iconst (pc := 109) (v := 1) hx hb dX12_feed_109 (by decide) ?_
  refine lv_iadd (pc := 110) hx hb dX12_feed_110 ?_
  refine tp_i (y := 12) (by decide) ?_
  refine ob_put (pc := 111) (v := .int 12) (ci := 12) (C := RX12) (T := TX12) (N := 114) hx hb hG in_X12 tyX12 tyX12_ok nmX12 hown hK hP96 hD96 hS96 0 rfl rfl 32 (by decide) (hG _ g_435) rfl rfl rfl rfl dX12_feed_111 (ws' := [(ad0, ob 12 114 (vup (vup (vup (vup (vup (vup (vup (vup (vup (vup (vup (vup (vup fn0 0 (.int 0)) 32 (.int 1)) 32 (.int 2)) 32 (.int 3)) 32 (.int 4)) 32 (.int 5)) 32 (.int 6)) 32 (.int 7)) 32 (.int 8)) 32 (.int 9)) 32 (.int 10)) 32 (.int 11)) 32 (.int 12))), (ad1, ari (cy 0) 2000 nc97)]) rfl (fun H98 lo98 hP98 hD98 hS98 => ?_)
  clear hP96 hD96 hS96
  clear H96 lo96
  refine lv_iinc (pc := 114) (v := 12) (lv' := [(6, .int 12), (7, .int xi2), (0, .ref ad0), (1, .int xi0), (2, .int xi1), (3, .int xi2), (4, .int xi3), (5, .int xi4)]) hx hb dX12_feed_114 hl95 (k := 1) rfl (by decide) (by decide) rfl (fun ls99 hl99 => ?_)
  clear hl95 ls95
  refine lv_goto (pc := 117) (tgt := 23) hx hb dX12_feed_117 (by decide) ?_
  refine lv_iload (pc := 23) hx hb dX12_feed_23 (lv_at hl99 0 rfl) ?_
  refine lv_bipush (pc := 25) (v := 20) hx hb dX12_feed_25 (by decide) ?_
  refine lv_icmp_ge (pc := 27) (tgt := 120) hx hb dX12_feed_27 (by decide) (fun c100 => absurd c100 (by decide)) (fun c100 => ?_)
  refine lv_iload (pc := 30) hx hb dX12_feed_30 (lv_at hl99 0 rfl) ?_
  refine lv_iconst (pc := 32) (v := 4) hx hb dX12_feed_32 (by decide) ?_
  refine lv_icmp_ge (pc := 33) (tgt := 40) hx hb dX12_feed_33 (by decide) (fun c101 => ?_) (fun c101 => absurd (by decide) c101)
  refine lv_iload (pc := 40) hx hb dX12_feed_40 (lv_at hl99 0 rfl) ?_
  refine lv_bipush (pc := 42) (v := 8) hx hb dX12_feed_42 (by decide) ?_
  refine lv_icmp_ge (pc := 44) (tgt := 51) hx hb dX12_feed_44 (by decide) (fun c102 => ?_) (fun c102 => absurd (by decide) c102)
  refine lv_iload (pc := 51) hx hb dX12_feed_51 (lv_at hl99 0 rfl) ?_
  refine lv_bipush (pc := 53) (v := 12) hx hb dX12_feed_53 (by decide) ?_
  refine lv_icmp_ge (pc := 55) (tgt := 62) hx hb dX12_feed_55 (by decide) (fun c103 => ?_) (fun c103 => absurd (by decide) c103)
  refine lv_iload (pc := 62) hx hb dX12_feed_62 (lv_at hl99 0 rfl) ?_
  refine lv_bipush (pc := 64) (v := 16) hx hb dX12_feed_64 (by decide) ?_
  refine lv_icmp_ge (pc := 66) (tgt := 74) hx hb dX12_feed_66 (by decide) (fun c104 => absurd c104 (by decide)) (fun c104 => ?_)
  refine lv_iload (pc := 69) hx hb dX12_feed_69 (lv_at hl99 6 rfl) ?_
  refine lv_goto (pc := 71) (tgt := 76) hx hb dX12_feed_71 (by decide) ?_
  refine lv_istore (pc := 76) (lv' := [(7, .int xi3), (6, .int 12), (0, .ref ad0), (1, .int xi0), (2, .int xi1), (3, .int xi2), (4, .int xi3), (5, .int xi4)]) hx hb dX12_feed_76 hl99 (by decide) rfl (fun ls105 hl105 => ?_)
  clear hl99 ls99
  refine lv_aload_n (pc := 78) hx hb dX12_feed_78 rfl (lv_at hl105 2 rfl) ?_
  refine ob_get (pc := 79) (v := .ref ad1) (ci := 12) (C := RX12) (T := TX12) (N := 114) hx hb hG in_X12 hown hK hP98 0 rfl rfl 31 (by decide) (hG _ g_379) rfl h0_31 dX12_feed_79 ?_
  refine lv_aload_n (pc := 82) hx hb dX12_feed_82 rfl (lv_at hl105 2 rfl) ?_
  refine ob_get (pc := 83) (v := .int 12) (ci := 12) (C := RX12) (T := TX12) (N := 114) hx hb hG in_X12 hown hK hP98 0 rfl rfl 32 (by decide) (hG _ g_435) rfl rfl dX12_feed_83 ?_
  refine lv_iload (pc := 86) hx hb dX12_feed_86 (lv_at hl105 0 rfl) ?_
  refine lv_bipush (pc := 88) (v := 24) hx hb dX12_feed_88 (by decide) ?_
  refine lv_bipush (pc := 90) (v := 8) hx hb dX12_feed_90 (by decide) ?_
  refine lv_iload (pc := 92) hx hb dX12_feed_92 (lv_at hl105 1 rfl) ?_
  refine lv_iconst (pc := 94) (v := 4) hx hb dX12_feed_94 (by decide) ?_
  refine lv_irem (pc := 95) hx hb dX12_feed_95 (by decide) ?_
  refine tp_i (y := 0) (by decide) ?_
  refine lv_imul (pc := 96) hx hb dX12_feed_96 ?_
  refine tp_i (y := 0) (by decide) ?_
  refine lv_isub (pc := 97) hx hb dX12_feed_97 ?_
  refine tp_i (y := 24) (by decide) ?_
  refine lv_ishr (pc := 98) hx hb dX12_feed_98 ?_
  refine lv_sipush (pc := 99) (v := 255) hx hb dX12_feed_99 (by decide) ?_
  refine lv_iand (pc := 102) hx hb dX12_feed_102 ?_
  refine va_iast (pc := 103) hx hb hK hP98 hD98 hS98 1 0 rfl rfl (show ¬ ((12 : Int32) < 0 ∨ 2000 ≤ (12 : Int32).toNatClampNeg) by decide) dX12_feed_103 (fun H106 lo106 hP106r hD106r hS106 => ?_)
  have hP106 : va_P D classes [(ad0, ob 12 114 (vup (vup (vup (vup (vup (vup (vup (vup (vup (vup (vup (vup (vup fn0 0 (.int 0)) 32 (.int 1)) 32 (.int 2)) 32 (.int 3)) 32 (.int 4)) 32 (.int 5)) 32 (.int 6)) 32 (.int 7)) 32 (.int 8)) 32 (.int 9)) 32 (.int 10)) 32 (.int 11)) 32 (.int 12))), (ad1, ari (cy 0) 2000 (upd nc97 (12 : Int32).toNatClampNeg ((xi3 >>> (24 &&& 31)) &&& 255)))] H106 := hP106r
  have hD106 : va_D A [(ad0, ob 12 114 (vup (vup (vup (vup (vup (vup (vup (vup (vup (vup (vup (vup (vup fn0 0 (.int 0)) 32 (.int 1)) 32 (.int 2)) 32 (.int 3)) 32 (.int 4)) 32 (.int 5)) 32 (.int 6)) 32 (.int 7)) 32 (.int 8)) 32 (.int 9)) 32 (.int 10)) 32 (.int 11)) 32 (.int 12))), (ad1, ari (cy 0) 2000 (upd nc97 (12 : Int32).toNatClampNeg ((xi3 >>> (24 &&& 31)) &&& 255)))] := hD106r
  clear hP106r hD106r
  generalize (upd nc97 (12 : Int32).toNatClampNeg ((xi3 >>> (24 &&& 31)) &&& 255)) = nc107 at hP106 hD106
  clear hP98 hD98 hS98
  clear H98 lo98
  refine lv_aload_n (pc := 104) hx hb dX12_feed_104 rfl (lv_at hl105 2 rfl) ?_
  refine lv_dup (pc := 105) hx hb dX12_feed_105 rfl ?_
  refine ob_get (pc := 106) (v := .int 12) (ci := 12) (C := RX12) (T := TX12) (N := 114) hx hb hG in_X12 hown hK hP106 0 rfl rfl 32 (by decide) (hG _ g_435) rfl rfl dX12_feed_106 ?_
  refine lv_iconst (pc := 109) (v := 1) hx hb dX12_feed_109 (by decide) ?_
  refine lv_iadd (pc := 110) hx hb dX12_feed_110 ?_
  refine tp_i (y := 13) (by decide) ?_
  refine ob_put (pc := 111) (v := .int 13) (ci := 12) (C := RX12) (T := TX12) (N := 114) hx hb hG in_X12 tyX12 tyX12_ok nmX12 hown hK hP106 hD106 hS106 0 rfl rfl 32 (by decide) (hG _ g_435) rfl rfl rfl rfl dX12_feed_111 (ws' := [(ad0, ob 12 114 (vup (vup (vup (vup (vup (vup (vup (vup (vup (vup (vup (vup (vup (vup fn0 0 (.int 0)) 32 (.int 1)) 32 (.int 2)) 32 (.int 3)) 32 (.int 4)) 32 (.int 5)) 32 (.int 6)) 32 (.int 7)) 32 (.int 8)) 32 (.int 9)) 32 (.int 10)) 32 (.int 11)) 32 (.int 12)) 32 (.int 13))), (ad1, ari (cy 0) 2000 nc107)]) rfl (fun H108 lo108 hP108 hD108 hS108 => ?_)
  clear hP106 hD106 hS106
  clear H106 lo106
  refine lv_iinc (pc := 114) (v := 13) (lv' := [(6, .int 13), (7, .int xi3), (0, .ref ad0), (1, .int xi0), (2, .int xi1), (3, .int xi2), (4, .int xi3), (5, .int xi4)]) hx hb dX12_feed_114 hl105 (k := 1) rfl (by decide) (by decide) rfl (fun ls109 hl109 => ?_)
  clear hl105 ls105
  refine lv_goto (pc := 117) (tgt := 23) hx hb dX12_feed_117 (by decide) ?_
  refine lv_iload (pc := 23) hx hb dX12_feed_23 (lv_at hl109 0 rfl) ?_
  refine lv_bipush (pc := 25) (v := 20) hx hb dX12_feed_25 (by decide) ?_
  refine lv_icmp_ge (pc := 27) (tgt := 120) hx hb dX12_feed_27 (by decide) (fun c110 => absurd c110 (by decide)) (fun c110 => ?_)
  refine lv_iload (pc := 30) hx hb dX12_feed_30 (lv_at hl109 0 rfl) ?_
  refine lv_iconst (pc := 32) (v := 4) hx hb dX12_feed_32 (by decide) ?_
  refine lv_icmp_ge (pc := 33) (tgt := 40) hx hb dX12_feed_33 (by decide) (fun c111 => ?_) (fun c111 => absurd (by decide) c111)
  refine lv_iload (pc := 40) hx hb dX12_feed_40 (lv_at hl109 0 rfl) ?_
  refine lv_bipush (pc := 42) (v := 8) hx hb dX12_feed_42 (by decide) ?_
  refine lv_icmp_ge (pc := 44) (tgt := 51) hx hb dX12_feed_44 (by decide) (fun c112 => ?_) (fun c112 => absurd (by decide) c112)
  refine lv_iload (pc := 51) hx hb dX12_feed_51 (lv_at hl109 0 rfl) ?_
  refine lv_bipush (pc := 53) (v := 12) hx hb dX12_feed_53 (by decide) ?_
  refine lv_icmp_ge (pc := 55) (tgt := 62) hx hb dX12_feed_55 (by decide) (fun c113 => ?_) (fun c113 => absurd (by decide) c113)
  refine lv_iload (pc := 62) hx hb dX12_feed_62 (lv_at hl109 0 rfl) ?_
  refine lv_bipush (pc := 64) (v := 16) hx hb dX12_feed_64 (by decide) ?_
  refine lv_icmp_ge (pc := 66) (tgt := 74) hx hb dX12_feed_66 (by decide) (fun c114 => absurd c114 (by decide)) (fun c114 => ?_)
  refine lv_iload (pc := 69) hx hb dX12_feed_69 (lv_at hl109 6 rfl) ?_
  refine lv_goto (pc := 71) (tgt := 76) hx hb dX12_feed_71 (by decide) ?_
  refine lv_istore (pc := 76) (lv' := [(7, .int xi3), (6, .int 13), (0, .ref ad0), (1, .int xi0), (2, .int xi1), (3, .int xi2), (4, .int xi3), (5, .int xi4)]) hx hb dX12_feed_76 hl109 (by decide) rfl (fun ls115 hl115 => ?_)
  clear hl109 ls109
  refine lv_aload_n (pc := 78) hx hb dX12_feed_78 rfl (lv_at hl115 2 rfl) ?_
  refine ob_get (pc := 79) (v := .ref ad1) (ci := 12) (C := RX12) (T := TX12) (N := 114) hx hb hG in_X12 hown hK hP108 0 rfl rfl 31 (by decide) (hG _ g_379) rfl h0_31 dX12_feed_79 ?_
  refine lv_aload_n (pc := 82) hx hb dX12_feed_82 rfl (lv_at hl115 2 rfl) ?_
  refine ob_get (pc := 83) (v := .int 13) (ci := 12) (C := RX12) (T := TX12) (N := 114) hx hb hG in_X12 hown hK hP108 0 rfl rfl 32 (by decide) (hG _ g_435) rfl rfl dX12_feed_83 ?_
  refine lv_iload (pc := 86) hx hb dX12_feed_86 (lv_at hl115 0 rfl) ?_
  refine lv_bipush (pc := 88) (v := 24) hx hb dX12_feed_88 (by decide) ?_
  refine lv_bipush (pc := 90) (v := 8) hx hb dX12_feed_90 (by decide) ?_
  refine lv_iload (pc := 92) hx hb dX12_feed_92 (lv_at hl115 1 rfl) ?_
  refine lv_iconst (pc := 94) (v := 4) hx hb dX12_feed_94 (by decide) ?_
  refine lv_irem (pc := 95) hx hb dX12_feed_95 (by decide) ?_
  refine tp_i (y := 1) (by decide) ?_
  refine lv_imul (pc := 96) hx hb dX12_feed_96 ?_
  refine tp_i (y := 8) (by decide) ?_
  refine lv_isub (pc := 97) hx hb dX12_feed_97 ?_
  refine tp_i (y := 16) (by decide) ?_
  refine lv_ishr (pc := 98) hx hb dX12_feed_98 ?_
  refine lv_sipush (pc := 99) (v := 255) hx hb dX12_feed_99 (by decide) ?_
  refine lv_iand (pc := 102) hx hb dX12_feed_102 ?_
  refine va_iast (pc := 103) hx hb hK hP108 hD108 hS108 1 0 rfl rfl (show ¬ ((13 : Int32) < 0 ∨ 2000 ≤ (13 : Int32).toNatClampNeg) by decide) dX12_feed_103 (fun H116 lo116 hP116r hD116r hS116 => ?_)
  have hP116 : va_P D classes [(ad0, ob 12 114 (vup (vup (vup (vup (vup (vup (vup (vup (vup (vup (vup (vup (vup (vup fn0 0 (.int 0)) 32 (.int 1)) 32 (.int 2)) 32 (.int 3)) 32 (.int 4)) 32 (.int 5)) 32 (.int 6)) 32 (.int 7)) 32 (.int 8)) 32 (.int 9)) 32 (.int 10)) 32 (.int 11)) 32 (.int 12)) 32 (.int 13))), (ad1, ari (cy 0) 2000 (upd nc107 (13 : Int32).toNatClampNeg ((xi3 >>> (16 &&& 31)) &&& 255)))] H116 := hP116r
  have hD116 : va_D A [(ad0, ob 12 114 (vup (vup (vup (vup (vup (vup (vup (vup (vup (vup (vup (vup (vup (vup fn0 0 (.int 0)) 32 (.int 1)) 32 (.int 2)) 32 (.int 3)) 32 (.int 4)) 32 (.int 5)) 32 (.int 6)) 32 (.int 7)) 32 (.int 8)) 32 (.int 9)) 32 (.int 10)) 32 (.int 11)) 32 (.int 12)) 32 (.int 13))), (ad1, ari (cy 0) 2000 (upd nc107 (13 : Int32).toNatClampNeg ((xi3 >>> (16 &&& 31)) &&& 255)))] := hD116r
  clear hP116r hD116r
  generalize (upd nc107 (13 : Int32).toNatClampNeg ((xi3 >>> (16 &&& 31)) &&& 255)) = nc117 at hP116 hD116
  clear hP108 hD108 hS108
  clear H108 lo108
  refine lv_aload_n (pc := 104) hx hb dX12_feed_104 rfl (lv_at hl115 2 rfl) ?_
  refine lv_dup (pc := 105) hx hb dX12_feed_105 rfl ?_
  refine ob_get (pc := 106) (v := .int 13) (ci := 12) (C := RX12) (T := TX12) (N := 114) hx hb hG in_X12 hown hK hP116 0 rfl rfl 32 (by decide) (hG _ g_435) rfl rfl dX12_feed_106 ?_
  refine lv_iconst (pc := 109) (v := 1) hx hb dX12_feed_109 (by decide) ?_
  refine lv_iadd (pc := 110) hx hb dX12_feed_110 ?_
  refine tp_i (y := 14) (by decide) ?_
  refine ob_put (pc := 111) (v := .int 14) (ci := 12) (C := RX12) (T := TX12) (N := 114) hx hb hG in_X12 tyX12 tyX12_ok nmX12 hown hK hP116 hD116 hS116 0 rfl rfl 32 (by decide) (hG _ g_435) rfl rfl rfl rfl dX12_feed_111 (ws' := [(ad0, ob 12 114 (vup (vup (vup (vup (vup (vup (vup (vup (vup (vup (vup (vup (vup (vup (vup fn0 0 (.int 0)) 32 (.int 1)) 32 (.int 2)) 32 (.int 3)) 32 (.int 4)) 32 (.int 5)) 32 (.int 6)) 32 (.int 7)) 32 (.int 8)) 32 (.int 9)) 32 (.int 10)) 32 (.int 11)) 32 (.int 12)) 32 (.int 13)) 32 (.int 14))), (ad1, ari (cy 0) 2000 nc117)]) rfl (fun H118 lo118 hP118 hD118 hS118 => ?_)
  clear hP116 hD116 hS116
  clear H116 lo116
  refine lv_iinc (pc := 114) (v := 14) (lv' := [(6, .int 14), (7, .int xi3), (0, .ref ad0), (1, .int xi0), (2, .int xi1), (3, .int xi2), (4, .int xi3), (5, .int xi4)]) hx hb dX12_feed_114 hl115 (k := 1) rfl (by decide) (by decide) rfl (fun ls119 hl119 => ?_)
  clear hl115 ls115
  refine lv_goto (pc := 117) (tgt := 23) hx hb dX12_feed_117 (by decide) ?_
  refine lv_iload (pc := 23) hx hb dX12_feed_23 (lv_at hl119 0 rfl) ?_
  refine lv_bipush (pc := 25) (v := 20) hx hb dX12_feed_25 (by decide) ?_
  refine lv_icmp_ge (pc := 27) (tgt := 120) hx hb dX12_feed_27 (by decide) (fun c120 => absurd c120 (by decide)) (fun c120 => ?_)
  refine lv_iload (pc := 30) hx hb dX12_feed_30 (lv_at hl119 0 rfl) ?_
  refine lv_iconst (pc := 32) (v := 4) hx hb dX12_feed_32 (by decide) ?_
  refine lv_icmp_ge (pc := 33) (tgt := 40) hx hb dX12_feed_33 (by decide) (fun c121 => ?_) (fun c121 => absurd (by decide) c121)
  refine lv_iload (pc := 40) hx hb dX12_feed_40 (lv_at hl119 0 rfl) ?_
  refine lv_bipush (pc := 42) (v := 8) hx hb dX12_feed_42 (by decide) ?_
  refine lv_icmp_ge (pc := 44) (tgt := 51) hx hb dX12_feed_44 (by decide) (fun c122 => ?_) (fun c122 => absurd (by decide) c122)
  refine lv_iload (pc := 51) hx hb dX12_feed_51 (lv_at hl119 0 rfl) ?_
  refine lv_bipush (pc := 53) (v := 12) hx hb dX12_feed_53 (by decide) ?_
  refine lv_icmp_ge (pc := 55) (tgt := 62) hx hb dX12_feed_55 (by decide) (fun c123 => ?_) (fun c123 => absurd (by decide) c123)
  refine lv_iload (pc := 62) hx hb dX12_feed_62 (lv_at hl119 0 rfl) ?_
  refine lv_bipush (pc := 64) (v := 16) hx hb dX12_feed_64 (by decide) ?_
  refine lv_icmp_ge (pc := 66) (tgt := 74) hx hb dX12_feed_66 (by decide) (fun c124 => absurd c124 (by decide)) (fun c124 => ?_)
  refine lv_iload (pc := 69) hx hb dX12_feed_69 (lv_at hl119 6 rfl) ?_
  refine lv_goto (pc := 71) (tgt := 76) hx hb dX12_feed_71 (by decide) ?_
  refine lv_istore (pc := 76) (lv' := [(7, .int xi3), (6, .int 14), (0, .ref ad0), (1, .int xi0), (2, .int xi1), (3, .int xi2), (4, .int xi3), (5, .int xi4)]) hx hb dX12_feed_76 hl119 (by decide) rfl (fun ls125 hl125 => ?_)
  clear hl119 ls119
  refine lv_aload_n (pc := 78) hx hb dX12_feed_78 rfl (lv_at hl125 2 rfl) ?_
  refine ob_get (pc := 79) (v := .ref ad1) (ci := 12) (C := RX12) (T := TX12) (N := 114) hx hb hG in_X12 hown hK hP118 0 rfl rfl 31 (by decide) (hG _ g_379) rfl h0_31 dX12_feed_79 ?_
  refine lv_aload_n (pc := 82) hx hb dX12_feed_82 rfl (lv_at hl125 2 rfl) ?_
  refine ob_get (pc := 83) (v := .int 14) (ci := 12) (C := RX12) (T := TX12) (N := 114) hx hb hG in_X12 hown hK hP118 0 rfl rfl 32 (by decide) (hG _ g_435) rfl rfl dX12_feed_83 ?_
  refine lv_iload (pc := 86) hx hb dX12_feed_86 (lv_at hl125 0 rfl) ?_
  refine lv_bipush (pc := 88) (v := 24) hx hb dX12_feed_88 (by decide) ?_
  refine lv_bipush (pc := 90) (v := 8) hx hb dX12_feed_90 (by decide) ?_
  refine lv_iload (pc := 92) hx hb dX12_feed_92 (lv_at hl125 1 rfl) ?_
  refine lv_iconst (pc := 94) (v := 4) hx hb dX12_feed_94 (by decide) ?_
  refine lv_irem (pc := 95) hx hb dX12_feed_95 (by decide) ?_
  refine tp_i (y := 2) (by decide) ?_
  refine lv_imul (pc := 96) hx hb dX12_feed_96 ?_
  refine tp_i (y := 16) (by decide) ?_
  refine lv_isub (pc := 97) hx hb dX12_feed_97 ?_
  refine tp_i (y := 8) (by decide) ?_
  refine lv_ishr (pc := 98) hx hb dX12_feed_98 ?_
  refine lv_sipush (pc := 99) (v := 255) hx hb dX12_feed_99 (by decide) ?_
  refine lv_iand (pc := 102) hx hb dX12_feed_102 ?_
  refine va_iast (pc := 103) hx hb hK hP118 hD118 hS118 1 0 rfl rfl (show ¬ ((14 : Int32) < 0 ∨ 2000 ≤ (14 : Int32).toNatClampNeg) by decide) dX12_feed_103 (fun H126 lo126 hP126r hD126r hS126 => ?_)
  have hP126 : va_P D classes [(ad0, ob 12 114 (vup (vup (vup (vup (vup (vup (vup (vup (vup (vup (vup (vup (vup (vup (vup fn0 0 (.int 0)) 32 (.int 1)) 32 (.int 2)) 32 (.int 3)) 32 (.int 4)) 32 (.int 5)) 32 (.int 6)) 32 (.int 7)) 32 (.int 8)) 32 (.int 9)) 32 (.int 10)) 32 (.int 11)) 32 (.int 12)) 32 (.int 13)) 32 (.int 14))), (ad1, ari (cy 0) 2000 (upd nc117 (14 : Int32).toNatClampNeg ((xi3 >>> (8 &&& 31)) &&& 255)))] H126 := hP126r
  have hD126 : va_D A [(ad0, ob 12 114 (vup (vup (vup (vup (vup (vup (vup (vup (vup (vup (vup (vup (vup (vup (vup fn0 0 (.int 0)) 32 (.int 1)) 32 (.int 2)) 32 (.int 3)) 32 (.int 4)) 32 (.int 5)) 32 (.int 6)) 32 (.int 7)) 32 (.int 8)) 32 (.int 9)) 32 (.int 10)) 32 (.int 11)) 32 (.int 12)) 32 (.int 13)) 32 (.int 14))), (ad1, ari (cy 0) 2000 (upd nc117 (14 : Int32).toNatClampNeg ((xi3 >>> (8 &&& 31)) &&& 255)))] := hD126r
  clear hP126r hD126r
  generalize (upd nc117 (14 : Int32).toNatClampNeg ((xi3 >>> (8 &&& 31)) &&& 255)) = nc127 at hP126 hD126
  clear hP118 hD118 hS118
  clear H118 lo118
  refine lv_aload_n (pc := 104) hx hb dX12_feed_104 rfl (lv_at hl125 2 rfl) ?_
  refine lv_dup (pc := 105) hx hb dX12_feed_105 rfl ?_
  refine ob_get (pc := 106) (v := .int 14) (ci := 12) (C := RX12) (T := TX12) (N := 114) hx hb hG in_X12 hown hK hP126 0 rfl rfl 32 (by decide) (hG _ g_435) rfl rfl dX12_feed_106 ?_
  refine lv_iconst (pc := 109) (v := 1) hx hb dX12_feed_109 (by decide) ?_
  refine lv_iadd (pc := 110) hx hb dX12_feed_110 ?_
  refine tp_i (y := 15) (by decide) ?_
  refine ob_put (pc := 111) (v := .int 15) (ci := 12) (C := RX12) (T := TX12) (N := 114) hx hb hG in_X12 tyX12 tyX12_ok nmX12 hown hK hP126 hD126 hS126 0 rfl rfl 32 (by decide) (hG _ g_435) rfl rfl rfl rfl dX12_feed_111 (ws' := [(ad0, ob 12 114 (vup (vup (vup (vup (vup (vup (vup (vup (vup (vup (vup (vup (vup (vup (vup (vup fn0 0 (.int 0)) 32 (.int 1)) 32 (.int 2)) 32 (.int 3)) 32 (.int 4)) 32 (.int 5)) 32 (.int 6)) 32 (.int 7)) 32 (.int 8)) 32 (.int 9)) 32 (.int 10)) 32 (.int 11)) 32 (.int 12)) 32 (.int 13)) 32 (.int 14)) 32 (.int 15))), (ad1, ari (cy 0) 2000 nc127)]) rfl (fun H128 lo128 hP128 hD128 hS128 => ?_)
  clear hP126 hD126 hS126
  clear H126 lo126
  refine lv_iinc (pc := 114) (v := 15) (lv' := [(6, .int 15), (7, .int xi3), (0, .ref ad0), (1, .int xi0), (2, .int xi1), (3, .int xi2), (4, .int xi3), (5, .int xi4)]) hx hb dX12_feed_114 hl125 (k := 1) rfl (by decide) (by decide) rfl (fun ls129 hl129 => ?_)
  clear hl125 ls125
  refine lv_goto (pc := 117) (tgt := 23) hx hb dX12_feed_117 (by decide) ?_
  refine lv_iload (pc := 23) hx hb dX12_feed_23 (lv_at hl129 0 rfl) ?_
  refine lv_bipush (pc := 25) (v := 20) hx hb dX12_feed_25 (by decide) ?_
  refine lv_icmp_ge (pc := 27) (tgt := 120) hx hb dX12_feed_27 (by decide) (fun c130 => absurd c130 (by decide)) (fun c130 => ?_)
  refine lv_iload (pc := 30) hx hb dX12_feed_30 (lv_at hl129 0 rfl) ?_
  refine lv_iconst (pc := 32) (v := 4) hx hb dX12_feed_32 (by decide) ?_
  refine lv_icmp_ge (pc := 33) (tgt := 40) hx hb dX12_feed_33 (by decide) (fun c131 => ?_) (fun c131 => absurd (by decide) c131)
  refine lv_iload (pc := 40) hx hb dX12_feed_40 (lv_at hl129 0 rfl) ?_
  refine lv_bipush (pc := 42) (v := 8) hx hb dX12_feed_42 (by decide) ?_
  refine lv_icmp_ge (pc := 44) (tgt := 51) hx hb dX12_feed_44 (by decide) (fun c132 => ?_) (fun c132 => absurd (by decide) c132)
  refine lv_iload (pc := 51) hx hb dX12_feed_51 (lv_at hl129 0 rfl) ?_
  refine lv_bipush (pc := 53) (v := 12) hx hb dX12_feed_53 (by decide) ?_
  refine lv_icmp_ge (pc := 55) (tgt := 62) hx hb dX12_feed_55 (by decide) (fun c133 => ?_) (fun c133 => absurd (by decide) c133)
  refine lv_iload (pc := 62) hx hb dX12_feed_62 (lv_at hl129 0 rfl) ?_
  refine lv_bipush (pc := 64) (v := 16) hx hb dX12_feed_64 (by decide) ?_
  refine lv_icmp_ge (pc := 66) (tgt := 74) hx hb dX12_feed_66 (by decide) (fun c134 => absurd c134 (by decide)) (fun c134 => ?_)
  refine lv_iload (pc := 69) hx hb dX12_feed_69 (lv_at hl129 6 rfl) ?_
  refine lv_goto (pc := 71) (tgt := 76) hx hb dX12_feed_71 (by decide) ?_
  refine lv_istore (pc := 76) (lv' := [(7, .int xi3), (6, .int 15), (0, .ref ad0), (1, .int xi0), (2, .int xi1), (3, .int xi2), (4, .int xi3), (5, .int xi4)]) hx hb dX12_feed_76 hl129 (by decide) rfl (fun ls135 hl135 => ?_)
  clear hl129 ls129
  refine lv_aload_n (pc := 78) hx hb dX12_feed_78 rfl (lv_at hl135 2 rfl) ?_
  refine ob_get (pc := 79) (v := .ref ad1) (ci := 12) (C := RX12) (T := TX12) (N := 114) hx hb hG in_X12 hown hK hP128 0 rfl rfl 31 (by decide) (hG _ g_379) rfl h0_31 dX12_feed_79 ?_
  refine lv_aload_n (pc := 82) hx hb dX12_feed_82 rfl (lv_at hl135 2 rfl) ?_
  refine ob_get (pc := 83) (v := .int 15) (ci := 12) (C := RX12) (T := TX12) (N := 114) hx hb hG in_X12 hown hK hP128 0 rfl rfl 32 (by decide) (hG _ g_435) rfl rfl dX12_feed_83 ?_
  refine lv_iload (pc := 86) hx hb dX12_feed_86 (lv_at hl135 0 rfl) ?_
  refine lv_bipush (pc := 88) (v := 24) hx hb dX12_feed_88 (by decide) ?_
  refine lv_bipush (pc := 90) (v := 8) hx hb dX12_feed_90 (by decide) ?_
  refine lv_iload (pc := 92) hx hb dX12_feed_92 (lv_at hl135 1 rfl) ?_
  refine lv_iconst (pc := 94) (v := 4) hx hb dX12_feed_94 (by decide) ?_
  refine lv_irem (pc := 95) hx hb dX12_feed_95 (by decide) ?_
  refine tp_i (y := 3) (by decide) ?_
  refine lv_imul (pc := 96) hx hb dX12_feed_96 ?_
  refine tp_i (y := 24) (by decide) ?_
  refine lv_isub (pc := 97) hx hb dX12_feed_97 ?_
  refine tp_i (y := 0) (by decide) ?_
  refine lv_ishr (pc := 98) hx hb dX12_feed_98 ?_
  refine lv_sipush (pc := 99) (v := 255) hx hb dX12_feed_99 (by decide) ?_
  refine lv_iand (pc := 102) hx hb dX12_feed_102 ?_
  refine va_iast (pc := 103) hx hb hK hP128 hD128 hS128 1 0 rfl rfl (show ¬ ((15 : Int32) < 0 ∨ 2000 ≤ (15 : Int32).toNatClampNeg) by decide) dX12_feed_103 (fun H136 lo136 hP136r hD136r hS136 => ?_)
  have hP136 : va_P D classes [(ad0, ob 12 114 (vup (vup (vup (vup (vup (vup (vup (vup (vup (vup (vup (vup (vup (vup (vup (vup fn0 0 (.int 0)) 32 (.int 1)) 32 (.int 2)) 32 (.int 3)) 32 (.int 4)) 32 (.int 5)) 32 (.int 6)) 32 (.int 7)) 32 (.int 8)) 32 (.int 9)) 32 (.int 10)) 32 (.int 11)) 32 (.int 12)) 32 (.int 13)) 32 (.int 14)) 32 (.int 15))), (ad1, ari (cy 0) 2000 (upd nc127 (15 : Int32).toNatClampNeg ((xi3 >>> (0 &&& 31)) &&& 255)))] H136 := hP136r
  have hD136 : va_D A [(ad0, ob 12 114 (vup (vup (vup (vup (vup (vup (vup (vup (vup (vup (vup (vup (vup (vup (vup (vup fn0 0 (.int 0)) 32 (.int 1)) 32 (.int 2)) 32 (.int 3)) 32 (.int 4)) 32 (.int 5)) 32 (.int 6)) 32 (.int 7)) 32 (.int 8)) 32 (.int 9)) 32 (.int 10)) 32 (.int 11)) 32 (.int 12)) 32 (.int 13)) 32 (.int 14)) 32 (.int 15))), (ad1, ari (cy 0) 2000 (upd nc127 (15 : Int32).toNatClampNeg ((xi3 >>> (0 &&& 31)) &&& 255)))] := hD136r
  clear hP136r hD136r
  generalize (upd nc127 (15 : Int32).toNatClampNeg ((xi3 >>> (0 &&& 31)) &&& 255)) = nc137 at hP136 hD136
  clear hP128 hD128 hS128
  clear H128 lo128
  refine lv_aload_n (pc := 104) hx hb dX12_feed_104 rfl (lv_at hl135 2 rfl) ?_
  refine lv_dup (pc := 105) hx hb dX12_feed_105 rfl ?_
  refine ob_get (pc := 106) (v := .int 15) (ci := 12) (C := RX12) (T := TX12) (N := 114) hx hb hG in_X12 hown hK hP136 0 rfl rfl 32 (by decide) (hG _ g_435) rfl rfl dX12_feed_106 ?_
  refine lv_iconst (pc := 109) (v := 1) hx hb dX12_feed_109 (by decide) ?_
  refine lv_iadd (pc := 110) hx hb dX12_feed_110 ?_
  refine tp_i (y := 16) (by decide) ?_
  refine ob_put (pc := 111) (v := .int 16) (ci := 12) (C := RX12) (T := TX12) (N := 114) hx hb hG in_X12 tyX12 tyX12_ok nmX12 hown hK hP136 hD136 hS136 0 rfl rfl 32 (by decide) (hG _ g_435) rfl rfl rfl rfl dX12_feed_111 (ws' := [(ad0, ob 12 114 (vup (vup (vup (vup (vup (vup (vup (vup (vup (vup (vup (vup (vup (vup (vup (vup (vup fn0 0 (.int 0)) 32 (.int 1)) 32 (.int 2)) 32 (.int 3)) 32 (.int 4)) 32 (.int 5)) 32 (.int 6)) 32 (.int 7)) 32 (.int 8)) 32 (.int 9)) 32 (.int 10)) 32 (.int 11)) 32 (.int 12)) 32 (.int 13)) 32 (.int 14)) 32 (.int 15)) 32 (.int 16))), (ad1, ari (cy 0) 2000 nc137)]) rfl (fun H138 lo138 hP138 hD138 hS138 => ?_)
  clear hP136 hD136 hS136
  clear H136 lo136
  refine lv_iinc (pc := 114) (v := 16) (lv' := [(6, .int 16), (7, .int xi3), (0, .ref ad0), (1, .int xi0), (2, .int xi1), (3, .int xi2), (4, .int xi3), (5, .int xi4)]) hx hb dX12_feed_114 hl135 (k := 1) rfl (by decide) (by decide) rfl (fun ls139 hl139 => ?_)
  clear hl135 ls135
  refine lv_goto (pc := 117) (tgt := 23) hx hb dX12_feed_117 (by decide) ?_
  refine lv_iload (pc := 23) hx hb dX12_feed_23 (lv_at hl139 0 rfl) ?_
  refine lv_bipush (pc := 25) (v := 20) hx hb dX12_feed_25 (by decide) ?_
  refine lv_icmp_ge (pc := 27) (tgt := 120) hx hb dX12_feed_27 (by decide) (fun c140 => absurd c140 (by decide)) (fun c140 => ?_)
  refine lv_iload (pc := 30) hx hb dX12_feed_30 (lv_at hl139 0 rfl) ?_
  refine lv_iconst (pc := 32) (v := 4) hx hb dX12_feed_32 (by decide) ?_
  refine lv_icmp_ge (pc := 33) (tgt := 40) hx hb dX12_feed_33 (by decide) (fun c141 => ?_) (fun c141 => absurd (by decide) c141)
  refine lv_iload (pc := 40) hx hb dX12_feed_40 (lv_at hl139 0 rfl) ?_
  refine lv_bipush (pc := 42) (v := 8) hx hb dX12_feed_42 (by decide) ?_
  refine lv_icmp_ge (pc := 44) (tgt := 51) hx hb dX12_feed_44 (by decide) (fun c142 => ?_) (fun c142 => absurd (by decide) c142)
  refine lv_iload (pc := 51) hx hb dX12_feed_51 (lv_at hl139 0 rfl) ?_
  refine lv_bipush (pc := 53) (v := 12) hx hb dX12_feed_53 (by decide) ?_
  refine lv_icmp_ge (pc := 55) (tgt := 62) hx hb dX12_feed_55 (by decide) (fun c143 => ?_) (fun c143 => absurd (by decide) c143)
  refine lv_iload (pc := 62) hx hb dX12_feed_62 (lv_at hl139 0 rfl) ?_
  refine lv_bipush (pc := 64) (v := 16) hx hb dX12_feed_64 (by decide) ?_
  refine lv_icmp_ge (pc := 66) (tgt := 74) hx hb dX12_feed_66 (by decide) (fun c144 => ?_) (fun c144 => absurd (by decide) c144)
  refine lv_iload (pc := 74) hx hb dX12_feed_74 (lv_at hl139 7 rfl) ?_
  refine lv_istore (pc := 76) (lv' := [(7, .int xi4), (6, .int 16), (0, .ref ad0), (1, .int xi0), (2, .int xi1), (3, .int xi2), (4, .int xi3), (5, .int xi4)]) hx hb dX12_feed_76 hl139 (by decide) rfl (fun ls145 hl145 => ?_)
  clear hl139 ls139
  refine lv_aload_n (pc := 78) hx hb dX12_feed_78 rfl (lv_at hl145 2 rfl) ?_
  refine ob_get (pc := 79) (v := .ref ad1) (ci := 12) (C := RX12) (T := TX12) (N := 114) hx hb hG in_X12 hown hK hP138 0 rfl rfl 31 (by decide) (hG _ g_379) rfl h0_31 dX12_feed_79 ?_
  refine lv_aload_n (pc := 82) hx hb dX12_feed_82 rfl (lv_at hl145 2 rfl) ?_
  refine ob_get (pc := 83) (v := .int 16) (ci := 12) (C := RX12) (T := TX12) (N := 114) hx hb hG in_X12 hown hK hP138 0 rfl rfl 32 (by decide) (hG _ g_435) rfl rfl dX12_feed_83 ?_
  refine lv_iload (pc := 86) hx hb dX12_feed_86 (lv_at hl145 0 rfl) ?_
  refine lv_bipush (pc := 88) (v := 24) hx hb dX12_feed_88 (by decide) ?_
  refine lv_bipush (pc := 90) (v := 8) hx hb dX12_feed_90 (by decide) ?_
  refine lv_iload (pc := 92) hx hb dX12_feed_92 (lv_at hl145 1 rfl) ?_
  refine lv_iconst (pc := 94) (v := 4) hx hb dX12_feed_94 (by decide) ?_
  refine lv_irem (pc := 95) hx hb dX12_feed_95 (by decide) ?_
  refine tp_i (y := 0) (by decide) ?_
  refine lv_imul (pc := 96) hx hb dX12_feed_96 ?_
  refine tp_i (y := 0) (by decide) ?_
  refine lv_isub (pc := 97) hx hb dX12_feed_97 ?_
  refine tp_i (y := 24) (by decide) ?_
  refine lv_ishr (pc := 98) hx hb dX12_feed_98 ?_
  refine lv_sipush (pc := 99) (v := 255) hx hb dX12_feed_99 (by decide) ?_
  refine lv_iand (pc := 102) hx hb dX12_feed_102 ?_
  refine va_iast (pc := 103) hx hb hK hP138 hD138 hS138 1 0 rfl rfl (show ¬ ((16 : Int32) < 0 ∨ 2000 ≤ (16 : Int32).toNatClampNeg) by decide) dX12_feed_103 (fun H146 lo146 hP146r hD146r hS146 => ?_)
  have hP146 : va_P D classes [(ad0, ob 12 114 (vup (vup (vup (vup (vup (vup (vup (vup (vup (vup (vup (vup (vup (vup (vup (vup (vup fn0 0 (.int 0)) 32 (.int 1)) 32 (.int 2)) 32 (.int 3)) 32 (.int 4)) 32 (.int 5)) 32 (.int 6)) 32 (.int 7)) 32 (.int 8)) 32 (.int 9)) 32 (.int 10)) 32 (.int 11)) 32 (.int 12)) 32 (.int 13)) 32 (.int 14)) 32 (.int 15)) 32 (.int 16))), (ad1, ari (cy 0) 2000 (upd nc137 (16 : Int32).toNatClampNeg ((xi4 >>> (24 &&& 31)) &&& 255)))] H146 := hP146r
  have hD146 : va_D A [(ad0, ob 12 114 (vup (vup (vup (vup (vup (vup (vup (vup (vup (vup (vup (vup (vup (vup (vup (vup (vup fn0 0 (.int 0)) 32 (.int 1)) 32 (.int 2)) 32 (.int 3)) 32 (.int 4)) 32 (.int 5)) 32 (.int 6)) 32 (.int 7)) 32 (.int 8)) 32 (.int 9)) 32 (.int 10)) 32 (.int 11)) 32 (.int 12)) 32 (.int 13)) 32 (.int 14)) 32 (.int 15)) 32 (.int 16))), (ad1, ari (cy 0) 2000 (upd nc137 (16 : Int32).toNatClampNeg ((xi4 >>> (24 &&& 31)) &&& 255)))] := hD146r
  clear hP146r hD146r
  generalize (upd nc137 (16 : Int32).toNatClampNeg ((xi4 >>> (24 &&& 31)) &&& 255)) = nc147 at hP146 hD146
  clear hP138 hD138 hS138
  clear H138 lo138
  refine lv_aload_n (pc := 104) hx hb dX12_feed_104 rfl (lv_at hl145 2 rfl) ?_
  refine lv_dup (pc := 105) hx hb dX12_feed_105 rfl ?_
  refine ob_get (pc := 106) (v := .int 16) (ci := 12) (C := RX12) (T := TX12) (N := 114) hx hb hG in_X12 hown hK hP146 0 rfl rfl 32 (by decide) (hG _ g_435) rfl rfl dX12_feed_106 ?_
  refine lv_iconst (pc := 109) (v := 1) hx hb dX12_feed_109 (by decide) ?_
  refine lv_iadd (pc := 110) hx hb dX12_feed_110 ?_
  refine tp_i (y := 17) (by decide) ?_
  refine ob_put (pc := 111) (v := .int 17) (ci := 12) (C := RX12) (T := TX12) (N := 114) hx hb hG in_X12 tyX12 tyX12_ok nmX12 hown hK hP146 hD146 hS146 0 rfl rfl 32 (by decide) (hG _ g_435) rfl rfl rfl rfl dX12_feed_111 (ws' := [(ad0, ob 12 114 (vup (vup (vup (vup (vup (vup (vup (vup (vup (vup (vup (vup (vup (vup (vup (vup (vup (vup fn0 0 (.int 0)) 32 (.int 1)) 32 (.int 2)) 32 (.int 3)) 32 (.int 4)) 32 (.int 5)) 32 (.int 6)) 32 (.int 7)) 32 (.int 8)) 32 (.int 9)) 32 (.int 10)) 32 (.int 11)) 32 (.int 12)) 32 (.int 13)) 32 (.int 14)) 32 (.int 15)) 32 (.int 16)) 32 (.int 17))), (ad1, ari (cy 0) 2000 nc147)]) rfl (fun H148 lo148 hP148 hD148 hS148 => ?_)
  clear hP146 hD146 hS146
  clear H146 lo146
  refine lv_iinc (pc := 114) (v := 17) (lv' := [(6, .int 17), (7, .int xi4), (0, .ref ad0), (1, .int xi0), (2, .int xi1), (3, .int xi2), (4, .int xi3), (5, .int xi4)]) hx hb dX12_feed_114 hl145 (k := 1) rfl (by decide) (by decide) rfl (fun ls149 hl149 => ?_)
  clear hl145 ls145
  refine lv_goto (pc := 117) (tgt := 23) hx hb dX12_feed_117 (by decide) ?_
  refine lv_iload (pc := 23) hx hb dX12_feed_23 (lv_at hl149 0 rfl) ?_
  refine lv_bipush (pc := 25) (v := 20) hx hb dX12_feed_25 (by decide) ?_
  refine lv_icmp_ge (pc := 27) (tgt := 120) hx hb dX12_feed_27 (by decide) (fun c150 => absurd c150 (by decide)) (fun c150 => ?_)
  refine lv_iload (pc := 30) hx hb dX12_feed_30 (lv_at hl149 0 rfl) ?_
  refine lv_iconst (pc := 32) (v := 4) hx hb dX12_feed_32 (by decide) ?_
  refine lv_icmp_ge (pc := 33) (tgt := 40) hx hb dX12_feed_33 (by decide) (fun c151 => ?_) (fun c151 => absurd (by decide) c151)
  refine lv_iload (pc := 40) hx hb dX12_feed_40 (lv_at hl149 0 rfl) ?_
  refine lv_bipush (pc := 42) (v := 8) hx hb dX12_feed_42 (by decide) ?_
  refine lv_icmp_ge (pc := 44) (tgt := 51) hx hb dX12_feed_44 (by decide) (fun c152 => ?_) (fun c152 => absurd (by decide) c152)
  refine lv_iload (pc := 51) hx hb dX12_feed_51 (lv_at hl149 0 rfl) ?_
  refine lv_bipush (pc := 53) (v := 12) hx hb dX12_feed_53 (by decide) ?_
  refine lv_icmp_ge (pc := 55) (tgt := 62) hx hb dX12_feed_55 (by decide) (fun c153 => ?_) (fun c153 => absurd (by decide) c153)
  refine lv_iload (pc := 62) hx hb dX12_feed_62 (lv_at hl149 0 rfl) ?_
  refine lv_bipush (pc := 64) (v := 16) hx hb dX12_feed_64 (by decide) ?_
  refine lv_icmp_ge (pc := 66) (tgt := 74) hx hb dX12_feed_66 (by decide) (fun c154 => ?_) (fun c154 => absurd (by decide) c154)
  refine lv_iload (pc := 74) hx hb dX12_feed_74 (lv_at hl149 7 rfl) ?_
  refine lv_istore (pc := 76) (lv' := [(7, .int xi4), (6, .int 17), (0, .ref ad0), (1, .int xi0), (2, .int xi1), (3, .int xi2), (4, .int xi3), (5, .int xi4)]) hx hb dX12_feed_76 hl149 (by decide) rfl (fun ls155 hl155 => ?_)
  clear hl149 ls149
  refine lv_aload_n (pc := 78) hx hb dX12_feed_78 rfl (lv_at hl155 2 rfl) ?_
  refine ob_get (pc := 79) (v := .ref ad1) (ci := 12) (C := RX12) (T := TX12) (N := 114) hx hb hG in_X12 hown hK hP148 0 rfl rfl 31 (by decide) (hG _ g_379) rfl h0_31 dX12_feed_79 ?_
  refine lv_aload_n (pc := 82) hx hb dX12_feed_82 rfl (lv_at hl155 2 rfl) ?_
  refine ob_get (pc := 83) (v := .int 17) (ci := 12) (C := RX12) (T := TX12) (N := 114) hx hb hG in_X12 hown hK hP148 0 rfl rfl 32 (by decide) (hG _ g_435) rfl rfl dX12_feed_83 ?_
  refine lv_iload (pc := 86) hx hb dX12_feed_86 (lv_at hl155 0 rfl) ?_
  refine lv_bipush (pc := 88) (v := 24) hx hb dX12_feed_88 (by decide) ?_
  refine lv_bipush (pc := 90) (v := 8) hx hb dX12_feed_90 (by decide) ?_
  refine lv_iload (pc := 92) hx hb dX12_feed_92 (lv_at hl155 1 rfl) ?_
  refine lv_iconst (pc := 94) (v := 4) hx hb dX12_feed_94 (by decide) ?_
  refine lv_irem (pc := 95) hx hb dX12_feed_95 (by decide) ?_
  refine tp_i (y := 1) (by decide) ?_
  refine lv_imul (pc := 96) hx hb dX12_feed_96 ?_
  refine tp_i (y := 8) (by decide) ?_
  refine lv_isub (pc := 97) hx hb dX12_feed_97 ?_
  refine tp_i (y := 16) (by decide) ?_
  refine lv_ishr (pc := 98) hx hb dX12_feed_98 ?_
  refine lv_sipush (pc := 99) (v := 255) hx hb dX12_feed_99 (by decide) ?_
  refine lv_iand (pc := 102) hx hb dX12_feed_102 ?_
  refine va_iast (pc := 103) hx hb hK hP148 hD148 hS148 1 0 rfl rfl (show ¬ ((17 : Int32) < 0 ∨ 2000 ≤ (17 : Int32).toNatClampNeg) by decide) dX12_feed_103 (fun H156 lo156 hP156r hD156r hS156 => ?_)
  have hP156 : va_P D classes [(ad0, ob 12 114 (vup (vup (vup (vup (vup (vup (vup (vup (vup (vup (vup (vup (vup (vup (vup (vup (vup (vup fn0 0 (.int 0)) 32 (.int 1)) 32 (.int 2)) 32 (.int 3)) 32 (.int 4)) 32 (.int 5)) 32 (.int 6)) 32 (.int 7)) 32 (.int 8)) 32 (.int 9)) 32 (.int 10)) 32 (.int 11)) 32 (.int 12)) 32 (.int 13)) 32 (.int 14)) 32 (.int 15)) 32 (.int 16)) 32 (.int 17))), (ad1, ari (cy 0) 2000 (upd nc147 (17 : Int32).toNatClampNeg ((xi4 >>> (16 &&& 31)) &&& 255)))] H156 := hP156r
  have hD156 : va_D A [(ad0, ob 12 114 (vup (vup (vup (vup (vup (vup (vup (vup (vup (vup (vup (vup (vup (vup (vup (vup (vup (vup fn0 0 (.int 0)) 32 (.int 1)) 32 (.int 2)) 32 (.int 3)) 32 (.int 4)) 32 (.int 5)) 32 (.int 6)) 32 (.int 7)) 32 (.int 8)) 32 (.int 9)) 32 (.int 10)) 32 (.int 11)) 32 (.int 12)) 32 (.int 13)) 32 (.int 14)) 32 (.int 15)) 32 (.int 16)) 32 (.int 17))), (ad1, ari (cy 0) 2000 (upd nc147 (17 : Int32).toNatClampNeg ((xi4 >>> (16 &&& 31)) &&& 255)))] := hD156r
  clear hP156r hD156r
  generalize (upd nc147 (17 : Int32).toNatClampNeg ((xi4 >>> (16 &&& 31)) &&& 255)) = nc157 at hP156 hD156
  clear hP148 hD148 hS148
  clear H148 lo148
  refine lv_aload_n (pc := 104) hx hb dX12_feed_104 rfl (lv_at hl155 2 rfl) ?_
  refine lv_dup (pc := 105) hx hb dX12_feed_105 rfl ?_
  refine ob_get (pc := 106) (v := .int 17) (ci := 12) (C := RX12) (T := TX12) (N := 114) hx hb hG in_X12 hown hK hP156 0 rfl rfl 32 (by decide) (hG _ g_435) rfl rfl dX12_feed_106 ?_
  refine lv_iconst (pc := 109) (v := 1) hx hb dX12_feed_109 (by decide) ?_
  refine lv_iadd (pc := 110) hx hb dX12_feed_110 ?_
  refine tp_i (y := 18) (by decide) ?_
  refine ob_put (pc := 111) (v := .int 18) (ci := 12) (C := RX12) (T := TX12) (N := 114) hx hb hG in_X12 tyX12 tyX12_ok nmX12 hown hK hP156 hD156 hS156 0 rfl rfl 32 (by decide) (hG _ g_435) rfl rfl rfl rfl dX12_feed_111 (ws' := [(ad0, ob 12 114 (vup (vup (vup (vup (vup (vup (vup (vup (vup (vup (vup (vup (vup (vup (vup (vup (vup (vup (vup fn0 0 (.int 0)) 32 (.int 1)) 32 (.int 2)) 32 (.int 3)) 32 (.int 4)) 32 (.int 5)) 32 (.int 6)) 32 (.int 7)) 32 (.int 8)) 32 (.int 9)) 32 (.int 10)) 32 (.int 11)) 32 (.int 12)) 32 (.int 13)) 32 (.int 14)) 32 (.int 15)) 32 (.int 16)) 32 (.int 17)) 32 (.int 18))), (ad1, ari (cy 0) 2000 nc157)]) rfl (fun H158 lo158 hP158 hD158 hS158 => ?_)
  clear hP156 hD156 hS156
  clear H156 lo156
  refine lv_iinc (pc := 114) (v := 18) (lv' := [(6, .int 18), (7, .int xi4), (0, .ref ad0), (1, .int xi0), (2, .int xi1), (3, .int xi2), (4, .int xi3), (5, .int xi4)]) hx hb dX12_feed_114 hl155 (k := 1) rfl (by decide) (by decide) rfl (fun ls159 hl159 => ?_)
  clear hl155 ls155
  refine lv_goto (pc := 117) (tgt := 23) hx hb dX12_feed_117 (by decide) ?_
  refine lv_iload (pc := 23) hx hb dX12_feed_23 (lv_at hl159 0 rfl) ?_
  refine lv_bipush (pc := 25) (v := 20) hx hb dX12_feed_25 (by decide) ?_
  refine lv_icmp_ge (pc := 27) (tgt := 120) hx hb dX12_feed_27 (by decide) (fun c160 => absurd c160 (by decide)) (fun c160 => ?_)
  refine lv_iload (pc := 30) hx hb dX12_feed_30 (lv_at hl159 0 rfl) ?_
  refine lv_iconst (pc := 32) (v := 4) hx hb dX12_feed_32 (by decide) ?_
  refine lv_icmp_ge (pc := 33) (tgt := 40) hx hb dX12_feed_33 (by decide) (fun c161 => ?_) (fun c161 => absurd (by decide) c161)
  refine lv_iload (pc := 40) hx hb dX12_feed_40 (lv_at hl159 0 rfl) ?_
  refine lv_bipush (pc := 42) (v := 8) hx hb dX12_feed_42 (by decide) ?_
  refine lv_icmp_ge (pc := 44) (tgt := 51) hx hb dX12_feed_44 (by decide) (fun c162 => ?_) (fun c162 => absurd (by decide) c162)
  refine lv_iload (pc := 51) hx hb dX12_feed_51 (lv_at hl159 0 rfl) ?_
  refine lv_bipush (pc := 53) (v := 12) hx hb dX12_feed_53 (by decide) ?_
  refine lv_icmp_ge (pc := 55) (tgt := 62) hx hb dX12_feed_55 (by decide) (fun c163 => ?_) (fun c163 => absurd (by decide) c163)
  refine lv_iload (pc := 62) hx hb dX12_feed_62 (lv_at hl159 0 rfl) ?_
  refine lv_bipush (pc := 64) (v := 16) hx hb dX12_feed_64 (by decide) ?_
  refine lv_icmp_ge (pc := 66) (tgt := 74) hx hb dX12_feed_66 (by decide) (fun c164 => ?_) (fun c164 => absurd (by decide) c164)
  refine lv_iload (pc := 74) hx hb dX12_feed_74 (lv_at hl159 7 rfl) ?_
  refine lv_istore (pc := 76) (lv' := [(7, .int xi4), (6, .int 18), (0, .ref ad0), (1, .int xi0), (2, .int xi1), (3, .int xi2), (4, .int xi3), (5, .int xi4)]) hx hb dX12_feed_76 hl159 (by decide) rfl (fun ls165 hl165 => ?_)
  clear hl159 ls159
  refine lv_aload_n (pc := 78) hx hb dX12_feed_78 rfl (lv_at hl165 2 rfl) ?_
  refine ob_get (pc := 79) (v := .ref ad1) (ci := 12) (C := RX12) (T := TX12) (N := 114) hx hb hG in_X12 hown hK hP158 0 rfl rfl 31 (by decide) (hG _ g_379) rfl h0_31 dX12_feed_79 ?_
  refine lv_aload_n (pc := 82) hx hb dX12_feed_82 rfl (lv_at hl165 2 rfl) ?_
  refine ob_get (pc := 83) (v := .int 18) (ci := 12) (C := RX12) (T := TX12) (N := 114) hx hb hG in_X12 hown hK hP158 0 rfl rfl 32 (by decide) (hG _ g_435) rfl rfl dX12_feed_83 ?_
  refine lv_iload (pc := 86) hx hb dX12_feed_86 (lv_at hl165 0 rfl) ?_
  refine lv_bipush (pc := 88) (v := 24) hx hb dX12_feed_88 (by decide) ?_
  refine lv_bipush (pc := 90) (v := 8) hx hb dX12_feed_90 (by decide) ?_
  refine lv_iload (pc := 92) hx hb dX12_feed_92 (lv_at hl165 1 rfl) ?_
  refine lv_iconst (pc := 94) (v := 4) hx hb dX12_feed_94 (by decide) ?_
  refine lv_irem (pc := 95) hx hb dX12_feed_95 (by decide) ?_
  refine tp_i (y := 2) (by decide) ?_
  refine lv_imul (pc := 96) hx hb dX12_feed_96 ?_
  refine tp_i (y := 16) (by decide) ?_
  refine lv_isub (pc := 97) hx hb dX12_feed_97 ?_
  refine tp_i (y := 8) (by decide) ?_
  refine lv_ishr (pc := 98) hx hb dX12_feed_98 ?_
  refine lv_sipush (pc := 99) (v := 255) hx hb dX12_feed_99 (by decide) ?_
  refine lv_iand (pc := 102) hx hb dX12_feed_102 ?_
  refine va_iast (pc := 103) hx hb hK hP158 hD158 hS158 1 0 rfl rfl (show ¬ ((18 : Int32) < 0 ∨ 2000 ≤ (18 : Int32).toNatClampNeg) by decide) dX12_feed_103 (fun H166 lo166 hP166r hD166r hS166 => ?_)
  have hP166 : va_P D classes [(ad0, ob 12 114 (vup (vup (vup (vup (vup (vup (vup (vup (vup (vup (vup (vup (vup (vup (vup (vup (vup (vup (vup fn0 0 (.int 0)) 32 (.int 1)) 32 (.int 2)) 32 (.int 3)) 32 (.int 4)) 32 (.int 5)) 32 (.int 6)) 32 (.int 7)) 32 (.int 8)) 32 (.int 9)) 32 (.int 10)) 32 (.int 11)) 32 (.int 12)) 32 (.int 13)) 32 (.int 14)) 32 (.int 15)) 32 (.int 16)) 32 (.int 17)) 32 (.int 18))), (ad1, ari (cy 0) 2000 (upd nc157 (18 : Int32).toNatClampNeg ((xi4 >>> (8 &&& 31)) &&& 255)))] H166 := hP166r
  have hD166 : va_D A [(ad0, ob 12 114 (vup (vup (vup (vup (vup (vup (vup (vup (vup (vup (vup (vup (vup (vup (vup (vup (vup (vup (vup fn0 0 (.int 0)) 32 (.int 1)) 32 (.int 2)) 32 (.int 3)) 32 (.int 4)) 32 (.int 5)) 32 (.int 6)) 32 (.int 7)) 32 (.int 8)) 32 (.int 9)) 32 (.int 10)) 32 (.int 11)) 32 (.int 12)) 32 (.int 13)) 32 (.int 14)) 32 (.int 15)) 32 (.int 16)) 32 (.int 17)) 32 (.int 18))), (ad1, ari (cy 0) 2000 (upd nc157 (18 : Int32).toNatClampNeg ((xi4 >>> (8 &&& 31)) &&& 255)))] := hD166r
  clear hP166r hD166r
  generalize (upd nc157 (18 : Int32).toNatClampNeg ((xi4 >>> (8 &&& 31)) &&& 255)) = nc167 at hP166 hD166
  clear hP158 hD158 hS158
  clear H158 lo158
  refine lv_aload_n (pc := 104) hx hb dX12_feed_104 rfl (lv_at hl165 2 rfl) ?_
  refine lv_dup (pc := 105) hx hb dX12_feed_105 rfl ?_
  refine ob_get (pc := 106) (v := .int 18) (ci := 12) (C := RX12) (T := TX12) (N := 114) hx hb hG in_X12 hown hK hP166 0 rfl rfl 32 (by decide) (hG _ g_435) rfl rfl dX12_feed_106 ?_
  refine lv_iconst (pc := 109) (v := 1) hx hb dX12_feed_109 (by decide) ?_
  refine lv_iadd (pc := 110) hx hb dX12_feed_110 ?_
  refine tp_i (y := 19) (by decide) ?_
  refine ob_put (pc := 111) (v := .int 19) (ci := 12) (C := RX12) (T := TX12) (N := 114) hx hb hG in_X12 tyX12 tyX12_ok nmX12 hown hK hP166 hD166 hS166 0 rfl rfl 32 (by decide) (hG _ g_435) rfl rfl rfl rfl dX12_feed_111 (ws' := [(ad0, ob 12 114 (vup (vup (vup (vup (vup (vup (vup (vup (vup (vup (vup (vup (vup (vup (vup (vup (vup (vup (vup (vup fn0 0 (.int 0)) 32 (.int 1)) 32 (.int 2)) 32 (.int 3)) 32 (.int 4)) 32 (.int 5)) 32 (.int 6)) 32 (.int 7)) 32 (.int 8)) 32 (.int 9)) 32 (.int 10)) 32 (.int 11)) 32 (.int 12)) 32 (.int 13)) 32 (.int 14)) 32 (.int 15)) 32 (.int 16)) 32 (.int 17)) 32 (.int 18)) 32 (.int 19))), (ad1, ari (cy 0) 2000 nc167)]) rfl (fun H168 lo168 hP168 hD168 hS168 => ?_)
  clear hP166 hD166 hS166
  clear H166 lo166
  refine lv_iinc (pc := 114) (v := 19) (lv' := [(6, .int 19), (7, .int xi4), (0, .ref ad0), (1, .int xi0), (2, .int xi1), (3, .int xi2), (4, .int xi3), (5, .int xi4)]) hx hb dX12_feed_114 hl165 (k := 1) rfl (by decide) (by decide) rfl (fun ls169 hl169 => ?_)
  clear hl165 ls165
  refine lv_goto (pc := 117) (tgt := 23) hx hb dX12_feed_117 (by decide) ?_
  refine lv_iload (pc := 23) hx hb dX12_feed_23 (lv_at hl169 0 rfl) ?_
  refine lv_bipush (pc := 25) (v := 20) hx hb dX12_feed_25 (by decide) ?_
  refine lv_icmp_ge (pc := 27) (tgt := 120) hx hb dX12_feed_27 (by decide) (fun c170 => absurd c170 (by decide)) (fun c170 => ?_)
  refine lv_iload (pc := 30) hx hb dX12_feed_30 (lv_at hl169 0 rfl) ?_
  refine lv_iconst (pc := 32) (v := 4) hx hb dX12_feed_32 (by decide) ?_
  refine lv_icmp_ge (pc := 33) (tgt := 40) hx hb dX12_feed_33 (by decide) (fun c171 => ?_) (fun c171 => absurd (by decide) c171)
  refine lv_iload (pc := 40) hx hb dX12_feed_40 (lv_at hl169 0 rfl) ?_
  refine lv_bipush (pc := 42) (v := 8) hx hb dX12_feed_42 (by decide) ?_
  refine lv_icmp_ge (pc := 44) (tgt := 51) hx hb dX12_feed_44 (by decide) (fun c172 => ?_) (fun c172 => absurd (by decide) c172)
  refine lv_iload (pc := 51) hx hb dX12_feed_51 (lv_at hl169 0 rfl) ?_
  refine lv_bipush (pc := 53) (v := 12) hx hb dX12_feed_53 (by decide) ?_
  refine lv_icmp_ge (pc := 55) (tgt := 62) hx hb dX12_feed_55 (by decide) (fun c173 => ?_) (fun c173 => absurd (by decide) c173)
  refine lv_iload (pc := 62) hx hb dX12_feed_62 (lv_at hl169 0 rfl) ?_
  refine lv_bipush (pc := 64) (v := 16) hx hb dX12_feed_64 (by decide) ?_
  refine lv_icmp_ge (pc := 66) (tgt := 74) hx hb dX12_feed_66 (by decide) (fun c174 => ?_) (fun c174 => absurd (by decide) c174)
  refine lv_iload (pc := 74) hx hb dX12_feed_74 (lv_at hl169 7 rfl) ?_
  refine lv_istore (pc := 76) (lv' := [(7, .int xi4), (6, .int 19), (0, .ref ad0), (1, .int xi0), (2, .int xi1), (3, .int xi2), (4, .int xi3), (5, .int xi4)]) hx hb dX12_feed_76 hl169 (by decide) rfl (fun ls175 hl175 => ?_)
  clear hl169 ls169
  refine lv_aload_n (pc := 78) hx hb dX12_feed_78 rfl (lv_at hl175 2 rfl) ?_
  refine ob_get (pc := 79) (v := .ref ad1) (ci := 12) (C := RX12) (T := TX12) (N := 114) hx hb hG in_X12 hown hK hP168 0 rfl rfl 31 (by decide) (hG _ g_379) rfl h0_31 dX12_feed_79 ?_
  refine lv_aload_n (pc := 82) hx hb dX12_feed_82 rfl (lv_at hl175 2 rfl) ?_
  refine ob_get (pc := 83) (v := .int 19) (ci := 12) (C := RX12) (T := TX12) (N := 114) hx hb hG in_X12 hown hK hP168 0 rfl rfl 32 (by decide) (hG _ g_435) rfl rfl dX12_feed_83 ?_
  refine lv_iload (pc := 86) hx hb dX12_feed_86 (lv_at hl175 0 rfl) ?_
  refine lv_bipush (pc := 88) (v := 24) hx hb dX12_feed_88 (by decide) ?_
  refine lv_bipush (pc := 90) (v := 8) hx hb dX12_feed_90 (by decide) ?_
  refine lv_iload (pc := 92) hx hb dX12_feed_92 (lv_at hl175 1 rfl) ?_
  refine lv_iconst (pc := 94) (v := 4) hx hb dX12_feed_94 (by decide) ?_
  refine lv_irem (pc := 95) hx hb dX12_feed_95 (by decide) ?_
  refine tp_i (y := 3) (by decide) ?_
  refine lv_imul (pc := 96) hx hb dX12_feed_96 ?_
  refine tp_i (y := 24) (by decide) ?_
  refine lv_isub (pc := 97) hx hb dX12_feed_97 ?_
  refine tp_i (y := 0) (by decide) ?_
  refine lv_ishr (pc := 98) hx hb dX12_feed_98 ?_
  refine lv_sipush (pc := 99) (v := 255) hx hb dX12_feed_99 (by decide) ?_
  refine lv_iand (pc := 102) hx hb dX12_feed_102 ?_
  refine va_iast (pc := 103) hx hb hK hP168 hD168 hS168 1 0 rfl rfl (show ¬ ((19 : Int32) < 0 ∨ 2000 ≤ (19 : Int32).toNatClampNeg) by decide) dX12_feed_103 (fun H176 lo176 hP176r hD176r hS176 => ?_)
  have hP176 : va_P D classes [(ad0, ob 12 114 (vup (vup (vup (vup (vup (vup (vup (vup (vup (vup (vup (vup (vup (vup (vup (vup (vup (vup (vup (vup fn0 0 (.int 0)) 32 (.int 1)) 32 (.int 2)) 32 (.int 3)) 32 (.int 4)) 32 (.int 5)) 32 (.int 6)) 32 (.int 7)) 32 (.int 8)) 32 (.int 9)) 32 (.int 10)) 32 (.int 11)) 32 (.int 12)) 32 (.int 13)) 32 (.int 14)) 32 (.int 15)) 32 (.int 16)) 32 (.int 17)) 32 (.int 18)) 32 (.int 19))), (ad1, ari (cy 0) 2000 (upd nc167 (19 : Int32).toNatClampNeg ((xi4 >>> (0 &&& 31)) &&& 255)))] H176 := hP176r
  have hD176 : va_D A [(ad0, ob 12 114 (vup (vup (vup (vup (vup (vup (vup (vup (vup (vup (vup (vup (vup (vup (vup (vup (vup (vup (vup (vup fn0 0 (.int 0)) 32 (.int 1)) 32 (.int 2)) 32 (.int 3)) 32 (.int 4)) 32 (.int 5)) 32 (.int 6)) 32 (.int 7)) 32 (.int 8)) 32 (.int 9)) 32 (.int 10)) 32 (.int 11)) 32 (.int 12)) 32 (.int 13)) 32 (.int 14)) 32 (.int 15)) 32 (.int 16)) 32 (.int 17)) 32 (.int 18)) 32 (.int 19))), (ad1, ari (cy 0) 2000 (upd nc167 (19 : Int32).toNatClampNeg ((xi4 >>> (0 &&& 31)) &&& 255)))] := hD176r
  clear hP176r hD176r
  generalize (upd nc167 (19 : Int32).toNatClampNeg ((xi4 >>> (0 &&& 31)) &&& 255)) = nc177 at hP176 hD176
  clear hP168 hD168 hS168
  clear H168 lo168
  refine lv_aload_n (pc := 104) hx hb dX12_feed_104 rfl (lv_at hl175 2 rfl) ?_
  refine lv_dup (pc := 105) hx hb dX12_feed_105 rfl ?_
  refine ob_get (pc := 106) (v := .int 19) (ci := 12) (C := RX12) (T := TX12) (N := 114) hx hb hG in_X12 hown hK hP176 0 rfl rfl 32 (by decide) (hG _ g_435) rfl rfl dX12_feed_106 ?_
  refine lv_iconst (pc := 109) (v := 1) hx hb dX12_feed_109 (by decide) ?_
  refine lv_iadd (pc := 110) hx hb dX12_feed_110 ?_
  refine tp_i (y := 20) (by decide) ?_
  refine ob_put (pc := 111) (v := .int 20) (ci := 12) (C := RX12) (T := TX12) (N := 114) hx hb hG in_X12 tyX12 tyX12_ok nmX12 hown hK hP176 hD176 hS176 0 rfl rfl 32 (by decide) (hG _ g_435) rfl rfl rfl rfl dX12_feed_111 (ws' := [(ad0, ob 12 114 (vup (vup (vup (vup (vup (vup (vup (vup (vup (vup (vup (vup (vup (vup (vup (vup (vup (vup (vup (vup (vup fn0 0 (.int 0)) 32 (.int 1)) 32 (.int 2)) 32 (.int 3)) 32 (.int 4)) 32 (.int 5)) 32 (.int 6)) 32 (.int 7)) 32 (.int 8)) 32 (.int 9)) 32 (.int 10)) 32 (.int 11)) 32 (.int 12)) 32 (.int 13)) 32 (.int 14)) 32 (.int 15)) 32 (.int 16)) 32 (.int 17)) 32 (.int 18)) 32 (.int 19)) 32 (.int 20))), (ad1, ari (cy 0) 2000 nc177)]) rfl (fun H178 lo178 hP178 hD178 hS178 => ?_)
  clear hP176 hD176 hS176
  clear H176 lo176
  refine lv_iinc (pc := 114) (v := 20) (lv' := [(6, .int 20), (7, .int xi4), (0, .ref ad0), (1, .int xi0), (2, .int xi1), (3, .int xi2), (4, .int xi3), (5, .int xi4)]) hx hb dX12_feed_114 hl175 (k := 1) rfl (by decide) (by decide) rfl (fun ls179 hl179 => ?_)
  clear hl175 ls175
  refine lv_goto (pc := 117) (tgt := 23) hx hb dX12_feed_117 (by decide) ?_
  refine lv_iload (pc := 23) hx hb dX12_feed_23 (lv_at hl179 0 rfl) ?_
  refine lv_bipush (pc := 25) (v := 20) hx hb dX12_feed_25 (by decide) ?_
  refine lv_icmp_ge (pc := 27) (tgt := 120) hx hb dX12_feed_27 (by decide) (fun c180 => ?_) (fun c180 => absurd (by decide) c180)
  refine lv_aload_n (pc := 120) hx hb dX12_feed_120 rfl (lv_at hl179 2 rfl) ?_
  refine ob_get (pc := 121) (v := .int 20) (ci := 12) (C := RX12) (T := TX12) (N := 114) hx hb hG in_X12 hown hK hP178 0 rfl rfl 32 (by decide) (hG _ g_435) rfl rfl dX12_feed_121 ?_
  exact W.iret (pc := 124) (v := 20) hx hb hr (fun t ht hW => ⟨⟨20, (), rfl, rfl, _, ⟨nc177, (vup (vup (vup (vup (vup (vup (vup (vup (vup (vup (vup (vup (vup (vup (vup (vup (vup (vup (vup (vup (vup fn0 0 (.int 0)) 32 (.int 1)) 32 (.int 2)) 32 (.int 3)) 32 (.int 4)) 32 (.int 5)) 32 (.int 6)) 32 (.int 7)) 32 (.int 8)) 32 (.int 9)) 32 (.int 10)) 32 (.int 11)) 32 (.int 12)) 32 (.int 13)) 32 (.int 14)) 32 (.int 15)) 32 (.int 16)) 32 (.int 17)) 32 (.int 18)) 32 (.int 19)) 32 (.int 20)), rfl, rfl⟩, by rw [ht]; exact hP178, hD178⟩, hS178.F ht⟩) hS178.2.2 dX12_feed_124
set_option maxHeartbeats 4000000 in
set_option maxRecDepth 100000 in
/-- X12_fault -/
theorem m_fault (l : Launch) (D : va_G) (cy : Nat → ClassId) (kv : KV) (sz : Nat) (ad0 : Nat) (fn0 : Nat → Value) (h0_39 : fn0 39 = .int (-1)) : Met l yX12_fault (Cond.code yX12_fault cX12_fault 1 (some .int) :: GW) ({ frames := 8, cells := 0, slots := 0, locals := 120 } : Room) (va_Pc [.ref ad0] (pcq D cy kv sz [(ad0, ob 12 114 fn0)])) (va_Qi (fun r (_ : Unit) => r = (-1)) (fun _ t => bq D (fun w => ∃ (nc900 : Nat → Value), w = [(ad0, ob 12 114 nc900)] ∧ nc900 0 = .int 0) (va_A [(ad0, ob 12 114 fn0)] sz) t) (va_A [(ad0, ob 12 114 fn0)] sz)) 0 0 (va_A [(ad0, ob 12 114 fn0)] sz) := by
  refine Met.ofW (cc := cX12_fault) (maxL := 1) (ret := (some .int)) (by decide) rfl ?_
  intro p e s m args below meth c s₁ B hml hv
  obtain ⟨rfl, hsz, hP, hK, hD0, hE⟩ := hv
  have hx := B.exec
  have hb := B.bytes
  have hr := B.returns
  have hG : ∀ w ∈ GW, w.before ([.ref ad0] : List Value).toArray s = true := fun w h => atoms_spec (ws := Cond.code yX12_fault cX12_fault 1 (some .int) :: GW) B.pre w (List.mem_cons_of_mem _ h)
  have hown : s.vm.findClass RX12 = some m.cls := findClass_of_methodNamed B.named
  have hlocks := B.notSynchronized
  subst hsz
  have hD := hD0.self (sz := s.heap.size)
  generalize hAe : va_A [(ad0, ob 12 114 fn0)] s.heap.size = A at hD hE ⊢
  have hA : ∀ q : Nat, s.heap.size ≤ q → A q := fun q h => by rw [← hAe]; exact Or.inr h
  have hS : va_S A s.heap s.heap [] := va_S.rf
  clear hAe hD0
  have hl0 := lv_entry ([.ref ad0]) (n := 1) (Nat.le_of_ble_eq_true rfl)
  rw [lg_entry_eq]
  generalize (lg_sl ([.ref ad0]) ++ List.replicate (1 - (lg_sl ([.ref ad0])).length) Slot.unset).toArray = ls at hl0 ⊢
  have hl : lv_has ls 1 [(0, .ref ad0)] := hl0
  clear hl0
  refine lv_aload_n (pc := 0) hx hb dX12_fault_0 rfl (lv_at hl 0 rfl) ?_
  refine lv_iconst (pc := 1) (v := 0) hx hb dX12_fault_1 (by decide) ?_
  refine ob_put (pc := 2) (v := .int 0) (ci := 12) (C := RX12) (T := TX12) (N := 114) hx hb hG in_X12 tyX12 tyX12_ok nmX12 hown hK hP hD hS 0 rfl rfl 0 (by decide) (hG _ g_432) rfl rfl rfl rfl dX12_fault_2 (ws' := [(ad0, ob 12 114 (vup fn0 0 (.int 0)))]) rfl (fun H1 lo1 hP1 hD1 hS1 => ?_)
  clear hP hD hS
  refine lv_aload_n (pc := 5) hx hb dX12_fault_5 rfl (lv_at hl 0 rfl) ?_
  refine ob_get (pc := 6) (v := .int (-1)) (ci := 12) (C := RX12) (T := TX12) (N := 114) hx hb hG in_X12 hown hK hP1 0 rfl rfl 39 (by decide) (hG _ g_380) rfl h0_39 dX12_fault_6 ?_
  exact W.iret (pc := 9) (v := (-1)) hx hb hr (fun t ht hW => ⟨⟨(-1), (), rfl, rfl, _, ⟨(vup fn0 0 (.int 0)), rfl, rfl⟩, by rw [ht]; exact hP1, hD1⟩, hS1.F ht⟩) hS1.2.2 dX12_fault_9
set_option maxHeartbeats 4000000 in
set_option maxRecDepth 100000 in
/-- X12_at -/
theorem m_at0 (l : Launch) (D : va_G) (cy : Nat → ClassId) (kv : KV) (sz : Nat) (ad0 : Nat) (fn0 : Nat → Value) (h0_33 : fn0 33 = .int 0) : Met l yX12_at (Cond.code yX12_at cX12_at 2 (some .int) :: GW) ({ frames := 8, cells := 0, slots := 0, locals := 120 } : Room) (va_Pc [.ref ad0, .int 0] (pcq D cy kv sz [(ad0, ob 12 114 fn0)])) (va_Qi (fun r (_ : Unit) => r = 0) (fun _ t => bq D (fun w => w = [(ad0, ob 12 114 fn0)]) (va_A [(ad0, ob 12 114 fn0)] sz) t) (va_A [(ad0, ob 12 114 fn0)] sz)) 0 0 (va_A [(ad0, ob 12 114 fn0)] sz) := by
  refine Met.ofW (cc := cX12_at) (maxL := 2) (ret := (some .int)) (by decide) rfl ?_
  intro p e s m args below meth c s₁ B hml hv
  obtain ⟨rfl, hsz, hP, hK, hD0, hE⟩ := hv
  have hx := B.exec
  have hb := B.bytes
  have hr := B.returns
  have hG : ∀ w ∈ GW, w.before ([.ref ad0, .int 0] : List Value).toArray s = true := fun w h => atoms_spec (ws := Cond.code yX12_at cX12_at 2 (some .int) :: GW) B.pre w (List.mem_cons_of_mem _ h)
  have hown : s.vm.findClass RX12 = some m.cls := findClass_of_methodNamed B.named
  have hlocks := B.notSynchronized
  subst hsz
  have hD := hD0.self (sz := s.heap.size)
  generalize hAe : va_A [(ad0, ob 12 114 fn0)] s.heap.size = A at hD hE ⊢
  have hA : ∀ q : Nat, s.heap.size ≤ q → A q := fun q h => by rw [← hAe]; exact Or.inr h
  have hS : va_S A s.heap s.heap [] := va_S.rf
  clear hAe hD0
  have hl0 := lv_entry ([.ref ad0, .int 0]) (n := 2) (Nat.le_of_ble_eq_true rfl)
  rw [lg_entry_eq]
  generalize (lg_sl ([.ref ad0, .int 0]) ++ List.replicate (2 - (lg_sl ([.ref ad0, .int 0])).length) Slot.unset).toArray = ls at hl0 ⊢
  have hl : lv_has ls 2 [(0, .ref ad0), (1, .int 0)] := hl0
  clear hl0
  refine lv_iload_n (pc := 0) hx hb dX12_at_0 rfl (lv_at hl 1 rfl) ?_
  refine lv_aload_n (pc := 1) hx hb dX12_at_1 rfl (lv_at hl 0 rfl) ?_
  refine ob_get (pc := 2) (v := .int 0) (ci := 12) (C := RX12) (T := TX12) (N := 114) hx hb hG in_X12 hown hK hP 0 rfl rfl 33 (by decide) (hG _ g_438) rfl h0_33 dX12_at_2 ?_
  refine lv_icmp_ge (pc := 5) (tgt := 17) hx hb dX12_at_5 (by decide) (fun c1 => ?_) (fun c1 => absurd (by decide) c1)
  refine lv_iconst (pc := 17) (v := 0) hx hb dX12_at_17 (by decide) ?_
  exact W.iret (pc := 18) (v := 0) hx hb hr (fun t ht hW => ⟨⟨0, (), rfl, rfl, _, rfl, by rw [ht]; exact hP, hD⟩, hS.F ht⟩) hS.2.2 dX12_at_18
set_option maxHeartbeats 4000000 in
set_option maxRecDepth 100000 in
/-- X12_fine -/
theorem m_fine0 (l : Launch) (D : va_G) (cy : Nat → ClassId) (kv : KV) (sz : Nat) (ad0 : Nat) (fn0 : Nat → Value) (h0_38 : fn0 38 = .int 0) : Met l yX12_fine (Cond.code yX12_fine cX12_fine 1 (some .boolean) :: GW) ({ frames := 8, cells := 0, slots := 0, locals := 120 } : Room) (va_Pc [.ref ad0] (pcq D cy kv sz [(ad0, ob 12 114 fn0)])) (va_Qi (fun r (_ : Unit) => r = 1) (fun _ t => bq D (fun w => w = [(ad0, ob 12 114 fn0)]) (va_A [(ad0, ob 12 114 fn0)] sz) t) (va_A [(ad0, ob 12 114 fn0)] sz)) 0 0 (va_A [(ad0, ob 12 114 fn0)] sz) := by
  refine Met.ofW (cc := cX12_fine) (maxL := 1) (ret := (some .boolean)) (by decide) rfl ?_
  intro p e s m args below meth c s₁ B hml hv
  obtain ⟨rfl, hsz, hP, hK, hD0, hE⟩ := hv
  have hx := B.exec
  have hb := B.bytes
  have hr := B.returns
  have hG : ∀ w ∈ GW, w.before ([.ref ad0] : List Value).toArray s = true := fun w h => atoms_spec (ws := Cond.code yX12_fine cX12_fine 1 (some .boolean) :: GW) B.pre w (List.mem_cons_of_mem _ h)
  have hown : s.vm.findClass RX12 = some m.cls := findClass_of_methodNamed B.named
  have hlocks := B.notSynchronized
  subst hsz
  have hD := hD0.self (sz := s.heap.size)
  generalize hAe : va_A [(ad0, ob 12 114 fn0)] s.heap.size = A at hD hE ⊢
  have hA : ∀ q : Nat, s.heap.size ≤ q → A q := fun q h => by rw [← hAe]; exact Or.inr h
  have hS : va_S A s.heap s.heap [] := va_S.rf
  clear hAe hD0
  have hl0 := lv_entry ([.ref ad0]) (n := 1) (Nat.le_of_ble_eq_true rfl)
  rw [lg_entry_eq]
  generalize (lg_sl ([.ref ad0]) ++ List.replicate (1 - (lg_sl ([.ref ad0])).length) Slot.unset).toArray = ls at hl0 ⊢
  have hl : lv_has ls 1 [(0, .ref ad0)] := hl0
  clear hl0
  refine lv_aload_n (pc := 0) hx hb dX12_fine_0 rfl (lv_at hl 0 rfl) ?_
  refine ob_get (pc := 1) (v := .int 0) (ci := 12) (C := RX12) (T := TX12) (N := 114) hx hb hG in_X12 hown hK hP 0 rfl rfl 38 (by decide) (hG _ g_440) rfl h0_38 dX12_fine_1 ?_
  refine lv_if_ne (pc := 4) (tgt := 11) hx hb dX12_fine_4 (by decide) (fun c1 => absurd (by decide) c1) (fun c1 => ?_)
  refine lv_iconst (pc := 7) (v := 1) hx hb dX12_fine_7 (by decide) ?_
  refine lv_goto (pc := 8) (tgt := 12) hx hb dX12_fine_8 (by decide) ?_
  exact W.zret (pc := 12) (v := 1) (ty := .boolean) hx hb hr rfl (fun t ht hW => ⟨⟨1, (), rfl, rfl, _, rfl, by rw [ht]; exact hP, hD⟩, hS.F ht⟩) hS.2.2 dX12_fine_12
set_option maxHeartbeats 4000000 in
set_option maxRecDepth 100000 in
/-- X12_fine -/
theorem m_fine1 (l : Launch) (D : va_G) (cy : Nat → ClassId) (kv : KV) (sz : Nat) (ad0 : Nat) (fn0 : Nat → Value) (h0_38 : fn0 38 = .int 1) : Met l yX12_fine (Cond.code yX12_fine cX12_fine 1 (some .boolean) :: GW) ({ frames := 8, cells := 0, slots := 0, locals := 120 } : Room) (va_Pc [.ref ad0] (pcq D cy kv sz [(ad0, ob 12 114 fn0)])) (va_Qi (fun r (_ : Unit) => r = 0) (fun _ t => bq D (fun w => w = [(ad0, ob 12 114 fn0)]) (va_A [(ad0, ob 12 114 fn0)] sz) t) (va_A [(ad0, ob 12 114 fn0)] sz)) 0 0 (va_A [(ad0, ob 12 114 fn0)] sz) := by
  refine Met.ofW (cc := cX12_fine) (maxL := 1) (ret := (some .boolean)) (by decide) rfl ?_
  intro p e s m args below meth c s₁ B hml hv
  obtain ⟨rfl, hsz, hP, hK, hD0, hE⟩ := hv
  have hx := B.exec
  have hb := B.bytes
  have hr := B.returns
  have hG : ∀ w ∈ GW, w.before ([.ref ad0] : List Value).toArray s = true := fun w h => atoms_spec (ws := Cond.code yX12_fine cX12_fine 1 (some .boolean) :: GW) B.pre w (List.mem_cons_of_mem _ h)
  have hown : s.vm.findClass RX12 = some m.cls := findClass_of_methodNamed B.named
  have hlocks := B.notSynchronized
  subst hsz
  have hD := hD0.self (sz := s.heap.size)
  generalize hAe : va_A [(ad0, ob 12 114 fn0)] s.heap.size = A at hD hE ⊢
  have hA : ∀ q : Nat, s.heap.size ≤ q → A q := fun q h => by rw [← hAe]; exact Or.inr h
  have hS : va_S A s.heap s.heap [] := va_S.rf
  clear hAe hD0
  have hl0 := lv_entry ([.ref ad0]) (n := 1) (Nat.le_of_ble_eq_true rfl)
  rw [lg_entry_eq]
  generalize (lg_sl ([.ref ad0]) ++ List.replicate (1 - (lg_sl ([.ref ad0])).length) Slot.unset).toArray = ls at hl0 ⊢
  have hl : lv_has ls 1 [(0, .ref ad0)] := hl0
  clear hl0
  refine lv_aload_n (pc := 0) hx hb dX12_fine_0 rfl (lv_at hl 0 rfl) ?_
  refine ob_get (pc := 1) (v := .int 1) (ci := 12) (C := RX12) (T := TX12) (N := 114) hx hb hG in_X12 hown hK hP 0 rfl rfl 38 (by decide) (hG _ g_440) rfl h0_38 dX12_fine_1 ?_
  refine lv_if_ne (pc := 4) (tgt := 11) hx hb dX12_fine_4 (by decide) (fun c1 => ?_) (fun c1 => absurd c1 (by decide))
  refine lv_iconst (pc := 11) (v := 0) hx hb dX12_fine_11 (by decide) ?_
  exact W.zret (pc := 12) (v := 0) (ty := .boolean) hx hb hr rfl (fun t ht hW => ⟨⟨0, (), rfl, rfl, _, rfl, by rw [ht]; exact hP, hD⟩, hS.F ht⟩) hS.2.2 dX12_fine_12
set_option maxHeartbeats 4000000 in
set_option maxRecDepth 100000 in
/-- X12_wrong -/
theorem m_wrong0 (l : Launch) (D : va_G) (cy : Nat → ClassId) (kv : KV) (sz : Nat) (ad0 : Nat) (fn0 : Nat → Value) (h0_38 : fn0 38 = .int 0) : Met l yX12_wrong (Cond.code yX12_wrong cX12_wrong 3 none :: GW) ({ frames := 8, cells := 0, slots := 0, locals := 120 } : Room) (va_Pc [.ref ad0, .int 1, .int 0] (pcq D cy kv sz [(ad0, ob 12 114 fn0)])) (va_Qv (fun (_ : Unit) => True) (fun _ t => bq D (fun w => w = [(ad0, ob 12 114 (vup (vup fn0 38 (.int 1)) 39 (.int 0)))]) (va_A [(ad0, ob 12 114 fn0)] sz) t) (va_A [(ad0, ob 12 114 fn0)] sz)) 0 0 (va_A [(ad0, ob 12 114 fn0)] sz) := by
  refine Met.ofW (cc := cX12_wrong) (maxL := 3) (ret := none) (by decide) rfl ?_
  intro p e s m args below meth c s₁ B hml hv
  obtain ⟨rfl, hsz, hP, hK, hD0, hE⟩ := hv
  have hx := B.exec
  have hb := B.bytes
  have hr := B.returns
  have hG : ∀ w ∈ GW, w.before ([.ref ad0, .int 1, .int 0] : List Value).toArray s = true := fun w h => atoms_spec (ws := Cond.code yX12_wrong cX12_wrong 3 none :: GW) B.pre w (List.mem_cons_of_mem _ h)
  have hown : s.vm.findClass RX12 = some m.cls := findClass_of_methodNamed B.named
  have hlocks := B.notSynchronized
  subst hsz
  have hD := hD0.self (sz := s.heap.size)
  generalize hAe : va_A [(ad0, ob 12 114 fn0)] s.heap.size = A at hD hE ⊢
  have hA : ∀ q : Nat, s.heap.size ≤ q → A q := fun q h => by rw [← hAe]; exact Or.inr h
  have hS : va_S A s.heap s.heap [] := va_S.rf
  clear hAe hD0
  have hl0 := lv_entry ([.ref ad0, .int 1, .int 0]) (n := 3) (Nat.le_of_ble_eq_true rfl)
  rw [lg_entry_eq]
  generalize (lg_sl ([.ref ad0, .int 1, .int 0]) ++ List.replicate (3 - (lg_sl ([.ref ad0, .int 1, .int 0])).length) Slot.unset).toArray = ls at hl0 ⊢
  have hl : lv_has ls 3 [(0, .ref ad0), (1, .int 1), (2, .int 0)] := hl0
  clear hl0
  refine lv_aload_n (pc := 0) hx hb dX12_wrong_0 rfl (lv_at hl 0 rfl) ?_
  refine ob_get (pc := 1) (v := .int 0) (ci := 12) (C := RX12) (T := TX12) (N := 114) hx hb hG in_X12 hown hK hP 0 rfl rfl 38 (by decide) (hG _ g_440) rfl h0_38 dX12_wrong_1 ?_
  refine lv_if_eq (pc := 4) (tgt := 8) hx hb dX12_wrong_4 (by decide) (fun c1 => ?_) (fun c1 => absurd (by decide) c1)
  refine lv_aload_n (pc := 8) hx hb dX12_wrong_8 rfl (lv_at hl 0 rfl) ?_
  refine lv_iload_n (pc := 9) hx hb dX12_wrong_9 rfl (lv_at hl 1 rfl) ?_
  refine ob_put (pc := 10) (v := .int 1) (ci := 12) (C := RX12) (T := TX12) (N := 114) hx hb hG in_X12 tyX12 tyX12_ok nmX12 hown hK hP hD hS 0 rfl rfl 38 (by decide) (hG _ g_440) rfl rfl rfl rfl dX12_wrong_10 (ws' := [(ad0, ob 12 114 (vup fn0 38 (.int 1)))]) rfl (fun H2 lo2 hP2 hD2 hS2 => ?_)
  clear hP hD hS
  refine lv_aload_n (pc := 13) hx hb dX12_wrong_13 rfl (lv_at hl 0 rfl) ?_
  refine lv_iload_n (pc := 14) hx hb dX12_wrong_14 rfl (lv_at hl 2 rfl) ?_
  refine ob_put (pc := 15) (v := .int 0) (ci := 12) (C := RX12) (T := TX12) (N := 114) hx hb hG in_X12 tyX12 tyX12_ok nmX12 hown hK hP2 hD2 hS2 0 rfl rfl 39 (by decide) (hG _ g_380) rfl rfl rfl rfl dX12_wrong_15 (ws' := [(ad0, ob 12 114 (vup (vup fn0 38 (.int 1)) 39 (.int 0)))]) rfl (fun H3 lo3 hP3 hD3 hS3 => ?_)
  clear hP2 hD2 hS2
  clear H2 lo2
  exact W.vret (pc := 18) hx hb hr (fun t ht hW => ⟨⟨(), rfl, trivial, _, rfl, by rw [ht]; exact hP3, hD3⟩, hS3.F ht⟩) hS3.2.2 dX12_wrong_18
set_option maxHeartbeats 4000000 in
set_option maxRecDepth 100000 in
/-- X12_wrong -/
theorem m_wrong1 (l : Launch) (D : va_G) (cy : Nat → ClassId) (kv : KV) (sz : Nat) (ad0 : Nat) (fn0 : Nat → Value) (h0_38 : fn0 38 = .int 1) : Met l yX12_wrong (Cond.code yX12_wrong cX12_wrong 3 none :: GW) ({ frames := 8, cells := 0, slots := 0, locals := 120 } : Room) (va_Pc [.ref ad0, .int 1, .int 0] (pcq D cy kv sz [(ad0, ob 12 114 fn0)])) (va_Qv (fun (_ : Unit) => True) (fun _ t => bq D (fun w => w = [(ad0, ob 12 114 fn0)]) (va_A [(ad0, ob 12 114 fn0)] sz) t) (va_A [(ad0, ob 12 114 fn0)] sz)) 0 0 (va_A [(ad0, ob 12 114 fn0)] sz) := by
  refine Met.ofW (cc := cX12_wrong) (maxL := 3) (ret := none) (by decide) rfl ?_
  intro p e s m args below meth c s₁ B hml hv
  obtain ⟨rfl, hsz, hP, hK, hD0, hE⟩ := hv
  have hx := B.exec
  have hb := B.bytes
  have hr := B.returns
  have hG : ∀ w ∈ GW, w.before ([.ref ad0, .int 1, .int 0] : List Value).toArray s = true := fun w h => atoms_spec (ws := Cond.code yX12_wrong cX12_wrong 3 none :: GW) B.pre w (List.mem_cons_of_mem _ h)
  have hown : s.vm.findClass RX12 = some m.cls := findClass_of_methodNamed B.named
  have hlocks := B.notSynchronized
  subst hsz
  have hD := hD0.self (sz := s.heap.size)
  generalize hAe : va_A [(ad0, ob 12 114 fn0)] s.heap.size = A at hD hE ⊢
  have hA : ∀ q : Nat, s.heap.size ≤ q → A q := fun q h => by rw [← hAe]; exact Or.inr h
  have hS : va_S A s.heap s.heap [] := va_S.rf
  clear hAe hD0
  have hl0 := lv_entry ([.ref ad0, .int 1, .int 0]) (n := 3) (Nat.le_of_ble_eq_true rfl)
  rw [lg_entry_eq]
  generalize (lg_sl ([.ref ad0, .int 1, .int 0]) ++ List.replicate (3 - (lg_sl ([.ref ad0, .int 1, .int 0])).length) Slot.unset).toArray = ls at hl0 ⊢
  have hl : lv_has ls 3 [(0, .ref ad0), (1, .int 1), (2, .int 0)] := hl0
  clear hl0
  refine lv_aload_n (pc := 0) hx hb dX12_wrong_0 rfl (lv_at hl 0 rfl) ?_
  refine ob_get (pc := 1) (v := .int 1) (ci := 12) (C := RX12) (T := TX12) (N := 114) hx hb hG in_X12 hown hK hP 0 rfl rfl 38 (by decide) (hG _ g_440) rfl h0_38 dX12_wrong_1 ?_
  refine lv_if_eq (pc := 4) (tgt := 8) hx hb dX12_wrong_4 (by decide) (fun c1 => absurd c1 (by decide)) (fun c1 => ?_)
  exact W.vret (pc := 7) hx hb hr (fun t ht hW => ⟨⟨(), rfl, trivial, _, rfl, by rw [ht]; exact hP, hD⟩, hS.F ht⟩) hS.2.2 dX12_wrong_7
set_option maxHeartbeats 4000000 in
set_option maxRecDepth 100000 in
/-- X12_go -/
theorem m_go (l : Launch) (D : va_G) (cy : Nat → ClassId) (kv : KV) (sz : Nat) (ad0 : Nat) (fn0 : Nat → Value) (h0_33 : fn0 33 = .int 0) (h0_34 : fn0 34 = .int 0) : Met l yX12_go (Cond.code yX12_go cX12_go 3 none :: GW) ({ frames := 9, cells := 0, slots := 0, locals := 160 } : Room) (va_Pc [.ref ad0] (pcq D cy kv sz [(ad0, ob 12 114 fn0)])) (va_Qv (fun (_ : Unit) => True) (fun _ t => bq D (fun w => w = [(ad0, ob 12 114 (vup (vup (vup (vup fn0 35 (.int 0)) 37 (.int 0)) 40 (.long 0)) 36 (.int 0)))]) (va_A [(ad0, ob 12 114 fn0)] sz) t) (va_A [(ad0, ob 12 114 fn0)] sz)) 0 0 (va_A [(ad0, ob 12 114 fn0)] sz) := by
  refine Met.ofW (cc := cX12_go) (maxL := 3) (ret := none) (by decide) rfl ?_
  intro p e s m args below meth c s₁ B hml hv
  obtain ⟨rfl, hsz, hP, hK, hD0, hE⟩ := hv
  have hx := B.exec
  have hb := B.bytes
  have hr := B.returns
  have hG : ∀ w ∈ GW, w.before ([.ref ad0] : List Value).toArray s = true := fun w h => atoms_spec (ws := Cond.code yX12_go cX12_go 3 none :: GW) B.pre w (List.mem_cons_of_mem _ h)
  have hown : s.vm.findClass RX12 = some m.cls := findClass_of_methodNamed B.named
  have hlocks := B.notSynchronized
  subst hsz
  have hD := hD0.self (sz := s.heap.size)
  generalize hAe : va_A [(ad0, ob 12 114 fn0)] s.heap.size = A at hD hE ⊢
  have hA : ∀ q : Nat, s.heap.size ≤ q → A q := fun q h => by rw [← hAe]; exact Or.inr h
  have hS : va_S A s.heap s.heap [] := va_S.rf
  clear hAe hD0
  have hl0 := lv_entry ([.ref ad0]) (n := 3) (Nat.le_of_ble_eq_true rfl)
  rw [lg_entry_eq]
  generalize (lg_sl ([.ref ad0]) ++ List.replicate (3 - (lg_sl ([.ref ad0])).length) Slot.unset).toArray = ls at hl0 ⊢
  have hl : lv_has ls 3 [(0, .ref ad0)] := hl0
  clear hl0
  refine lv_aload_n (pc := 0) hx hb dX12_go_0 rfl (lv_at hl 0 rfl) ?_
  refine ob_get (pc := 1) (v := .int 0) (ci := 12) (C := RX12) (T := TX12) (N := 114) hx hb hG in_X12 hown hK hP 0 rfl rfl 34 (by decide) (hG _ g_443) rfl h0_34 dX12_go_1 ?_
  refine lv_aload_n (pc := 4) hx hb dX12_go_4 rfl (lv_at hl 0 rfl) ?_
  refine ob_get (pc := 5) (v := .int 0) (ci := 12) (C := RX12) (T := TX12) (N := 114) hx hb hG in_X12 hown hK hP 0 rfl rfl 33 (by decide) (hG _ g_438) rfl h0_33 dX12_go_5 ?_
  refine lv_icmp_ge (pc := 8) (tgt := 52) hx hb dX12_go_8 (by decide) (fun c1 => ?_) (fun c1 => absurd (by decide) c1)
  refine lv_aload_n (pc := 52) hx hb dX12_go_52 rfl (lv_at hl 0 rfl) ?_
  refine lv_aload_n (pc := 53) hx hb dX12_go_53 rfl (lv_at hl 0 rfl) ?_
  refine ob_get (pc := 54) (v := .int 0) (ci := 12) (C := RX12) (T := TX12) (N := 114) hx hb hG in_X12 hown hK hP 0 rfl rfl 34 (by decide) (hG _ g_443) rfl h0_34 dX12_go_54 ?_
  refine ob_put (pc := 57) (v := .int 0) (ci := 12) (C := RX12) (T := TX12) (N := 114) hx hb hG in_X12 tyX12 tyX12_ok nmX12 hown hK hP hD hS 0 rfl rfl 35 (by decide) (hG _ g_444) rfl rfl rfl rfl dX12_go_57 (ws' := [(ad0, ob 12 114 (vup fn0 35 (.int 0)))]) rfl (fun H2 lo2 hP2 hD2 hS2 => ?_)
  clear hP hD hS
  refine lv_aload_n (pc := 60) hx hb dX12_go_60 rfl (lv_at hl 0 rfl) ?_
  refine lv_aload_n (pc := 61) hx hb dX12_go_61 rfl (lv_at hl 0 rfl) ?_
  refine ob_get (pc := 62) (v := .int 0) (ci := 12) (C := RX12) (T := TX12) (N := 114) hx hb hG in_X12 hown hK hP2 0 rfl rfl 34 (by decide) (hG _ g_443) rfl h0_34 dX12_go_62 ?_
  refine cq_i (pc := 65) (wr := []) (k2 := 0) (n2 := 0) (va_runV (As := [.int 0]) (rest := []) ⟨hx, hb, hml, hown, hG⟩ (m_at0 l D cy kv H2.size ad0 (vup fn0 35 (.int 0)) h0_33) (cwV 1 hG (gi_V g_445 g_446 g_447 g_334 g_439) rfl rfl rfl (by decide +kernel) ⟨Nat.le_of_ble_eq_true rfl, Nat.le_of_ble_eq_true rfl⟩) ⟨pq_blind, (va_recv hK hP2 (ci := 12) (q0 := 0) rfl rfl), (pq_pass hP2 hD2 hK hE hS2 hA [0] rfl (by decide))⟩ rfl rfl hl.1 rfl (lv_room (Nat.le_of_ble_eq_true rfl)) dX12_go_65 ⟨Nat.le_of_ble_eq_true rfl, Nat.le_of_ble_eq_true rfl⟩) hP2 hD2 hS2 hA [0] [] rfl rfl (by decide) (by decide) (by decide) (by decide) (fun r3 w3 H3 lo3 e3 hR3 hP3r hD3r hS3 => ?_)
  subst hR3
  subst e3
  have hP3 : va_P D classes [(ad0, ob 12 114 (vup fn0 35 (.int 0)))] H3 := hP3r
  have hD3 : va_D A [(ad0, ob 12 114 (vup fn0 35 (.int 0)))] := hD3r
  clear hP3r hD3r
  clear hP2 hD2 hS2
  clear H2 lo2
  refine lv_istore_n (pc := 68) (lv' := [(1, .int 0), (0, .ref ad0)]) hx hb dX12_go_68 rfl hl (by decide) rfl (fun ls4 hl4 => ?_)
  clear hl ls
  refine lv_aload_n (pc := 69) hx hb dX12_go_69 rfl (lv_at hl4 1 rfl) ?_
  refine lv_iconst (pc := 70) (v := 0) hx hb dX12_go_70 (by decide) ?_
  refine ob_put (pc := 71) (v := .int 0) (ci := 12) (C := RX12) (T := TX12) (N := 114) hx hb hG in_X12 tyX12 tyX12_ok nmX12 hown hK hP3 hD3 hS3 0 rfl rfl 37 (by decide) (hG _ g_448) rfl rfl rfl rfl dX12_go_71 (ws' := [(ad0, ob 12 114 (vup (vup fn0 35 (.int 0)) 37 (.int 0)))]) rfl (fun H5 lo5 hP5 hD5 hS5 => ?_)
  clear hP3 hD3 hS3
  clear H3 lo3
  refine lv_aload_n (pc := 74) hx hb dX12_go_74 rfl (lv_at hl4 1 rfl) ?_
  refine lv_lconst (pc := 75) (v := 0) hx hb dX12_go_75 (by decide) ?_
  refine ob_put (pc := 76) (v := .long 0) (ci := 12) (C := RX12) (T := TX12) (N := 114) hx hb hG in_X12 tyX12 tyX12_ok nmX12 hown hK hP5 hD5 hS5 0 rfl rfl 40 (by decide) (hG _ g_449) rfl rfl rfl rfl dX12_go_76 (ws' := [(ad0, ob 12 114 (vup (vup (vup fn0 35 (.int 0)) 37 (.int 0)) 40 (.long 0)))]) rfl (fun H6 lo6 hP6 hD6 hS6 => ?_)
  clear hP5 hD5 hS5
  clear H5 lo5
  refine lv_aload_n (pc := 79) hx hb dX12_go_79 rfl (lv_at hl4 1 rfl) ?_
  refine ob_get (pc := 80) (v := .int 0) (ci := 12) (C := RX12) (T := TX12) (N := 114) hx hb hG in_X12 hown hK hP6 0 rfl rfl 34 (by decide) (hG _ g_443) rfl h0_34 dX12_go_80 ?_
  refine lv_aload_n (pc := 83) hx hb dX12_go_83 rfl (lv_at hl4 1 rfl) ?_
  refine ob_get (pc := 84) (v := .int 0) (ci := 12) (C := RX12) (T := TX12) (N := 114) hx hb hG in_X12 hown hK hP6 0 rfl rfl 33 (by decide) (hG _ g_438) rfl h0_33 dX12_go_84 ?_
  refine lv_icmp_lt (pc := 87) (tgt := 98) hx hb dX12_go_87 (by decide) (fun c7 => absurd c7 (by decide)) (fun c7 => ?_)
  refine lv_aload_n (pc := 90) hx hb dX12_go_90 rfl (lv_at hl4 1 rfl) ?_
  refine lv_iconst (pc := 91) (v := 0) hx hb dX12_go_91 (by decide) ?_
  refine ob_put (pc := 92) (v := .int 0) (ci := 12) (C := RX12) (T := TX12) (N := 114) hx hb hG in_X12 tyX12 tyX12_ok nmX12 hown hK hP6 hD6 hS6 0 rfl rfl 36 (by decide) (hG _ g_450) rfl rfl rfl rfl dX12_go_92 (ws' := [(ad0, ob 12 114 (vup (vup (vup (vup fn0 35 (.int 0)) 37 (.int 0)) 40 (.long 0)) 36 (.int 0)))]) rfl (fun H8 lo8 hP8 hD8 hS8 => ?_)
  clear hP6 hD6 hS6
  clear H6 lo6
  refine lv_goto (pc := 95) (tgt := 231) hx hb dX12_go_95 (by decide) ?_
  exact W.vret (pc := 231) hx hb hr (fun t ht hW => ⟨⟨(), rfl, trivial, _, rfl, by rw [ht]; exact hP8, hD8⟩, hS8.F ht⟩) hS8.2.2 dX12_go_231
set_option maxHeartbeats 4000000 in
set_option maxRecDepth 100000 in
/-- X12_isWordNow -/
theorem m_isWordNow0 (l : Launch) (D : va_G) (cy : Nat → ClassId) (kv : KV) (sz : Nat) (ad0 : Nat) (xl0 : Int64) (fn0 : Nat → Value) (h0_36 : fn0 36 = .int 0) (h0_38 : fn0 38 = .int 0) : Met l yX12_isWordNow (Cond.code yX12_isWordNow cX12_isWordNow 3 (some .boolean) :: GW) ({ frames := 9, cells := 0, slots := 0, locals := 160 } : Room) (va_Pc [.ref ad0, .long xl0] (pcq D cy kv sz [(ad0, ob 12 114 fn0)])) (va_Qi (fun r (_ : Unit) => r = 0) (fun _ t => bq D (fun w => w = [(ad0, ob 12 114 fn0)]) (va_A [(ad0, ob 12 114 fn0)] sz) t) (va_A [(ad0, ob 12 114 fn0)] sz)) 0 0 (va_A [(ad0, ob 12 114 fn0)] sz) := by
  refine Met.ofW (cc := cX12_isWordNow) (maxL := 3) (ret := (some .boolean)) (by decide) rfl ?_
  intro p e s m args below meth c s₁ B hml hv
  obtain ⟨rfl, hsz, hP, hK, hD0, hE⟩ := hv
  have hx := B.exec
  have hb := B.bytes
  have hr := B.returns
  have hG : ∀ w ∈ GW, w.before ([.ref ad0, .long xl0] : List Value).toArray s = true := fun w h => atoms_spec (ws := Cond.code yX12_isWordNow cX12_isWordNow 3 (some .boolean) :: GW) B.pre w (List.mem_cons_of_mem _ h)
  have hown : s.vm.findClass RX12 = some m.cls := findClass_of_methodNamed B.named
  have hlocks := B.notSynchronized
  subst hsz
  have hD := hD0.self (sz := s.heap.size)
  generalize hAe : va_A [(ad0, ob 12 114 fn0)] s.heap.size = A at hD hE ⊢
  have hA : ∀ q : Nat, s.heap.size ≤ q → A q := fun q h => by rw [← hAe]; exact Or.inr h
  have hS : va_S A s.heap s.heap [] := va_S.rf
  clear hAe hD0
  have hl0 := lv_entry ([.ref ad0, .long xl0]) (n := 3) (Nat.le_of_ble_eq_true rfl)
  rw [lg_entry_eq]
  generalize (lg_sl ([.ref ad0, .long xl0]) ++ List.replicate (3 - (lg_sl ([.ref ad0, .long xl0])).length) Slot.unset).toArray = ls at hl0 ⊢
  have hl : lv_has ls 3 [(0, .ref ad0), (1, .long xl0)] := hl0
  clear hl0
  refine lv_aload_n (pc := 0) hx hb dX12_isWordNow_0 rfl (lv_at hl 0 rfl) ?_
  refine cq_i (pc := 1) (wr := []) (k2 := 0) (n2 := 0) (va_runV (As := []) (rest := []) ⟨hx, hb, hml, hown, hG⟩ (m_fine0 l D cy kv s.heap.size ad0 fn0 h0_38) (cwV 0 hG (gi_V g_452 g_453 g_454 g_334 g_441) rfl rfl rfl (by decide +kernel) ⟨Nat.le_of_ble_eq_true rfl, Nat.le_of_ble_eq_true rfl⟩) ⟨pq_blind, (va_recv hK hP (ci := 12) (q0 := 0) rfl rfl), (pq_pass hP hD hK hE hS hA [0] rfl (by decide))⟩ rfl rfl hl.1 rfl (lv_room (Nat.le_of_ble_eq_true rfl)) dX12_isWordNow_1 ⟨Nat.le_of_ble_eq_true rfl, Nat.le_of_ble_eq_true rfl⟩) hP hD hS hA [0] [] rfl rfl (by decide) (by decide) (by decide) (by decide) (fun r1 w1 H1 lo1 e1 hR1 hP1r hD1r hS1 => ?_)
  subst hR1
  subst e1
  have hP1 : va_P D classes [(ad0, ob 12 114 fn0)] H1 := hP1r
  have hD1 : va_D A [(ad0, ob 12 114 fn0)] := hD1r
  clear hP1r hD1r
  clear hP hD hS
  refine lv_if_eq (pc := 4) (tgt := 28) hx hb dX12_isWordNow_4 (by decide) (fun c2 => absurd c2 (by decide)) (fun c2 => ?_)
  refine lv_aload_n (pc := 7) hx hb dX12_isWordNow_7 rfl (lv_at hl 0 rfl) ?_
  refine ob_get (pc := 8) (v := .int 0) (ci := 12) (C := RX12) (T := TX12) (N := 114) hx hb hG in_X12 hown hK hP1 0 rfl rfl 36 (by decide) (hG _ g_450) rfl h0_36 dX12_isWordNow_8 ?_
  refine lv_iconst (pc := 11) (v := 3) hx hb dX12_isWordNow_11 (by decide) ?_
  refine lv_icmp_ne (pc := 12) (tgt := 28) hx hb dX12_isWordNow_12 (by decide) (fun c3 => ?_) (fun c3 => absurd c3 (by decide))
  refine lv_iconst (pc := 28) (v := 0) hx hb dX12_isWordNow_28 (by decide) ?_
  exact W.zret (pc := 29) (v := 0) (ty := .boolean) hx hb hr rfl (fun t ht hW => ⟨⟨0, (), rfl, rfl, _, rfl, by rw [ht]; exact hP1, hD1⟩, hS1.F ht⟩) hS1.2.2 dX12_isWordNow_29
set_option maxHeartbeats 4000000 in
set_option maxRecDepth 100000 in
/-- X12_isWordNow -/
theorem m_isWordNow1 (l : Launch) (D : va_G) (cy : Nat → ClassId) (kv : KV) (sz : Nat) (ad0 : Nat) (xl0 : Int64) (fn0 : Nat → Value) (h0_38 : fn0 38 = .int 1) : Met l yX12_isWordNow (Cond.code yX12_isWordNow cX12_isWordNow 3 (some .boolean) :: GW) ({ frames := 9, cells := 0, slots := 0, locals := 160 } : Room) (va_Pc [.ref ad0, .long xl0] (pcq D cy kv sz [(ad0, ob 12 114 fn0)])) (va_Qi (fun r (_ : Unit) => r = 0) (fun _ t => bq D (fun w => w = [(ad0, ob 12 114 fn0)]) (va_A [(ad0, ob 12 114 fn0)] sz) t) (va_A [(ad0, ob 12 114 fn0)] sz)) 0 0 (va_A [(ad0, ob 12 114 fn0)] sz) := by
  refine Met.ofW (cc := cX12_isWordNow) (maxL := 3) (ret := (some .boolean)) (by decide) rfl ?_
  intro p e s m args below meth c s₁ B hml hv
  obtain ⟨rfl, hsz, hP, hK, hD0, hE⟩ := hv
  have hx := B.exec
  have hb := B.bytes
  have hr := B.returns
  have hG : ∀ w ∈ GW, w.before ([.ref ad0, .long xl0] : List Value).toArray s = true := fun w h => atoms_spec (ws := Cond.code yX12_isWordNow cX12_isWordNow 3 (some .boolean) :: GW) B.pre w (List.mem_cons_of_mem _ h)
  have hown : s.vm.findClass RX12 = some m.cls := findClass_of_methodNamed B.named
  have hlocks := B.notSynchronized
  subst hsz
  have hD := hD0.self (sz := s.heap.size)
  generalize hAe : va_A [(ad0, ob 12 114 fn0)] s.heap.size = A at hD hE ⊢
  have hA : ∀ q : Nat, s.heap.size ≤ q → A q := fun q h => by rw [← hAe]; exact Or.inr h
  have hS : va_S A s.heap s.heap [] := va_S.rf
  clear hAe hD0
  have hl0 := lv_entry ([.ref ad0, .long xl0]) (n := 3) (Nat.le_of_ble_eq_true rfl)
  rw [lg_entry_eq]
  generalize (lg_sl ([.ref ad0, .long xl0]) ++ List.replicate (3 - (lg_sl ([.ref ad0, .long xl0])).length) Slot.unset).toArray = ls at hl0 ⊢
  have hl : lv_has ls 3 [(0, .ref ad0), (1, .long xl0)] := hl0
  clear hl0
  refine lv_aload_n (pc := 0) hx hb dX12_isWordNow_0 rfl (lv_at hl 0 rfl) ?_
  refine cq_i (pc := 1) (wr := []) (k2 := 0) (n2 := 0) (va_runV (As := []) (rest := []) ⟨hx, hb, hml, hown, hG⟩ (m_fine1 l D cy kv s.heap.size ad0 fn0 h0_38) (cwV 0 hG (gi_V g_452 g_453 g_454 g_334 g_441) rfl rfl rfl (by decide +kernel) ⟨Nat.le_of_ble_eq_true rfl, Nat.le_of_ble_eq_true rfl⟩) ⟨pq_blind, (va_recv hK hP (ci := 12) (q0 := 0) rfl rfl), (pq_pass hP hD hK hE hS hA [0] rfl (by decide))⟩ rfl rfl hl.1 rfl (lv_room (Nat.le_of_ble_eq_true rfl)) dX12_isWordNow_1 ⟨Nat.le_of_ble_eq_true rfl, Nat.le_of_ble_eq_true rfl⟩) hP hD hS hA [0] [] rfl rfl (by decide) (by decide) (by decide) (by decide) (fun r1 w1 H1 lo1 e1 hR1 hP1r hD1r hS1 => ?_)
  subst hR1
  subst e1
  have hP1 : va_P D classes [(ad0, ob 12 114 fn0)] H1 := hP1r
  have hD1 : va_D A [(ad0, ob 12 114 fn0)] := hD1r
  clear hP1r hD1r
  clear hP hD hS
  refine lv_if_eq (pc := 4) (tgt := 28) hx hb dX12_isWordNow_4 (by decide) (fun c2 => ?_) (fun c2 => absurd (by decide) c2)
  refine lv_iconst (pc := 28) (v := 0) hx hb dX12_isWordNow_28 (by decide) ?_
  exact W.zret (pc := 29) (v := 0) (ty := .boolean) hx hb hr rfl (fun t ht hW => ⟨⟨0, (), rfl, rfl, _, rfl, by rw [ht]; exact hP1, hD1⟩, hS1.F ht⟩) hS1.2.2 dX12_isWordNow_29
set_option maxHeartbeats 4000000 in
set_option maxRecDepth 100000 in
/-- X12_needWord -/
theorem m_needWord0 (l : Launch) (D : va_G) (cy : Nat → ClassId) (kv : KV) (sz : Nat) (ad0 : Nat) (xl0 : Int64) (fn0 : Nat → Value) (h0_35 : fn0 35 = .int 0) (h0_36 : fn0 36 = .int 0) (h0_38 : fn0 38 = .int 0) : Met l yX12_needWord (Cond.code yX12_needWord cX12_needWord 3 none :: GW) ({ frames := 10, cells := 0, slots := 0, locals := 200 } : Room) (va_Pc [.ref ad0, .long xl0] (pcq D cy kv sz [(ad0, ob 12 114 fn0)])) (va_Qv (fun (_ : Unit) => True) (fun _ t => bq D (fun w => w = [(ad0, ob 12 114 (vup (vup fn0 38 (.int 1)) 39 (.int 0)))]) (va_A [(ad0, ob 12 114 fn0)] sz) t) (va_A [(ad0, ob 12 114 fn0)] sz)) 0 0 (va_A [(ad0, ob 12 114 fn0)] sz) := by
  refine Met.ofW (cc := cX12_needWord) (maxL := 3) (ret := none) (by decide) rfl ?_
  intro p e s m args below meth c s₁ B hml hv
  obtain ⟨rfl, hsz, hP, hK, hD0, hE⟩ := hv
  have hx := B.exec
  have hb := B.bytes
  have hr := B.returns
  have hG : ∀ w ∈ GW, w.before ([.ref ad0, .long xl0] : List Value).toArray s = true := fun w h => atoms_spec (ws := Cond.code yX12_needWord cX12_needWord 3 none :: GW) B.pre w (List.mem_cons_of_mem _ h)
  have hown : s.vm.findClass RX12 = some m.cls := findClass_of_methodNamed B.named
  have hlocks := B.notSynchronized
  subst hsz
  have hD := hD0.self (sz := s.heap.size)
  generalize hAe : va_A [(ad0, ob 12 114 fn0)] s.heap.size = A at hD hE ⊢
  have hA : ∀ q : Nat, s.heap.size ≤ q → A q := fun q h => by rw [← hAe]; exact Or.inr h
  have hS : va_S A s.heap s.heap [] := va_S.rf
  clear hAe hD0
  have hl0 := lv_entry ([.ref ad0, .long xl0]) (n := 3) (Nat.le_of_ble_eq_true rfl)
  rw [lg_entry_eq]
  generalize (lg_sl ([.ref ad0, .long xl0]) ++ List.replicate (3 - (lg_sl ([.ref ad0, .long xl0])).length) Slot.unset).toArray = ls at hl0 ⊢
  have hl : lv_has ls 3 [(0, .ref ad0), (1, .long xl0)] := hl0
  clear hl0
  refine lv_aload_n (pc := 0) hx hb dX12_needWord_0 rfl (lv_at hl 0 rfl) ?_
  refine lv_lload_n (pc := 1) hx hb dX12_needWord_1 rfl (lv_at hl 1 rfl) ?_
  refine cq_i (pc := 2) (wr := []) (k2 := 0) (n2 := 0) (va_runV (As := [.long xl0]) (rest := []) ⟨hx, hb, hml, hown, hG⟩ (m_isWordNow0 l D cy kv s.heap.size ad0 xl0 fn0 h0_36 h0_38) (cwV 1 hG (gi_V g_456 g_457 g_458 g_334 g_455) rfl rfl rfl (by decide +kernel) ⟨Nat.le_of_ble_eq_true rfl, Nat.le_of_ble_eq_true rfl⟩) ⟨pq_blind, (va_recv hK hP (ci := 12) (q0 := 0) rfl rfl), (pq_pass hP hD hK hE hS hA [0] rfl (by decide))⟩ rfl rfl hl.1 rfl (lv_room (Nat.le_of_ble_eq_true rfl)) dX12_needWord_2 ⟨Nat.le_of_ble_eq_true rfl, Nat.le_of_ble_eq_true rfl⟩) hP hD hS hA [0] [] rfl rfl (by decide) (by decide) (by decide) (by decide) (fun r1 w1 H1 lo1 e1 hR1 hP1r hD1r hS1 => ?_)
  subst hR1
  subst e1
  have hP1 : va_P D classes [(ad0, ob 12 114 fn0)] H1 := hP1r
  have hD1 : va_D A [(ad0, ob 12 114 fn0)] := hD1r
  clear hP1r hD1r
  clear hP hD hS
  refine lv_if_eq (pc := 5) (tgt := 15) hx hb dX12_needWord_5 (by decide) (fun c2 => ?_) (fun c2 => absurd (by decide) c2)
  refine lv_aload_n (pc := 15) hx hb dX12_needWord_15 rfl (lv_at hl 0 rfl) ?_
  refine lv_iconst (pc := 16) (v := 1) hx hb dX12_needWord_16 (by decide) ?_
  refine lv_aload_n (pc := 17) hx hb dX12_needWord_17 rfl (lv_at hl 0 rfl) ?_
  refine ob_get (pc := 18) (v := .int 0) (ci := 12) (C := RX12) (T := TX12) (N := 114) hx hb hG in_X12 hown hK hP1 0 rfl rfl 35 (by decide) (hG _ g_444) rfl h0_35 dX12_needWord_18 ?_
  refine cq_v (pc := 21) (wr := []) (k2 := 0) (n2 := 0) (va_runV (As := [.int 1, .int 0]) (rest := []) ⟨hx, hb, hml, hown, hG⟩ (m_wrong0 l D cy kv H1.size ad0 fn0 h0_38) (cwV 2 hG (gi_V g_459 g_460 g_461 g_334 g_442) rfl rfl rfl (by decide +kernel) ⟨Nat.le_of_ble_eq_true rfl, Nat.le_of_ble_eq_true rfl⟩) ⟨pq_blind, (va_recv hK hP1 (ci := 12) (q0 := 0) rfl rfl), (pq_pass hP1 hD1 hK hE hS1 hA [0] rfl (by decide))⟩ rfl rfl hl.1 rfl (lv_room (Nat.le_of_ble_eq_true rfl)) dX12_needWord_21 ⟨Nat.le_of_ble_eq_true rfl, Nat.le_of_ble_eq_true rfl⟩) hP1 hD1 hS1 hA [0] [] rfl rfl (by decide) (by decide) (by decide) (by decide) (fun w3 H3 lo3 hR3 hP3r hD3r hS3 => ?_)
  subst hR3
  have hP3 : va_P D classes [(ad0, ob 12 114 (vup (vup fn0 38 (.int 1)) 39 (.int 0)))] H3 := hP3r
  have hD3 : va_D A [(ad0, ob 12 114 (vup (vup fn0 38 (.int 1)) 39 (.int 0)))] := hD3r
  clear hP3r hD3r
  clear hP1 hD1 hS1
  clear H1 lo1
  exact W.vret (pc := 24) hx hb hr (fun t ht hW => ⟨⟨(), rfl, trivial, _, rfl, by rw [ht]; exact hP3, hD3⟩, hS3.F ht⟩) hS3.2.2 dX12_needWord_24
set_option maxHeartbeats 4000000 in
set_option maxRecDepth 100000 in
/-- X12_needWord -/
theorem m_needWord1 (l : Launch) (D : va_G) (cy : Nat → ClassId) (kv : KV) (sz : Nat) (ad0 : Nat) (xl0 : Int64) (fn0 : Nat → Value) (h0_35 : fn0 35 = .int 0) (h0_38 : fn0 38 = .int 1) : Met l yX12_needWord (Cond.code yX12_needWord cX12_needWord 3 none :: GW) ({ frames := 10, cells := 0, slots := 0, locals := 200 } : Room) (va_Pc [.ref ad0, .long xl0] (pcq D cy kv sz [(ad0, ob 12 114 fn0)])) (va_Qv (fun (_ : Unit) => True) (fun _ t => bq D (fun w => w = [(ad0, ob 12 114 fn0)]) (va_A [(ad0, ob 12 114 fn0)] sz) t) (va_A [(ad0, ob 12 114 fn0)] sz)) 0 0 (va_A [(ad0, ob 12 114 fn0)] sz) := by
  refine Met.ofW (cc := cX12_needWord) (maxL := 3) (ret := none) (by decide) rfl ?_
  intro p e s m args below meth c s₁ B hml hv
  obtain ⟨rfl, hsz, hP, hK, hD0, hE⟩ := hv
  have hx := B.exec
  have hb := B.bytes
  have hr := B.returns
  have hG : ∀ w ∈ GW, w.before ([.ref ad0, .long xl0] : List Value).toArray s = true := fun w h => atoms_spec (ws := Cond.code yX12_needWord cX12_needWord 3 none :: GW) B.pre w (List.mem_cons_of_mem _ h)
  have hown : s.vm.findClass RX12 = some m.cls := findClass_of_methodNamed B.named
  have hlocks := B.notSynchronized
  subst hsz
  have hD := hD0.self (sz := s.heap.size)
  generalize hAe : va_A [(ad0, ob 12 114 fn0)] s.heap.size = A at hD hE ⊢
  have hA : ∀ q : Nat, s.heap.size ≤ q → A q := fun q h => by rw [← hAe]; exact Or.inr h
  have hS : va_S A s.heap s.heap [] := va_S.rf
  clear hAe hD0
  have hl0 := lv_entry ([.ref ad0, .long xl0]) (n := 3) (Nat.le_of_ble_eq_true rfl)
  rw [lg_entry_eq]
  generalize (lg_sl ([.ref ad0, .long xl0]) ++ List.replicate (3 - (lg_sl ([.ref ad0, .long xl0])).length) Slot.unset).toArray = ls at hl0 ⊢
  have hl : lv_has ls 3 [(0, .ref ad0), (1, .long xl0)] := hl0
  clear hl0
  refine lv_aload_n (pc := 0) hx hb dX12_needWord_0 rfl (lv_at hl 0 rfl) ?_
  refine lv_lload_n (pc := 1) hx hb dX12_needWord_1 rfl (lv_at hl 1 rfl) ?_
  refine cq_i (pc := 2) (wr := []) (k2 := 0) (n2 := 0) (va_runV (As := [.long xl0]) (rest := []) ⟨hx, hb, hml, hown, hG⟩ (m_isWordNow1 l D cy kv s.heap.size ad0 xl0 fn0 h0_38) (cwV 1 hG (gi_V g_456 g_457 g_458 g_334 g_455) rfl rfl rfl (by decide +kernel) ⟨Nat.le_of_ble_eq_true rfl, Nat.le_of_ble_eq_true rfl⟩) ⟨pq_blind, (va_recv hK hP (ci := 12) (q0 := 0) rfl rfl), (pq_pass hP hD hK hE hS hA [0] rfl (by decide))⟩ rfl rfl hl.1 rfl (lv_room (Nat.le_of_ble_eq_true rfl)) dX12_needWord_2 ⟨Nat.le_of_ble_eq_true rfl, Nat.le_of_ble_eq_true rfl⟩) hP hD hS hA [0] [] rfl rfl (by decide) (by decide) (by decide) (by decide) (fun r1 w1 H1 lo1 e1 hR1 hP1r hD1r hS1 => ?_)
  subst hR1
  subst e1
  have hP1 : va_P D classes [(ad0, ob 12 114 fn0)] H1 := hP1r
  have hD1 : va_D A [(ad0, ob 12 114 fn0)] := hD1r
  clear hP1r hD1r
  clear hP hD hS
  refine lv_if_eq (pc := 5) (tgt := 15) hx hb dX12_needWord_5 (by decide) (fun c2 => ?_) (fun c2 => absurd (by decide) c2)
  refine lv_aload_n (pc := 15) hx hb dX12_needWord_15 rfl (lv_at hl 0 rfl) ?_
  refine lv_iconst (pc := 16) (v := 1) hx hb dX12_needWord_16 (by decide) ?_
  refine lv_aload_n (pc := 17) hx hb dX12_needWord_17 rfl (lv_at hl 0 rfl) ?_
  refine ob_get (pc := 18) (v := .int 0) (ci := 12) (C := RX12) (T := TX12) (N := 114) hx hb hG in_X12 hown hK hP1 0 rfl rfl 35 (by decide) (hG _ g_444) rfl h0_35 dX12_needWord_18 ?_
  refine cq_v (pc := 21) (wr := []) (k2 := 0) (n2 := 0) (va_runV (As := [.int 1, .int 0]) (rest := []) ⟨hx, hb, hml, hown, hG⟩ (m_wrong1 l D cy kv H1.size ad0 fn0 h0_38) (cwV 2 hG (gi_V g_459 g_460 g_461 g_334 g_442) rfl rfl rfl (by decide +kernel) ⟨Nat.le_of_ble_eq_true rfl, Nat.le_of_ble_eq_true rfl⟩) ⟨pq_blind, (va_recv hK hP1 (ci := 12) (q0 := 0) rfl rfl), (pq_pass hP1 hD1 hK hE hS1 hA [0] rfl (by decide))⟩ rfl rfl hl.1 rfl (lv_room (Nat.le_of_ble_eq_true rfl)) dX12_needWord_21 ⟨Nat.le_of_ble_eq_true rfl, Nat.le_of_ble_eq_true rfl⟩) hP1 hD1 hS1 hA [0] [] rfl rfl (by decide) (by decide) (by decide) (by decide) (fun w3 H3 lo3 hR3 hP3r hD3r hS3 => ?_)
  subst hR3
  have hP3 : va_P D classes [(ad0, ob 12 114 fn0)] H3 := hP3r
  have hD3 : va_D A [(ad0, ob 12 114 fn0)] := hD3r
  clear hP3r hD3r
  clear hP1 hD1 hS1
  clear H1 lo1
  exact W.vret (pc := 24) hx hb hr (fun t ht hW => ⟨⟨(), rfl, trivial, _, rfl, by rw [ht]; exact hP3, hD3⟩, hS3.F ht⟩) hS3.2.2 dX12_needWord_24
set_option maxHeartbeats 4000000 in
set_option maxRecDepth 100000 in
/-- X12_is -/
theorem m_is1 (l : Launch) (D : va_G) (cy : Nat → ClassId) (kv : KV) (sz : Nat) (ad0 : Nat) (xi0 : Int32) (fn0 : Nat → Value) (h0_38 : fn0 38 = .int 1) : Met l yX12_is (Cond.code yX12_is cX12_is 2 (some .boolean) :: GW) ({ frames := 9, cells := 0, slots := 0, locals := 160 } : Room) (va_Pc [.ref ad0, .int xi0] (pcq D cy kv sz [(ad0, ob 12 114 fn0)])) (va_Qi (fun r (_ : Unit) => r = 0) (fun _ t => bq D (fun w => w = [(ad0, ob 12 114 fn0)]) (va_A [(ad0, ob 12 114 fn0)] sz) t) (va_A [(ad0, ob 12 114 fn0)] sz)) 0 0 (va_A [(ad0, ob 12 114 fn0)] sz) := by
  refine Met.ofW (cc := cX12_is) (maxL := 2) (ret := (some .boolean)) (by decide) rfl ?_
  intro p e s m args below meth c s₁ B hml hv
  obtain ⟨rfl, hsz, hP, hK, hD0, hE⟩ := hv
  have hx := B.exec
  have hb := B.bytes
  have hr := B.returns
  have hG : ∀ w ∈ GW, w.before ([.ref ad0, .int xi0] : List Value).toArray s = true := fun w h => atoms_spec (ws := Cond.code yX12_is cX12_is 2 (some .boolean) :: GW) B.pre w (List.mem_cons_of_mem _ h)
  have hown : s.vm.findClass RX12 = some m.cls := findClass_of_methodNamed B.named
  have hlocks := B.notSynchronized
  subst hsz
  have hD := hD0.self (sz := s.heap.size)
  generalize hAe : va_A [(ad0, ob 12 114 fn0)] s.heap.size = A at hD hE ⊢
  have hA : ∀ q : Nat, s.heap.size ≤ q → A q := fun q h => by rw [← hAe]; exact Or.inr h
  have hS : va_S A s.heap s.heap [] := va_S.rf
  clear hAe hD0
  have hl0 := lv_entry ([.ref ad0, .int xi0]) (n := 2) (Nat.le_of_ble_eq_true rfl)
  rw [lg_entry_eq]
  generalize (lg_sl ([.ref ad0, .int xi0]) ++ List.replicate (2 - (lg_sl ([.ref ad0, .int xi0])).length) Slot.unset).toArray = ls at hl0 ⊢
  have hl : lv_has ls 2 [(0, .ref ad0), (1, .int xi0)] := hl0
  clear hl0
  refine lv_aload_n (pc := 0) hx hb dX12_is_0 rfl (lv_at hl 0 rfl) ?_
  refine cq_i (pc := 1) (wr := []) (k2 := 0) (n2 := 0) (va_runV (As := []) (rest := []) ⟨hx, hb, hml, hown, hG⟩ (m_fine1 l D cy kv s.heap.size ad0 fn0 h0_38) (cwV 0 hG (gi_V g_452 g_453 g_454 g_334 g_441) rfl rfl rfl (by decide +kernel) ⟨Nat.le_of_ble_eq_true rfl, Nat.le_of_ble_eq_true rfl⟩) ⟨pq_blind, (va_recv hK hP (ci := 12) (q0 := 0) rfl rfl), (pq_pass hP hD hK hE hS hA [0] rfl (by decide))⟩ rfl rfl hl.1 rfl (lv_room (Nat.le_of_ble_eq_true rfl)) dX12_is_1 ⟨Nat.le_of_ble_eq_true rfl, Nat.le_of_ble_eq_true rfl⟩) hP hD hS hA [0] [] rfl rfl (by decide) (by decide) (by decide) (by decide) (fun r1 w1 H1 lo1 e1 hR1 hP1r hD1r hS1 => ?_)
  subst hR1
  subst e1
  have hP1 : va_P D classes [(ad0, ob 12 114 fn0)] H1 := hP1r
  have hD1 : va_D A [(ad0, ob 12 114 fn0)] := hD1r
  clear hP1r hD1r
  clear hP hD hS
  refine lv_if_eq (pc := 4) (tgt := 28) hx hb dX12_is_4 (by decide) (fun c2 => ?_) (fun c2 => absurd (by decide) c2)
  refine lv_iconst (pc := 28) (v := 0) hx hb dX12_is_28 (by decide) ?_
  exact W.zret (pc := 29) (v := 0) (ty := .boolean) hx hb hr rfl (fun t ht hW => ⟨⟨0, (), rfl, rfl, _, rfl, by rw [ht]; exact hP1, hD1⟩, hS1.F ht⟩) hS1.2.2 dX12_is_29
set_option maxHeartbeats 4000000 in
set_option maxRecDepth 100000 in
/-- X12_need -/
theorem m_need1 (l : Launch) (D : va_G) (cy : Nat → ClassId) (kv : KV) (sz : Nat) (ad0 : Nat) (xi0 : Int32) (fn0 : Nat → Value) (h0_35 : fn0 35 = .int 0) (h0_38 : fn0 38 = .int 1) : Met l yX12_need (Cond.code yX12_need cX12_need 2 none :: GW) ({ frames := 10, cells := 0, slots := 0, locals := 200 } : Room) (va_Pc [.ref ad0, .int xi0] (pcq D cy kv sz [(ad0, ob 12 114 fn0)])) (va_Qv (fun (_ : Unit) => True) (fun _ t => bq D (fun w => w = [(ad0, ob 12 114 fn0)]) (va_A [(ad0, ob 12 114 fn0)] sz) t) (va_A [(ad0, ob 12 114 fn0)] sz)) 0 0 (va_A [(ad0, ob 12 114 fn0)] sz) := by
  refine Met.ofW (cc := cX12_need) (maxL := 2) (ret := none) (by decide) rfl ?_
  intro p e s m args below meth c s₁ B hml hv
  obtain ⟨rfl, hsz, hP, hK, hD0, hE⟩ := hv
  have hx := B.exec
  have hb := B.bytes
  have hr := B.returns
  have hG : ∀ w ∈ GW, w.before ([.ref ad0, .int xi0] : List Value).toArray s = true := fun w h => atoms_spec (ws := Cond.code yX12_need cX12_need 2 none :: GW) B.pre w (List.mem_cons_of_mem _ h)
  have hown : s.vm.findClass RX12 = some m.cls := findClass_of_methodNamed B.named
  have hlocks := B.notSynchronized
  subst hsz
  have hD := hD0.self (sz := s.heap.size)
  generalize hAe : va_A [(ad0, ob 12 114 fn0)] s.heap.size = A at hD hE ⊢
  have hA : ∀ q : Nat, s.heap.size ≤ q → A q := fun q h => by rw [← hAe]; exact Or.inr h
  have hS : va_S A s.heap s.heap [] := va_S.rf
  clear hAe hD0
  have hl0 := lv_entry ([.ref ad0, .int xi0]) (n := 2) (Nat.le_of_ble_eq_true rfl)
  rw [lg_entry_eq]
  generalize (lg_sl ([.ref ad0, .int xi0]) ++ List.replicate (2 - (lg_sl ([.ref ad0, .int xi0])).length) Slot.unset).toArray = ls at hl0 ⊢
  have hl : lv_has ls 2 [(0, .ref ad0), (1, .int xi0)] := hl0
  clear hl0
  refine lv_aload_n (pc := 0) hx hb dX12_need_0 rfl (lv_at hl 0 rfl) ?_
  refine lv_iload_n (pc := 1) hx hb dX12_need_1 rfl (lv_at hl 1 rfl) ?_
  refine cq_i (pc := 2) (wr := []) (k2 := 0) (n2 := 0) (va_runV (As := [.int xi0]) (rest := []) ⟨hx, hb, hml, hown, hG⟩ (m_is1 l D cy kv s.heap.size ad0 xi0 fn0 h0_38) (cwV 1 hG (gi_V g_464 g_465 g_466 g_334 g_463) rfl rfl rfl (by decide +kernel) ⟨Nat.le_of_ble_eq_true rfl, Nat.le_of_ble_eq_true rfl⟩) ⟨pq_blind, (va_recv hK hP (ci := 12) (q0 := 0) rfl rfl), (pq_pass hP hD hK hE hS hA [0] rfl (by decide))⟩ rfl rfl hl.1 rfl (lv_room (Nat.le_of_ble_eq_true rfl)) dX12_need_2 ⟨Nat.le_of_ble_eq_true rfl, Nat.le_of_ble_eq_true rfl⟩) hP hD hS hA [0] [] rfl rfl (by decide) (by decide) (by decide) (by decide) (fun r1 w1 H1 lo1 e1 hR1 hP1r hD1r hS1 => ?_)
  subst hR1
  subst e1
  have hP1 : va_P D classes [(ad0, ob 12 114 fn0)] H1 := hP1r
  have hD1 : va_D A [(ad0, ob 12 114 fn0)] := hD1r
  clear hP1r hD1r
  clear hP hD hS
  refine lv_if_eq (pc := 5) (tgt := 15) hx hb dX12_need_5 (by decide) (fun c2 => ?_) (fun c2 => absurd (by decide) c2)
  refine lv_aload_n (pc := 15) hx hb dX12_need_15 rfl (lv_at hl 0 rfl) ?_
  refine lv_iconst (pc := 16) (v := 1) hx hb dX12_need_16 (by decide) ?_
  refine lv_aload_n (pc := 17) hx hb dX12_need_17 rfl (lv_at hl 0 rfl) ?_
  refine ob_get (pc := 18) (v := .int 0) (ci := 12) (C := RX12) (T := TX12) (N := 114) hx hb hG in_X12 hown hK hP1 0 rfl rfl 35 (by decide) (hG _ g_444) rfl h0_35 dX12_need_18 ?_
  refine cq_v (pc := 21) (wr := []) (k2 := 0) (n2 := 0) (va_runV (As := [.int 1, .int 0]) (rest := []) ⟨hx, hb, hml, hown, hG⟩ (m_wrong1 l D cy kv H1.size ad0 fn0 h0_38) (cwV 2 hG (gi_V g_459 g_460 g_461 g_334 g_442) rfl rfl rfl (by decide +kernel) ⟨Nat.le_of_ble_eq_true rfl, Nat.le_of_ble_eq_true rfl⟩) ⟨pq_blind, (va_recv hK hP1 (ci := 12) (q0 := 0) rfl rfl), (pq_pass hP1 hD1 hK hE hS1 hA [0] rfl (by decide))⟩ rfl rfl hl.1 rfl (lv_room (Nat.le_of_ble_eq_true rfl)) dX12_need_21 ⟨Nat.le_of_ble_eq_true rfl, Nat.le_of_ble_eq_true rfl⟩) hP1 hD1 hS1 hA [0] [] rfl rfl (by decide) (by decide) (by decide) (by decide) (fun w3 H3 lo3 hR3 hP3r hD3r hS3 => ?_)
  subst hR3
  have hP3 : va_P D classes [(ad0, ob 12 114 fn0)] H3 := hP3r
  have hD3 : va_D A [(ad0, ob 12 114 fn0)] := hD3r
  clear hP3r hD3r
  clear hP1 hD1 hS1
  clear H1 lo1
  exact W.vret (pc := 24) hx hb hr (fun t ht hW => ⟨⟨(), rfl, trivial, _, rfl, by rw [ht]; exact hP3, hD3⟩, hS3.F ht⟩) hS3.2.2 dX12_need_24
set_option maxHeartbeats 4000000 in
set_option maxRecDepth 100000 in
/-- X12_readPlace -/
theorem m_readPlace (l : Launch) (D : va_G) (cy : Nat → ClassId) (kv : KV) (sz : Nat) (ad0 : Nat) (fn0 : Nat → Value) (h0_35 : fn0 35 = .int 0) (h0_38 : fn0 38 = .int 1) : Met l yX12_readPlace (Cond.code yX12_readPlace cX12_readPlace 3 none :: GW) ({ frames := 11, cells := 0, slots := 0, locals := 240 } : Room) (va_Pc [.ref ad0, .int 0, .int 0] (pcq D cy kv sz [(ad0, ob 12 114 fn0)])) (va_Qv (fun (_ : Unit) => True) (fun _ t => bq D (fun w => w = [(ad0, ob 12 114 fn0)]) (va_A [(ad0, ob 12 114 fn0)] sz) t) (va_A [(ad0, ob 12 114 fn0)] sz)) 0 0 (va_A [(ad0, ob 12 114 fn0)] sz) := by
  refine Met.ofW (cc := cX12_readPlace) (maxL := 3) (ret := none) (by decide) rfl ?_
  intro p e s m args below meth c s₁ B hml hv
  obtain ⟨rfl, hsz, hP, hK, hD0, hE⟩ := hv
  have hx := B.exec
  have hb := B.bytes
  have hr := B.returns
  have hG : ∀ w ∈ GW, w.before ([.ref ad0, .int 0, .int 0] : List Value).toArray s = true := fun w h => atoms_spec (ws := Cond.code yX12_readPlace cX12_readPlace 3 none :: GW) B.pre w (List.mem_cons_of_mem _ h)
  have hown : s.vm.findClass RX12 = some m.cls := findClass_of_methodNamed B.named
  have hlocks := B.notSynchronized
  subst hsz
  have hD := hD0.self (sz := s.heap.size)
  generalize hAe : va_A [(ad0, ob 12 114 fn0)] s.heap.size = A at hD hE ⊢
  have hA : ∀ q : Nat, s.heap.size ≤ q → A q := fun q h => by rw [← hAe]; exact Or.inr h
  have hS : va_S A s.heap s.heap [] := va_S.rf
  clear hAe hD0
  have hl0 := lv_entry ([.ref ad0, .int 0, .int 0]) (n := 3) (Nat.le_of_ble_eq_true rfl)
  rw [lg_entry_eq]
  generalize (lg_sl ([.ref ad0, .int 0, .int 0]) ++ List.replicate (3 - (lg_sl ([.ref ad0, .int 0, .int 0])).length) Slot.unset).toArray = ls at hl0 ⊢
  have hl : lv_has ls 3 [(0, .ref ad0), (1, .int 0), (2, .int 0)] := hl0
  clear hl0
  refine lv_aload_n (pc := 0) hx hb dX12_readPlace_0 rfl (lv_at hl 0 rfl) ?_
  refine cq_i (pc := 1) (wr := []) (k2 := 0) (n2 := 0) (va_runV (As := []) (rest := []) ⟨hx, hb, hml, hown, hG⟩ (m_fine1 l D cy kv s.heap.size ad0 fn0 h0_38) (cwV 0 hG (gi_V g_452 g_453 g_454 g_334 g_441) rfl rfl rfl (by decide +kernel) ⟨Nat.le_of_ble_eq_true rfl, Nat.le_of_ble_eq_true rfl⟩) ⟨pq_blind, (va_recv hK hP (ci := 12) (q0 := 0) rfl rfl), (pq_pass hP hD hK hE hS hA [0] rfl (by decide))⟩ rfl rfl hl.1 rfl (lv_room (Nat.le_of_ble_eq_true rfl)) dX12_readPlace_1 ⟨Nat.le_of_ble_eq_true rfl, Nat.le_of_ble_eq_true rfl⟩) hP hD hS hA [0] [] rfl rfl (by decide) (by decide) (by decide) (by decide) (fun r1 w1 H1 lo1 e1 hR1 hP1r hD1r hS1 => ?_)
  subst hR1
  subst e1
  have hP1 : va_P D classes [(ad0, ob 12 114 fn0)] H1 := hP1r
  have hD1 : va_D A [(ad0, ob 12 114 fn0)] := hD1r
  clear hP1r hD1r
  clear hP hD hS
  refine lv_if_eq (pc := 4) (tgt := 86) hx hb dX12_readPlace_4 (by decide) (fun c2 => ?_) (fun c2 => absurd (by decide) c2)
  refine lv_aload_n (pc := 86) hx hb dX12_readPlace_86 rfl (lv_at hl 0 rfl) ?_
  refine va_gets (pc := 87) hx hb (hE.2.2.2.2.2.2.1 ("W_END", 21380) (by decide)) hS1 hown (hG _ g_348) (fun _ h9 => h9) dX12_readPlace_87 ?_
  refine cq_v (pc := 90) (wr := []) (k2 := 0) (n2 := 0) (va_runV (As := [.long 21380]) (rest := []) ⟨hx, hb, hml, hown, hG⟩ (m_needWord1 l D cy kv H1.size ad0 21380 fn0 h0_35 h0_38) (cwV 1 hG (gi_V g_468 g_469 g_470 g_334 g_462) rfl rfl rfl (by decide +kernel) ⟨Nat.le_of_ble_eq_true rfl, Nat.le_of_ble_eq_true rfl⟩) ⟨pq_blind, (va_recv hK hP1 (ci := 12) (q0 := 0) rfl rfl), (pq_pass hP1 hD1 hK hE hS1 hA [0] rfl (by decide))⟩ rfl rfl hl.1 rfl (lv_room (Nat.le_of_ble_eq_true rfl)) dX12_readPlace_90 ⟨Nat.le_of_ble_eq_true rfl, Nat.le_of_ble_eq_true rfl⟩) hP1 hD1 hS1 hA [0] [] rfl rfl (by decide) (by decide) (by decide) (by decide) (fun w3 H3 lo3 hR3 hP3r hD3r hS3 => ?_)
  subst hR3
  have hP3 : va_P D classes [(ad0, ob 12 114 fn0)] H3 := hP3r
  have hD3 : va_D A [(ad0, ob 12 114 fn0)] := hD3r
  clear hP3r hD3r
  clear hP1 hD1 hS1
  clear H1 lo1
  refine lv_aload_n (pc := 93) hx hb dX12_readPlace_93 rfl (lv_at hl 0 rfl) ?_
  refine lv_bipush (pc := 94) (v := 59) hx hb dX12_readPlace_94 (by decide) ?_
  refine cq_v (pc := 96) (wr := []) (k2 := 0) (n2 := 0) (va_runV (As := [.int 59]) (rest := []) ⟨hx, hb, hml, hown, hG⟩ (m_need1 l D cy kv H3.size ad0 59 fn0 h0_35 h0_38) (cwV 1 hG (gi_V g_471 g_472 g_473 g_334 g_467) rfl rfl rfl (by decide +kernel) ⟨Nat.le_of_ble_eq_true rfl, Nat.le_of_ble_eq_true rfl⟩) ⟨pq_blind, (va_recv hK hP3 (ci := 12) (q0 := 0) rfl rfl), (pq_pass hP3 hD3 hK hE hS3 hA [0] rfl (by decide))⟩ rfl rfl hl.1 rfl (lv_room (Nat.le_of_ble_eq_true rfl)) dX12_readPlace_96 ⟨Nat.le_of_ble_eq_true rfl, Nat.le_of_ble_eq_true rfl⟩) hP3 hD3 hS3 hA [0] [] rfl rfl (by decide) (by decide) (by decide) (by decide) (fun w4 H4 lo4 hR4 hP4r hD4r hS4 => ?_)
  subst hR4
  have hP4 : va_P D classes [(ad0, ob 12 114 fn0)] H4 := hP4r
  have hD4 : va_D A [(ad0, ob 12 114 fn0)] := hD4r
  clear hP4r hD4r
  clear hP3 hD3 hS3
  clear H3 lo3
  exact W.vret (pc := 99) hx hb hr (fun t ht hW => ⟨⟨(), rfl, trivial, _, rfl, by rw [ht]; exact hP4, hD4⟩, hS4.F ht⟩) hS4.2.2 dX12_readPlace_99
set_option maxHeartbeats 4000000 in
set_option maxRecDepth 100000 in
/-- X12_describe -/
theorem m_describe_n (l : Launch) (D : va_G) (cy : Nat → ClassId) (kv : KV) (sz : Nat) (ad0 : Nat) (xi0 : Int32) (fn0 : Nat → Value) (h0_32 : fn0 32 = .int 0) (hn : xi0 < 0) : Met l yX12_describe (Cond.code yX12_describe cX12_describe 4 (some .int) :: GW) ({ frames := 9, cells := 0, slots := 0, locals := 160 } : Room) (va_Pc [.ref ad0, .int xi0] (pcq D cy kv sz [(ad0, ob 12 114 fn0)])) (va_Qi (fun r (_ : Unit) => r = 0) (fun _ t => bq D (fun w => ∃ (nc900 : Nat → Value), w = [(ad0, ob 12 114 nc900)] ∧ nc900 0 = .int 1) (va_A [(ad0, ob 12 114 fn0)] sz) t) (va_A [(ad0, ob 12 114 fn0)] sz)) 0 0 (va_A [(ad0, ob 12 114 fn0)] sz) := by
  refine Met.ofW (cc := cX12_describe) (maxL := 4) (ret := (some .int)) (by decide) rfl ?_
  intro p e s m args below meth c s₁ B hml hv
  obtain ⟨rfl, hsz, hP, hK, hD0, hE⟩ := hv
  have hx := B.exec
  have hb := B.bytes
  have hr := B.returns
  have hG : ∀ w ∈ GW, w.before ([.ref ad0, .int xi0] : List Value).toArray s = true := fun w h => atoms_spec (ws := Cond.code yX12_describe cX12_describe 4 (some .int) :: GW) B.pre w (List.mem_cons_of_mem _ h)
  have hown : s.vm.findClass RX12 = some m.cls := findClass_of_methodNamed B.named
  have hlocks := B.notSynchronized
  subst hsz
  have hD := hD0.self (sz := s.heap.size)
  generalize hAe : va_A [(ad0, ob 12 114 fn0)] s.heap.size = A at hD hE ⊢
  have hA : ∀ q : Nat, s.heap.size ≤ q → A q := fun q h => by rw [← hAe]; exact Or.inr h
  have hS : va_S A s.heap s.heap [] := va_S.rf
  clear hAe hD0
  have hl0 := lv_entry ([.ref ad0, .int xi0]) (n := 4) (Nat.le_of_ble_eq_true rfl)
  rw [lg_entry_eq]
  generalize (lg_sl ([.ref ad0, .int xi0]) ++ List.replicate (4 - (lg_sl ([.ref ad0, .int xi0])).length) Slot.unset).toArray = ls at hl0 ⊢
  have hl : lv_has ls 4 [(0, .ref ad0), (1, .int xi0)] := hl0
  clear hl0
  refine lv_aload_n (pc := 0) hx hb dX12_describe_0 rfl (lv_at hl 0 rfl) ?_
  refine lv_iconst (pc := 1) (v := 0) hx hb dX12_describe_1 (by decide) ?_
  refine ob_put (pc := 2) (v := .int 0) (ci := 12) (C := RX12) (T := TX12) (N := 114) hx hb hG in_X12 tyX12 tyX12_ok nmX12 hown hK hP hD hS 0 rfl rfl 0 (by decide) (hG _ g_432) rfl rfl rfl rfl dX12_describe_2 (ws' := [(ad0, ob 12 114 (vup fn0 0 (.int 0)))]) rfl (fun H1 lo1 hP1 hD1 hS1 => ?_)
  clear hP hD hS
  refine lv_aload_n (pc := 5) hx hb dX12_describe_5 rfl (lv_at hl 0 rfl) ?_
  refine lv_iload_n (pc := 6) hx hb dX12_describe_6 rfl (lv_at hl 1 rfl) ?_
  refine lv_if_lt (pc := 7) (tgt := 22) hx hb dX12_describe_7 (by decide) (fun c2 => ?_) (fun c2 => absurd hn c2)
  refine lv_iconst (pc := 22) (v := 0) hx hb dX12_describe_22 (by decide) ?_
  refine lv_iconst (pc := 23) (v := 1) hx hb dX12_describe_23 (by decide) ?_
  refine cq_i (pc := 24) (wr := []) (k2 := 0) (n2 := 0) (va_runV (As := [.int 0, .int 1]) (rest := []) ⟨hx, hb, hml, hown, hG⟩ (m_may0 l D cy kv H1.size ad0 (vup fn0 0 (.int 0)) rfl) (cwV 2 hG (gi_V g_475 g_476 g_477 g_334 g_434) rfl rfl rfl (by decide +kernel) ⟨Nat.le_of_ble_eq_true rfl, Nat.le_of_ble_eq_true rfl⟩) ⟨pq_blind, (va_recv hK hP1 (ci := 12) (q0 := 0) rfl rfl), (pq_pass hP1 hD1 hK hE hS1 hA [0] rfl (by decide))⟩ rfl rfl hl.1 rfl (lv_room (Nat.le_of_ble_eq_true rfl)) dX12_describe_24 ⟨Nat.le_of_ble_eq_true rfl, Nat.le_of_ble_eq_true rfl⟩) hP1 hD1 hS1 hA [0] [] rfl rfl (by decide) (by decide) (by decide) (by decide) (fun r3 w3 H3 lo3 e3 hR3 hP3r hD3r hS3 => ?_)
  subst hR3
  subst e3
  have hP3 : va_P D classes [(ad0, ob 12 114 (vup (vup fn0 0 (.int 0)) 0 (.int 1)))] H3 := hP3r
  have hD3 : va_D A [(ad0, ob 12 114 (vup (vup fn0 0 (.int 0)) 0 (.int 1)))] := hD3r
  clear hP3r hD3r
  clear hP1 hD1 hS1
  clear H1 lo1
  refine lv_if_ne (pc := 27) (tgt := 32) hx hb dX12_describe_27 (by decide) (fun c4 => absurd (by decide) c4) (fun c4 => ?_)
  refine lv_iconst (pc := 30) (v := 0) hx hb dX12_describe_30 (by decide) ?_
  exact W.iret (pc := 31) (v := 0) hx hb hr (fun t ht hW => ⟨⟨0, (), rfl, rfl, _, ⟨(vup (vup fn0 0 (.int 0)) 0 (.int 1)), rfl, rfl⟩, by rw [ht]; exact hP3, hD3⟩, hS3.F ht⟩) hS3.2.2 dX12_describe_31
set_option maxHeartbeats 4000000 in
set_option maxRecDepth 100000 in
/-- X12_describe -/
theorem m_describe_p (l : Launch) (D : va_G) (cy : Nat → ClassId) (kv : KV) (sz : Nat) (ad0 : Nat) (xi0 : Int32) (fn0 : Nat → Value) (h0_32 : fn0 32 = .int 0) (hn : 0 < xi0) : Met l yX12_describe (Cond.code yX12_describe cX12_describe 4 (some .int) :: GW) ({ frames := 9, cells := 0, slots := 0, locals := 160 } : Room) (va_Pc [.ref ad0, .int xi0] (pcq D cy kv sz [(ad0, ob 12 114 fn0)])) (va_Qi (fun r (_ : Unit) => r = 0) (fun _ t => bq D (fun w => ∃ (nc900 : Nat → Value), w = [(ad0, ob 12 114 nc900)] ∧ nc900 0 = .int 1) (va_A [(ad0, ob 12 114 fn0)] sz) t) (va_A [(ad0, ob 12 114 fn0)] sz)) 0 0 (va_A [(ad0, ob 12 114 fn0)] sz) := by
  refine Met.ofW (cc := cX12_describe) (maxL := 4) (ret := (some .int)) (by decide) rfl ?_
  intro p e s m args below meth c s₁ B hml hv
  obtain ⟨rfl, hsz, hP, hK, hD0, hE⟩ := hv
  have hx := B.exec
  have hb := B.bytes
  have hr := B.returns
  have hG : ∀ w ∈ GW, w.before ([.ref ad0, .int xi0] : List Value).toArray s = true := fun w h => atoms_spec (ws := Cond.code yX12_describe cX12_describe 4 (some .int) :: GW) B.pre w (List.mem_cons_of_mem _ h)
  have hown : s.vm.findClass RX12 = some m.cls := findClass_of_methodNamed B.named
  have hlocks := B.notSynchronized
  subst hsz
  have hD := hD0.self (sz := s.heap.size)
  generalize hAe : va_A [(ad0, ob 12 114 fn0)] s.heap.size = A at hD hE ⊢
  have hA : ∀ q : Nat, s.heap.size ≤ q → A q := fun q h => by rw [← hAe]; exact Or.inr h
  have hS : va_S A s.heap s.heap [] := va_S.rf
  clear hAe hD0
  have hl0 := lv_entry ([.ref ad0, .int xi0]) (n := 4) (Nat.le_of_ble_eq_true rfl)
  rw [lg_entry_eq]
  generalize (lg_sl ([.ref ad0, .int xi0]) ++ List.replicate (4 - (lg_sl ([.ref ad0, .int xi0])).length) Slot.unset).toArray = ls at hl0 ⊢
  have hl : lv_has ls 4 [(0, .ref ad0), (1, .int xi0)] := hl0
  clear hl0
  refine lv_aload_n (pc := 0) hx hb dX12_describe_0 rfl (lv_at hl 0 rfl) ?_
  refine lv_iconst (pc := 1) (v := 0) hx hb dX12_describe_1 (by decide) ?_
  refine ob_put (pc := 2) (v := .int 0) (ci := 12) (C := RX12) (T := TX12) (N := 114) hx hb hG in_X12 tyX12 tyX12_ok nmX12 hown hK hP hD hS 0 rfl rfl 0 (by decide) (hG _ g_432) rfl rfl rfl rfl dX12_describe_2 (ws' := [(ad0, ob 12 114 (vup fn0 0 (.int 0)))]) rfl (fun H1 lo1 hP1 hD1 hS1 => ?_)
  clear hP hD hS
  refine lv_aload_n (pc := 5) hx hb dX12_describe_5 rfl (lv_at hl 0 rfl) ?_
  refine lv_iload_n (pc := 6) hx hb dX12_describe_6 rfl (lv_at hl 1 rfl) ?_
  refine lv_if_lt (pc := 7) (tgt := 22) hx hb dX12_describe_7 (by decide) (fun c2 => absurd c2 (i_asym hn)) (fun c2 => ?_)
  refine lv_iload_n (pc := 10) hx hb dX12_describe_10 rfl (lv_at hl 1 rfl) ?_
  refine lv_aload_n (pc := 11) hx hb dX12_describe_11 rfl (lv_at hl 0 rfl) ?_
  refine ob_get (pc := 12) (v := .int 0) (ci := 12) (C := RX12) (T := TX12) (N := 114) hx hb hG in_X12 hown hK hP1 0 rfl rfl 32 (by decide) (hG _ g_435) rfl h0_32 dX12_describe_12 ?_
  refine lv_icmp_gt (pc := 15) (tgt := 22) hx hb dX12_describe_15 (by decide) (fun c3 => ?_) (fun c3 => absurd hn c3)
  refine lv_iconst (pc := 22) (v := 0) hx hb dX12_describe_22 (by decide) ?_
  refine lv_iconst (pc := 23) (v := 1) hx hb dX12_describe_23 (by decide) ?_
  refine cq_i (pc := 24) (wr := []) (k2 := 0) (n2 := 0) (va_runV (As := [.int 0, .int 1]) (rest := []) ⟨hx, hb, hml, hown, hG⟩ (m_may0 l D cy kv H1.size ad0 (vup fn0 0 (.int 0)) rfl) (cwV 2 hG (gi_V g_475 g_476 g_477 g_334 g_434) rfl rfl rfl (by decide +kernel) ⟨Nat.le_of_ble_eq_true rfl, Nat.le_of_ble_eq_true rfl⟩) ⟨pq_blind, (va_recv hK hP1 (ci := 12) (q0 := 0) rfl rfl), (pq_pass hP1 hD1 hK hE hS1 hA [0] rfl (by decide))⟩ rfl rfl hl.1 rfl (lv_room (Nat.le_of_ble_eq_true rfl)) dX12_describe_24 ⟨Nat.le_of_ble_eq_true rfl, Nat.le_of_ble_eq_true rfl⟩) hP1 hD1 hS1 hA [0] [] rfl rfl (by decide) (by decide) (by decide) (by decide) (fun r4 w4 H4 lo4 e4 hR4 hP4r hD4r hS4 => ?_)
  subst hR4
  subst e4
  have hP4 : va_P D classes [(ad0, ob 12 114 (vup (vup fn0 0 (.int 0)) 0 (.int 1)))] H4 := hP4r
  have hD4 : va_D A [(ad0, ob 12 114 (vup (vup fn0 0 (.int 0)) 0 (.int 1)))] := hD4r
  clear hP4r hD4r
  clear hP1 hD1 hS1
  clear H1 lo1
  refine lv_if_ne (pc := 27) (tgt := 32) hx hb dX12_describe_27 (by decide) (fun c5 => absurd (by decide) c5) (fun c5 => ?_)
  refine lv_iconst (pc := 30) (v := 0) hx hb dX12_describe_30 (by decide) ?_
  exact W.iret (pc := 31) (v := 0) hx hb hr (fun t ht hW => ⟨⟨0, (), rfl, rfl, _, ⟨(vup (vup fn0 0 (.int 0)) 0 (.int 1)), rfl, rfl⟩, by rw [ht]; exact hP4, hD4⟩, hS4.F ht⟩) hS4.2.2 dX12_describe_31
set_option maxHeartbeats 4000000 in
set_option maxRecDepth 100000 in
/-- X12_describe -/
theorem m_describe_z (l : Launch) (D : va_G) (cy : Nat → ClassId) (kv : KV) (sz : Nat) (ad0 : Nat) (fn0 : Nat → Value) (ad5 : Nat) (ad4 : Nat) (ad1 : Nat) (ad3 : Nat) (ad2 : Nat) (ct1 : Nat → Int32) (ct2 : Nat → Int32) (ct3 : Nat → Int32) (ct4 : Nat → Int64) (ct5 : Nat → Int64) (h0_2 : fn0 2 = .int 0) (h0_3 : fn0 3 = .ref ad5) (h0_4 : fn0 4 = .ref ad4) (h0_5 : fn0 5 = .ref ad1) (h0_6 : fn0 6 = .ref ad3) (h0_8 : fn0 8 = .ref ad2) (h0_32 : fn0 32 = .int 0) : Met l yX12_describe (Cond.code yX12_describe cX12_describe 4 (some .int) :: GW) ({ frames := 12, cells := 0, slots := 0, locals := 280 } : Room) (va_Pc [.ref ad0, .int 0] (pcq D cy kv sz [(ad0, ob 12 114 fn0), (ad1, ari (cy 0) 13 ct1), (ad2, ari (cy 0) 13 ct2), (ad3, ari (cy 0) 221 ct3), (ad4, arl (cy 2) 221 ct4), (ad5, arl (cy 2) 221 ct5)])) (va_Qi (fun r (_ : Unit) => r = (-9)) (fun _ t => bq D (fun w => ∃ (nc900 : Nat → Value), w = [(ad0, ob 12 114 nc900)] ∧ nc900 0 = .int 0) (va_A [(ad0, ob 12 114 fn0), (ad1, ari (cy 0) 13 ct1), (ad2, ari (cy 0) 13 ct2), (ad3, ari (cy 0) 221 ct3), (ad4, arl (cy 2) 221 ct4), (ad5, arl (cy 2) 221 ct5)] sz) t) (va_A [(ad0, ob 12 114 fn0), (ad1, ari (cy 0) 13 ct1), (ad2, ari (cy 0) 13 ct2), (ad3, ari (cy 0) 221 ct3), (ad4, arl (cy 2) 221 ct4), (ad5, arl (cy 2) 221 ct5)] sz)) 0 0 (va_A [(ad0, ob 12 114 fn0), (ad1, ari (cy 0) 13 ct1), (ad2, ari (cy 0) 13 ct2), (ad3, ari (cy 0) 221 ct3), (ad4, arl (cy 2) 221 ct4), (ad5, arl (cy 2) 221 ct5)] sz) := by
  refine Met.ofW (cc := cX12_describe) (maxL := 4) (ret := (some .int)) (by decide) rfl ?_
  intro p e s m args below meth c s₁ B hml hv
  obtain ⟨rfl, hsz, hP, hK, hD0, hE⟩ := hv
  have hx := B.exec
  have hb := B.bytes
  have hr := B.returns
  have hG : ∀ w ∈ GW, w.before ([.ref ad0, .int 0] : List Value).toArray s = true := fun w h => atoms_spec (ws := Cond.code yX12_describe cX12_describe 4 (some .int) :: GW) B.pre w (List.mem_cons_of_mem _ h)
  have hown : s.vm.findClass RX12 = some m.cls := findClass_of_methodNamed B.named
  have hlocks := B.notSynchronized
  subst hsz
  have hD := hD0.self (sz := s.heap.size)
  generalize hAe : va_A [(ad0, ob 12 114 fn0), (ad1, ari (cy 0) 13 ct1), (ad2, ari (cy 0) 13 ct2), (ad3, ari (cy 0) 221 ct3), (ad4, arl (cy 2) 221 ct4), (ad5, arl (cy 2) 221 ct5)] s.heap.size = A at hD hE ⊢
  have hA : ∀ q : Nat, s.heap.size ≤ q → A q := fun q h => by rw [← hAe]; exact Or.inr h
  have hS : va_S A s.heap s.heap [] := va_S.rf
  clear hAe hD0
  have hl0 := lv_entry ([.ref ad0, .int 0]) (n := 4) (Nat.le_of_ble_eq_true rfl)
  rw [lg_entry_eq]
  generalize (lg_sl ([.ref ad0, .int 0]) ++ List.replicate (4 - (lg_sl ([.ref ad0, .int 0])).length) Slot.unset).toArray = ls at hl0 ⊢
  have hl : lv_has ls 4 [(0, .ref ad0), (1, .int 0)] := hl0
  clear hl0
  refine lv_aload_n (pc := 0) hx hb dX12_describe_0 rfl (lv_at hl 0 rfl) ?_
  refine lv_iconst (pc := 1) (v := 0) hx hb dX12_describe_1 (by decide) ?_
  refine ob_put (pc := 2) (v := .int 0) (ci := 12) (C := RX12) (T := TX12) (N := 114) hx hb hG in_X12 tyX12 tyX12_ok nmX12 hown hK hP hD hS 0 rfl rfl 0 (by decide) (hG _ g_432) rfl rfl rfl rfl dX12_describe_2 (ws' := [(ad0, ob 12 114 (vup fn0 0 (.int 0))), (ad1, ari (cy 0) 13 ct1), (ad2, ari (cy 0) 13 ct2), (ad3, ari (cy 0) 221 ct3), (ad4, arl (cy 2) 221 ct4), (ad5, arl (cy 2) 221 ct5)]) rfl (fun H1 lo1 hP1 hD1 hS1 => ?_)
  clear hP hD hS
  refine lv_aload_n (pc := 5) hx hb dX12_describe_5 rfl (lv_at hl 0 rfl) ?_
  refine lv_iload_n (pc := 6) hx hb dX12_describe_6 rfl (lv_at hl 1 rfl) ?_
  refine lv_if_lt (pc := 7) (tgt := 22) hx hb dX12_describe_7 (by decide) (fun c2 => absurd c2 (by decide)) (fun c2 => ?_)
  refine lv_iload_n (pc := 10) hx hb dX12_describe_10 rfl (lv_at hl 1 rfl) ?_
  refine lv_aload_n (pc := 11) hx hb dX12_describe_11 rfl (lv_at hl 0 rfl) ?_
  refine ob_get (pc := 12) (v := .int 0) (ci := 12) (C := RX12) (T := TX12) (N := 114) hx hb hG in_X12 hown hK hP1 0 rfl rfl 32 (by decide) (hG _ g_435) rfl h0_32 dX12_describe_12 ?_
  refine lv_icmp_gt (pc := 15) (tgt := 22) hx hb dX12_describe_15 (by decide) (fun c3 => absurd c3 (by decide)) (fun c3 => ?_)
  refine lv_iconst (pc := 18) (v := 1) hx hb dX12_describe_18 (by decide) ?_
  refine lv_goto (pc := 19) (tgt := 23) hx hb dX12_describe_19 (by decide) ?_
  refine lv_iconst (pc := 23) (v := 1) hx hb dX12_describe_23 (by decide) ?_
  refine cq_i (pc := 24) (wr := [(ad1, ari (cy 0) 13 ct1), (ad2, ari (cy 0) 13 ct2), (ad3, ari (cy 0) 221 ct3), (ad4, arl (cy 2) 221 ct4), (ad5, arl (cy 2) 221 ct5)]) (k2 := 0) (n2 := 0) (va_runV (As := [.int 1, .int 1]) (rest := []) ⟨hx, hb, hml, hown, hG⟩ (m_may1 l D cy kv H1.size ad0 (vup fn0 0 (.int 0)) rfl) (cwV 2 hG (gi_V g_475 g_476 g_477 g_334 g_434) rfl rfl rfl (by decide +kernel) ⟨Nat.le_of_ble_eq_true rfl, Nat.le_of_ble_eq_true rfl⟩) ⟨pq_blind, (va_recv hK hP1 (ci := 12) (q0 := 0) rfl rfl), (pq_pass hP1 hD1 hK hE hS1 hA [0] rfl (by decide))⟩ rfl rfl hl.1 rfl (lv_room (Nat.le_of_ble_eq_true rfl)) dX12_describe_24 ⟨Nat.le_of_ble_eq_true rfl, Nat.le_of_ble_eq_true rfl⟩) hP1 hD1 hS1 hA [0] [1, 2, 3, 4, 5] rfl rfl (by decide) (by decide) (by decide) (by decide) (fun r4 w4 H4 lo4 e4 hR4 hP4r hD4r hS4 => ?_)
  subst hR4
  subst e4
  have hP4 : va_P D classes [(ad1, ari (cy 0) 13 ct1), (ad2, ari (cy 0) 13 ct2), (ad3, ari (cy 0) 221 ct3), (ad4, arl (cy 2) 221 ct4), (ad5, arl (cy 2) 221 ct5), (ad0, ob 12 114 (vup fn0 0 (.int 0)))] H4 := hP4r
  have hD4 : va_D A [(ad1, ari (cy 0) 13 ct1), (ad2, ari (cy 0) 13 ct2), (ad3, ari (cy 0) 221 ct3), (ad4, arl (cy 2) 221 ct4), (ad5, arl (cy 2) 221 ct5), (ad0, ob 12 114 (vup fn0 0 (.int 0)))] := hD4r
  clear hP4r hD4r
  clear hP1 hD1 hS1
  clear H1 lo1
  refine lv_if_ne (pc := 27) (tgt := 32) hx hb dX12_describe_27 (by decide) (fun c5 => ?_) (fun c5 => absurd c5 (by decide))
  refine lv_aload_n (pc := 32) hx hb dX12_describe_32 rfl (lv_at hl 0 rfl) ?_
  refine lv_iload_n (pc := 33) hx hb dX12_describe_33 rfl (lv_at hl 1 rfl) ?_
  refine ob_put (pc := 34) (v := .int 0) (ci := 12) (C := RX12) (T := TX12) (N := 114) hx hb hG in_X12 tyX12 tyX12_ok nmX12 hown hK hP4 hD4 hS4 5 rfl rfl 33 (by decide) (hG _ g_438) rfl rfl rfl rfl dX12_describe_34 (ws' := [(ad1, ari (cy 0) 13 ct1), (ad2, ari (cy 0) 13 ct2), (ad3, ari (cy 0) 221 ct3), (ad4, arl (cy 2) 221 ct4), (ad5, arl (cy 2) 221 ct5), (ad0, ob 12 114 (vup (vup fn0 0 (.int 0)) 33 (.int 0)))]) rfl (fun H6 lo6 hP6 hD6 hS6 => ?_)
  clear hP4 hD4 hS4
  clear H4 lo4
  refine lv_aload_n (pc := 37) hx hb dX12_describe_37 rfl (lv_at hl 0 rfl) ?_
  refine lv_iconst (pc := 38) (v := 0) hx hb dX12_describe_38 (by decide) ?_
  refine ob_put (pc := 39) (v := .int 0) (ci := 12) (C := RX12) (T := TX12) (N := 114) hx hb hG in_X12 tyX12 tyX12_ok nmX12 hown hK hP6 hD6 hS6 5 rfl rfl 32 (by decide) (hG _ g_435) rfl rfl rfl rfl dX12_describe_39 (ws' := [(ad1, ari (cy 0) 13 ct1), (ad2, ari (cy 0) 13 ct2), (ad3, ari (cy 0) 221 ct3), (ad4, arl (cy 2) 221 ct4), (ad5, arl (cy 2) 221 ct5), (ad0, ob 12 114 (vup (vup (vup fn0 0 (.int 0)) 33 (.int 0)) 32 (.int 0)))]) rfl (fun H7 lo7 hP7 hD7 hS7 => ?_)
  clear hP6 hD6 hS6
  clear H6 lo6
  refine lv_aload_n (pc := 42) hx hb dX12_describe_42 rfl (lv_at hl 0 rfl) ?_
  refine lv_iconst (pc := 43) (v := 0) hx hb dX12_describe_43 (by decide) ?_
  refine ob_put (pc := 44) (v := .int 0) (ci := 12) (C := RX12) (T := TX12) (N := 114) hx hb hG in_X12 tyX12 tyX12_ok nmX12 hown hK hP7 hD7 hS7 5 rfl rfl 34 (by decide) (hG _ g_443) rfl rfl rfl rfl dX12_describe_44 (ws' := [(ad1, ari (cy 0) 13 ct1), (ad2, ari (cy 0) 13 ct2), (ad3, ari (cy 0) 221 ct3), (ad4, arl (cy 2) 221 ct4), (ad5, arl (cy 2) 221 ct5), (ad0, ob 12 114 (vup (vup (vup (vup fn0 0 (.int 0)) 33 (.int 0)) 32 (.int 0)) 34 (.int 0)))]) rfl (fun H8 lo8 hP8 hD8 hS8 => ?_)
  clear hP7 hD7 hS7
  clear H7 lo7
  refine lv_aload_n (pc := 47) hx hb dX12_describe_47 rfl (lv_at hl 0 rfl) ?_
  refine lv_iconst (pc := 48) (v := 0) hx hb dX12_describe_48 (by decide) ?_
  refine ob_put (pc := 49) (v := .int 0) (ci := 12) (C := RX12) (T := TX12) (N := 114) hx hb hG in_X12 tyX12 tyX12_ok nmX12 hown hK hP8 hD8 hS8 5 rfl rfl 38 (by decide) (hG _ g_440) rfl rfl rfl rfl dX12_describe_49 (ws' := [(ad1, ari (cy 0) 13 ct1), (ad2, ari (cy 0) 13 ct2), (ad3, ari (cy 0) 221 ct3), (ad4, arl (cy 2) 221 ct4), (ad5, arl (cy 2) 221 ct5), (ad0, ob 12 114 (vup (vup (vup (vup (vup fn0 0 (.int 0)) 33 (.int 0)) 32 (.int 0)) 34 (.int 0)) 38 (.int 0)))]) rfl (fun H9 lo9 hP9 hD9 hS9 => ?_)
  clear hP8 hD8 hS8
  clear H8 lo8
  refine lv_aload_n (pc := 52) hx hb dX12_describe_52 rfl (lv_at hl 0 rfl) ?_
  refine lv_iconst (pc := 53) (v := (-1)) hx hb dX12_describe_53 (by decide) ?_
  refine ob_put (pc := 54) (v := .int (-1)) (ci := 12) (C := RX12) (T := TX12) (N := 114) hx hb hG in_X12 tyX12 tyX12_ok nmX12 hown hK hP9 hD9 hS9 5 rfl rfl 39 (by decide) (hG _ g_380) rfl rfl rfl rfl dX12_describe_54 (ws' := [(ad1, ari (cy 0) 13 ct1), (ad2, ari (cy 0) 13 ct2), (ad3, ari (cy 0) 221 ct3), (ad4, arl (cy 2) 221 ct4), (ad5, arl (cy 2) 221 ct5), (ad0, ob 12 114 (vup (vup (vup (vup (vup (vup fn0 0 (.int 0)) 33 (.int 0)) 32 (.int 0)) 34 (.int 0)) 38 (.int 0)) 39 (.int (-1))))]) rfl (fun H10 lo10 hP10 hD10 hS10 => ?_)
  clear hP9 hD9 hS9
  clear H9 lo9
  refine lv_aload_n (pc := 57) hx hb dX12_describe_57 rfl (lv_at hl 0 rfl) ?_
  refine lv_iconst (pc := 58) (v := 0) hx hb dX12_describe_58 (by decide) ?_
  refine ob_put (pc := 59) (v := .int 0) (ci := 12) (C := RX12) (T := TX12) (N := 114) hx hb hG in_X12 tyX12 tyX12_ok nmX12 hown hK hP10 hD10 hS10 5 rfl rfl 48 (by decide) (hG _ g_479) rfl rfl rfl rfl dX12_describe_59 (ws' := [(ad1, ari (cy 0) 13 ct1), (ad2, ari (cy 0) 13 ct2), (ad3, ari (cy 0) 221 ct3), (ad4, arl (cy 2) 221 ct4), (ad5, arl (cy 2) 221 ct5), (ad0, ob 12 114 (vup (vup (vup (vup (vup (vup (vup fn0 0 (.int 0)) 33 (.int 0)) 32 (.int 0)) 34 (.int 0)) 38 (.int 0)) 39 (.int (-1))) 48 (.int 0)))]) rfl (fun H11 lo11 hP11 hD11 hS11 => ?_)
  clear hP10 hD10 hS10
  clear H10 lo10
  refine lv_aload_n (pc := 62) hx hb dX12_describe_62 rfl (lv_at hl 0 rfl) ?_
  refine ob_get (pc := 63) (v := .int 0) (ci := 12) (C := RX12) (T := TX12) (N := 114) hx hb hG in_X12 hown hK hP11 5 rfl rfl 2 (by decide) (hG _ g_480) rfl h0_2 dX12_describe_63 ?_
  refine lv_istore_n (pc := 66) (lv' := [(2, .int 0), (0, .ref ad0), (1, .int 0)]) hx hb dX12_describe_66 rfl hl (by decide) rfl (fun ls12 hl12 => ?_)
  clear hl ls
  refine lv_aload_n (pc := 67) hx hb dX12_describe_67 rfl (lv_at hl12 1 rfl) ?_
  refine ob_get (pc := 68) (v := .ref ad1) (ci := 12) (C := RX12) (T := TX12) (N := 114) hx hb hG in_X12 hown hK hP11 5 rfl rfl 5 (by decide) (hG _ g_352) rfl h0_5 dX12_describe_68 ?_
  refine lv_iload_n (pc := 71) hx hb dX12_describe_71 rfl (lv_at hl12 0 rfl) ?_
  refine lv_iconst (pc := 72) (v := 1) hx hb dX12_describe_72 (by decide) ?_
  refine va_iast (pc := 73) hx hb hK hP11 hD11 hS11 0 0 rfl rfl (show ¬ ((0 : Int32) < 0 ∨ 13 ≤ (0 : Int32).toNatClampNeg) by decide) dX12_describe_73 (fun H13 lo13 hP13r hD13r hS13 => ?_)
  have hP13 : va_P D classes [(ad1, ari (cy 0) 13 (upd ct1 (0 : Int32).toNatClampNeg 1)), (ad2, ari (cy 0) 13 ct2), (ad3, ari (cy 0) 221 ct3), (ad4, arl (cy 2) 221 ct4), (ad5, arl (cy 2) 221 ct5), (ad0, ob 12 114 (vup (vup (vup (vup (vup (vup (vup fn0 0 (.int 0)) 33 (.int 0)) 32 (.int 0)) 34 (.int 0)) 38 (.int 0)) 39 (.int (-1))) 48 (.int 0)))] H13 := hP13r
  have hD13 : va_D A [(ad1, ari (cy 0) 13 (upd ct1 (0 : Int32).toNatClampNeg 1)), (ad2, ari (cy 0) 13 ct2), (ad3, ari (cy 0) 221 ct3), (ad4, arl (cy 2) 221 ct4), (ad5, arl (cy 2) 221 ct5), (ad0, ob 12 114 (vup (vup (vup (vup (vup (vup (vup fn0 0 (.int 0)) 33 (.int 0)) 32 (.int 0)) 34 (.int 0)) 38 (.int 0)) 39 (.int (-1))) 48 (.int 0)))] := hD13r
  clear hP13r hD13r
  clear hP11 hD11 hS11
  clear H11 lo11
  refine lv_aload_n (pc := 74) hx hb dX12_describe_74 rfl (lv_at hl12 1 rfl) ?_
  refine ob_get (pc := 75) (v := .ref ad2) (ci := 12) (C := RX12) (T := TX12) (N := 114) hx hb hG in_X12 hown hK hP13 5 rfl rfl 8 (by decide) (hG _ g_355) rfl h0_8 dX12_describe_75 ?_
  refine lv_iload_n (pc := 78) hx hb dX12_describe_78 rfl (lv_at hl12 0 rfl) ?_
  refine lv_iconst (pc := 79) (v := 0) hx hb dX12_describe_79 (by decide) ?_
  refine va_iast (pc := 80) hx hb hK hP13 hD13 hS13 1 0 rfl rfl (show ¬ ((0 : Int32) < 0 ∨ 13 ≤ (0 : Int32).toNatClampNeg) by decide) dX12_describe_80 (fun H14 lo14 hP14r hD14r hS14 => ?_)
  have hP14 : va_P D classes [(ad1, ari (cy 0) 13 (upd ct1 (0 : Int32).toNatClampNeg 1)), (ad2, ari (cy 0) 13 (upd ct2 (0 : Int32).toNatClampNeg 0)), (ad3, ari (cy 0) 221 ct3), (ad4, arl (cy 2) 221 ct4), (ad5, arl (cy 2) 221 ct5), (ad0, ob 12 114 (vup (vup (vup (vup (vup (vup (vup fn0 0 (.int 0)) 33 (.int 0)) 32 (.int 0)) 34 (.int 0)) 38 (.int 0)) 39 (.int (-1))) 48 (.int 0)))] H14 := hP14r
  have hD14 : va_D A [(ad1, ari (cy 0) 13 (upd ct1 (0 : Int32).toNatClampNeg 1)), (ad2, ari (cy 0) 13 (upd ct2 (0 : Int32).toNatClampNeg 0)), (ad3, ari (cy 0) 221 ct3), (ad4, arl (cy 2) 221 ct4), (ad5, arl (cy 2) 221 ct5), (ad0, ob 12 114 (vup (vup (vup (vup (vup (vup (vup fn0 0 (.int 0)) 33 (.int 0)) 32 (.int 0)) 34 (.int 0)) 38 (.int 0)) 39 (.int (-1))) 48 (.int 0)))] := hD14r
  clear hP14r hD14r
  clear hP13 hD13 hS13
  clear H13 lo13
  refine lv_aload_n (pc := 81) hx hb dX12_describe_81 rfl (lv_at hl12 1 rfl) ?_
  refine ob_get (pc := 82) (v := .ref ad3) (ci := 12) (C := RX12) (T := TX12) (N := 114) hx hb hG in_X12 hown hK hP14 5 rfl rfl 6 (by decide) (hG _ g_353) rfl h0_6 dX12_describe_82 ?_
  refine lv_bipush (pc := 85) (v := 17) hx hb dX12_describe_85 (by decide) ?_
  refine lv_iload_n (pc := 87) hx hb dX12_describe_87 rfl (lv_at hl12 0 rfl) ?_
  refine lv_imul (pc := 88) hx hb dX12_describe_88 ?_
  refine tp_i (y := 0) (by decide) ?_
  refine lv_iconst (pc := 89) (v := (-1)) hx hb dX12_describe_89 (by decide) ?_
  refine va_iast (pc := 90) hx hb hK hP14 hD14 hS14 2 0 rfl rfl (show ¬ ((0 : Int32) < 0 ∨ 221 ≤ (0 : Int32).toNatClampNeg) by decide) dX12_describe_90 (fun H15 lo15 hP15r hD15r hS15 => ?_)
  have hP15 : va_P D classes [(ad1, ari (cy 0) 13 (upd ct1 (0 : Int32).toNatClampNeg 1)), (ad2, ari (cy 0) 13 (upd ct2 (0 : Int32).toNatClampNeg 0)), (ad3, ari (cy 0) 221 (upd ct3 (0 : Int32).toNatClampNeg (-1))), (ad4, arl (cy 2) 221 ct4), (ad5, arl (cy 2) 221 ct5), (ad0, ob 12 114 (vup (vup (vup (vup (vup (vup (vup fn0 0 (.int 0)) 33 (.int 0)) 32 (.int 0)) 34 (.int 0)) 38 (.int 0)) 39 (.int (-1))) 48 (.int 0)))] H15 := hP15r
  have hD15 : va_D A [(ad1, ari (cy 0) 13 (upd ct1 (0 : Int32).toNatClampNeg 1)), (ad2, ari (cy 0) 13 (upd ct2 (0 : Int32).toNatClampNeg 0)), (ad3, ari (cy 0) 221 (upd ct3 (0 : Int32).toNatClampNeg (-1))), (ad4, arl (cy 2) 221 ct4), (ad5, arl (cy 2) 221 ct5), (ad0, ob 12 114 (vup (vup (vup (vup (vup (vup (vup fn0 0 (.int 0)) 33 (.int 0)) 32 (.int 0)) 34 (.int 0)) 38 (.int 0)) 39 (.int (-1))) 48 (.int 0)))] := hD15r
  clear hP15r hD15r
  clear hP14 hD14 hS14
  clear H14 lo14
  refine lv_aload_n (pc := 91) hx hb dX12_describe_91 rfl (lv_at hl12 1 rfl) ?_
  refine ob_get (pc := 92) (v := .ref ad4) (ci := 12) (C := RX12) (T := TX12) (N := 114) hx hb hG in_X12 hown hK hP15 5 rfl rfl 4 (by decide) (hG _ g_351) rfl h0_4 dX12_describe_92 ?_
  refine lv_bipush (pc := 95) (v := 17) hx hb dX12_describe_95 (by decide) ?_
  refine lv_iload_n (pc := 97) hx hb dX12_describe_97 rfl (lv_at hl12 0 rfl) ?_
  refine lv_imul (pc := 98) hx hb dX12_describe_98 ?_
  refine tp_i (y := 0) (by decide) ?_
  refine lv_lconst (pc := 99) (v := 0) hx hb dX12_describe_99 (by decide) ?_
  refine va_last (pc := 100) hx hb hK hP15 hD15 hS15 3 2 rfl rfl (show ¬ ((0 : Int32) < 0 ∨ 221 ≤ (0 : Int32).toNatClampNeg) by decide) dX12_describe_100 (fun H16 lo16 hP16r hD16r hS16 => ?_)
  have hP16 : va_P D classes [(ad1, ari (cy 0) 13 (upd ct1 (0 : Int32).toNatClampNeg 1)), (ad2, ari (cy 0) 13 (upd ct2 (0 : Int32).toNatClampNeg 0)), (ad3, ari (cy 0) 221 (upd ct3 (0 : Int32).toNatClampNeg (-1))), (ad4, arl (cy 2) 221 (vp_updL ct4 (0 : Int32).toNatClampNeg 0)), (ad5, arl (cy 2) 221 ct5), (ad0, ob 12 114 (vup (vup (vup (vup (vup (vup (vup fn0 0 (.int 0)) 33 (.int 0)) 32 (.int 0)) 34 (.int 0)) 38 (.int 0)) 39 (.int (-1))) 48 (.int 0)))] H16 := hP16r
  have hD16 : va_D A [(ad1, ari (cy 0) 13 (upd ct1 (0 : Int32).toNatClampNeg 1)), (ad2, ari (cy 0) 13 (upd ct2 (0 : Int32).toNatClampNeg 0)), (ad3, ari (cy 0) 221 (upd ct3 (0 : Int32).toNatClampNeg (-1))), (ad4, arl (cy 2) 221 (vp_updL ct4 (0 : Int32).toNatClampNeg 0)), (ad5, arl (cy 2) 221 ct5), (ad0, ob 12 114 (vup (vup (vup (vup (vup (vup (vup fn0 0 (.int 0)) 33 (.int 0)) 32 (.int 0)) 34 (.int 0)) 38 (.int 0)) 39 (.int (-1))) 48 (.int 0)))] := hD16r
  clear hP16r hD16r
  clear hP15 hD15 hS15
  clear H15 lo15
  refine lv_aload_n (pc := 101) hx hb dX12_describe_101 rfl (lv_at hl12 1 rfl) ?_
  refine cq_v (pc := 102) (wr := [(ad1, ari (cy 0) 13 (upd ct1 (0 : Int32).toNatClampNeg 1)), (ad2, ari (cy 0) 13 (upd ct2 (0 : Int32).toNatClampNeg 0)), (ad3, ari (cy 0) 221 (upd ct3 (0 : Int32).toNatClampNeg (-1))), (ad4, arl (cy 2) 221 (vp_updL ct4 (0 : Int32).toNatClampNeg 0)), (ad5, arl (cy 2) 221 ct5)]) (k2 := 0) (n2 := 0) (va_runV (As := []) (rest := []) ⟨hx, hb, hml, hown, hG⟩ (m_go l D cy kv H16.size ad0 (vup (vup (vup (vup (vup (vup (vup fn0 0 (.int 0)) 33 (.int 0)) 32 (.int 0)) 34 (.int 0)) 38 (.int 0)) 39 (.int (-1))) 48 (.int 0)) rfl rfl) (cwV 0 hG (gi_V g_481 g_482 g_483 g_334 g_451) rfl rfl rfl (by decide +kernel) ⟨Nat.le_of_ble_eq_true rfl, Nat.le_of_ble_eq_true rfl⟩) ⟨pq_blind, (va_recv hK hP16 (ci := 12) (q0 := 5) rfl rfl), (pq_pass hP16 hD16 hK hE hS16 hA [5] rfl (by decide))⟩ rfl rfl hl12.1 rfl (lv_room (Nat.le_of_ble_eq_true rfl)) dX12_describe_102 ⟨Nat.le_of_ble_eq_true rfl, Nat.le_of_ble_eq_true rfl⟩) hP16 hD16 hS16 hA [5] [0, 1, 2, 3, 4] rfl rfl (by decide) (by decide) (by decide) (by decide) (fun w17 H17 lo17 hR17 hP17r hD17r hS17 => ?_)
  subst hR17
  have hP17 : va_P D classes [(ad1, ari (cy 0) 13 (upd ct1 (0 : Int32).toNatClampNeg 1)), (ad2, ari (cy 0) 13 (upd ct2 (0 : Int32).toNatClampNeg 0)), (ad3, ari (cy 0) 221 (upd ct3 (0 : Int32).toNatClampNeg (-1))), (ad4, arl (cy 2) 221 (vp_updL ct4 (0 : Int32).toNatClampNeg 0)), (ad5, arl (cy 2) 221 ct5), (ad0, ob 12 114 (vup (vup (vup (vup (vup (vup (vup (vup (vup (vup (vup fn0 0 (.int 0)) 33 (.int 0)) 32 (.int 0)) 34 (.int 0)) 38 (.int 0)) 39 (.int (-1))) 48 (.int 0)) 35 (.int 0)) 37 (.int 0)) 40 (.long 0)) 36 (.int 0)))] H17 := hP17r
  have hD17 : va_D A [(ad1, ari (cy 0) 13 (upd ct1 (0 : Int32).toNatClampNeg 1)), (ad2, ari (cy 0) 13 (upd ct2 (0 : Int32).toNatClampNeg 0)), (ad3, ari (cy 0) 221 (upd ct3 (0 : Int32).toNatClampNeg (-1))), (ad4, arl (cy 2) 221 (vp_updL ct4 (0 : Int32).toNatClampNeg 0)), (ad5, arl (cy 2) 221 ct5), (ad0, ob 12 114 (vup (vup (vup (vup (vup (vup (vup (vup (vup (vup (vup fn0 0 (.int 0)) 33 (.int 0)) 32 (.int 0)) 34 (.int 0)) 38 (.int 0)) 39 (.int (-1))) 48 (.int 0)) 35 (.int 0)) 37 (.int 0)) 40 (.long 0)) 36 (.int 0)))] := hD17r
  clear hP17r hD17r
  clear hP16 hD16 hS16
  clear H16 lo16
  refine lv_aload_n (pc := 105) hx hb dX12_describe_105 rfl (lv_at hl12 1 rfl) ?_
  refine va_gets (pc := 106) hx hb (hE.2.2.2.2.2.2.1 ("W_TOOL", 5305292) (by decide)) hS17 hown (hG _ g_338) (fun _ h9 => h9) dX12_describe_106 ?_
  refine cq_v (pc := 109) (wr := [(ad1, ari (cy 0) 13 (upd ct1 (0 : Int32).toNatClampNeg 1)), (ad2, ari (cy 0) 13 (upd ct2 (0 : Int32).toNatClampNeg 0)), (ad3, ari (cy 0) 221 (upd ct3 (0 : Int32).toNatClampNeg (-1))), (ad4, arl (cy 2) 221 (vp_updL ct4 (0 : Int32).toNatClampNeg 0)), (ad5, arl (cy 2) 221 ct5)]) (k2 := 0) (n2 := 0) (va_runV (As := [.long 5305292]) (rest := []) ⟨hx, hb, hml, hown, hG⟩ (m_needWord0 l D cy kv H17.size ad0 5305292 (vup (vup (vup (vup (vup (vup (vup (vup (vup (vup (vup fn0 0 (.int 0)) 33 (.int 0)) 32 (.int 0)) 34 (.int 0)) 38 (.int 0)) 39 (.int (-1))) 48 (.int 0)) 35 (.int 0)) 37 (.int 0)) 40 (.long 0)) 36 (.int 0)) rfl rfl rfl) (cwV 1 hG (gi_V g_468 g_469 g_470 g_334 g_462) rfl rfl rfl (by decide +kernel) ⟨Nat.le_of_ble_eq_true rfl, Nat.le_of_ble_eq_true rfl⟩) ⟨pq_blind, (va_recv hK hP17 (ci := 12) (q0 := 5) rfl rfl), (pq_pass hP17 hD17 hK hE hS17 hA [5] rfl (by decide))⟩ rfl rfl hl12.1 rfl (lv_room (Nat.le_of_ble_eq_true rfl)) dX12_describe_109 ⟨Nat.le_of_ble_eq_true rfl, Nat.le_of_ble_eq_true rfl⟩) hP17 hD17 hS17 hA [5] [0, 1, 2, 3, 4] rfl rfl (by decide) (by decide) (by decide) (by decide) (fun w18 H18 lo18 hR18 hP18r hD18r hS18 => ?_)
  subst hR18
  have hP18 : va_P D classes [(ad1, ari (cy 0) 13 (upd ct1 (0 : Int32).toNatClampNeg 1)), (ad2, ari (cy 0) 13 (upd ct2 (0 : Int32).toNatClampNeg 0)), (ad3, ari (cy 0) 221 (upd ct3 (0 : Int32).toNatClampNeg (-1))), (ad4, arl (cy 2) 221 (vp_updL ct4 (0 : Int32).toNatClampNeg 0)), (ad5, arl (cy 2) 221 ct5), (ad0, ob 12 114 (vup (vup (vup (vup (vup (vup (vup (vup (vup (vup (vup (vup (vup fn0 0 (.int 0)) 33 (.int 0)) 32 (.int 0)) 34 (.int 0)) 38 (.int 0)) 39 (.int (-1))) 48 (.int 0)) 35 (.int 0)) 37 (.int 0)) 40 (.long 0)) 36 (.int 0)) 38 (.int 1)) 39 (.int 0)))] H18 := hP18r
  have hD18 : va_D A [(ad1, ari (cy 0) 13 (upd ct1 (0 : Int32).toNatClampNeg 1)), (ad2, ari (cy 0) 13 (upd ct2 (0 : Int32).toNatClampNeg 0)), (ad3, ari (cy 0) 221 (upd ct3 (0 : Int32).toNatClampNeg (-1))), (ad4, arl (cy 2) 221 (vp_updL ct4 (0 : Int32).toNatClampNeg 0)), (ad5, arl (cy 2) 221 ct5), (ad0, ob 12 114 (vup (vup (vup (vup (vup (vup (vup (vup (vup (vup (vup (vup (vup fn0 0 (.int 0)) 33 (.int 0)) 32 (.int 0)) 34 (.int 0)) 38 (.int 0)) 39 (.int (-1))) 48 (.int 0)) 35 (.int 0)) 37 (.int 0)) 40 (.long 0)) 36 (.int 0)) 38 (.int 1)) 39 (.int 0)))] := hD18r
  clear hP18r hD18r
  clear hP17 hD17 hS17
  clear H17 lo17
  refine lv_aload_n (pc := 112) hx hb dX12_describe_112 rfl (lv_at hl12 1 rfl) ?_
  refine cq_i (pc := 113) (wr := [(ad1, ari (cy 0) 13 (upd ct1 (0 : Int32).toNatClampNeg 1)), (ad2, ari (cy 0) 13 (upd ct2 (0 : Int32).toNatClampNeg 0)), (ad3, ari (cy 0) 221 (upd ct3 (0 : Int32).toNatClampNeg (-1))), (ad4, arl (cy 2) 221 (vp_updL ct4 (0 : Int32).toNatClampNeg 0)), (ad5, arl (cy 2) 221 ct5)]) (k2 := 0) (n2 := 0) (va_runV (As := []) (rest := []) ⟨hx, hb, hml, hown, hG⟩ (m_fine1 l D cy kv H18.size ad0 (vup (vup (vup (vup (vup (vup (vup (vup (vup (vup (vup (vup (vup fn0 0 (.int 0)) 33 (.int 0)) 32 (.int 0)) 34 (.int 0)) 38 (.int 0)) 39 (.int (-1))) 48 (.int 0)) 35 (.int 0)) 37 (.int 0)) 40 (.long 0)) 36 (.int 0)) 38 (.int 1)) 39 (.int 0)) rfl) (cwV 0 hG (gi_V g_452 g_453 g_454 g_334 g_441) rfl rfl rfl (by decide +kernel) ⟨Nat.le_of_ble_eq_true rfl, Nat.le_of_ble_eq_true rfl⟩) ⟨pq_blind, (va_recv hK hP18 (ci := 12) (q0 := 5) rfl rfl), (pq_pass hP18 hD18 hK hE hS18 hA [5] rfl (by decide))⟩ rfl rfl hl12.1 rfl (lv_room (Nat.le_of_ble_eq_true rfl)) dX12_describe_113 ⟨Nat.le_of_ble_eq_true rfl, Nat.le_of_ble_eq_true rfl⟩) hP18 hD18 hS18 hA [5] [0, 1, 2, 3, 4] rfl rfl (by decide) (by decide) (by decide) (by decide) (fun r19 w19 H19 lo19 e19 hR19 hP19r hD19r hS19 => ?_)
  subst hR19
  subst e19
  have hP19 : va_P D classes [(ad1, ari (cy 0) 13 (upd ct1 (0 : Int32).toNatClampNeg 1)), (ad2, ari (cy 0) 13 (upd ct2 (0 : Int32).toNatClampNeg 0)), (ad3, ari (cy 0) 221 (upd ct3 (0 : Int32).toNatClampNeg (-1))), (ad4, arl (cy 2) 221 (vp_updL ct4 (0 : Int32).toNatClampNeg 0)), (ad5, arl (cy 2) 221 ct5), (ad0, ob 12 114 (vup (vup (vup (vup (vup (vup (vup (vup (vup (vup (vup (vup (vup fn0 0 (.int 0)) 33 (.int 0)) 32 (.int 0)) 34 (.int 0)) 38 (.int 0)) 39 (.int (-1))) 48 (.int 0)) 35 (.int 0)) 37 (.int 0)) 40 (.long 0)) 36 (.int 0)) 38 (.int 1)) 39 (.int 0)))] H19 := hP19r
  have hD19 : va_D A [(ad1, ari (cy 0) 13 (upd ct1 (0 : Int32).toNatClampNeg 1)), (ad2, ari (cy 0) 13 (upd ct2 (0 : Int32).toNatClampNeg 0)), (ad3, ari (cy 0) 221 (upd ct3 (0 : Int32).toNatClampNeg (-1))), (ad4, arl (cy 2) 221 (vp_updL ct4 (0 : Int32).toNatClampNeg 0)), (ad5, arl (cy 2) 221 ct5), (ad0, ob 12 114 (vup (vup (vup (vup (vup (vup (vup (vup (vup (vup (vup (vup (vup fn0 0 (.int 0)) 33 (.int 0)) 32 (.int 0)) 34 (.int 0)) 38 (.int 0)) 39 (.int (-1))) 48 (.int 0)) 35 (.int 0)) 37 (.int 0)) 40 (.long 0)) 36 (.int 0)) 38 (.int 1)) 39 (.int 0)))] := hD19r
  clear hP19r hD19r
  clear hP18 hD18 hS18
  clear H18 lo18
  refine lv_if_eq (pc := 116) (tgt := 136) hx hb dX12_describe_116 (by decide) (fun c20 => ?_) (fun c20 => absurd (by decide) c20)
  refine lv_iconst (pc := 136) (v := 0) hx hb dX12_describe_136 (by decide) ?_
  refine lv_istore_n (pc := 137) (lv' := [(3, .int 0), (2, .int 0), (0, .ref ad0), (1, .int 0)]) hx hb dX12_describe_137 rfl hl12 (by decide) rfl (fun ls21 hl21 => ?_)
  clear hl12 ls12
  refine lv_iload_n (pc := 138) hx hb dX12_describe_138 rfl (lv_at hl21 0 rfl) ?_
  refine lv_aload_n (pc := 139) hx hb dX12_describe_139 rfl (lv_at hl21 2 rfl) ?_
  refine ob_get (pc := 140) (v := .int 0) (ci := 12) (C := RX12) (T := TX12) (N := 114) hx hb hG in_X12 hown hK hP19 5 rfl rfl 2 (by decide) (hG _ g_480) rfl h0_2 dX12_describe_140 ?_
  refine lv_icmp_ge (pc := 143) (tgt := 185) hx hb dX12_describe_143 (by decide) (fun c22 => ?_) (fun c22 => absurd (by decide) c22)
  refine lv_aload_n (pc := 185) hx hb dX12_describe_185 rfl (lv_at hl21 2 rfl) ?_
  refine cq_i (pc := 186) (wr := [(ad1, ari (cy 0) 13 (upd ct1 (0 : Int32).toNatClampNeg 1)), (ad2, ari (cy 0) 13 (upd ct2 (0 : Int32).toNatClampNeg 0)), (ad3, ari (cy 0) 221 (upd ct3 (0 : Int32).toNatClampNeg (-1))), (ad4, arl (cy 2) 221 (vp_updL ct4 (0 : Int32).toNatClampNeg 0)), (ad5, arl (cy 2) 221 ct5)]) (k2 := 0) (n2 := 0) (va_runV (As := []) (rest := []) ⟨hx, hb, hml, hown, hG⟩ (m_fine1 l D cy kv H19.size ad0 (vup (vup (vup (vup (vup (vup (vup (vup (vup (vup (vup (vup (vup fn0 0 (.int 0)) 33 (.int 0)) 32 (.int 0)) 34 (.int 0)) 38 (.int 0)) 39 (.int (-1))) 48 (.int 0)) 35 (.int 0)) 37 (.int 0)) 40 (.long 0)) 36 (.int 0)) 38 (.int 1)) 39 (.int 0)) rfl) (cwV 0 hG (gi_V g_452 g_453 g_454 g_334 g_441) rfl rfl rfl (by decide +kernel) ⟨Nat.le_of_ble_eq_true rfl, Nat.le_of_ble_eq_true rfl⟩) ⟨pq_blind, (va_recv hK hP19 (ci := 12) (q0 := 5) rfl rfl), (pq_pass hP19 hD19 hK hE hS19 hA [5] rfl (by decide))⟩ rfl rfl hl21.1 rfl (lv_room (Nat.le_of_ble_eq_true rfl)) dX12_describe_186 ⟨Nat.le_of_ble_eq_true rfl, Nat.le_of_ble_eq_true rfl⟩) hP19 hD19 hS19 hA [5] [0, 1, 2, 3, 4] rfl rfl (by decide) (by decide) (by decide) (by decide) (fun r23 w23 H23 lo23 e23 hR23 hP23r hD23r hS23 => ?_)
  subst hR23
  subst e23
  have hP23 : va_P D classes [(ad1, ari (cy 0) 13 (upd ct1 (0 : Int32).toNatClampNeg 1)), (ad2, ari (cy 0) 13 (upd ct2 (0 : Int32).toNatClampNeg 0)), (ad3, ari (cy 0) 221 (upd ct3 (0 : Int32).toNatClampNeg (-1))), (ad4, arl (cy 2) 221 (vp_updL ct4 (0 : Int32).toNatClampNeg 0)), (ad5, arl (cy 2) 221 ct5), (ad0, ob 12 114 (vup (vup (vup (vup (vup (vup (vup (vup (vup (vup (vup (vup (vup fn0 0 (.int 0)) 33 (.int 0)) 32 (.int 0)) 34 (.int 0)) 38 (.int 0)) 39 (.int (-1))) 48 (.int 0)) 35 (.int 0)) 37 (.int 0)) 40 (.long 0)) 36 (.int 0)) 38 (.int 1)) 39 (.int 0)))] H23 := hP23r
  have hD23 : va_D A [(ad1, ari (cy 0) 13 (upd ct1 (0 : Int32).toNatClampNeg 1)), (ad2, ari (cy 0) 13 (upd ct2 (0 : Int32).toNatClampNeg 0)), (ad3, ari (cy 0) 221 (upd ct3 (0 : Int32).toNatClampNeg (-1))), (ad4, arl (cy 2) 221 (vp_updL ct4 (0 : Int32).toNatClampNeg 0)), (ad5, arl (cy 2) 221 ct5), (ad0, ob 12 114 (vup (vup (vup (vup (vup (vup (vup (vup (vup (vup (vup (vup (vup fn0 0 (.int 0)) 33 (.int 0)) 32 (.int 0)) 34 (.int 0)) 38 (.int 0)) 39 (.int (-1))) 48 (.int 0)) 35 (.int 0)) 37 (.int 0)) 40 (.long 0)) 36 (.int 0)) 38 (.int 1)) 39 (.int 0)))] := hD23r
  clear hP23r hD23r
  clear hP19 hD19 hS19
  clear H19 lo19
  refine lv_if_eq (pc := 189) (tgt := 210) hx hb dX12_describe_189 (by decide) (fun c24 => ?_) (fun c24 => absurd (by decide) c24)
  refine lv_aload_n (pc := 210) hx hb dX12_describe_210 rfl (lv_at hl21 2 rfl) ?_
  refine ob_get (pc := 211) (v := .ref ad5) (ci := 12) (C := RX12) (T := TX12) (N := 114) hx hb hG in_X12 hown hK hP23 5 rfl rfl 3 (by decide) (hG _ g_350) rfl h0_3 dX12_describe_211 ?_
  refine lv_bipush (pc := 214) (v := 17) hx hb dX12_describe_214 (by decide) ?_
  refine lv_iload_n (pc := 216) hx hb dX12_describe_216 rfl (lv_at hl21 1 rfl) ?_
  refine lv_imul (pc := 217) hx hb dX12_describe_217 ?_
  refine tp_i (y := 0) (by decide) ?_
  refine lv_aload_n (pc := 218) hx hb dX12_describe_218 rfl (lv_at hl21 2 rfl) ?_
  refine ob_get (pc := 219) (v := .long 0) (ci := 12) (C := RX12) (T := TX12) (N := 114) hx hb hG in_X12 hown hK hP23 5 rfl rfl 40 (by decide) (hG _ g_449) rfl rfl dX12_describe_219 ?_
  refine va_last (pc := 222) hx hb hK hP23 hD23 hS23 4 2 rfl rfl (show ¬ ((0 : Int32) < 0 ∨ 221 ≤ (0 : Int32).toNatClampNeg) by decide) dX12_describe_222 (fun H25 lo25 hP25r hD25r hS25 => ?_)
  have hP25 : va_P D classes [(ad1, ari (cy 0) 13 (upd ct1 (0 : Int32).toNatClampNeg 1)), (ad2, ari (cy 0) 13 (upd ct2 (0 : Int32).toNatClampNeg 0)), (ad3, ari (cy 0) 221 (upd ct3 (0 : Int32).toNatClampNeg (-1))), (ad4, arl (cy 2) 221 (vp_updL ct4 (0 : Int32).toNatClampNeg 0)), (ad5, arl (cy 2) 221 (vp_updL ct5 (0 : Int32).toNatClampNeg 0)), (ad0, ob 12 114 (vup (vup (vup (vup (vup (vup (vup (vup (vup (vup (vup (vup (vup fn0 0 (.int 0)) 33 (.int 0)) 32 (.int 0)) 34 (.int 0)) 38 (.int 0)) 39 (.int (-1))) 48 (.int 0)) 35 (.int 0)) 37 (.int 0)) 40 (.long 0)) 36 (.int 0)) 38 (.int 1)) 39 (.int 0)))] H25 := hP25r
  have hD25 : va_D A [(ad1, ari (cy 0) 13 (upd ct1 (0 : Int32).toNatClampNeg 1)), (ad2, ari (cy 0) 13 (upd ct2 (0 : Int32).toNatClampNeg 0)), (ad3, ari (cy 0) 221 (upd ct3 (0 : Int32).toNatClampNeg (-1))), (ad4, arl (cy 2) 221 (vp_updL ct4 (0 : Int32).toNatClampNeg 0)), (ad5, arl (cy 2) 221 (vp_updL ct5 (0 : Int32).toNatClampNeg 0)), (ad0, ob 12 114 (vup (vup (vup (vup (vup (vup (vup (vup (vup (vup (vup (vup (vup fn0 0 (.int 0)) 33 (.int 0)) 32 (.int 0)) 34 (.int 0)) 38 (.int 0)) 39 (.int (-1))) 48 (.int 0)) 35 (.int 0)) 37 (.int 0)) 40 (.long 0)) 36 (.int 0)) 38 (.int 1)) 39 (.int 0)))] := hD25r
  clear hP25r hD25r
  clear hP23 hD23 hS23
  clear H23 lo23
  refine lv_aload_n (pc := 223) hx hb dX12_describe_223 rfl (lv_at hl21 2 rfl) ?_
  refine cq_i (pc := 224) (wr := [(ad1, ari (cy 0) 13 (upd ct1 (0 : Int32).toNatClampNeg 1)), (ad2, ari (cy 0) 13 (upd ct2 (0 : Int32).toNatClampNeg 0)), (ad3, ari (cy 0) 221 (upd ct3 (0 : Int32).toNatClampNeg (-1))), (ad4, arl (cy 2) 221 (vp_updL ct4 (0 : Int32).toNatClampNeg 0)), (ad5, arl (cy 2) 221 (vp_updL ct5 (0 : Int32).toNatClampNeg 0))]) (k2 := 0) (n2 := 0) (va_runV (As := []) (rest := []) ⟨hx, hb, hml, hown, hG⟩ (m_fine1 l D cy kv H25.size ad0 (vup (vup (vup (vup (vup (vup (vup (vup (vup (vup (vup (vup (vup fn0 0 (.int 0)) 33 (.int 0)) 32 (.int 0)) 34 (.int 0)) 38 (.int 0)) 39 (.int (-1))) 48 (.int 0)) 35 (.int 0)) 37 (.int 0)) 40 (.long 0)) 36 (.int 0)) 38 (.int 1)) 39 (.int 0)) rfl) (cwV 0 hG (gi_V g_452 g_453 g_454 g_334 g_441) rfl rfl rfl (by decide +kernel) ⟨Nat.le_of_ble_eq_true rfl, Nat.le_of_ble_eq_true rfl⟩) ⟨pq_blind, (va_recv hK hP25 (ci := 12) (q0 := 5) rfl rfl), (pq_pass hP25 hD25 hK hE hS25 hA [5] rfl (by decide))⟩ rfl rfl hl21.1 rfl (lv_room (Nat.le_of_ble_eq_true rfl)) dX12_describe_224 ⟨Nat.le_of_ble_eq_true rfl, Nat.le_of_ble_eq_true rfl⟩) hP25 hD25 hS25 hA [5] [0, 1, 2, 3, 4] rfl rfl (by decide) (by decide) (by decide) (by decide) (fun r26 w26 H26 lo26 e26 hR26 hP26r hD26r hS26 => ?_)
  subst hR26
  subst e26
  have hP26 : va_P D classes [(ad1, ari (cy 0) 13 (upd ct1 (0 : Int32).toNatClampNeg 1)), (ad2, ari (cy 0) 13 (upd ct2 (0 : Int32).toNatClampNeg 0)), (ad3, ari (cy 0) 221 (upd ct3 (0 : Int32).toNatClampNeg (-1))), (ad4, arl (cy 2) 221 (vp_updL ct4 (0 : Int32).toNatClampNeg 0)), (ad5, arl (cy 2) 221 (vp_updL ct5 (0 : Int32).toNatClampNeg 0)), (ad0, ob 12 114 (vup (vup (vup (vup (vup (vup (vup (vup (vup (vup (vup (vup (vup fn0 0 (.int 0)) 33 (.int 0)) 32 (.int 0)) 34 (.int 0)) 38 (.int 0)) 39 (.int (-1))) 48 (.int 0)) 35 (.int 0)) 37 (.int 0)) 40 (.long 0)) 36 (.int 0)) 38 (.int 1)) 39 (.int 0)))] H26 := hP26r
  have hD26 : va_D A [(ad1, ari (cy 0) 13 (upd ct1 (0 : Int32).toNatClampNeg 1)), (ad2, ari (cy 0) 13 (upd ct2 (0 : Int32).toNatClampNeg 0)), (ad3, ari (cy 0) 221 (upd ct3 (0 : Int32).toNatClampNeg (-1))), (ad4, arl (cy 2) 221 (vp_updL ct4 (0 : Int32).toNatClampNeg 0)), (ad5, arl (cy 2) 221 (vp_updL ct5 (0 : Int32).toNatClampNeg 0)), (ad0, ob 12 114 (vup (vup (vup (vup (vup (vup (vup (vup (vup (vup (vup (vup (vup fn0 0 (.int 0)) 33 (.int 0)) 32 (.int 0)) 34 (.int 0)) 38 (.int 0)) 39 (.int (-1))) 48 (.int 0)) 35 (.int 0)) 37 (.int 0)) 40 (.long 0)) 36 (.int 0)) 38 (.int 1)) 39 (.int 0)))] := hD26r
  clear hP26r hD26r
  clear hP25 hD25 hS25
  clear H25 lo25
  refine lv_if_eq (pc := 227) (tgt := 234) hx hb dX12_describe_227 (by decide) (fun c27 => ?_) (fun c27 => absurd (by decide) c27)
  refine lv_aload_n (pc := 234) hx hb dX12_describe_234 rfl (lv_at hl21 2 rfl) ?_
  refine lv_iload_n (pc := 235) hx hb dX12_describe_235 rfl (lv_at hl21 1 rfl) ?_
  refine lv_iconst (pc := 236) (v := 0) hx hb dX12_describe_236 (by decide) ?_
  refine cq_v (pc := 237) (wr := [(ad1, ari (cy 0) 13 (upd ct1 (0 : Int32).toNatClampNeg 1)), (ad2, ari (cy 0) 13 (upd ct2 (0 : Int32).toNatClampNeg 0)), (ad3, ari (cy 0) 221 (upd ct3 (0 : Int32).toNatClampNeg (-1))), (ad4, arl (cy 2) 221 (vp_updL ct4 (0 : Int32).toNatClampNeg 0)), (ad5, arl (cy 2) 221 (vp_updL ct5 (0 : Int32).toNatClampNeg 0))]) (k2 := 0) (n2 := 0) (va_runV (As := [.int 0, .int 0]) (rest := []) ⟨hx, hb, hml, hown, hG⟩ (m_readPlace l D cy kv H26.size ad0 (vup (vup (vup (vup (vup (vup (vup (vup (vup (vup (vup (vup (vup fn0 0 (.int 0)) 33 (.int 0)) 32 (.int 0)) 34 (.int 0)) 38 (.int 0)) 39 (.int (-1))) 48 (.int 0)) 35 (.int 0)) 37 (.int 0)) 40 (.long 0)) 36 (.int 0)) 38 (.int 1)) 39 (.int 0)) rfl rfl) (cwV 2 hG (gi_V g_484 g_485 g_486 g_334 g_474) rfl rfl rfl (by decide +kernel) ⟨Nat.le_of_ble_eq_true rfl, Nat.le_of_ble_eq_true rfl⟩) ⟨pq_blind, (va_recv hK hP26 (ci := 12) (q0 := 5) rfl rfl), (pq_pass hP26 hD26 hK hE hS26 hA [5] rfl (by decide))⟩ rfl rfl hl21.1 rfl (lv_room (Nat.le_of_ble_eq_true rfl)) dX12_describe_237 ⟨Nat.le_of_ble_eq_true rfl, Nat.le_of_ble_eq_true rfl⟩) hP26 hD26 hS26 hA [5] [0, 1, 2, 3, 4] rfl rfl (by decide) (by decide) (by decide) (by decide) (fun w28 H28 lo28 hR28 hP28r hD28r hS28 => ?_)
  subst hR28
  have hP28 : va_P D classes [(ad1, ari (cy 0) 13 (upd ct1 (0 : Int32).toNatClampNeg 1)), (ad2, ari (cy 0) 13 (upd ct2 (0 : Int32).toNatClampNeg 0)), (ad3, ari (cy 0) 221 (upd ct3 (0 : Int32).toNatClampNeg (-1))), (ad4, arl (cy 2) 221 (vp_updL ct4 (0 : Int32).toNatClampNeg 0)), (ad5, arl (cy 2) 221 (vp_updL ct5 (0 : Int32).toNatClampNeg 0)), (ad0, ob 12 114 (vup (vup (vup (vup (vup (vup (vup (vup (vup (vup (vup (vup (vup fn0 0 (.int 0)) 33 (.int 0)) 32 (.int 0)) 34 (.int 0)) 38 (.int 0)) 39 (.int (-1))) 48 (.int 0)) 35 (.int 0)) 37 (.int 0)) 40 (.long 0)) 36 (.int 0)) 38 (.int 1)) 39 (.int 0)))] H28 := hP28r
  have hD28 : va_D A [(ad1, ari (cy 0) 13 (upd ct1 (0 : Int32).toNatClampNeg 1)), (ad2, ari (cy 0) 13 (upd ct2 (0 : Int32).toNatClampNeg 0)), (ad3, ari (cy 0) 221 (upd ct3 (0 : Int32).toNatClampNeg (-1))), (ad4, arl (cy 2) 221 (vp_updL ct4 (0 : Int32).toNatClampNeg 0)), (ad5, arl (cy 2) 221 (vp_updL ct5 (0 : Int32).toNatClampNeg 0)), (ad0, ob 12 114 (vup (vup (vup (vup (vup (vup (vup (vup (vup (vup (vup (vup (vup fn0 0 (.int 0)) 33 (.int 0)) 32 (.int 0)) 34 (.int 0)) 38 (.int 0)) 39 (.int (-1))) 48 (.int 0)) 35 (.int 0)) 37 (.int 0)) 40 (.long 0)) 36 (.int 0)) 38 (.int 1)) 39 (.int 0)))] := hD28r
  clear hP28r hD28r
  clear hP26 hD26 hS26
  clear H26 lo26
  refine lv_aload_n (pc := 240) hx hb dX12_describe_240 rfl (lv_at hl21 2 rfl) ?_
  refine cq_i (pc := 241) (wr := [(ad1, ari (cy 0) 13 (upd ct1 (0 : Int32).toNatClampNeg 1)), (ad2, ari (cy 0) 13 (upd ct2 (0 : Int32).toNatClampNeg 0)), (ad3, ari (cy 0) 221 (upd ct3 (0 : Int32).toNatClampNeg (-1))), (ad4, arl (cy 2) 221 (vp_updL ct4 (0 : Int32).toNatClampNeg 0)), (ad5, arl (cy 2) 221 (vp_updL ct5 (0 : Int32).toNatClampNeg 0))]) (k2 := 0) (n2 := 0) (va_runV (As := []) (rest := []) ⟨hx, hb, hml, hown, hG⟩ (m_fine1 l D cy kv H28.size ad0 (vup (vup (vup (vup (vup (vup (vup (vup (vup (vup (vup (vup (vup fn0 0 (.int 0)) 33 (.int 0)) 32 (.int 0)) 34 (.int 0)) 38 (.int 0)) 39 (.int (-1))) 48 (.int 0)) 35 (.int 0)) 37 (.int 0)) 40 (.long 0)) 36 (.int 0)) 38 (.int 1)) 39 (.int 0)) rfl) (cwV 0 hG (gi_V g_452 g_453 g_454 g_334 g_441) rfl rfl rfl (by decide +kernel) ⟨Nat.le_of_ble_eq_true rfl, Nat.le_of_ble_eq_true rfl⟩) ⟨pq_blind, (va_recv hK hP28 (ci := 12) (q0 := 5) rfl rfl), (pq_pass hP28 hD28 hK hE hS28 hA [5] rfl (by decide))⟩ rfl rfl hl21.1 rfl (lv_room (Nat.le_of_ble_eq_true rfl)) dX12_describe_241 ⟨Nat.le_of_ble_eq_true rfl, Nat.le_of_ble_eq_true rfl⟩) hP28 hD28 hS28 hA [5] [0, 1, 2, 3, 4] rfl rfl (by decide) (by decide) (by decide) (by decide) (fun r29 w29 H29 lo29 e29 hR29 hP29r hD29r hS29 => ?_)
  subst hR29
  subst e29
  have hP29 : va_P D classes [(ad1, ari (cy 0) 13 (upd ct1 (0 : Int32).toNatClampNeg 1)), (ad2, ari (cy 0) 13 (upd ct2 (0 : Int32).toNatClampNeg 0)), (ad3, ari (cy 0) 221 (upd ct3 (0 : Int32).toNatClampNeg (-1))), (ad4, arl (cy 2) 221 (vp_updL ct4 (0 : Int32).toNatClampNeg 0)), (ad5, arl (cy 2) 221 (vp_updL ct5 (0 : Int32).toNatClampNeg 0)), (ad0, ob 12 114 (vup (vup (vup (vup (vup (vup (vup (vup (vup (vup (vup (vup (vup fn0 0 (.int 0)) 33 (.int 0)) 32 (.int 0)) 34 (.int 0)) 38 (.int 0)) 39 (.int (-1))) 48 (.int 0)) 35 (.int 0)) 37 (.int 0)) 40 (.long 0)) 36 (.int 0)) 38 (.int 1)) 39 (.int 0)))] H29 := hP29r
  have hD29 : va_D A [(ad1, ari (cy 0) 13 (upd ct1 (0 : Int32).toNatClampNeg 1)), (ad2, ari (cy 0) 13 (upd ct2 (0 : Int32).toNatClampNeg 0)), (ad3, ari (cy 0) 221 (upd ct3 (0 : Int32).toNatClampNeg (-1))), (ad4, arl (cy 2) 221 (vp_updL ct4 (0 : Int32).toNatClampNeg 0)), (ad5, arl (cy 2) 221 (vp_updL ct5 (0 : Int32).toNatClampNeg 0)), (ad0, ob 12 114 (vup (vup (vup (vup (vup (vup (vup (vup (vup (vup (vup (vup (vup fn0 0 (.int 0)) 33 (.int 0)) 32 (.int 0)) 34 (.int 0)) 38 (.int 0)) 39 (.int (-1))) 48 (.int 0)) 35 (.int 0)) 37 (.int 0)) 40 (.long 0)) 36 (.int 0)) 38 (.int 1)) 39 (.int 0)))] := hD29r
  clear hP29r hD29r
  clear hP28 hD28 hS28
  clear H28 lo28
  refine lv_if_eq (pc := 244) (tgt := 263) hx hb dX12_describe_244 (by decide) (fun c30 => ?_) (fun c30 => absurd (by decide) c30)
  refine lv_iconst (pc := 263) (v := 0) hx hb dX12_describe_263 (by decide) ?_
  refine lv_istore_n (pc := 264) (lv' := [(3, .int 0), (2, .int 0), (0, .ref ad0), (1, .int 0)]) hx hb dX12_describe_264 rfl hl21 (by decide) rfl (fun ls31 hl31 => ?_)
  clear hl21 ls21
  refine lv_iload_n (pc := 265) hx hb dX12_describe_265 rfl (lv_at hl31 0 rfl) ?_
  refine lv_aload_n (pc := 266) hx hb dX12_describe_266 rfl (lv_at hl31 2 rfl) ?_
  refine ob_get (pc := 267) (v := .int 0) (ci := 12) (C := RX12) (T := TX12) (N := 114) hx hb hG in_X12 hown hK hP29 5 rfl rfl 48 (by decide) (hG _ g_479) rfl rfl dX12_describe_267 ?_
  refine lv_icmp_ge (pc := 270) (tgt := 292) hx hb dX12_describe_270 (by decide) (fun c32 => ?_) (fun c32 => absurd (by decide) c32)
  refine lv_aload_n (pc := 292) hx hb dX12_describe_292 rfl (lv_at hl31 2 rfl) ?_
  refine cq_i (pc := 293) (wr := [(ad1, ari (cy 0) 13 (upd ct1 (0 : Int32).toNatClampNeg 1)), (ad2, ari (cy 0) 13 (upd ct2 (0 : Int32).toNatClampNeg 0)), (ad3, ari (cy 0) 221 (upd ct3 (0 : Int32).toNatClampNeg (-1))), (ad4, arl (cy 2) 221 (vp_updL ct4 (0 : Int32).toNatClampNeg 0)), (ad5, arl (cy 2) 221 (vp_updL ct5 (0 : Int32).toNatClampNeg 0))]) (k2 := 0) (n2 := 0) (va_runV (As := []) (rest := []) ⟨hx, hb, hml, hown, hG⟩ (m_fine1 l D cy kv H29.size ad0 (vup (vup (vup (vup (vup (vup (vup (vup (vup (vup (vup (vup (vup fn0 0 (.int 0)) 33 (.int 0)) 32 (.int 0)) 34 (.int 0)) 38 (.int 0)) 39 (.int (-1))) 48 (.int 0)) 35 (.int 0)) 37 (.int 0)) 40 (.long 0)) 36 (.int 0)) 38 (.int 1)) 39 (.int 0)) rfl) (cwV 0 hG (gi_V g_452 g_453 g_454 g_334 g_441) rfl rfl rfl (by decide +kernel) ⟨Nat.le_of_ble_eq_true rfl, Nat.le_of_ble_eq_true rfl⟩) ⟨pq_blind, (va_recv hK hP29 (ci := 12) (q0 := 5) rfl rfl), (pq_pass hP29 hD29 hK hE hS29 hA [5] rfl (by decide))⟩ rfl rfl hl31.1 rfl (lv_room (Nat.le_of_ble_eq_true rfl)) dX12_describe_293 ⟨Nat.le_of_ble_eq_true rfl, Nat.le_of_ble_eq_true rfl⟩) hP29 hD29 hS29 hA [5] [0, 1, 2, 3, 4] rfl rfl (by decide) (by decide) (by decide) (by decide) (fun r33 w33 H33 lo33 e33 hR33 hP33r hD33r hS33 => ?_)
  subst hR33
  subst e33
  have hP33 : va_P D classes [(ad1, ari (cy 0) 13 (upd ct1 (0 : Int32).toNatClampNeg 1)), (ad2, ari (cy 0) 13 (upd ct2 (0 : Int32).toNatClampNeg 0)), (ad3, ari (cy 0) 221 (upd ct3 (0 : Int32).toNatClampNeg (-1))), (ad4, arl (cy 2) 221 (vp_updL ct4 (0 : Int32).toNatClampNeg 0)), (ad5, arl (cy 2) 221 (vp_updL ct5 (0 : Int32).toNatClampNeg 0)), (ad0, ob 12 114 (vup (vup (vup (vup (vup (vup (vup (vup (vup (vup (vup (vup (vup fn0 0 (.int 0)) 33 (.int 0)) 32 (.int 0)) 34 (.int 0)) 38 (.int 0)) 39 (.int (-1))) 48 (.int 0)) 35 (.int 0)) 37 (.int 0)) 40 (.long 0)) 36 (.int 0)) 38 (.int 1)) 39 (.int 0)))] H33 := hP33r
  have hD33 : va_D A [(ad1, ari (cy 0) 13 (upd ct1 (0 : Int32).toNatClampNeg 1)), (ad2, ari (cy 0) 13 (upd ct2 (0 : Int32).toNatClampNeg 0)), (ad3, ari (cy 0) 221 (upd ct3 (0 : Int32).toNatClampNeg (-1))), (ad4, arl (cy 2) 221 (vp_updL ct4 (0 : Int32).toNatClampNeg 0)), (ad5, arl (cy 2) 221 (vp_updL ct5 (0 : Int32).toNatClampNeg 0)), (ad0, ob 12 114 (vup (vup (vup (vup (vup (vup (vup (vup (vup (vup (vup (vup (vup fn0 0 (.int 0)) 33 (.int 0)) 32 (.int 0)) 34 (.int 0)) 38 (.int 0)) 39 (.int (-1))) 48 (.int 0)) 35 (.int 0)) 37 (.int 0)) 40 (.long 0)) 36 (.int 0)) 38 (.int 1)) 39 (.int 0)))] := hD33r
  clear hP33r hD33r
  clear hP29 hD29 hS29
  clear H29 lo29
  refine lv_if_ne (pc := 296) (tgt := 307) hx hb dX12_describe_296 (by decide) (fun c34 => absurd (by decide) c34) (fun c34 => ?_)
  refine lv_aload_n (pc := 299) hx hb dX12_describe_299 rfl (lv_at hl31 2 rfl) ?_
  refine ob_get (pc := 300) (v := .int 1) (ci := 12) (C := RX12) (T := TX12) (N := 114) hx hb hG in_X12 hown hK hP33 5 rfl rfl 38 (by decide) (hG _ g_440) rfl rfl dX12_describe_300 ?_
  refine lv_bipush (pc := 303) (v := 10) hx hb dX12_describe_303 (by decide) ?_
  refine lv_isub (pc := 305) hx hb dX12_describe_305 ?_
  refine tp_i (y := (-9)) (by decide) ?_
  have hP99 := hP33.sub (ws' := [(ad0, ob 12 114 (vup (vup (vup (vup (vup (vup (vup (vup (vup (vup (vup (vup (vup fn0 0 (.int 0)) 33 (.int 0)) 32 (.int 0)) 34 (.int 0)) 38 (.int 0)) 39 (.int (-1))) 48 (.int 0)) 35 (.int 0)) 37 (.int 0)) 40 (.long 0)) 36 (.int 0)) 38 (.int 1)) 39 (.int 0)))]) [5] rfl
  have hD99 := hD33.sub (ws' := [(ad0, ob 12 114 (vup (vup (vup (vup (vup (vup (vup (vup (vup (vup (vup (vup (vup fn0 0 (.int 0)) 33 (.int 0)) 32 (.int 0)) 34 (.int 0)) 38 (.int 0)) 39 (.int (-1))) 48 (.int 0)) 35 (.int 0)) 37 (.int 0)) 40 (.long 0)) 36 (.int 0)) 38 (.int 1)) 39 (.int 0)))]) [5] (by decide) rfl
  exact W.iret (pc := 306) (v := (-9)) hx hb hr (fun t ht hW => ⟨⟨(-9), (), rfl, rfl, _, ⟨(vup (vup (vup (vup (vup (vup (vup (vup (vup (vup (vup (vup (vup fn0 0 (.int 0)) 33 (.int 0)) 32 (.int 0)) 34 (.int 0)) 38 (.int 0)) 39 (.int (-1))) 48 (.int 0)) 35 (.int 0)) 37 (.int 0)) 40 (.long 0)) 36 (.int 0)) 38 (.int 1)) 39 (.int 0)), rfl, rfl⟩, by rw [ht]; exact hP99, hD99⟩, hS33.F ht⟩) hS33.2.2 dX12_describe_306
set_option maxHeartbeats 4000000 in
set_option maxRecDepth 100000 in
/-- X12_put -/
theorem m_put_n (l : Launch) (D : va_G) (cy : Nat → ClassId) (kv : KV) (sz : Nat) (ad0 : Nat) (xi1 : Int32) (xi0 : Int32) (fn0 : Nat → Value) (h0_32 : fn0 32 = .int 0) (hn : xi0 < 0) : Met l yX12_put (Cond.code yX12_put cX12_put 9 (some .int) :: GW) ({ frames := 9, cells := 0, slots := 0, locals := 160 } : Room) (va_Pc [.ref ad0, .int xi1, .int xi0] (pcq D cy kv sz [(ad0, ob 12 114 fn0)])) (va_Qi (fun r (_ : Unit) => r = 0) (fun _ t => bq D (fun w => ∃ (nc900 : Nat → Value), w = [(ad0, ob 12 114 nc900)] ∧ nc900 0 = .int 1) (va_A [(ad0, ob 12 114 fn0)] sz) t) (va_A [(ad0, ob 12 114 fn0)] sz)) 0 0 (va_A [(ad0, ob 12 114 fn0)] sz) := by
  refine Met.ofW (cc := cX12_put) (maxL := 9) (ret := (some .int)) (by decide) rfl ?_
  intro p e s m args below meth c s₁ B hml hv
  obtain ⟨rfl, hsz, hP, hK, hD0, hE⟩ := hv
  have hx := B.exec
  have hb := B.bytes
  have hr := B.returns
  have hG : ∀ w ∈ GW, w.before ([.ref ad0, .int xi1, .int xi0] : List Value).toArray s = true := fun w h => atoms_spec (ws := Cond.code yX12_put cX12_put 9 (some .int) :: GW) B.pre w (List.mem_cons_of_mem _ h)
  have hown : s.vm.findClass RX12 = some m.cls := findClass_of_methodNamed B.named
  have hlocks := B.notSynchronized
  subst hsz
  have hD := hD0.self (sz := s.heap.size)
  generalize hAe : va_A [(ad0, ob 12 114 fn0)] s.heap.size = A at hD hE ⊢
  have hA : ∀ q : Nat, s.heap.size ≤ q → A q := fun q h => by rw [← hAe]; exact Or.inr h
  have hS : va_S A s.heap s.heap [] := va_S.rf
  clear hAe hD0
  have hl0 := lv_entry ([.ref ad0, .int xi1, .int xi0]) (n := 9) (Nat.le_of_ble_eq_true rfl)
  rw [lg_entry_eq]
  generalize (lg_sl ([.ref ad0, .int xi1, .int xi0]) ++ List.replicate (9 - (lg_sl ([.ref ad0, .int xi1, .int xi0])).length) Slot.unset).toArray = ls at hl0 ⊢
  have hl : lv_has ls 9 [(0, .ref ad0), (1, .int xi1), (2, .int xi0)] := hl0
  clear hl0
  refine lv_aload_n (pc := 0) hx hb dX12_put_0 rfl (lv_at hl 0 rfl) ?_
  refine lv_iconst (pc := 1) (v := 0) hx hb dX12_put_1 (by decide) ?_
  refine ob_put (pc := 2) (v := .int 0) (ci := 12) (C := RX12) (T := TX12) (N := 114) hx hb hG in_X12 tyX12 tyX12_ok nmX12 hown hK hP hD hS 0 rfl rfl 0 (by decide) (hG _ g_432) rfl rfl rfl rfl dX12_put_2 (ws' := [(ad0, ob 12 114 (vup fn0 0 (.int 0)))]) rfl (fun H1 lo1 hP1 hD1 hS1 => ?_)
  clear hP hD hS
  refine lv_aload_n (pc := 5) hx hb dX12_put_5 rfl (lv_at hl 0 rfl) ?_
  refine lv_iload_n (pc := 6) hx hb dX12_put_6 rfl (lv_at hl 2 rfl) ?_
  refine lv_if_lt (pc := 7) (tgt := 31) hx hb dX12_put_7 (by decide) (fun c2 => ?_) (fun c2 => absurd hn c2)
  refine lv_iconst (pc := 31) (v := 0) hx hb dX12_put_31 (by decide) ?_
  refine lv_iconst (pc := 32) (v := 1) hx hb dX12_put_32 (by decide) ?_
  refine cq_i (pc := 33) (wr := []) (k2 := 0) (n2 := 0) (va_runV (As := [.int 0, .int 1]) (rest := []) ⟨hx, hb, hml, hown, hG⟩ (m_may0 l D cy kv H1.size ad0 (vup fn0 0 (.int 0)) rfl) (cwV 2 hG (gi_V g_475 g_476 g_477 g_334 g_434) rfl rfl rfl (by decide +kernel) ⟨Nat.le_of_ble_eq_true rfl, Nat.le_of_ble_eq_true rfl⟩) ⟨pq_blind, (va_recv hK hP1 (ci := 12) (q0 := 0) rfl rfl), (pq_pass hP1 hD1 hK hE hS1 hA [0] rfl (by decide))⟩ rfl rfl hl.1 rfl (lv_room (Nat.le_of_ble_eq_true rfl)) dX12_put_33 ⟨Nat.le_of_ble_eq_true rfl, Nat.le_of_ble_eq_true rfl⟩) hP1 hD1 hS1 hA [0] [] rfl rfl (by decide) (by decide) (by decide) (by decide) (fun r3 w3 H3 lo3 e3 hR3 hP3r hD3r hS3 => ?_)
  subst hR3
  subst e3
  have hP3 : va_P D classes [(ad0, ob 12 114 (vup (vup fn0 0 (.int 0)) 0 (.int 1)))] H3 := hP3r
  have hD3 : va_D A [(ad0, ob 12 114 (vup (vup fn0 0 (.int 0)) 0 (.int 1)))] := hD3r
  clear hP3r hD3r
  clear hP1 hD1 hS1
  clear H1 lo1
  refine lv_if_ne (pc := 36) (tgt := 41) hx hb dX12_put_36 (by decide) (fun c4 => absurd (by decide) c4) (fun c4 => ?_)
  refine lv_iconst (pc := 39) (v := 0) hx hb dX12_put_39 (by decide) ?_
  exact W.iret (pc := 40) (v := 0) hx hb hr (fun t ht hW => ⟨⟨0, (), rfl, rfl, _, ⟨(vup (vup fn0 0 (.int 0)) 0 (.int 1)), rfl, rfl⟩, by rw [ht]; exact hP3, hD3⟩, hS3.F ht⟩) hS3.2.2 dX12_put_40
set_option maxHeartbeats 4000000 in
set_option maxRecDepth 100000 in
/-- X12_put -/
theorem m_put_p (l : Launch) (D : va_G) (cy : Nat → ClassId) (kv : KV) (sz : Nat) (ad0 : Nat) (xi1 : Int32) (xi0 : Int32) (fn0 : Nat → Value) (h0_32 : fn0 32 = .int 0) (hn : 0 < xi0) : Met l yX12_put (Cond.code yX12_put cX12_put 9 (some .int) :: GW) ({ frames := 9, cells := 0, slots := 0, locals := 160 } : Room) (va_Pc [.ref ad0, .int xi1, .int xi0] (pcq D cy kv sz [(ad0, ob 12 114 fn0)])) (va_Qi (fun r (_ : Unit) => r = 0) (fun _ t => bq D (fun w => ∃ (nc900 : Nat → Value), w = [(ad0, ob 12 114 nc900)] ∧ nc900 0 = .int 1) (va_A [(ad0, ob 12 114 fn0)] sz) t) (va_A [(ad0, ob 12 114 fn0)] sz)) 0 0 (va_A [(ad0, ob 12 114 fn0)] sz) := by
  refine Met.ofW (cc := cX12_put) (maxL := 9) (ret := (some .int)) (by decide) rfl ?_
  intro p e s m args below meth c s₁ B hml hv
  obtain ⟨rfl, hsz, hP, hK, hD0, hE⟩ := hv
  have hx := B.exec
  have hb := B.bytes
  have hr := B.returns
  have hG : ∀ w ∈ GW, w.before ([.ref ad0, .int xi1, .int xi0] : List Value).toArray s = true := fun w h => atoms_spec (ws := Cond.code yX12_put cX12_put 9 (some .int) :: GW) B.pre w (List.mem_cons_of_mem _ h)
  have hown : s.vm.findClass RX12 = some m.cls := findClass_of_methodNamed B.named
  have hlocks := B.notSynchronized
  subst hsz
  have hD := hD0.self (sz := s.heap.size)
  generalize hAe : va_A [(ad0, ob 12 114 fn0)] s.heap.size = A at hD hE ⊢
  have hA : ∀ q : Nat, s.heap.size ≤ q → A q := fun q h => by rw [← hAe]; exact Or.inr h
  have hS : va_S A s.heap s.heap [] := va_S.rf
  clear hAe hD0
  have hl0 := lv_entry ([.ref ad0, .int xi1, .int xi0]) (n := 9) (Nat.le_of_ble_eq_true rfl)
  rw [lg_entry_eq]
  generalize (lg_sl ([.ref ad0, .int xi1, .int xi0]) ++ List.replicate (9 - (lg_sl ([.ref ad0, .int xi1, .int xi0])).length) Slot.unset).toArray = ls at hl0 ⊢
  have hl : lv_has ls 9 [(0, .ref ad0), (1, .int xi1), (2, .int xi0)] := hl0
  clear hl0
  refine lv_aload_n (pc := 0) hx hb dX12_put_0 rfl (lv_at hl 0 rfl) ?_
  refine lv_iconst (pc := 1) (v := 0) hx hb dX12_put_1 (by decide) ?_
  refine ob_put (pc := 2) (v := .int 0) (ci := 12) (C := RX12) (T := TX12) (N := 114) hx hb hG in_X12 tyX12 tyX12_ok nmX12 hown hK hP hD hS 0 rfl rfl 0 (by decide) (hG _ g_432) rfl rfl rfl rfl dX12_put_2 (ws' := [(ad0, ob 12 114 (vup fn0 0 (.int 0)))]) rfl (fun H1 lo1 hP1 hD1 hS1 => ?_)
  clear hP hD hS
  refine lv_aload_n (pc := 5) hx hb dX12_put_5 rfl (lv_at hl 0 rfl) ?_
  refine lv_iload_n (pc := 6) hx hb dX12_put_6 rfl (lv_at hl 2 rfl) ?_
  refine lv_if_lt (pc := 7) (tgt := 31) hx hb dX12_put_7 (by decide) (fun c2 => absurd c2 (i_asym hn)) (fun c2 => ?_)
  refine lv_iload_n (pc := 10) hx hb dX12_put_10 rfl (lv_at hl 2 rfl) ?_
  refine lv_aload_n (pc := 11) hx hb dX12_put_11 rfl (lv_at hl 0 rfl) ?_
  refine ob_get (pc := 12) (v := .int 0) (ci := 12) (C := RX12) (T := TX12) (N := 114) hx hb hG in_X12 hown hK hP1 0 rfl rfl 32 (by decide) (hG _ g_435) rfl h0_32 dX12_put_12 ?_
  refine lv_icmp_gt (pc := 15) (tgt := 31) hx hb dX12_put_15 (by decide) (fun c3 => ?_) (fun c3 => absurd hn c3)
  refine lv_iconst (pc := 31) (v := 0) hx hb dX12_put_31 (by decide) ?_
  refine lv_iconst (pc := 32) (v := 1) hx hb dX12_put_32 (by decide) ?_
  refine cq_i (pc := 33) (wr := []) (k2 := 0) (n2 := 0) (va_runV (As := [.int 0, .int 1]) (rest := []) ⟨hx, hb, hml, hown, hG⟩ (m_may0 l D cy kv H1.size ad0 (vup fn0 0 (.int 0)) rfl) (cwV 2 hG (gi_V g_475 g_476 g_477 g_334 g_434) rfl rfl rfl (by decide +kernel) ⟨Nat.le_of_ble_eq_true rfl, Nat.le_of_ble_eq_true rfl⟩) ⟨pq_blind, (va_recv hK hP1 (ci := 12) (q0 := 0) rfl rfl), (pq_pass hP1 hD1 hK hE hS1 hA [0] rfl (by decide))⟩ rfl rfl hl.1 rfl (lv_room (Nat.le_of_ble_eq_true rfl)) dX12_put_33 ⟨Nat.le_of_ble_eq_true rfl, Nat.le_of_ble_eq_true rfl⟩) hP1 hD1 hS1 hA [0] [] rfl rfl (by decide) (by decide) (by decide) (by decide) (fun r4 w4 H4 lo4 e4 hR4 hP4r hD4r hS4 => ?_)
  subst hR4
  subst e4
  have hP4 : va_P D classes [(ad0, ob 12 114 (vup (vup fn0 0 (.int 0)) 0 (.int 1)))] H4 := hP4r
  have hD4 : va_D A [(ad0, ob 12 114 (vup (vup fn0 0 (.int 0)) 0 (.int 1)))] := hD4r
  clear hP4r hD4r
  clear hP1 hD1 hS1
  clear H1 lo1
  refine lv_if_ne (pc := 36) (tgt := 41) hx hb dX12_put_36 (by decide) (fun c5 => absurd (by decide) c5) (fun c5 => ?_)
  refine lv_iconst (pc := 39) (v := 0) hx hb dX12_put_39 (by decide) ?_
  exact W.iret (pc := 40) (v := 0) hx hb hr (fun t ht hW => ⟨⟨0, (), rfl, rfl, _, ⟨(vup (vup fn0 0 (.int 0)) 0 (.int 1)), rfl, rfl⟩, by rw [ht]; exact hP4, hD4⟩, hS4.F ht⟩) hS4.2.2 dX12_put_40
set_option maxHeartbeats 4000000 in
set_option maxRecDepth 100000 in
/-- X12_put -/
theorem m_put_sn (l : Launch) (D : va_G) (cy : Nat → ClassId) (kv : KV) (sz : Nat) (ad0 : Nat) (xi0 : Int32) (fn0 : Nat → Value) (h0_32 : fn0 32 = .int 0) (hn : xi0 < 0) : Met l yX12_put (Cond.code yX12_put cX12_put 9 (some .int) :: GW) ({ frames := 9, cells := 0, slots := 0, locals := 160 } : Room) (va_Pc [.ref ad0, .int xi0, .int 0] (pcq D cy kv sz [(ad0, ob 12 114 fn0)])) (va_Qi (fun r (_ : Unit) => r = 0) (fun _ t => bq D (fun w => ∃ (nc900 : Nat → Value), w = [(ad0, ob 12 114 nc900)] ∧ nc900 0 = .int 1) (va_A [(ad0, ob 12 114 fn0)] sz) t) (va_A [(ad0, ob 12 114 fn0)] sz)) 0 0 (va_A [(ad0, ob 12 114 fn0)] sz) := by
  refine Met.ofW (cc := cX12_put) (maxL := 9) (ret := (some .int)) (by decide) rfl ?_
  intro p e s m args below meth c s₁ B hml hv
  obtain ⟨rfl, hsz, hP, hK, hD0, hE⟩ := hv
  have hx := B.exec
  have hb := B.bytes
  have hr := B.returns
  have hG : ∀ w ∈ GW, w.before ([.ref ad0, .int xi0, .int 0] : List Value).toArray s = true := fun w h => atoms_spec (ws := Cond.code yX12_put cX12_put 9 (some .int) :: GW) B.pre w (List.mem_cons_of_mem _ h)
  have hown : s.vm.findClass RX12 = some m.cls := findClass_of_methodNamed B.named
  have hlocks := B.notSynchronized
  subst hsz
  have hD := hD0.self (sz := s.heap.size)
  generalize hAe : va_A [(ad0, ob 12 114 fn0)] s.heap.size = A at hD hE ⊢
  have hA : ∀ q : Nat, s.heap.size ≤ q → A q := fun q h => by rw [← hAe]; exact Or.inr h
  have hS : va_S A s.heap s.heap [] := va_S.rf
  clear hAe hD0
  have hl0 := lv_entry ([.ref ad0, .int xi0, .int 0]) (n := 9) (Nat.le_of_ble_eq_true rfl)
  rw [lg_entry_eq]
  generalize (lg_sl ([.ref ad0, .int xi0, .int 0]) ++ List.replicate (9 - (lg_sl ([.ref ad0, .int xi0, .int 0])).length) Slot.unset).toArray = ls at hl0 ⊢
  have hl : lv_has ls 9 [(0, .ref ad0), (1, .int xi0), (2, .int 0)] := hl0
  clear hl0
  refine lv_aload_n (pc := 0) hx hb dX12_put_0 rfl (lv_at hl 0 rfl) ?_
  refine lv_iconst (pc := 1) (v := 0) hx hb dX12_put_1 (by decide) ?_
  refine ob_put (pc := 2) (v := .int 0) (ci := 12) (C := RX12) (T := TX12) (N := 114) hx hb hG in_X12 tyX12 tyX12_ok nmX12 hown hK hP hD hS 0 rfl rfl 0 (by decide) (hG _ g_432) rfl rfl rfl rfl dX12_put_2 (ws' := [(ad0, ob 12 114 (vup fn0 0 (.int 0)))]) rfl (fun H1 lo1 hP1 hD1 hS1 => ?_)
  clear hP hD hS
  refine lv_aload_n (pc := 5) hx hb dX12_put_5 rfl (lv_at hl 0 rfl) ?_
  refine lv_iload_n (pc := 6) hx hb dX12_put_6 rfl (lv_at hl 2 rfl) ?_
  refine lv_if_lt (pc := 7) (tgt := 31) hx hb dX12_put_7 (by decide) (fun c2 => absurd c2 (by decide)) (fun c2 => ?_)
  refine lv_iload_n (pc := 10) hx hb dX12_put_10 rfl (lv_at hl 2 rfl) ?_
  refine lv_aload_n (pc := 11) hx hb dX12_put_11 rfl (lv_at hl 0 rfl) ?_
  refine ob_get (pc := 12) (v := .int 0) (ci := 12) (C := RX12) (T := TX12) (N := 114) hx hb hG in_X12 hown hK hP1 0 rfl rfl 32 (by decide) (hG _ g_435) rfl h0_32 dX12_put_12 ?_
  refine lv_icmp_gt (pc := 15) (tgt := 31) hx hb dX12_put_15 (by decide) (fun c3 => absurd c3 (by decide)) (fun c3 => ?_)
  refine lv_iload_n (pc := 18) hx hb dX12_put_18 rfl (lv_at hl 1 rfl) ?_
  refine lv_if_lt (pc := 19) (tgt := 31) hx hb dX12_put_19 (by decide) (fun c4 => ?_) (fun c4 => absurd hn c4)
  refine lv_iconst (pc := 31) (v := 0) hx hb dX12_put_31 (by decide) ?_
  refine lv_iconst (pc := 32) (v := 1) hx hb dX12_put_32 (by decide) ?_
  refine cq_i (pc := 33) (wr := []) (k2 := 0) (n2 := 0) (va_runV (As := [.int 0, .int 1]) (rest := []) ⟨hx, hb, hml, hown, hG⟩ (m_may0 l D cy kv H1.size ad0 (vup fn0 0 (.int 0)) rfl) (cwV 2 hG (gi_V g_475 g_476 g_477 g_334 g_434) rfl rfl rfl (by decide +kernel) ⟨Nat.le_of_ble_eq_true rfl, Nat.le_of_ble_eq_true rfl⟩) ⟨pq_blind, (va_recv hK hP1 (ci := 12) (q0 := 0) rfl rfl), (pq_pass hP1 hD1 hK hE hS1 hA [0] rfl (by decide))⟩ rfl rfl hl.1 rfl (lv_room (Nat.le_of_ble_eq_true rfl)) dX12_put_33 ⟨Nat.le_of_ble_eq_true rfl, Nat.le_of_ble_eq_true rfl⟩) hP1 hD1 hS1 hA [0] [] rfl rfl (by decide) (by decide) (by decide) (by decide) (fun r5 w5 H5 lo5 e5 hR5 hP5r hD5r hS5 => ?_)
  subst hR5
  subst e5
  have hP5 : va_P D classes [(ad0, ob 12 114 (vup (vup fn0 0 (.int 0)) 0 (.int 1)))] H5 := hP5r
  have hD5 : va_D A [(ad0, ob 12 114 (vup (vup fn0 0 (.int 0)) 0 (.int 1)))] := hD5r
  clear hP5r hD5r
  clear hP1 hD1 hS1
  clear H1 lo1
  refine lv_if_ne (pc := 36) (tgt := 41) hx hb dX12_put_36 (by decide) (fun c6 => absurd (by decide) c6) (fun c6 => ?_)
  refine lv_iconst (pc := 39) (v := 0) hx hb dX12_put_39 (by decide) ?_
  exact W.iret (pc := 40) (v := 0) hx hb hr (fun t ht hW => ⟨⟨0, (), rfl, rfl, _, ⟨(vup (vup fn0 0 (.int 0)) 0 (.int 1)), rfl, rfl⟩, by rw [ht]; exact hP5, hD5⟩, hS5.F ht⟩) hS5.2.2 dX12_put_40
set_option maxHeartbeats 4000000 in
set_option maxRecDepth 100000 in
/-- X12_put -/
theorem m_put_sb (l : Launch) (D : va_G) (cy : Nat → ClassId) (kv : KV) (sz : Nat) (ad0 : Nat) (xi0 : Int32) (fn0 : Nat → Value) (h0_32 : fn0 32 = .int 0) (hn : 3 ≤ xi0) : Met l yX12_put (Cond.code yX12_put cX12_put 9 (some .int) :: GW) ({ frames := 9, cells := 0, slots := 0, locals := 160 } : Room) (va_Pc [.ref ad0, .int xi0, .int 0] (pcq D cy kv sz [(ad0, ob 12 114 fn0)])) (va_Qi (fun r (_ : Unit) => r = 0) (fun _ t => bq D (fun w => ∃ (nc900 : Nat → Value), w = [(ad0, ob 12 114 nc900)] ∧ nc900 0 = .int 1) (va_A [(ad0, ob 12 114 fn0)] sz) t) (va_A [(ad0, ob 12 114 fn0)] sz)) 0 0 (va_A [(ad0, ob 12 114 fn0)] sz) := by
  refine Met.ofW (cc := cX12_put) (maxL := 9) (ret := (some .int)) (by decide) rfl ?_
  intro p e s m args below meth c s₁ B hml hv
  obtain ⟨rfl, hsz, hP, hK, hD0, hE⟩ := hv
  have hx := B.exec
  have hb := B.bytes
  have hr := B.returns
  have hG : ∀ w ∈ GW, w.before ([.ref ad0, .int xi0, .int 0] : List Value).toArray s = true := fun w h => atoms_spec (ws := Cond.code yX12_put cX12_put 9 (some .int) :: GW) B.pre w (List.mem_cons_of_mem _ h)
  have hown : s.vm.findClass RX12 = some m.cls := findClass_of_methodNamed B.named
  have hlocks := B.notSynchronized
  subst hsz
  have hD := hD0.self (sz := s.heap.size)
  generalize hAe : va_A [(ad0, ob 12 114 fn0)] s.heap.size = A at hD hE ⊢
  have hA : ∀ q : Nat, s.heap.size ≤ q → A q := fun q h => by rw [← hAe]; exact Or.inr h
  have hS : va_S A s.heap s.heap [] := va_S.rf
  clear hAe hD0
  have hl0 := lv_entry ([.ref ad0, .int xi0, .int 0]) (n := 9) (Nat.le_of_ble_eq_true rfl)
  rw [lg_entry_eq]
  generalize (lg_sl ([.ref ad0, .int xi0, .int 0]) ++ List.replicate (9 - (lg_sl ([.ref ad0, .int xi0, .int 0])).length) Slot.unset).toArray = ls at hl0 ⊢
  have hl : lv_has ls 9 [(0, .ref ad0), (1, .int xi0), (2, .int 0)] := hl0
  clear hl0
  refine lv_aload_n (pc := 0) hx hb dX12_put_0 rfl (lv_at hl 0 rfl) ?_
  refine lv_iconst (pc := 1) (v := 0) hx hb dX12_put_1 (by decide) ?_
  refine ob_put (pc := 2) (v := .int 0) (ci := 12) (C := RX12) (T := TX12) (N := 114) hx hb hG in_X12 tyX12 tyX12_ok nmX12 hown hK hP hD hS 0 rfl rfl 0 (by decide) (hG _ g_432) rfl rfl rfl rfl dX12_put_2 (ws' := [(ad0, ob 12 114 (vup fn0 0 (.int 0)))]) rfl (fun H1 lo1 hP1 hD1 hS1 => ?_)
  clear hP hD hS
  refine lv_aload_n (pc := 5) hx hb dX12_put_5 rfl (lv_at hl 0 rfl) ?_
  refine lv_iload_n (pc := 6) hx hb dX12_put_6 rfl (lv_at hl 2 rfl) ?_
  refine lv_if_lt (pc := 7) (tgt := 31) hx hb dX12_put_7 (by decide) (fun c2 => absurd c2 (by decide)) (fun c2 => ?_)
  refine lv_iload_n (pc := 10) hx hb dX12_put_10 rfl (lv_at hl 2 rfl) ?_
  refine lv_aload_n (pc := 11) hx hb dX12_put_11 rfl (lv_at hl 0 rfl) ?_
  refine ob_get (pc := 12) (v := .int 0) (ci := 12) (C := RX12) (T := TX12) (N := 114) hx hb hG in_X12 hown hK hP1 0 rfl rfl 32 (by decide) (hG _ g_435) rfl h0_32 dX12_put_12 ?_
  refine lv_icmp_gt (pc := 15) (tgt := 31) hx hb dX12_put_15 (by decide) (fun c3 => absurd c3 (by decide)) (fun c3 => ?_)
  refine lv_iload_n (pc := 18) hx hb dX12_put_18 rfl (lv_at hl 1 rfl) ?_
  refine lv_if_lt (pc := 19) (tgt := 31) hx hb dX12_put_19 (by decide) (fun c4 => absurd c4 (i_ge3 hn)) (fun c4 => ?_)
  refine lv_iload_n (pc := 22) hx hb dX12_put_22 rfl (lv_at hl 1 rfl) ?_
  refine lv_iconst (pc := 23) (v := 2) hx hb dX12_put_23 (by decide) ?_
  refine lv_icmp_gt (pc := 24) (tgt := 31) hx hb dX12_put_24 (by decide) (fun c5 => ?_) (fun c5 => absurd (i_2lt hn) c5)
  refine lv_iconst (pc := 31) (v := 0) hx hb dX12_put_31 (by decide) ?_
  refine lv_iconst (pc := 32) (v := 1) hx hb dX12_put_32 (by decide) ?_
  refine cq_i (pc := 33) (wr := []) (k2 := 0) (n2 := 0) (va_runV (As := [.int 0, .int 1]) (rest := []) ⟨hx, hb, hml, hown, hG⟩ (m_may0 l D cy kv H1.size ad0 (vup fn0 0 (.int 0)) rfl) (cwV 2 hG (gi_V g_475 g_476 g_477 g_334 g_434) rfl rfl rfl (by decide +kernel) ⟨Nat.le_of_ble_eq_true rfl, Nat.le_of_ble_eq_true rfl⟩) ⟨pq_blind, (va_recv hK hP1 (ci := 12) (q0 := 0) rfl rfl), (pq_pass hP1 hD1 hK hE hS1 hA [0] rfl (by decide))⟩ rfl rfl hl.1 rfl (lv_room (Nat.le_of_ble_eq_true rfl)) dX12_put_33 ⟨Nat.le_of_ble_eq_true rfl, Nat.le_of_ble_eq_true rfl⟩) hP1 hD1 hS1 hA [0] [] rfl rfl (by decide) (by decide) (by decide) (by decide) (fun r6 w6 H6 lo6 e6 hR6 hP6r hD6r hS6 => ?_)
  subst hR6
  subst e6
  have hP6 : va_P D classes [(ad0, ob 12 114 (vup (vup fn0 0 (.int 0)) 0 (.int 1)))] H6 := hP6r
  have hD6 : va_D A [(ad0, ob 12 114 (vup (vup fn0 0 (.int 0)) 0 (.int 1)))] := hD6r
  clear hP6r hD6r
  clear hP1 hD1 hS1
  clear H1 lo1
  refine lv_if_ne (pc := 36) (tgt := 41) hx hb dX12_put_36 (by decide) (fun c7 => absurd (by decide) c7) (fun c7 => ?_)
  refine lv_iconst (pc := 39) (v := 0) hx hb dX12_put_39 (by decide) ?_
  exact W.iret (pc := 40) (v := 0) hx hb hr (fun t ht hW => ⟨⟨0, (), rfl, rfl, _, ⟨(vup (vup fn0 0 (.int 0)) 0 (.int 1)), rfl, rfl⟩, by rw [ht]; exact hP6, hD6⟩, hS6.F ht⟩) hS6.2.2 dX12_put_40
set_option maxHeartbeats 4000000 in
set_option maxRecDepth 100000 in
/-- X12_put -/
theorem m_put_k (l : Launch) (D : va_G) (cy : Nat → ClassId) (kv : KV) (sz : Nat) (ad0 : Nat) (xi0 : Int32) (fn0 : Nat → Value) (h0_32 : fn0 32 = .int 0) (hn : 0 ≤ xi0) (hm : xi0 < 3) : Met l yX12_put (Cond.code yX12_put cX12_put 9 (some .int) :: GW) ({ frames := 9, cells := 0, slots := 0, locals := 160 } : Room) (va_Pc [.ref ad0, .int xi0, .int 0] (pcq D cy kv sz [(ad0, ob 12 114 fn0)])) (va_Qi (fun r (_ : Unit) => r = 0) (fun _ t => bq D (fun w => ∃ (nc900 : Nat → Value), w = [(ad0, ob 12 114 nc900)] ∧ nc900 0 = .int 0) (va_A [(ad0, ob 12 114 fn0)] sz) t) (va_A [(ad0, ob 12 114 fn0)] sz)) 0 0 (va_A [(ad0, ob 12 114 fn0)] sz) := by
  refine Met.ofW (cc := cX12_put) (maxL := 9) (ret := (some .int)) (by decide) rfl ?_
  intro p e s m args below meth c s₁ B hml hv
  obtain ⟨rfl, hsz, hP, hK, hD0, hE⟩ := hv
  have hx := B.exec
  have hb := B.bytes
  have hr := B.returns
  have hG : ∀ w ∈ GW, w.before ([.ref ad0, .int xi0, .int 0] : List Value).toArray s = true := fun w h => atoms_spec (ws := Cond.code yX12_put cX12_put 9 (some .int) :: GW) B.pre w (List.mem_cons_of_mem _ h)
  have hown : s.vm.findClass RX12 = some m.cls := findClass_of_methodNamed B.named
  have hlocks := B.notSynchronized
  subst hsz
  have hD := hD0.self (sz := s.heap.size)
  generalize hAe : va_A [(ad0, ob 12 114 fn0)] s.heap.size = A at hD hE ⊢
  have hA : ∀ q : Nat, s.heap.size ≤ q → A q := fun q h => by rw [← hAe]; exact Or.inr h
  have hS : va_S A s.heap s.heap [] := va_S.rf
  clear hAe hD0
  have hl0 := lv_entry ([.ref ad0, .int xi0, .int 0]) (n := 9) (Nat.le_of_ble_eq_true rfl)
  rw [lg_entry_eq]
  generalize (lg_sl ([.ref ad0, .int xi0, .int 0]) ++ List.replicate (9 - (lg_sl ([.ref ad0, .int xi0, .int 0])).length) Slot.unset).toArray = ls at hl0 ⊢
  have hl : lv_has ls 9 [(0, .ref ad0), (1, .int xi0), (2, .int 0)] := hl0
  clear hl0
  refine lv_aload_n (pc := 0) hx hb dX12_put_0 rfl (lv_at hl 0 rfl) ?_
  refine lv_iconst (pc := 1) (v := 0) hx hb dX12_put_1 (by decide) ?_
  refine ob_put (pc := 2) (v := .int 0) (ci := 12) (C := RX12) (T := TX12) (N := 114) hx hb hG in_X12 tyX12 tyX12_ok nmX12 hown hK hP hD hS 0 rfl rfl 0 (by decide) (hG _ g_432) rfl rfl rfl rfl dX12_put_2 (ws' := [(ad0, ob 12 114 (vup fn0 0 (.int 0)))]) rfl (fun H1 lo1 hP1 hD1 hS1 => ?_)
  clear hP hD hS
  refine lv_aload_n (pc := 5) hx hb dX12_put_5 rfl (lv_at hl 0 rfl) ?_
  refine lv_iload_n (pc := 6) hx hb dX12_put_6 rfl (lv_at hl 2 rfl) ?_
  refine lv_if_lt (pc := 7) (tgt := 31) hx hb dX12_put_7 (by decide) (fun c2 => absurd c2 (by decide)) (fun c2 => ?_)
  refine lv_iload_n (pc := 10) hx hb dX12_put_10 rfl (lv_at hl 2 rfl) ?_
  refine lv_aload_n (pc := 11) hx hb dX12_put_11 rfl (lv_at hl 0 rfl) ?_
  refine ob_get (pc := 12) (v := .int 0) (ci := 12) (C := RX12) (T := TX12) (N := 114) hx hb hG in_X12 hown hK hP1 0 rfl rfl 32 (by decide) (hG _ g_435) rfl h0_32 dX12_put_12 ?_
  refine lv_icmp_gt (pc := 15) (tgt := 31) hx hb dX12_put_15 (by decide) (fun c3 => absurd c3 (by decide)) (fun c3 => ?_)
  refine lv_iload_n (pc := 18) hx hb dX12_put_18 rfl (lv_at hl 1 rfl) ?_
  refine lv_if_lt (pc := 19) (tgt := 31) hx hb dX12_put_19 (by decide) (fun c4 => absurd c4 (i_nlt hn)) (fun c4 => ?_)
  refine lv_iload_n (pc := 22) hx hb dX12_put_22 rfl (lv_at hl 1 rfl) ?_
  refine lv_iconst (pc := 23) (v := 2) hx hb dX12_put_23 (by decide) ?_
  refine lv_icmp_gt (pc := 24) (tgt := 31) hx hb dX12_put_24 (by decide) (fun c5 => absurd c5 (i_n2lt hm)) (fun c5 => ?_)
  refine lv_iconst (pc := 27) (v := 1) hx hb dX12_put_27 (by decide) ?_
  refine lv_goto (pc := 28) (tgt := 32) hx hb dX12_put_28 (by decide) ?_
  refine lv_iconst (pc := 32) (v := 1) hx hb dX12_put_32 (by decide) ?_
  refine cq_i (pc := 33) (wr := []) (k2 := 0) (n2 := 0) (va_runV (As := [.int 1, .int 1]) (rest := []) ⟨hx, hb, hml, hown, hG⟩ (m_may1 l D cy kv H1.size ad0 (vup fn0 0 (.int 0)) rfl) (cwV 2 hG (gi_V g_475 g_476 g_477 g_334 g_434) rfl rfl rfl (by decide +kernel) ⟨Nat.le_of_ble_eq_true rfl, Nat.le_of_ble_eq_true rfl⟩) ⟨pq_blind, (va_recv hK hP1 (ci := 12) (q0 := 0) rfl rfl), (pq_pass hP1 hD1 hK hE hS1 hA [0] rfl (by decide))⟩ rfl rfl hl.1 rfl (lv_room (Nat.le_of_ble_eq_true rfl)) dX12_put_33 ⟨Nat.le_of_ble_eq_true rfl, Nat.le_of_ble_eq_true rfl⟩) hP1 hD1 hS1 hA [0] [] rfl rfl (by decide) (by decide) (by decide) (by decide) (fun r6 w6 H6 lo6 e6 hR6 hP6r hD6r hS6 => ?_)
  subst hR6
  subst e6
  have hP6 : va_P D classes [(ad0, ob 12 114 (vup fn0 0 (.int 0)))] H6 := hP6r
  have hD6 : va_D A [(ad0, ob 12 114 (vup fn0 0 (.int 0)))] := hD6r
  clear hP6r hD6r
  clear hP1 hD1 hS1
  clear H1 lo1
  refine lv_if_ne (pc := 36) (tgt := 41) hx hb dX12_put_36 (by decide) (fun c7 => ?_) (fun c7 => absurd c7 (by decide))
  refine lv_aload_n (pc := 41) hx hb dX12_put_41 rfl (lv_at hl 0 rfl) ?_
  refine lv_iconst (pc := 42) (v := 0) hx hb dX12_put_42 (by decide) ?_
  refine ob_put (pc := 43) (v := .int 0) (ci := 12) (C := RX12) (T := TX12) (N := 114) hx hb hG in_X12 tyX12 tyX12_ok nmX12 hown hK hP6 hD6 hS6 0 rfl rfl 32 (by decide) (hG _ g_435) rfl rfl rfl rfl dX12_put_43 (ws' := [(ad0, ob 12 114 (vup (vup fn0 0 (.int 0)) 32 (.int 0)))]) rfl (fun H8 lo8 hP8 hD8 hS8 => ?_)
  clear hP6 hD6 hS6
  clear H6 lo6
  refine lv_iconst (pc := 46) (v := 0) hx hb dX12_put_46 (by decide) ?_
  refine lv_istore_n (pc := 47) (lv' := [(3, .int 0), (0, .ref ad0), (1, .int xi0), (2, .int 0)]) hx hb dX12_put_47 rfl hl (by decide) rfl (fun ls9 hl9 => ?_)
  clear hl ls
  refine lv_iload_n (pc := 48) hx hb dX12_put_48 rfl (lv_at hl9 0 rfl) ?_
  refine lv_iload_n (pc := 49) hx hb dX12_put_49 rfl (lv_at hl9 3 rfl) ?_
  refine lv_icmp_ge (pc := 50) (tgt := 70) hx hb dX12_put_50 (by decide) (fun c10 => ?_) (fun c10 => absurd (by decide) c10)
  refine lv_iload_n (pc := 70) hx hb dX12_put_70 rfl (lv_at hl9 3 rfl) ?_
  refine lv_iload_n (pc := 71) hx hb dX12_put_71 rfl (lv_at hl9 0 rfl) ?_
  refine lv_isub (pc := 72) hx hb dX12_put_72 ?_
  refine tp_i (y := 0) (by decide) ?_
  refine lv_iconst (pc := 73) (v := 1) hx hb dX12_put_73 (by decide) ?_
  refine lv_isub (pc := 74) hx hb dX12_put_74 ?_
  refine tp_i (y := (-1)) (by decide) ?_
  refine lv_istore (pc := 75) (lv' := [(4, .int (-1)), (3, .int 0), (0, .ref ad0), (1, .int xi0), (2, .int 0)]) hx hb dX12_put_75 hl9 (by decide) rfl (fun ls11 hl11 => ?_)
  clear hl9 ls9
  refine lv_iload_n (pc := 77) hx hb dX12_put_77 rfl (lv_at hl11 1 rfl) ?_
  refine lv_iload_n (pc := 78) hx hb dX12_put_78 rfl (lv_at hl11 4 rfl) ?_
  refine lv_icmp_ge (pc := 79) (tgt := 89) hx hb dX12_put_79 (by decide) (fun c12 => ?_) (fun c12 => absurd (by decide) c12)
  refine lv_iconst (pc := 89) (v := 0) hx hb dX12_put_89 (by decide) ?_
  exact W.iret (pc := 90) (v := 0) hx hb hr (fun t ht hW => ⟨⟨0, (), rfl, rfl, _, ⟨(vup (vup fn0 0 (.int 0)) 32 (.int 0)), rfl, rfl⟩, by rw [ht]; exact hP8, hD8⟩, hS8.F ht⟩) hS8.2.2 dX12_put_90
set_option maxHeartbeats 4000000 in
set_option maxRecDepth 100000 in
/-- X12_clear -/
theorem m_clear_n (l : Launch) (D : va_G) (cy : Nat → ClassId) (kv : KV) (sz : Nat) (ad0 : Nat) (xi0 : Int32) (fn0 : Nat → Value) (hn : xi0 < 0) : Met l yX12_clear (Cond.code yX12_clear cX12_clear 3 (some .int) :: GW) ({ frames := 9, cells := 0, slots := 0, locals := 160 } : Room) (va_Pc [.ref ad0, .int xi0] (pcq D cy kv sz [(ad0, ob 12 114 fn0)])) (va_Qi (fun r (_ : Unit) => r = 0) (fun _ t => bq D (fun w => ∃ (nc900 : Nat → Value), w = [(ad0, ob 12 114 nc900)] ∧ nc900 0 = .int 1) (va_A [(ad0, ob 12 114 fn0)] sz) t) (va_A [(ad0, ob 12 114 fn0)] sz)) 0 0 (va_A [(ad0, ob 12 114 fn0)] sz) := by
  refine Met.ofW (cc := cX12_clear) (maxL := 3) (ret := (some .int)) (by decide) rfl ?_
  intro p e s m args below meth c s₁ B hml hv
  obtain ⟨rfl, hsz, hP, hK, hD0, hE⟩ := hv
  have hx := B.exec
  have hb := B.bytes
  have hr := B.returns
  have hG : ∀ w ∈ GW, w.before ([.ref ad0, .int xi0] : List Value).toArray s = true := fun w h => atoms_spec (ws := Cond.code yX12_clear cX12_clear 3 (some .int) :: GW) B.pre w (List.mem_cons_of_mem _ h)
  have hown : s.vm.findClass RX12 = some m.cls := findClass_of_methodNamed B.named
  have hlocks := B.notSynchronized
  subst hsz
  have hD := hD0.self (sz := s.heap.size)
  generalize hAe : va_A [(ad0, ob 12 114 fn0)] s.heap.size = A at hD hE ⊢
  have hA : ∀ q : Nat, s.heap.size ≤ q → A q := fun q h => by rw [← hAe]; exact Or.inr h
  have hS : va_S A s.heap s.heap [] := va_S.rf
  clear hAe hD0
  have hl0 := lv_entry ([.ref ad0, .int xi0]) (n := 3) (Nat.le_of_ble_eq_true rfl)
  rw [lg_entry_eq]
  generalize (lg_sl ([.ref ad0, .int xi0]) ++ List.replicate (3 - (lg_sl ([.ref ad0, .int xi0])).length) Slot.unset).toArray = ls at hl0 ⊢
  have hl : lv_has ls 3 [(0, .ref ad0), (1, .int xi0)] := hl0
  clear hl0
  refine lv_aload_n (pc := 0) hx hb dX12_clear_0 rfl (lv_at hl 0 rfl) ?_
  refine lv_iconst (pc := 1) (v := 0) hx hb dX12_clear_1 (by decide) ?_
  refine ob_put (pc := 2) (v := .int 0) (ci := 12) (C := RX12) (T := TX12) (N := 114) hx hb hG in_X12 tyX12 tyX12_ok nmX12 hown hK hP hD hS 0 rfl rfl 0 (by decide) (hG _ g_432) rfl rfl rfl rfl dX12_clear_2 (ws' := [(ad0, ob 12 114 (vup fn0 0 (.int 0)))]) rfl (fun H1 lo1 hP1 hD1 hS1 => ?_)
  clear hP hD hS
  refine lv_aload_n (pc := 5) hx hb dX12_clear_5 rfl (lv_at hl 0 rfl) ?_
  refine lv_iload_n (pc := 6) hx hb dX12_clear_6 rfl (lv_at hl 1 rfl) ?_
  refine lv_if_lt (pc := 7) (tgt := 19) hx hb dX12_clear_7 (by decide) (fun c2 => ?_) (fun c2 => absurd hn c2)
  refine lv_iconst (pc := 19) (v := 0) hx hb dX12_clear_19 (by decide) ?_
  refine lv_iconst (pc := 20) (v := 1) hx hb dX12_clear_20 (by decide) ?_
  refine cq_i (pc := 21) (wr := []) (k2 := 0) (n2 := 0) (va_runV (As := [.int 0, .int 1]) (rest := []) ⟨hx, hb, hml, hown, hG⟩ (m_may0 l D cy kv H1.size ad0 (vup fn0 0 (.int 0)) rfl) (cwV 2 hG (gi_V g_475 g_476 g_477 g_334 g_434) rfl rfl rfl (by decide +kernel) ⟨Nat.le_of_ble_eq_true rfl, Nat.le_of_ble_eq_true rfl⟩) ⟨pq_blind, (va_recv hK hP1 (ci := 12) (q0 := 0) rfl rfl), (pq_pass hP1 hD1 hK hE hS1 hA [0] rfl (by decide))⟩ rfl rfl hl.1 rfl (lv_room (Nat.le_of_ble_eq_true rfl)) dX12_clear_21 ⟨Nat.le_of_ble_eq_true rfl, Nat.le_of_ble_eq_true rfl⟩) hP1 hD1 hS1 hA [0] [] rfl rfl (by decide) (by decide) (by decide) (by decide) (fun r3 w3 H3 lo3 e3 hR3 hP3r hD3r hS3 => ?_)
  subst hR3
  subst e3
  have hP3 : va_P D classes [(ad0, ob 12 114 (vup (vup fn0 0 (.int 0)) 0 (.int 1)))] H3 := hP3r
  have hD3 : va_D A [(ad0, ob 12 114 (vup (vup fn0 0 (.int 0)) 0 (.int 1)))] := hD3r
  clear hP3r hD3r
  clear hP1 hD1 hS1
  clear H1 lo1
  refine lv_if_ne (pc := 24) (tgt := 29) hx hb dX12_clear_24 (by decide) (fun c4 => absurd (by decide) c4) (fun c4 => ?_)
  refine lv_iconst (pc := 27) (v := 0) hx hb dX12_clear_27 (by decide) ?_
  exact W.iret (pc := 28) (v := 0) hx hb hr (fun t ht hW => ⟨⟨0, (), rfl, rfl, _, ⟨(vup (vup fn0 0 (.int 0)) 0 (.int 1)), rfl, rfl⟩, by rw [ht]; exact hP3, hD3⟩, hS3.F ht⟩) hS3.2.2 dX12_clear_28
set_option maxHeartbeats 4000000 in
set_option maxRecDepth 100000 in
/-- X12_clear -/
theorem m_clear_b (l : Launch) (D : va_G) (cy : Nat → ClassId) (kv : KV) (sz : Nat) (ad0 : Nat) (xi0 : Int32) (fn0 : Nat → Value) (hn : 3 ≤ xi0) : Met l yX12_clear (Cond.code yX12_clear cX12_clear 3 (some .int) :: GW) ({ frames := 9, cells := 0, slots := 0, locals := 160 } : Room) (va_Pc [.ref ad0, .int xi0] (pcq D cy kv sz [(ad0, ob 12 114 fn0)])) (va_Qi (fun r (_ : Unit) => r = 0) (fun _ t => bq D (fun w => ∃ (nc900 : Nat → Value), w = [(ad0, ob 12 114 nc900)] ∧ nc900 0 = .int 1) (va_A [(ad0, ob 12 114 fn0)] sz) t) (va_A [(ad0, ob 12 114 fn0)] sz)) 0 0 (va_A [(ad0, ob 12 114 fn0)] sz) := by
  refine Met.ofW (cc := cX12_clear) (maxL := 3) (ret := (some .int)) (by decide) rfl ?_
  intro p e s m args below meth c s₁ B hml hv
  obtain ⟨rfl, hsz, hP, hK, hD0, hE⟩ := hv
  have hx := B.exec
  have hb := B.bytes
  have hr := B.returns
  have hG : ∀ w ∈ GW, w.before ([.ref ad0, .int xi0] : List Value).toArray s = true := fun w h => atoms_spec (ws := Cond.code yX12_clear cX12_clear 3 (some .int) :: GW) B.pre w (List.mem_cons_of_mem _ h)
  have hown : s.vm.findClass RX12 = some m.cls := findClass_of_methodNamed B.named
  have hlocks := B.notSynchronized
  subst hsz
  have hD := hD0.self (sz := s.heap.size)
  generalize hAe : va_A [(ad0, ob 12 114 fn0)] s.heap.size = A at hD hE ⊢
  have hA : ∀ q : Nat, s.heap.size ≤ q → A q := fun q h => by rw [← hAe]; exact Or.inr h
  have hS : va_S A s.heap s.heap [] := va_S.rf
  clear hAe hD0
  have hl0 := lv_entry ([.ref ad0, .int xi0]) (n := 3) (Nat.le_of_ble_eq_true rfl)
  rw [lg_entry_eq]
  generalize (lg_sl ([.ref ad0, .int xi0]) ++ List.replicate (3 - (lg_sl ([.ref ad0, .int xi0])).length) Slot.unset).toArray = ls at hl0 ⊢
  have hl : lv_has ls 3 [(0, .ref ad0), (1, .int xi0)] := hl0
  clear hl0
  refine lv_aload_n (pc := 0) hx hb dX12_clear_0 rfl (lv_at hl 0 rfl) ?_
  refine lv_iconst (pc := 1) (v := 0) hx hb dX12_clear_1 (by decide) ?_
  refine ob_put (pc := 2) (v := .int 0) (ci := 12) (C := RX12) (T := TX12) (N := 114) hx hb hG in_X12 tyX12 tyX12_ok nmX12 hown hK hP hD hS 0 rfl rfl 0 (by decide) (hG _ g_432) rfl rfl rfl rfl dX12_clear_2 (ws' := [(ad0, ob 12 114 (vup fn0 0 (.int 0)))]) rfl (fun H1 lo1 hP1 hD1 hS1 => ?_)
  clear hP hD hS
  refine lv_aload_n (pc := 5) hx hb dX12_clear_5 rfl (lv_at hl 0 rfl) ?_
  refine lv_iload_n (pc := 6) hx hb dX12_clear_6 rfl (lv_at hl 1 rfl) ?_
  refine lv_if_lt (pc := 7) (tgt := 19) hx hb dX12_clear_7 (by decide) (fun c2 => absurd c2 (i_ge3 hn)) (fun c2 => ?_)
  refine lv_iload_n (pc := 10) hx hb dX12_clear_10 rfl (lv_at hl 1 rfl) ?_
  refine lv_iconst (pc := 11) (v := 2) hx hb dX12_clear_11 (by decide) ?_
  refine lv_icmp_gt (pc := 12) (tgt := 19) hx hb dX12_clear_12 (by decide) (fun c3 => ?_) (fun c3 => absurd (i_2lt hn) c3)
  refine lv_iconst (pc := 19) (v := 0) hx hb dX12_clear_19 (by decide) ?_
  refine lv_iconst (pc := 20) (v := 1) hx hb dX12_clear_20 (by decide) ?_
  refine cq_i (pc := 21) (wr := []) (k2 := 0) (n2 := 0) (va_runV (As := [.int 0, .int 1]) (rest := []) ⟨hx, hb, hml, hown, hG⟩ (m_may0 l D cy kv H1.size ad0 (vup fn0 0 (.int 0)) rfl) (cwV 2 hG (gi_V g_475 g_476 g_477 g_334 g_434) rfl rfl rfl (by decide +kernel) ⟨Nat.le_of_ble_eq_true rfl, Nat.le_of_ble_eq_true rfl⟩) ⟨pq_blind, (va_recv hK hP1 (ci := 12) (q0 := 0) rfl rfl), (pq_pass hP1 hD1 hK hE hS1 hA [0] rfl (by decide))⟩ rfl rfl hl.1 rfl (lv_room (Nat.le_of_ble_eq_true rfl)) dX12_clear_21 ⟨Nat.le_of_ble_eq_true rfl, Nat.le_of_ble_eq_true rfl⟩) hP1 hD1 hS1 hA [0] [] rfl rfl (by decide) (by decide) (by decide) (by decide) (fun r4 w4 H4 lo4 e4 hR4 hP4r hD4r hS4 => ?_)
  subst hR4
  subst e4
  have hP4 : va_P D classes [(ad0, ob 12 114 (vup (vup fn0 0 (.int 0)) 0 (.int 1)))] H4 := hP4r
  have hD4 : va_D A [(ad0, ob 12 114 (vup (vup fn0 0 (.int 0)) 0 (.int 1)))] := hD4r
  clear hP4r hD4r
  clear hP1 hD1 hS1
  clear H1 lo1
  refine lv_if_ne (pc := 24) (tgt := 29) hx hb dX12_clear_24 (by decide) (fun c5 => absurd (by decide) c5) (fun c5 => ?_)
  refine lv_iconst (pc := 27) (v := 0) hx hb dX12_clear_27 (by decide) ?_
  exact W.iret (pc := 28) (v := 0) hx hb hr (fun t ht hW => ⟨⟨0, (), rfl, rfl, _, ⟨(vup (vup fn0 0 (.int 0)) 0 (.int 1)), rfl, rfl⟩, by rw [ht]; exact hP4, hD4⟩, hS4.F ht⟩) hS4.2.2 dX12_clear_28
set_option maxHeartbeats 4000000 in
set_option maxRecDepth 100000 in
/-- X12_clear -/
theorem m_clear_0 (l : Launch) (D : va_G) (cy : Nat → ClassId) (kv : KV) (sz : Nat) (ad0 : Nat) (fn0 : Nat → Value) (ad1 : Nat) (ct1 : Nat → Int32) (h0_56 : fn0 56 = .ref ad1) (k1_0 : ct1 0 = 0) (k1_1 : ct1 1 = 0) (k1_2 : ct1 2 = 0) : Met l yX12_clear (Cond.code yX12_clear cX12_clear 3 (some .int) :: GW) ({ frames := 9, cells := 0, slots := 0, locals := 160 } : Room) (va_Pc [.ref ad0, .int 0] (pcq D cy kv sz [(ad0, ob 12 114 fn0), (ad1, ari (cy 0) 3 ct1)])) (va_Qi (fun r (_ : Unit) => r = 0) (fun _ t => bq D (fun w => ∃ (nc900 : Nat → Value), w = [(ad0, ob 12 114 nc900)] ∧ nc900 0 = .int 0) (va_A [(ad0, ob 12 114 fn0), (ad1, ari (cy 0) 3 ct1)] sz) t) (va_A [(ad0, ob 12 114 fn0), (ad1, ari (cy 0) 3 ct1)] sz)) 0 0 (va_A [(ad0, ob 12 114 fn0), (ad1, ari (cy 0) 3 ct1)] sz) := by
  refine Met.ofW (cc := cX12_clear) (maxL := 3) (ret := (some .int)) (by decide) rfl ?_
  intro p e s m args below meth c s₁ B hml hv
  obtain ⟨rfl, hsz, hP, hK, hD0, hE⟩ := hv
  have hx := B.exec
  have hb := B.bytes
  have hr := B.returns
  have hG : ∀ w ∈ GW, w.before ([.ref ad0, .int 0] : List Value).toArray s = true := fun w h => atoms_spec (ws := Cond.code yX12_clear cX12_clear 3 (some .int) :: GW) B.pre w (List.mem_cons_of_mem _ h)
  have hown : s.vm.findClass RX12 = some m.cls := findClass_of_methodNamed B.named
  have hlocks := B.notSynchronized
  subst hsz
  have hD := hD0.self (sz := s.heap.size)
  generalize hAe : va_A [(ad0, ob 12 114 fn0), (ad1, ari (cy 0) 3 ct1)] s.heap.size = A at hD hE ⊢
  have hA : ∀ q : Nat, s.heap.size ≤ q → A q := fun q h => by rw [← hAe]; exact Or.inr h
  have hS : va_S A s.heap s.heap [] := va_S.rf
  clear hAe hD0
  have hl0 := lv_entry ([.ref ad0, .int 0]) (n := 3) (Nat.le_of_ble_eq_true rfl)
  rw [lg_entry_eq]
  generalize (lg_sl ([.ref ad0, .int 0]) ++ List.replicate (3 - (lg_sl ([.ref ad0, .int 0])).length) Slot.unset).toArray = ls at hl0 ⊢
  have hl : lv_has ls 3 [(0, .ref ad0), (1, .int 0)] := hl0
  clear hl0
  refine lv_aload_n (pc := 0) hx hb dX12_clear_0 rfl (lv_at hl 0 rfl) ?_
  refine lv_iconst (pc := 1) (v := 0) hx hb dX12_clear_1 (by decide) ?_
  refine ob_put (pc := 2) (v := .int 0) (ci := 12) (C := RX12) (T := TX12) (N := 114) hx hb hG in_X12 tyX12 tyX12_ok nmX12 hown hK hP hD hS 0 rfl rfl 0 (by decide) (hG _ g_432) rfl rfl rfl rfl dX12_clear_2 (ws' := [(ad0, ob 12 114 (vup fn0 0 (.int 0))), (ad1, ari (cy 0) 3 ct1)]) rfl (fun H1 lo1 hP1 hD1 hS1 => ?_)
  clear hP hD hS
  refine lv_aload_n (pc := 5) hx hb dX12_clear_5 rfl (lv_at hl 0 rfl) ?_
  refine lv_iload_n (pc := 6) hx hb dX12_clear_6 rfl (lv_at hl 1 rfl) ?_
  refine lv_if_lt (pc := 7) (tgt := 19) hx hb dX12_clear_7 (by decide) (fun c2 => absurd c2 (by decide)) (fun c2 => ?_)
  refine lv_iload_n (pc := 10) hx hb dX12_clear_10 rfl (lv_at hl 1 rfl) ?_
  refine lv_iconst (pc := 11) (v := 2) hx hb dX12_clear_11 (by decide) ?_
  refine lv_icmp_gt (pc := 12) (tgt := 19) hx hb dX12_clear_12 (by decide) (fun c3 => absurd c3 (by decide)) (fun c3 => ?_)
  refine lv_iconst (pc := 15) (v := 1) hx hb dX12_clear_15 (by decide) ?_
  refine lv_goto (pc := 16) (tgt := 20) hx hb dX12_clear_16 (by decide) ?_
  refine lv_iconst (pc := 20) (v := 1) hx hb dX12_clear_20 (by decide) ?_
  refine cq_i (pc := 21) (wr := [(ad1, ari (cy 0) 3 ct1)]) (k2 := 0) (n2 := 0) (va_runV (As := [.int 1, .int 1]) (rest := []) ⟨hx, hb, hml, hown, hG⟩ (m_may1 l D cy kv H1.size ad0 (vup fn0 0 (.int 0)) rfl) (cwV 2 hG (gi_V g_475 g_476 g_477 g_334 g_434) rfl rfl rfl (by decide +kernel) ⟨Nat.le_of_ble_eq_true rfl, Nat.le_of_ble_eq_true rfl⟩) ⟨pq_blind, (va_recv hK hP1 (ci := 12) (q0 := 0) rfl rfl), (pq_pass hP1 hD1 hK hE hS1 hA [0] rfl (by decide))⟩ rfl rfl hl.1 rfl (lv_room (Nat.le_of_ble_eq_true rfl)) dX12_clear_21 ⟨Nat.le_of_ble_eq_true rfl, Nat.le_of_ble_eq_true rfl⟩) hP1 hD1 hS1 hA [0] [1] rfl rfl (by decide) (by decide) (by decide) (by decide) (fun r4 w4 H4 lo4 e4 hR4 hP4r hD4r hS4 => ?_)
  subst hR4
  subst e4
  have hP4 : va_P D classes [(ad1, ari (cy 0) 3 ct1), (ad0, ob 12 114 (vup fn0 0 (.int 0)))] H4 := hP4r
  have hD4 : va_D A [(ad1, ari (cy 0) 3 ct1), (ad0, ob 12 114 (vup fn0 0 (.int 0)))] := hD4r
  clear hP4r hD4r
  clear hP1 hD1 hS1
  clear H1 lo1
  refine lv_if_ne (pc := 24) (tgt := 29) hx hb dX12_clear_24 (by decide) (fun c5 => ?_) (fun c5 => absurd c5 (by decide))
  refine lv_aload_n (pc := 29) hx hb dX12_clear_29 rfl (lv_at hl 0 rfl) ?_
  refine ob_get (pc := 30) (v := .ref ad1) (ci := 12) (C := RX12) (T := TX12) (N := 114) hx hb hG in_X12 hown hK hP4 1 rfl rfl 56 (by decide) (hG _ g_390) rfl h0_56 dX12_clear_30 ?_
  refine lv_iload_n (pc := 33) hx hb dX12_clear_33 rfl (lv_at hl 1 rfl) ?_
  refine va_iald (pc := 34) hx hb hK hP4 0 0 rfl rfl (show ¬ ((0 : Int32) < 0 ∨ 3 ≤ (0 : Int32).toNatClampNeg) by decide) dX12_clear_34 ?_
  refine tp_i (y := 0) k1_0 ?_
  refine lv_istore_n (pc := 35) (lv' := [(2, .int 0), (0, .ref ad0), (1, .int 0)]) hx hb dX12_clear_35 rfl hl (by decide) rfl (fun ls6 hl6 => ?_)
  clear hl ls
  refine lv_aload_n (pc := 36) hx hb dX12_clear_36 rfl (lv_at hl6 1 rfl) ?_
  refine ob_get (pc := 37) (v := .ref ad1) (ci := 12) (C := RX12) (T := TX12) (N := 114) hx hb hG in_X12 hown hK hP4 1 rfl rfl 56 (by decide) (hG _ g_390) rfl h0_56 dX12_clear_37 ?_
  refine lv_iload_n (pc := 40) hx hb dX12_clear_40 rfl (lv_at hl6 2 rfl) ?_
  refine lv_iconst (pc := 41) (v := 0) hx hb dX12_clear_41 (by decide) ?_
  refine va_iast (pc := 42) hx hb hK hP4 hD4 hS4 0 0 rfl rfl (show ¬ ((0 : Int32) < 0 ∨ 3 ≤ (0 : Int32).toNatClampNeg) by decide) dX12_clear_42 (fun H7 lo7 hP7r hD7r hS7 => ?_)
  have hP7 : va_P D classes [(ad1, ari (cy 0) 3 (upd ct1 (0 : Int32).toNatClampNeg 0)), (ad0, ob 12 114 (vup fn0 0 (.int 0)))] H7 := hP7r
  have hD7 : va_D A [(ad1, ari (cy 0) 3 (upd ct1 (0 : Int32).toNatClampNeg 0)), (ad0, ob 12 114 (vup fn0 0 (.int 0)))] := hD7r
  clear hP7r hD7r
  clear hP4 hD4 hS4
  clear H4 lo4
  refine lv_iload_n (pc := 43) hx hb dX12_clear_43 rfl (lv_at hl6 0 rfl) ?_
  have hP99 := hP7.sub (ws' := [(ad0, ob 12 114 (vup fn0 0 (.int 0)))]) [1] rfl
  have hD99 := hD7.sub (ws' := [(ad0, ob 12 114 (vup fn0 0 (.int 0)))]) [1] (by decide) rfl
  exact W.iret (pc := 44) (v := 0) hx hb hr (fun t ht hW => ⟨⟨0, (), rfl, rfl, _, ⟨(vup fn0 0 (.int 0)), rfl, rfl⟩, by rw [ht]; exact hP99, hD99⟩, hS7.F ht⟩) hS7.2.2 dX12_clear_44
set_option maxHeartbeats 4000000 in
set_option maxRecDepth 100000 in
/-- X12_clear -/
theorem m_clear_1 (l : Launch) (D : va_G) (cy : Nat → ClassId) (kv : KV) (sz : Nat) (ad0 : Nat) (fn0 : Nat → Value) (ad1 : Nat) (ct1 : Nat → Int32) (h0_56 : fn0 56 = .ref ad1) (k1_0 : ct1 0 = 0) (k1_1 : ct1 1 = 0) (k1_2 : ct1 2 = 0) : Met l yX12_clear (Cond.code yX12_clear cX12_clear 3 (some .int) :: GW) ({ frames := 9, cells := 0, slots := 0, locals := 160 } : Room) (va_Pc [.ref ad0, .int 1] (pcq D cy kv sz [(ad0, ob 12 114 fn0), (ad1, ari (cy 0) 3 ct1)])) (va_Qi (fun r (_ : Unit) => r = 0) (fun _ t => bq D (fun w => ∃ (nc900 : Nat → Value), w = [(ad0, ob 12 114 nc900)] ∧ nc900 0 = .int 0) (va_A [(ad0, ob 12 114 fn0), (ad1, ari (cy 0) 3 ct1)] sz) t) (va_A [(ad0, ob 12 114 fn0), (ad1, ari (cy 0) 3 ct1)] sz)) 0 0 (va_A [(ad0, ob 12 114 fn0), (ad1, ari (cy 0) 3 ct1)] sz) := by
  refine Met.ofW (cc := cX12_clear) (maxL := 3) (ret := (some .int)) (by decide) rfl ?_
  intro p e s m args below meth c s₁ B hml hv
  obtain ⟨rfl, hsz, hP, hK, hD0, hE⟩ := hv
  have hx := B.exec
  have hb := B.bytes
  have hr := B.returns
  have hG : ∀ w ∈ GW, w.before ([.ref ad0, .int 1] : List Value).toArray s = true := fun w h => atoms_spec (ws := Cond.code yX12_clear cX12_clear 3 (some .int) :: GW) B.pre w (List.mem_cons_of_mem _ h)
  have hown : s.vm.findClass RX12 = some m.cls := findClass_of_methodNamed B.named
  have hlocks := B.notSynchronized
  subst hsz
  have hD := hD0.self (sz := s.heap.size)
  generalize hAe : va_A [(ad0, ob 12 114 fn0), (ad1, ari (cy 0) 3 ct1)] s.heap.size = A at hD hE ⊢
  have hA : ∀ q : Nat, s.heap.size ≤ q → A q := fun q h => by rw [← hAe]; exact Or.inr h
  have hS : va_S A s.heap s.heap [] := va_S.rf
  clear hAe hD0
  have hl0 := lv_entry ([.ref ad0, .int 1]) (n := 3) (Nat.le_of_ble_eq_true rfl)
  rw [lg_entry_eq]
  generalize (lg_sl ([.ref ad0, .int 1]) ++ List.replicate (3 - (lg_sl ([.ref ad0, .int 1])).length) Slot.unset).toArray = ls at hl0 ⊢
  have hl : lv_has ls 3 [(0, .ref ad0), (1, .int 1)] := hl0
  clear hl0
  refine lv_aload_n (pc := 0) hx hb dX12_clear_0 rfl (lv_at hl 0 rfl) ?_
  refine lv_iconst (pc := 1) (v := 0) hx hb dX12_clear_1 (by decide) ?_
  refine ob_put (pc := 2) (v := .int 0) (ci := 12) (C := RX12) (T := TX12) (N := 114) hx hb hG in_X12 tyX12 tyX12_ok nmX12 hown hK hP hD hS 0 rfl rfl 0 (by decide) (hG _ g_432) rfl rfl rfl rfl dX12_clear_2 (ws' := [(ad0, ob 12 114 (vup fn0 0 (.int 0))), (ad1, ari (cy 0) 3 ct1)]) rfl (fun H1 lo1 hP1 hD1 hS1 => ?_)
  clear hP hD hS
  refine lv_aload_n (pc := 5) hx hb dX12_clear_5 rfl (lv_at hl 0 rfl) ?_
  refine lv_iload_n (pc := 6) hx hb dX12_clear_6 rfl (lv_at hl 1 rfl) ?_
  refine lv_if_lt (pc := 7) (tgt := 19) hx hb dX12_clear_7 (by decide) (fun c2 => absurd c2 (by decide)) (fun c2 => ?_)
  refine lv_iload_n (pc := 10) hx hb dX12_clear_10 rfl (lv_at hl 1 rfl) ?_
  refine lv_iconst (pc := 11) (v := 2) hx hb dX12_clear_11 (by decide) ?_
  refine lv_icmp_gt (pc := 12) (tgt := 19) hx hb dX12_clear_12 (by decide) (fun c3 => absurd c3 (by decide)) (fun c3 => ?_)
  refine lv_iconst (pc := 15) (v := 1) hx hb dX12_clear_15 (by decide) ?_
  refine lv_goto (pc := 16) (tgt := 20) hx hb dX12_clear_16 (by decide) ?_
  refine lv_iconst (pc := 20) (v := 1) hx hb dX12_clear_20 (by decide) ?_
  refine cq_i (pc := 21) (wr := [(ad1, ari (cy 0) 3 ct1)]) (k2 := 0) (n2 := 0) (va_runV (As := [.int 1, .int 1]) (rest := []) ⟨hx, hb, hml, hown, hG⟩ (m_may1 l D cy kv H1.size ad0 (vup fn0 0 (.int 0)) rfl) (cwV 2 hG (gi_V g_475 g_476 g_477 g_334 g_434) rfl rfl rfl (by decide +kernel) ⟨Nat.le_of_ble_eq_true rfl, Nat.le_of_ble_eq_true rfl⟩) ⟨pq_blind, (va_recv hK hP1 (ci := 12) (q0 := 0) rfl rfl), (pq_pass hP1 hD1 hK hE hS1 hA [0] rfl (by decide))⟩ rfl rfl hl.1 rfl (lv_room (Nat.le_of_ble_eq_true rfl)) dX12_clear_21 ⟨Nat.le_of_ble_eq_true rfl, Nat.le_of_ble_eq_true rfl⟩) hP1 hD1 hS1 hA [0] [1] rfl rfl (by decide) (by decide) (by decide) (by decide) (fun r4 w4 H4 lo4 e4 hR4 hP4r hD4r hS4 => ?_)
  subst hR4
  subst e4
  have hP4 : va_P D classes [(ad1, ari (cy 0) 3 ct1), (ad0, ob 12 114 (vup fn0 0 (.int 0)))] H4 := hP4r
  have hD4 : va_D A [(ad1, ari (cy 0) 3 ct1), (ad0, ob 12 114 (vup fn0 0 (.int 0)))] := hD4r
  clear hP4r hD4r
  clear hP1 hD1 hS1
  clear H1 lo1
  refine lv_if_ne (pc := 24) (tgt := 29) hx hb dX12_clear_24 (by decide) (fun c5 => ?_) (fun c5 => absurd c5 (by decide))
  refine lv_aload_n (pc := 29) hx hb dX12_clear_29 rfl (lv_at hl 0 rfl) ?_
  refine ob_get (pc := 30) (v := .ref ad1) (ci := 12) (C := RX12) (T := TX12) (N := 114) hx hb hG in_X12 hown hK hP4 1 rfl rfl 56 (by decide) (hG _ g_390) rfl h0_56 dX12_clear_30 ?_
  refine lv_iload_n (pc := 33) hx hb dX12_clear_33 rfl (lv_at hl 1 rfl) ?_
  refine va_iald (pc := 34) hx hb hK hP4 0 0 rfl rfl (show ¬ ((1 : Int32) < 0 ∨ 3 ≤ (1 : Int32).toNatClampNeg) by decide) dX12_clear_34 ?_
  refine tp_i (y := 0) k1_1 ?_
  refine lv_istore_n (pc := 35) (lv' := [(2, .int 0), (0, .ref ad0), (1, .int 1)]) hx hb dX12_clear_35 rfl hl (by decide) rfl (fun ls6 hl6 => ?_)
  clear hl ls
  refine lv_aload_n (pc := 36) hx hb dX12_clear_36 rfl (lv_at hl6 1 rfl) ?_
  refine ob_get (pc := 37) (v := .ref ad1) (ci := 12) (C := RX12) (T := TX12) (N := 114) hx hb hG in_X12 hown hK hP4 1 rfl rfl 56 (by decide) (hG _ g_390) rfl h0_56 dX12_clear_37 ?_
  refine lv_iload_n (pc := 40) hx hb dX12_clear_40 rfl (lv_at hl6 2 rfl) ?_
  refine lv_iconst (pc := 41) (v := 0) hx hb dX12_clear_41 (by decide) ?_
  refine va_iast (pc := 42) hx hb hK hP4 hD4 hS4 0 0 rfl rfl (show ¬ ((1 : Int32) < 0 ∨ 3 ≤ (1 : Int32).toNatClampNeg) by decide) dX12_clear_42 (fun H7 lo7 hP7r hD7r hS7 => ?_)
  have hP7 : va_P D classes [(ad1, ari (cy 0) 3 (upd ct1 (1 : Int32).toNatClampNeg 0)), (ad0, ob 12 114 (vup fn0 0 (.int 0)))] H7 := hP7r
  have hD7 : va_D A [(ad1, ari (cy 0) 3 (upd ct1 (1 : Int32).toNatClampNeg 0)), (ad0, ob 12 114 (vup fn0 0 (.int 0)))] := hD7r
  clear hP7r hD7r
  clear hP4 hD4 hS4
  clear H4 lo4
  refine lv_iload_n (pc := 43) hx hb dX12_clear_43 rfl (lv_at hl6 0 rfl) ?_
  have hP99 := hP7.sub (ws' := [(ad0, ob 12 114 (vup fn0 0 (.int 0)))]) [1] rfl
  have hD99 := hD7.sub (ws' := [(ad0, ob 12 114 (vup fn0 0 (.int 0)))]) [1] (by decide) rfl
  exact W.iret (pc := 44) (v := 0) hx hb hr (fun t ht hW => ⟨⟨0, (), rfl, rfl, _, ⟨(vup fn0 0 (.int 0)), rfl, rfl⟩, by rw [ht]; exact hP99, hD99⟩, hS7.F ht⟩) hS7.2.2 dX12_clear_44
set_option maxHeartbeats 4000000 in
set_option maxRecDepth 100000 in
/-- X12_clear -/
theorem m_clear_2 (l : Launch) (D : va_G) (cy : Nat → ClassId) (kv : KV) (sz : Nat) (ad0 : Nat) (fn0 : Nat → Value) (ad1 : Nat) (ct1 : Nat → Int32) (h0_56 : fn0 56 = .ref ad1) (k1_0 : ct1 0 = 0) (k1_1 : ct1 1 = 0) (k1_2 : ct1 2 = 0) : Met l yX12_clear (Cond.code yX12_clear cX12_clear 3 (some .int) :: GW) ({ frames := 9, cells := 0, slots := 0, locals := 160 } : Room) (va_Pc [.ref ad0, .int 2] (pcq D cy kv sz [(ad0, ob 12 114 fn0), (ad1, ari (cy 0) 3 ct1)])) (va_Qi (fun r (_ : Unit) => r = 0) (fun _ t => bq D (fun w => ∃ (nc900 : Nat → Value), w = [(ad0, ob 12 114 nc900)] ∧ nc900 0 = .int 0) (va_A [(ad0, ob 12 114 fn0), (ad1, ari (cy 0) 3 ct1)] sz) t) (va_A [(ad0, ob 12 114 fn0), (ad1, ari (cy 0) 3 ct1)] sz)) 0 0 (va_A [(ad0, ob 12 114 fn0), (ad1, ari (cy 0) 3 ct1)] sz) := by
  refine Met.ofW (cc := cX12_clear) (maxL := 3) (ret := (some .int)) (by decide) rfl ?_
  intro p e s m args below meth c s₁ B hml hv
  obtain ⟨rfl, hsz, hP, hK, hD0, hE⟩ := hv
  have hx := B.exec
  have hb := B.bytes
  have hr := B.returns
  have hG : ∀ w ∈ GW, w.before ([.ref ad0, .int 2] : List Value).toArray s = true := fun w h => atoms_spec (ws := Cond.code yX12_clear cX12_clear 3 (some .int) :: GW) B.pre w (List.mem_cons_of_mem _ h)
  have hown : s.vm.findClass RX12 = some m.cls := findClass_of_methodNamed B.named
  have hlocks := B.notSynchronized
  subst hsz
  have hD := hD0.self (sz := s.heap.size)
  generalize hAe : va_A [(ad0, ob 12 114 fn0), (ad1, ari (cy 0) 3 ct1)] s.heap.size = A at hD hE ⊢
  have hA : ∀ q : Nat, s.heap.size ≤ q → A q := fun q h => by rw [← hAe]; exact Or.inr h
  have hS : va_S A s.heap s.heap [] := va_S.rf
  clear hAe hD0
  have hl0 := lv_entry ([.ref ad0, .int 2]) (n := 3) (Nat.le_of_ble_eq_true rfl)
  rw [lg_entry_eq]
  generalize (lg_sl ([.ref ad0, .int 2]) ++ List.replicate (3 - (lg_sl ([.ref ad0, .int 2])).length) Slot.unset).toArray = ls at hl0 ⊢
  have hl : lv_has ls 3 [(0, .ref ad0), (1, .int 2)] := hl0
  clear hl0
  refine lv_aload_n (pc := 0) hx hb dX12_clear_0 rfl (lv_at hl 0 rfl) ?_
  refine lv_iconst (pc := 1) (v := 0) hx hb dX12_clear_1 (by decide) ?_
  refine ob_put (pc := 2) (v := .int 0) (ci := 12) (C := RX12) (T := TX12) (N := 114) hx hb hG in_X12 tyX12 tyX12_ok nmX12 hown hK hP hD hS 0 rfl rfl 0 (by decide) (hG _ g_432) rfl rfl rfl rfl dX12_clear_2 (ws' := [(ad0, ob 12 114 (vup fn0 0 (.int 0))), (ad1, ari (cy 0) 3 ct1)]) rfl (fun H1 lo1 hP1 hD1 hS1 => ?_)
  clear hP hD hS
  refine lv_aload_n (pc := 5) hx hb dX12_clear_5 rfl (lv_at hl 0 rfl) ?_
  refine lv_iload_n (pc := 6) hx hb dX12_clear_6 rfl (lv_at hl 1 rfl) ?_
  refine lv_if_lt (pc := 7) (tgt := 19) hx hb dX12_clear_7 (by decide) (fun c2 => absurd c2 (by decide)) (fun c2 => ?_)
  refine lv_iload_n (pc := 10) hx hb dX12_clear_10 rfl (lv_at hl 1 rfl) ?_
  refine lv_iconst (pc := 11) (v := 2) hx hb dX12_clear_11 (by decide) ?_
  refine lv_icmp_gt (pc := 12) (tgt := 19) hx hb dX12_clear_12 (by decide) (fun c3 => absurd c3 (by decide)) (fun c3 => ?_)
  refine lv_iconst (pc := 15) (v := 1) hx hb dX12_clear_15 (by decide) ?_
  refine lv_goto (pc := 16) (tgt := 20) hx hb dX12_clear_16 (by decide) ?_
  refine lv_iconst (pc := 20) (v := 1) hx hb dX12_clear_20 (by decide) ?_
  refine cq_i (pc := 21) (wr := [(ad1, ari (cy 0) 3 ct1)]) (k2 := 0) (n2 := 0) (va_runV (As := [.int 1, .int 1]) (rest := []) ⟨hx, hb, hml, hown, hG⟩ (m_may1 l D cy kv H1.size ad0 (vup fn0 0 (.int 0)) rfl) (cwV 2 hG (gi_V g_475 g_476 g_477 g_334 g_434) rfl rfl rfl (by decide +kernel) ⟨Nat.le_of_ble_eq_true rfl, Nat.le_of_ble_eq_true rfl⟩) ⟨pq_blind, (va_recv hK hP1 (ci := 12) (q0 := 0) rfl rfl), (pq_pass hP1 hD1 hK hE hS1 hA [0] rfl (by decide))⟩ rfl rfl hl.1 rfl (lv_room (Nat.le_of_ble_eq_true rfl)) dX12_clear_21 ⟨Nat.le_of_ble_eq_true rfl, Nat.le_of_ble_eq_true rfl⟩) hP1 hD1 hS1 hA [0] [1] rfl rfl (by decide) (by decide) (by decide) (by decide) (fun r4 w4 H4 lo4 e4 hR4 hP4r hD4r hS4 => ?_)
  subst hR4
  subst e4
  have hP4 : va_P D classes [(ad1, ari (cy 0) 3 ct1), (ad0, ob 12 114 (vup fn0 0 (.int 0)))] H4 := hP4r
  have hD4 : va_D A [(ad1, ari (cy 0) 3 ct1), (ad0, ob 12 114 (vup fn0 0 (.int 0)))] := hD4r
  clear hP4r hD4r
  clear hP1 hD1 hS1
  clear H1 lo1
  refine lv_if_ne (pc := 24) (tgt := 29) hx hb dX12_clear_24 (by decide) (fun c5 => ?_) (fun c5 => absurd c5 (by decide))
  refine lv_aload_n (pc := 29) hx hb dX12_clear_29 rfl (lv_at hl 0 rfl) ?_
  refine ob_get (pc := 30) (v := .ref ad1) (ci := 12) (C := RX12) (T := TX12) (N := 114) hx hb hG in_X12 hown hK hP4 1 rfl rfl 56 (by decide) (hG _ g_390) rfl h0_56 dX12_clear_30 ?_
  refine lv_iload_n (pc := 33) hx hb dX12_clear_33 rfl (lv_at hl 1 rfl) ?_
  refine va_iald (pc := 34) hx hb hK hP4 0 0 rfl rfl (show ¬ ((2 : Int32) < 0 ∨ 3 ≤ (2 : Int32).toNatClampNeg) by decide) dX12_clear_34 ?_
  refine tp_i (y := 0) k1_2 ?_
  refine lv_istore_n (pc := 35) (lv' := [(2, .int 0), (0, .ref ad0), (1, .int 2)]) hx hb dX12_clear_35 rfl hl (by decide) rfl (fun ls6 hl6 => ?_)
  clear hl ls
  refine lv_aload_n (pc := 36) hx hb dX12_clear_36 rfl (lv_at hl6 1 rfl) ?_
  refine ob_get (pc := 37) (v := .ref ad1) (ci := 12) (C := RX12) (T := TX12) (N := 114) hx hb hG in_X12 hown hK hP4 1 rfl rfl 56 (by decide) (hG _ g_390) rfl h0_56 dX12_clear_37 ?_
  refine lv_iload_n (pc := 40) hx hb dX12_clear_40 rfl (lv_at hl6 2 rfl) ?_
  refine lv_iconst (pc := 41) (v := 0) hx hb dX12_clear_41 (by decide) ?_
  refine va_iast (pc := 42) hx hb hK hP4 hD4 hS4 0 0 rfl rfl (show ¬ ((2 : Int32) < 0 ∨ 3 ≤ (2 : Int32).toNatClampNeg) by decide) dX12_clear_42 (fun H7 lo7 hP7r hD7r hS7 => ?_)
  have hP7 : va_P D classes [(ad1, ari (cy 0) 3 (upd ct1 (2 : Int32).toNatClampNeg 0)), (ad0, ob 12 114 (vup fn0 0 (.int 0)))] H7 := hP7r
  have hD7 : va_D A [(ad1, ari (cy 0) 3 (upd ct1 (2 : Int32).toNatClampNeg 0)), (ad0, ob 12 114 (vup fn0 0 (.int 0)))] := hD7r
  clear hP7r hD7r
  clear hP4 hD4 hS4
  clear H4 lo4
  refine lv_iload_n (pc := 43) hx hb dX12_clear_43 rfl (lv_at hl6 0 rfl) ?_
  have hP99 := hP7.sub (ws' := [(ad0, ob 12 114 (vup fn0 0 (.int 0)))]) [1] rfl
  have hD99 := hD7.sub (ws' := [(ad0, ob 12 114 (vup fn0 0 (.int 0)))]) [1] (by decide) rfl
  exact W.iret (pc := 44) (v := 0) hx hb hr (fun t ht hW => ⟨⟨0, (), rfl, rfl, _, ⟨(vup fn0 0 (.int 0)), rfl, rfl⟩, by rw [ht]; exact hP99, hD99⟩, hS7.F ht⟩) hS7.2.2 dX12_clear_44
set_option maxHeartbeats 4000000 in
set_option maxRecDepth 100000 in
/-- X12_run -/
theorem m_run_n (l : Launch) (D : va_G) (cy : Nat → ClassId) (kv : KV) (sz : Nat) (ad0 : Nat) (xi0 : Int32) (fn0 : Nat → Value) (h0_32 : fn0 32 = .int 0) (hn : xi0 < 0) : Met l yX12_run (Cond.code yX12_run cX12_run 4 (some .int) :: GW) ({ frames := 9, cells := 0, slots := 0, locals := 160 } : Room) (va_Pc [.ref ad0, .int xi0] (pcq D cy kv sz [(ad0, ob 12 114 fn0)])) (va_Qi (fun r (_ : Unit) => r = 0) (fun _ t => bq D (fun w => ∃ (nc900 : Nat → Value), w = [(ad0, ob 12 114 nc900)] ∧ nc900 0 = .int 1) (va_A [(ad0, ob 12 114 fn0)] sz) t) (va_A [(ad0, ob 12 114 fn0)] sz)) 0 0 (va_A [(ad0, ob 12 114 fn0)] sz) := by
  refine Met.ofW (cc := cX12_run) (maxL := 4) (ret := (some .int)) (by decide) rfl ?_
  intro p e s m args below meth c s₁ B hml hv
  obtain ⟨rfl, hsz, hP, hK, hD0, hE⟩ := hv
  have hx := B.exec
  have hb := B.bytes
  have hr := B.returns
  have hG : ∀ w ∈ GW, w.before ([.ref ad0, .int xi0] : List Value).toArray s = true := fun w h => atoms_spec (ws := Cond.code yX12_run cX12_run 4 (some .int) :: GW) B.pre w (List.mem_cons_of_mem _ h)
  have hown : s.vm.findClass RX12 = some m.cls := findClass_of_methodNamed B.named
  have hlocks := B.notSynchronized
  subst hsz
  have hD := hD0.self (sz := s.heap.size)
  generalize hAe : va_A [(ad0, ob 12 114 fn0)] s.heap.size = A at hD hE ⊢
  have hA : ∀ q : Nat, s.heap.size ≤ q → A q := fun q h => by rw [← hAe]; exact Or.inr h
  have hS : va_S A s.heap s.heap [] := va_S.rf
  clear hAe hD0
  have hl0 := lv_entry ([.ref ad0, .int xi0]) (n := 4) (Nat.le_of_ble_eq_true rfl)
  rw [lg_entry_eq]
  generalize (lg_sl ([.ref ad0, .int xi0]) ++ List.replicate (4 - (lg_sl ([.ref ad0, .int xi0])).length) Slot.unset).toArray = ls at hl0 ⊢
  have hl : lv_has ls 4 [(0, .ref ad0), (1, .int xi0)] := hl0
  clear hl0
  refine lv_aload_n (pc := 0) hx hb dX12_run_0 rfl (lv_at hl 0 rfl) ?_
  refine lv_iconst (pc := 1) (v := 0) hx hb dX12_run_1 (by decide) ?_
  refine ob_put (pc := 2) (v := .int 0) (ci := 12) (C := RX12) (T := TX12) (N := 114) hx hb hG in_X12 tyX12 tyX12_ok nmX12 hown hK hP hD hS 0 rfl rfl 0 (by decide) (hG _ g_432) rfl rfl rfl rfl dX12_run_2 (ws' := [(ad0, ob 12 114 (vup fn0 0 (.int 0)))]) rfl (fun H1 lo1 hP1 hD1 hS1 => ?_)
  clear hP hD hS
  refine lv_aload_n (pc := 5) hx hb dX12_run_5 rfl (lv_at hl 0 rfl) ?_
  refine lv_iload_n (pc := 6) hx hb dX12_run_6 rfl (lv_at hl 1 rfl) ?_
  refine lv_if_lt (pc := 7) (tgt := 29) hx hb dX12_run_7 (by decide) (fun c2 => ?_) (fun c2 => absurd hn c2)
  refine lv_iconst (pc := 29) (v := 0) hx hb dX12_run_29 (by decide) ?_
  refine lv_iconst (pc := 30) (v := 1) hx hb dX12_run_30 (by decide) ?_
  refine cq_i (pc := 31) (wr := []) (k2 := 0) (n2 := 0) (va_runV (As := [.int 0, .int 1]) (rest := []) ⟨hx, hb, hml, hown, hG⟩ (m_may0 l D cy kv H1.size ad0 (vup fn0 0 (.int 0)) rfl) (cwV 2 hG (gi_V g_475 g_476 g_477 g_334 g_434) rfl rfl rfl (by decide +kernel) ⟨Nat.le_of_ble_eq_true rfl, Nat.le_of_ble_eq_true rfl⟩) ⟨pq_blind, (va_recv hK hP1 (ci := 12) (q0 := 0) rfl rfl), (pq_pass hP1 hD1 hK hE hS1 hA [0] rfl (by decide))⟩ rfl rfl hl.1 rfl (lv_room (Nat.le_of_ble_eq_true rfl)) dX12_run_31 ⟨Nat.le_of_ble_eq_true rfl, Nat.le_of_ble_eq_true rfl⟩) hP1 hD1 hS1 hA [0] [] rfl rfl (by decide) (by decide) (by decide) (by decide) (fun r3 w3 H3 lo3 e3 hR3 hP3r hD3r hS3 => ?_)
  subst hR3
  subst e3
  have hP3 : va_P D classes [(ad0, ob 12 114 (vup (vup fn0 0 (.int 0)) 0 (.int 1)))] H3 := hP3r
  have hD3 : va_D A [(ad0, ob 12 114 (vup (vup fn0 0 (.int 0)) 0 (.int 1)))] := hD3r
  clear hP3r hD3r
  clear hP1 hD1 hS1
  clear H1 lo1
  refine lv_if_eq (pc := 34) (tgt := 59) hx hb dX12_run_34 (by decide) (fun c4 => ?_) (fun c4 => absurd (by decide) c4)
  refine lv_iconst (pc := 59) (v := 0) hx hb dX12_run_59 (by decide) ?_
  exact W.iret (pc := 60) (v := 0) hx hb hr (fun t ht hW => ⟨⟨0, (), rfl, rfl, _, ⟨(vup (vup fn0 0 (.int 0)) 0 (.int 1)), rfl, rfl⟩, by rw [ht]; exact hP3, hD3⟩, hS3.F ht⟩) hS3.2.2 dX12_run_60
set_option maxHeartbeats 4000000 in
set_option maxRecDepth 100000 in
/-- X12_run -/
theorem m_run_p (l : Launch) (D : va_G) (cy : Nat → ClassId) (kv : KV) (sz : Nat) (ad0 : Nat) (xi0 : Int32) (fn0 : Nat → Value) (h0_32 : fn0 32 = .int 0) (hn : 0 < xi0) : Met l yX12_run (Cond.code yX12_run cX12_run 4 (some .int) :: GW) ({ frames := 9, cells := 0, slots := 0, locals := 160 } : Room) (va_Pc [.ref ad0, .int xi0] (pcq D cy kv sz [(ad0, ob 12 114 fn0)])) (va_Qi (fun r (_ : Unit) => r = 0) (fun _ t => bq D (fun w => ∃ (nc900 : Nat → Value), w = [(ad0, ob 12 114 nc900)] ∧ nc900 0 = .int 1) (va_A [(ad0, ob 12 114 fn0)] sz) t) (va_A [(ad0, ob 12 114 fn0)] sz)) 0 0 (va_A [(ad0, ob 12 114 fn0)] sz) := by
  refine Met.ofW (cc := cX12_run) (maxL := 4) (ret := (some .int)) (by decide) rfl ?_
  intro p e s m args below meth c s₁ B hml hv
  obtain ⟨rfl, hsz, hP, hK, hD0, hE⟩ := hv
  have hx := B.exec
  have hb := B.bytes
  have hr := B.returns
  have hG : ∀ w ∈ GW, w.before ([.ref ad0, .int xi0] : List Value).toArray s = true := fun w h => atoms_spec (ws := Cond.code yX12_run cX12_run 4 (some .int) :: GW) B.pre w (List.mem_cons_of_mem _ h)
  have hown : s.vm.findClass RX12 = some m.cls := findClass_of_methodNamed B.named
  have hlocks := B.notSynchronized
  subst hsz
  have hD := hD0.self (sz := s.heap.size)
  generalize hAe : va_A [(ad0, ob 12 114 fn0)] s.heap.size = A at hD hE ⊢
  have hA : ∀ q : Nat, s.heap.size ≤ q → A q := fun q h => by rw [← hAe]; exact Or.inr h
  have hS : va_S A s.heap s.heap [] := va_S.rf
  clear hAe hD0
  have hl0 := lv_entry ([.ref ad0, .int xi0]) (n := 4) (Nat.le_of_ble_eq_true rfl)
  rw [lg_entry_eq]
  generalize (lg_sl ([.ref ad0, .int xi0]) ++ List.replicate (4 - (lg_sl ([.ref ad0, .int xi0])).length) Slot.unset).toArray = ls at hl0 ⊢
  have hl : lv_has ls 4 [(0, .ref ad0), (1, .int xi0)] := hl0
  clear hl0
  refine lv_aload_n (pc := 0) hx hb dX12_run_0 rfl (lv_at hl 0 rfl) ?_
  refine lv_iconst (pc := 1) (v := 0) hx hb dX12_run_1 (by decide) ?_
  refine ob_put (pc := 2) (v := .int 0) (ci := 12) (C := RX12) (T := TX12) (N := 114) hx hb hG in_X12 tyX12 tyX12_ok nmX12 hown hK hP hD hS 0 rfl rfl 0 (by decide) (hG _ g_432) rfl rfl rfl rfl dX12_run_2 (ws' := [(ad0, ob 12 114 (vup fn0 0 (.int 0)))]) rfl (fun H1 lo1 hP1 hD1 hS1 => ?_)
  clear hP hD hS
  refine lv_aload_n (pc := 5) hx hb dX12_run_5 rfl (lv_at hl 0 rfl) ?_
  refine lv_iload_n (pc := 6) hx hb dX12_run_6 rfl (lv_at hl 1 rfl) ?_
  refine lv_if_lt (pc := 7) (tgt := 29) hx hb dX12_run_7 (by decide) (fun c2 => absurd c2 (i_asym hn)) (fun c2 => ?_)
  refine lv_iload_n (pc := 10) hx hb dX12_run_10 rfl (lv_at hl 1 rfl) ?_
  refine lv_aload_n (pc := 11) hx hb dX12_run_11 rfl (lv_at hl 0 rfl) ?_
  refine ob_get (pc := 12) (v := .int 0) (ci := 12) (C := RX12) (T := TX12) (N := 114) hx hb hG in_X12 hown hK hP1 0 rfl rfl 32 (by decide) (hG _ g_435) rfl h0_32 dX12_run_12 ?_
  refine lv_icmp_gt (pc := 15) (tgt := 29) hx hb dX12_run_15 (by decide) (fun c3 => ?_) (fun c3 => absurd hn c3)
  refine lv_iconst (pc := 29) (v := 0) hx hb dX12_run_29 (by decide) ?_
  refine lv_iconst (pc := 30) (v := 1) hx hb dX12_run_30 (by decide) ?_
  refine cq_i (pc := 31) (wr := []) (k2 := 0) (n2 := 0) (va_runV (As := [.int 0, .int 1]) (rest := []) ⟨hx, hb, hml, hown, hG⟩ (m_may0 l D cy kv H1.size ad0 (vup fn0 0 (.int 0)) rfl) (cwV 2 hG (gi_V g_475 g_476 g_477 g_334 g_434) rfl rfl rfl (by decide +kernel) ⟨Nat.le_of_ble_eq_true rfl, Nat.le_of_ble_eq_true rfl⟩) ⟨pq_blind, (va_recv hK hP1 (ci := 12) (q0 := 0) rfl rfl), (pq_pass hP1 hD1 hK hE hS1 hA [0] rfl (by decide))⟩ rfl rfl hl.1 rfl (lv_room (Nat.le_of_ble_eq_true rfl)) dX12_run_31 ⟨Nat.le_of_ble_eq_true rfl, Nat.le_of_ble_eq_true rfl⟩) hP1 hD1 hS1 hA [0] [] rfl rfl (by decide) (by decide) (by decide) (by decide) (fun r4 w4 H4 lo4 e4 hR4 hP4r hD4r hS4 => ?_)
  subst hR4
  subst e4
  have hP4 : va_P D classes [(ad0, ob 12 114 (vup (vup fn0 0 (.int 0)) 0 (.int 1)))] H4 := hP4r
  have hD4 : va_D A [(ad0, ob 12 114 (vup (vup fn0 0 (.int 0)) 0 (.int 1)))] := hD4r
  clear hP4r hD4r
  clear hP1 hD1 hS1
  clear H1 lo1
  refine lv_if_eq (pc := 34) (tgt := 59) hx hb dX12_run_34 (by decide) (fun c5 => ?_) (fun c5 => absurd (by decide) c5)
  refine lv_iconst (pc := 59) (v := 0) hx hb dX12_run_59 (by decide) ?_
  exact W.iret (pc := 60) (v := 0) hx hb hr (fun t ht hW => ⟨⟨0, (), rfl, rfl, _, ⟨(vup (vup fn0 0 (.int 0)) 0 (.int 1)), rfl, rfl⟩, by rw [ht]; exact hP4, hD4⟩, hS4.F ht⟩) hS4.2.2 dX12_run_60
set_option maxHeartbeats 4000000 in
set_option maxRecDepth 100000 in
/-- X12_ends -/
theorem m_ends_n (l : Launch) (D : va_G) (cy : Nat → ClassId) (kv : KV) (sz : Nat) (ad0 : Nat) (xi0 : Int32) (fn0 : Nat → Value) (h0_32 : fn0 32 = .int 0) (hn : xi0 < 0) : Met l yX12_ends (Cond.code yX12_ends cX12_ends 5 (some .int) :: GW) ({ frames := 9, cells := 0, slots := 0, locals := 160 } : Room) (va_Pc [.ref ad0, .int xi0] (pcq D cy kv sz [(ad0, ob 12 114 fn0)])) (va_Qi (fun r (_ : Unit) => r = 0) (fun _ t => bq D (fun w => ∃ (nc900 : Nat → Value), w = [(ad0, ob 12 114 nc900)] ∧ nc900 0 = .int 1) (va_A [(ad0, ob 12 114 fn0)] sz) t) (va_A [(ad0, ob 12 114 fn0)] sz)) 0 0 (va_A [(ad0, ob 12 114 fn0)] sz) := by
  refine Met.ofW (cc := cX12_ends) (maxL := 5) (ret := (some .int)) (by decide) rfl ?_
  intro p e s m args below meth c s₁ B hml hv
  obtain ⟨rfl, hsz, hP, hK, hD0, hE⟩ := hv
  have hx := B.exec
  have hb := B.bytes
  have hr := B.returns
  have hG : ∀ w ∈ GW, w.before ([.ref ad0, .int xi0] : List Value).toArray s = true := fun w h => atoms_spec (ws := Cond.code yX12_ends cX12_ends 5 (some .int) :: GW) B.pre w (List.mem_cons_of_mem _ h)
  have hown : s.vm.findClass RX12 = some m.cls := findClass_of_methodNamed B.named
  have hlocks := B.notSynchronized
  subst hsz
  have hD := hD0.self (sz := s.heap.size)
  generalize hAe : va_A [(ad0, ob 12 114 fn0)] s.heap.size = A at hD hE ⊢
  have hA : ∀ q : Nat, s.heap.size ≤ q → A q := fun q h => by rw [← hAe]; exact Or.inr h
  have hS : va_S A s.heap s.heap [] := va_S.rf
  clear hAe hD0
  have hl0 := lv_entry ([.ref ad0, .int xi0]) (n := 5) (Nat.le_of_ble_eq_true rfl)
  rw [lg_entry_eq]
  generalize (lg_sl ([.ref ad0, .int xi0]) ++ List.replicate (5 - (lg_sl ([.ref ad0, .int xi0])).length) Slot.unset).toArray = ls at hl0 ⊢
  have hl : lv_has ls 5 [(0, .ref ad0), (1, .int xi0)] := hl0
  clear hl0
  refine lv_aload_n (pc := 0) hx hb dX12_ends_0 rfl (lv_at hl 0 rfl) ?_
  refine lv_iconst (pc := 1) (v := 0) hx hb dX12_ends_1 (by decide) ?_
  refine ob_put (pc := 2) (v := .int 0) (ci := 12) (C := RX12) (T := TX12) (N := 114) hx hb hG in_X12 tyX12 tyX12_ok nmX12 hown hK hP hD hS 0 rfl rfl 0 (by decide) (hG _ g_432) rfl rfl rfl rfl dX12_ends_2 (ws' := [(ad0, ob 12 114 (vup fn0 0 (.int 0)))]) rfl (fun H1 lo1 hP1 hD1 hS1 => ?_)
  clear hP hD hS
  refine lv_aload_n (pc := 5) hx hb dX12_ends_5 rfl (lv_at hl 0 rfl) ?_
  refine lv_iload_n (pc := 6) hx hb dX12_ends_6 rfl (lv_at hl 1 rfl) ?_
  refine lv_if_lt (pc := 7) (tgt := 29) hx hb dX12_ends_7 (by decide) (fun c2 => ?_) (fun c2 => absurd hn c2)
  refine lv_iconst (pc := 29) (v := 0) hx hb dX12_ends_29 (by decide) ?_
  refine lv_iconst (pc := 30) (v := 1) hx hb dX12_ends_30 (by decide) ?_
  refine cq_i (pc := 31) (wr := []) (k2 := 0) (n2 := 0) (va_runV (As := [.int 0, .int 1]) (rest := []) ⟨hx, hb, hml, hown, hG⟩ (m_may0 l D cy kv H1.size ad0 (vup fn0 0 (.int 0)) rfl) (cwV 2 hG (gi_V g_475 g_476 g_477 g_334 g_434) rfl rfl rfl (by decide +kernel) ⟨Nat.le_of_ble_eq_true rfl, Nat.le_of_ble_eq_true rfl⟩) ⟨pq_blind, (va_recv hK hP1 (ci := 12) (q0 := 0) rfl rfl), (pq_pass hP1 hD1 hK hE hS1 hA [0] rfl (by decide))⟩ rfl rfl hl.1 rfl (lv_room (Nat.le_of_ble_eq_true rfl)) dX12_ends_31 ⟨Nat.le_of_ble_eq_true rfl, Nat.le_of_ble_eq_true rfl⟩) hP1 hD1 hS1 hA [0] [] rfl rfl (by decide) (by decide) (by decide) (by decide) (fun r3 w3 H3 lo3 e3 hR3 hP3r hD3r hS3 => ?_)
  subst hR3
  subst e3
  have hP3 : va_P D classes [(ad0, ob 12 114 (vup (vup fn0 0 (.int 0)) 0 (.int 1)))] H3 := hP3r
  have hD3 : va_D A [(ad0, ob 12 114 (vup (vup fn0 0 (.int 0)) 0 (.int 1)))] := hD3r
  clear hP3r hD3r
  clear hP1 hD1 hS1
  clear H1 lo1
  refine lv_if_ne (pc := 34) (tgt := 39) hx hb dX12_ends_34 (by decide) (fun c4 => absurd (by decide) c4) (fun c4 => ?_)
  refine lv_iconst (pc := 37) (v := 0) hx hb dX12_ends_37 (by decide) ?_
  exact W.iret (pc := 38) (v := 0) hx hb hr (fun t ht hW => ⟨⟨0, (), rfl, rfl, _, ⟨(vup (vup fn0 0 (.int 0)) 0 (.int 1)), rfl, rfl⟩, by rw [ht]; exact hP3, hD3⟩, hS3.F ht⟩) hS3.2.2 dX12_ends_38
set_option maxHeartbeats 4000000 in
set_option maxRecDepth 100000 in
/-- X12_ends -/
theorem m_ends_p (l : Launch) (D : va_G) (cy : Nat → ClassId) (kv : KV) (sz : Nat) (ad0 : Nat) (xi0 : Int32) (fn0 : Nat → Value) (h0_32 : fn0 32 = .int 0) (hn : 0 < xi0) : Met l yX12_ends (Cond.code yX12_ends cX12_ends 5 (some .int) :: GW) ({ frames := 9, cells := 0, slots := 0, locals := 160 } : Room) (va_Pc [.ref ad0, .int xi0] (pcq D cy kv sz [(ad0, ob 12 114 fn0)])) (va_Qi (fun r (_ : Unit) => r = 0) (fun _ t => bq D (fun w => ∃ (nc900 : Nat → Value), w = [(ad0, ob 12 114 nc900)] ∧ nc900 0 = .int 1) (va_A [(ad0, ob 12 114 fn0)] sz) t) (va_A [(ad0, ob 12 114 fn0)] sz)) 0 0 (va_A [(ad0, ob 12 114 fn0)] sz) := by
  refine Met.ofW (cc := cX12_ends) (maxL := 5) (ret := (some .int)) (by decide) rfl ?_
  intro p e s m args below meth c s₁ B hml hv
  obtain ⟨rfl, hsz, hP, hK, hD0, hE⟩ := hv
  have hx := B.exec
  have hb := B.bytes
  have hr := B.returns
  have hG : ∀ w ∈ GW, w.before ([.ref ad0, .int xi0] : List Value).toArray s = true := fun w h => atoms_spec (ws := Cond.code yX12_ends cX12_ends 5 (some .int) :: GW) B.pre w (List.mem_cons_of_mem _ h)
  have hown : s.vm.findClass RX12 = some m.cls := findClass_of_methodNamed B.named
  have hlocks := B.notSynchronized
  subst hsz
  have hD := hD0.self (sz := s.heap.size)
  generalize hAe : va_A [(ad0, ob 12 114 fn0)] s.heap.size = A at hD hE ⊢
  have hA : ∀ q : Nat, s.heap.size ≤ q → A q := fun q h => by rw [← hAe]; exact Or.inr h
  have hS : va_S A s.heap s.heap [] := va_S.rf
  clear hAe hD0
  have hl0 := lv_entry ([.ref ad0, .int xi0]) (n := 5) (Nat.le_of_ble_eq_true rfl)
  rw [lg_entry_eq]
  generalize (lg_sl ([.ref ad0, .int xi0]) ++ List.replicate (5 - (lg_sl ([.ref ad0, .int xi0])).length) Slot.unset).toArray = ls at hl0 ⊢
  have hl : lv_has ls 5 [(0, .ref ad0), (1, .int xi0)] := hl0
  clear hl0
  refine lv_aload_n (pc := 0) hx hb dX12_ends_0 rfl (lv_at hl 0 rfl) ?_
  refine lv_iconst (pc := 1) (v := 0) hx hb dX12_ends_1 (by decide) ?_
  refine ob_put (pc := 2) (v := .int 0) (ci := 12) (C := RX12) (T := TX12) (N := 114) hx hb hG in_X12 tyX12 tyX12_ok nmX12 hown hK hP hD hS 0 rfl rfl 0 (by decide) (hG _ g_432) rfl rfl rfl rfl dX12_ends_2 (ws' := [(ad0, ob 12 114 (vup fn0 0 (.int 0)))]) rfl (fun H1 lo1 hP1 hD1 hS1 => ?_)
  clear hP hD hS
  refine lv_aload_n (pc := 5) hx hb dX12_ends_5 rfl (lv_at hl 0 rfl) ?_
  refine lv_iload_n (pc := 6) hx hb dX12_ends_6 rfl (lv_at hl 1 rfl) ?_
  refine lv_if_lt (pc := 7) (tgt := 29) hx hb dX12_ends_7 (by decide) (fun c2 => absurd c2 (i_asym hn)) (fun c2 => ?_)
  refine lv_iload_n (pc := 10) hx hb dX12_ends_10 rfl (lv_at hl 1 rfl) ?_
  refine lv_aload_n (pc := 11) hx hb dX12_ends_11 rfl (lv_at hl 0 rfl) ?_
  refine ob_get (pc := 12) (v := .int 0) (ci := 12) (C := RX12) (T := TX12) (N := 114) hx hb hG in_X12 hown hK hP1 0 rfl rfl 32 (by decide) (hG _ g_435) rfl h0_32 dX12_ends_12 ?_
  refine lv_icmp_gt (pc := 15) (tgt := 29) hx hb dX12_ends_15 (by decide) (fun c3 => ?_) (fun c3 => absurd hn c3)
  refine lv_iconst (pc := 29) (v := 0) hx hb dX12_ends_29 (by decide) ?_
  refine lv_iconst (pc := 30) (v := 1) hx hb dX12_ends_30 (by decide) ?_
  refine cq_i (pc := 31) (wr := []) (k2 := 0) (n2 := 0) (va_runV (As := [.int 0, .int 1]) (rest := []) ⟨hx, hb, hml, hown, hG⟩ (m_may0 l D cy kv H1.size ad0 (vup fn0 0 (.int 0)) rfl) (cwV 2 hG (gi_V g_475 g_476 g_477 g_334 g_434) rfl rfl rfl (by decide +kernel) ⟨Nat.le_of_ble_eq_true rfl, Nat.le_of_ble_eq_true rfl⟩) ⟨pq_blind, (va_recv hK hP1 (ci := 12) (q0 := 0) rfl rfl), (pq_pass hP1 hD1 hK hE hS1 hA [0] rfl (by decide))⟩ rfl rfl hl.1 rfl (lv_room (Nat.le_of_ble_eq_true rfl)) dX12_ends_31 ⟨Nat.le_of_ble_eq_true rfl, Nat.le_of_ble_eq_true rfl⟩) hP1 hD1 hS1 hA [0] [] rfl rfl (by decide) (by decide) (by decide) (by decide) (fun r4 w4 H4 lo4 e4 hR4 hP4r hD4r hS4 => ?_)
  subst hR4
  subst e4
  have hP4 : va_P D classes [(ad0, ob 12 114 (vup (vup fn0 0 (.int 0)) 0 (.int 1)))] H4 := hP4r
  have hD4 : va_D A [(ad0, ob 12 114 (vup (vup fn0 0 (.int 0)) 0 (.int 1)))] := hD4r
  clear hP4r hD4r
  clear hP1 hD1 hS1
  clear H1 lo1
  refine lv_if_ne (pc := 34) (tgt := 39) hx hb dX12_ends_34 (by decide) (fun c5 => absurd (by decide) c5) (fun c5 => ?_)
  refine lv_iconst (pc := 37) (v := 0) hx hb dX12_ends_37 (by decide) ?_
  exact W.iret (pc := 38) (v := 0) hx hb hr (fun t ht hW => ⟨⟨0, (), rfl, rfl, _, ⟨(vup (vup fn0 0 (.int 0)) 0 (.int 1)), rfl, rfl⟩, by rw [ht]; exact hP4, hD4⟩, hS4.F ht⟩) hS4.2.2 dX12_ends_38
set_option maxHeartbeats 4000000 in
set_option maxRecDepth 100000 in
/-- X12_beginBlame -/
theorem m_beginBlame (l : Launch) (D : va_G) (cy : Nat → ClassId) (kv : KV) (sz : Nat) (ad0 : Nat) (fn0 : Nat → Value) : Met l yX12_beginBlame (Cond.code yX12_beginBlame cX12_beginBlame 1 none :: GW) ({ frames := 8, cells := 0, slots := 0, locals := 120 } : Room) (va_Pc [.ref ad0] (pcq D cy kv sz [(ad0, ob 12 114 fn0)])) (va_Qv (fun (_ : Unit) => True) (fun _ t => bq D (fun w => w = [(ad0, ob 12 114 (vup (vup (vup (vup (vup (vup (vup (vup fn0 67 (.int 0)) 68 (.int (-1))) 69 (.int (-1))) 70 (.int (-1))) 71 (.int (-1))) 72 (.int 0)) 108 (.int 0)) 63 (.int 0)))]) (va_A [(ad0, ob 12 114 fn0)] sz) t) (va_A [(ad0, ob 12 114 fn0)] sz)) 0 0 (va_A [(ad0, ob 12 114 fn0)] sz) := by
  refine Met.ofW (cc := cX12_beginBlame) (maxL := 1) (ret := none) (by decide) rfl ?_
  intro p e s m args below meth c s₁ B hml hv
  obtain ⟨rfl, hsz, hP, hK, hD0, hE⟩ := hv
  have hx := B.exec
  have hb := B.bytes
  have hr := B.returns
  have hG : ∀ w ∈ GW, w.before ([.ref ad0] : List Value).toArray s = true := fun w h => atoms_spec (ws := Cond.code yX12_beginBlame cX12_beginBlame 1 none :: GW) B.pre w (List.mem_cons_of_mem _ h)
  have hown : s.vm.findClass RX12 = some m.cls := findClass_of_methodNamed B.named
  have hlocks := B.notSynchronized
  subst hsz
  have hD := hD0.self (sz := s.heap.size)
  generalize hAe : va_A [(ad0, ob 12 114 fn0)] s.heap.size = A at hD hE ⊢
  have hA : ∀ q : Nat, s.heap.size ≤ q → A q := fun q h => by rw [← hAe]; exact Or.inr h
  have hS : va_S A s.heap s.heap [] := va_S.rf
  clear hAe hD0
  have hl0 := lv_entry ([.ref ad0]) (n := 1) (Nat.le_of_ble_eq_true rfl)
  rw [lg_entry_eq]
  generalize (lg_sl ([.ref ad0]) ++ List.replicate (1 - (lg_sl ([.ref ad0])).length) Slot.unset).toArray = ls at hl0 ⊢
  have hl : lv_has ls 1 [(0, .ref ad0)] := hl0
  clear hl0
  refine lv_aload_n (pc := 0) hx hb dX12_beginBlame_0 rfl (lv_at hl 0 rfl) ?_
  refine lv_iconst (pc := 1) (v := 0) hx hb dX12_beginBlame_1 (by decide) ?_
  refine ob_put (pc := 2) (v := .int 0) (ci := 12) (C := RX12) (T := TX12) (N := 114) hx hb hG in_X12 tyX12 tyX12_ok nmX12 hown hK hP hD hS 0 rfl rfl 67 (by decide) (hG _ g_491) rfl rfl rfl rfl dX12_beginBlame_2 (ws' := [(ad0, ob 12 114 (vup fn0 67 (.int 0)))]) rfl (fun H1 lo1 hP1 hD1 hS1 => ?_)
  clear hP hD hS
  refine lv_aload_n (pc := 5) hx hb dX12_beginBlame_5 rfl (lv_at hl 0 rfl) ?_
  refine lv_iconst (pc := 6) (v := (-1)) hx hb dX12_beginBlame_6 (by decide) ?_
  refine ob_put (pc := 7) (v := .int (-1)) (ci := 12) (C := RX12) (T := TX12) (N := 114) hx hb hG in_X12 tyX12 tyX12_ok nmX12 hown hK hP1 hD1 hS1 0 rfl rfl 68 (by decide) (hG _ g_396) rfl rfl rfl rfl dX12_beginBlame_7 (ws' := [(ad0, ob 12 114 (vup (vup fn0 67 (.int 0)) 68 (.int (-1))))]) rfl (fun H2 lo2 hP2 hD2 hS2 => ?_)
  clear hP1 hD1 hS1
  clear H1 lo1
  refine lv_aload_n (pc := 10) hx hb dX12_beginBlame_10 rfl (lv_at hl 0 rfl) ?_
  refine lv_iconst (pc := 11) (v := (-1)) hx hb dX12_beginBlame_11 (by decide) ?_
  refine ob_put (pc := 12) (v := .int (-1)) (ci := 12) (C := RX12) (T := TX12) (N := 114) hx hb hG in_X12 tyX12 tyX12_ok nmX12 hown hK hP2 hD2 hS2 0 rfl rfl 69 (by decide) (hG _ g_397) rfl rfl rfl rfl dX12_beginBlame_12 (ws' := [(ad0, ob 12 114 (vup (vup (vup fn0 67 (.int 0)) 68 (.int (-1))) 69 (.int (-1))))]) rfl (fun H3 lo3 hP3 hD3 hS3 => ?_)
  clear hP2 hD2 hS2
  clear H2 lo2
  refine lv_aload_n (pc := 15) hx hb dX12_beginBlame_15 rfl (lv_at hl 0 rfl) ?_
  refine lv_iconst (pc := 16) (v := (-1)) hx hb dX12_beginBlame_16 (by decide) ?_
  refine ob_put (pc := 17) (v := .int (-1)) (ci := 12) (C := RX12) (T := TX12) (N := 114) hx hb hG in_X12 tyX12 tyX12_ok nmX12 hown hK hP3 hD3 hS3 0 rfl rfl 70 (by decide) (hG _ g_398) rfl rfl rfl rfl dX12_beginBlame_17 (ws' := [(ad0, ob 12 114 (vup (vup (vup (vup fn0 67 (.int 0)) 68 (.int (-1))) 69 (.int (-1))) 70 (.int (-1))))]) rfl (fun H4 lo4 hP4 hD4 hS4 => ?_)
  clear hP3 hD3 hS3
  clear H3 lo3
  refine lv_aload_n (pc := 20) hx hb dX12_beginBlame_20 rfl (lv_at hl 0 rfl) ?_
  refine lv_iconst (pc := 21) (v := (-1)) hx hb dX12_beginBlame_21 (by decide) ?_
  refine ob_put (pc := 22) (v := .int (-1)) (ci := 12) (C := RX12) (T := TX12) (N := 114) hx hb hG in_X12 tyX12 tyX12_ok nmX12 hown hK hP4 hD4 hS4 0 rfl rfl 71 (by decide) (hG _ g_399) rfl rfl rfl rfl dX12_beginBlame_22 (ws' := [(ad0, ob 12 114 (vup (vup (vup (vup (vup fn0 67 (.int 0)) 68 (.int (-1))) 69 (.int (-1))) 70 (.int (-1))) 71 (.int (-1))))]) rfl (fun H5 lo5 hP5 hD5 hS5 => ?_)
  clear hP4 hD4 hS4
  clear H4 lo4
  refine lv_aload_n (pc := 25) hx hb dX12_beginBlame_25 rfl (lv_at hl 0 rfl) ?_
  refine lv_iconst (pc := 26) (v := 0) hx hb dX12_beginBlame_26 (by decide) ?_
  refine ob_put (pc := 27) (v := .int 0) (ci := 12) (C := RX12) (T := TX12) (N := 114) hx hb hG in_X12 tyX12 tyX12_ok nmX12 hown hK hP5 hD5 hS5 0 rfl rfl 72 (by decide) (hG _ g_492) rfl rfl rfl rfl dX12_beginBlame_27 (ws' := [(ad0, ob 12 114 (vup (vup (vup (vup (vup (vup fn0 67 (.int 0)) 68 (.int (-1))) 69 (.int (-1))) 70 (.int (-1))) 71 (.int (-1))) 72 (.int 0)))]) rfl (fun H6 lo6 hP6 hD6 hS6 => ?_)
  clear hP5 hD5 hS5
  clear H5 lo5
  refine lv_aload_n (pc := 30) hx hb dX12_beginBlame_30 rfl (lv_at hl 0 rfl) ?_
  refine lv_iconst (pc := 31) (v := 0) hx hb dX12_beginBlame_31 (by decide) ?_
  refine ob_put (pc := 32) (v := .int 0) (ci := 12) (C := RX12) (T := TX12) (N := 114) hx hb hG in_X12 tyX12 tyX12_ok nmX12 hown hK hP6 hD6 hS6 0 rfl rfl 108 (by decide) (hG _ g_493) rfl rfl rfl rfl dX12_beginBlame_32 (ws' := [(ad0, ob 12 114 (vup (vup (vup (vup (vup (vup (vup fn0 67 (.int 0)) 68 (.int (-1))) 69 (.int (-1))) 70 (.int (-1))) 71 (.int (-1))) 72 (.int 0)) 108 (.int 0)))]) rfl (fun H7 lo7 hP7 hD7 hS7 => ?_)
  clear hP6 hD6 hS6
  clear H6 lo6
  refine lv_aload_n (pc := 35) hx hb dX12_beginBlame_35 rfl (lv_at hl 0 rfl) ?_
  refine lv_iconst (pc := 36) (v := 0) hx hb dX12_beginBlame_36 (by decide) ?_
  refine ob_put (pc := 37) (v := .int 0) (ci := 12) (C := RX12) (T := TX12) (N := 114) hx hb hG in_X12 tyX12 tyX12_ok nmX12 hown hK hP7 hD7 hS7 0 rfl rfl 63 (by decide) (hG _ g_494) rfl rfl rfl rfl dX12_beginBlame_37 (ws' := [(ad0, ob 12 114 (vup (vup (vup (vup (vup (vup (vup (vup fn0 67 (.int 0)) 68 (.int (-1))) 69 (.int (-1))) 70 (.int (-1))) 71 (.int (-1))) 72 (.int 0)) 108 (.int 0)) 63 (.int 0)))]) rfl (fun H8 lo8 hP8 hD8 hS8 => ?_)
  clear hP7 hD7 hS7
  clear H7 lo7
  exact W.vret (pc := 40) hx hb hr (fun t ht hW => ⟨⟨(), rfl, trivial, _, rfl, by rw [ht]; exact hP8, hD8⟩, hS8.F ht⟩) hS8.2.2 dX12_beginBlame_40
set_option maxHeartbeats 4000000 in
set_option maxRecDepth 100000 in
/-- X12_unblamed -/
theorem m_unblamed0 (l : Launch) (D : va_G) (cy : Nat → ClassId) (kv : KV) (sz : Nat) (ad0 : Nat) (fn0 : Nat → Value) (h0_67 : fn0 67 = .int 0) : Met l yX12_unblamed (Cond.code yX12_unblamed cX12_unblamed 1 (some .boolean) :: GW) ({ frames := 8, cells := 0, slots := 0, locals := 120 } : Room) (va_Pc [.ref ad0] (pcq D cy kv sz [(ad0, ob 12 114 fn0)])) (va_Qi (fun r (_ : Unit) => r = 1) (fun _ t => bq D (fun w => w = [(ad0, ob 12 114 fn0)]) (va_A [(ad0, ob 12 114 fn0)] sz) t) (va_A [(ad0, ob 12 114 fn0)] sz)) 0 0 (va_A [(ad0, ob 12 114 fn0)] sz) := by
  refine Met.ofW (cc := cX12_unblamed) (maxL := 1) (ret := (some .boolean)) (by decide) rfl ?_
  intro p e s m args below meth c s₁ B hml hv
  obtain ⟨rfl, hsz, hP, hK, hD0, hE⟩ := hv
  have hx := B.exec
  have hb := B.bytes
  have hr := B.returns
  have hG : ∀ w ∈ GW, w.before ([.ref ad0] : List Value).toArray s = true := fun w h => atoms_spec (ws := Cond.code yX12_unblamed cX12_unblamed 1 (some .boolean) :: GW) B.pre w (List.mem_cons_of_mem _ h)
  have hown : s.vm.findClass RX12 = some m.cls := findClass_of_methodNamed B.named
  have hlocks := B.notSynchronized
  subst hsz
  have hD := hD0.self (sz := s.heap.size)
  generalize hAe : va_A [(ad0, ob 12 114 fn0)] s.heap.size = A at hD hE ⊢
  have hA : ∀ q : Nat, s.heap.size ≤ q → A q := fun q h => by rw [← hAe]; exact Or.inr h
  have hS : va_S A s.heap s.heap [] := va_S.rf
  clear hAe hD0
  have hl0 := lv_entry ([.ref ad0]) (n := 1) (Nat.le_of_ble_eq_true rfl)
  rw [lg_entry_eq]
  generalize (lg_sl ([.ref ad0]) ++ List.replicate (1 - (lg_sl ([.ref ad0])).length) Slot.unset).toArray = ls at hl0 ⊢
  have hl : lv_has ls 1 [(0, .ref ad0)] := hl0
  clear hl0
  refine lv_aload_n (pc := 0) hx hb dX12_unblamed_0 rfl (lv_at hl 0 rfl) ?_
  refine ob_get (pc := 1) (v := .int 0) (ci := 12) (C := RX12) (T := TX12) (N := 114) hx hb hG in_X12 hown hK hP 0 rfl rfl 67 (by decide) (hG _ g_491) rfl h0_67 dX12_unblamed_1 ?_
  refine lv_if_ne (pc := 4) (tgt := 11) hx hb dX12_unblamed_4 (by decide) (fun c1 => absurd (by decide) c1) (fun c1 => ?_)
  refine lv_iconst (pc := 7) (v := 1) hx hb dX12_unblamed_7 (by decide) ?_
  refine lv_goto (pc := 8) (tgt := 12) hx hb dX12_unblamed_8 (by decide) ?_
  exact W.zret (pc := 12) (v := 1) (ty := .boolean) hx hb hr rfl (fun t ht hW => ⟨⟨1, (), rfl, rfl, _, rfl, by rw [ht]; exact hP, hD⟩, hS.F ht⟩) hS.2.2 dX12_unblamed_12
set_option maxHeartbeats 4000000 in
set_option maxRecDepth 100000 in
/-- X12_unblamed -/
theorem m_unblamed4 (l : Launch) (D : va_G) (cy : Nat → ClassId) (kv : KV) (sz : Nat) (ad0 : Nat) (fn0 : Nat → Value) (h0_67 : fn0 67 = .int 4) : Met l yX12_unblamed (Cond.code yX12_unblamed cX12_unblamed 1 (some .boolean) :: GW) ({ frames := 8, cells := 0, slots := 0, locals := 120 } : Room) (va_Pc [.ref ad0] (pcq D cy kv sz [(ad0, ob 12 114 fn0)])) (va_Qi (fun r (_ : Unit) => r = 0) (fun _ t => bq D (fun w => w = [(ad0, ob 12 114 fn0)]) (va_A [(ad0, ob 12 114 fn0)] sz) t) (va_A [(ad0, ob 12 114 fn0)] sz)) 0 0 (va_A [(ad0, ob 12 114 fn0)] sz) := by
  refine Met.ofW (cc := cX12_unblamed) (maxL := 1) (ret := (some .boolean)) (by decide) rfl ?_
  intro p e s m args below meth c s₁ B hml hv
  obtain ⟨rfl, hsz, hP, hK, hD0, hE⟩ := hv
  have hx := B.exec
  have hb := B.bytes
  have hr := B.returns
  have hG : ∀ w ∈ GW, w.before ([.ref ad0] : List Value).toArray s = true := fun w h => atoms_spec (ws := Cond.code yX12_unblamed cX12_unblamed 1 (some .boolean) :: GW) B.pre w (List.mem_cons_of_mem _ h)
  have hown : s.vm.findClass RX12 = some m.cls := findClass_of_methodNamed B.named
  have hlocks := B.notSynchronized
  subst hsz
  have hD := hD0.self (sz := s.heap.size)
  generalize hAe : va_A [(ad0, ob 12 114 fn0)] s.heap.size = A at hD hE ⊢
  have hA : ∀ q : Nat, s.heap.size ≤ q → A q := fun q h => by rw [← hAe]; exact Or.inr h
  have hS : va_S A s.heap s.heap [] := va_S.rf
  clear hAe hD0
  have hl0 := lv_entry ([.ref ad0]) (n := 1) (Nat.le_of_ble_eq_true rfl)
  rw [lg_entry_eq]
  generalize (lg_sl ([.ref ad0]) ++ List.replicate (1 - (lg_sl ([.ref ad0])).length) Slot.unset).toArray = ls at hl0 ⊢
  have hl : lv_has ls 1 [(0, .ref ad0)] := hl0
  clear hl0
  refine lv_aload_n (pc := 0) hx hb dX12_unblamed_0 rfl (lv_at hl 0 rfl) ?_
  refine ob_get (pc := 1) (v := .int 4) (ci := 12) (C := RX12) (T := TX12) (N := 114) hx hb hG in_X12 hown hK hP 0 rfl rfl 67 (by decide) (hG _ g_491) rfl h0_67 dX12_unblamed_1 ?_
  refine lv_if_ne (pc := 4) (tgt := 11) hx hb dX12_unblamed_4 (by decide) (fun c1 => ?_) (fun c1 => absurd c1 (by decide))
  refine lv_iconst (pc := 11) (v := 0) hx hb dX12_unblamed_11 (by decide) ?_
  exact W.zret (pc := 12) (v := 0) (ty := .boolean) hx hb hr rfl (fun t ht hW => ⟨⟨0, (), rfl, rfl, _, rfl, by rw [ht]; exact hP, hD⟩, hS.F ht⟩) hS.2.2 dX12_unblamed_12
set_option maxHeartbeats 4000000 in
set_option maxRecDepth 100000 in
/-- X12_blames -/
theorem m_blames (l : Launch) (D : va_G) (cy : Nat → ClassId) (kv : KV) (sz : Nat) (ad0 : Nat) (fn0 : Nat → Value) (h0_67 : fn0 67 = .int 0) : Met l yX12_blames (Cond.code yX12_blames cX12_blames 5 none :: GW) ({ frames := 8, cells := 0, slots := 0, locals := 120 } : Room) (va_Pc [.ref ad0, .int 4, .int (-1), .int 0, .int (-1)] (pcq D cy kv sz [(ad0, ob 12 114 fn0)])) (va_Qv (fun (_ : Unit) => True) (fun _ t => bq D (fun w => w = [(ad0, ob 12 114 (vup (vup (vup (vup fn0 67 (.int 4)) 68 (.int (-1))) 69 (.int 0)) 70 (.int (-1))))]) (va_A [(ad0, ob 12 114 fn0)] sz) t) (va_A [(ad0, ob 12 114 fn0)] sz)) 0 0 (va_A [(ad0, ob 12 114 fn0)] sz) := by
  refine Met.ofW (cc := cX12_blames) (maxL := 5) (ret := none) (by decide) rfl ?_
  intro p e s m args below meth c s₁ B hml hv
  obtain ⟨rfl, hsz, hP, hK, hD0, hE⟩ := hv
  have hx := B.exec
  have hb := B.bytes
  have hr := B.returns
  have hG : ∀ w ∈ GW, w.before ([.ref ad0, .int 4, .int (-1), .int 0, .int (-1)] : List Value).toArray s = true := fun w h => atoms_spec (ws := Cond.code yX12_blames cX12_blames 5 none :: GW) B.pre w (List.mem_cons_of_mem _ h)
  have hown : s.vm.findClass RX12 = some m.cls := findClass_of_methodNamed B.named
  have hlocks := B.notSynchronized
  subst hsz
  have hD := hD0.self (sz := s.heap.size)
  generalize hAe : va_A [(ad0, ob 12 114 fn0)] s.heap.size = A at hD hE ⊢
  have hA : ∀ q : Nat, s.heap.size ≤ q → A q := fun q h => by rw [← hAe]; exact Or.inr h
  have hS : va_S A s.heap s.heap [] := va_S.rf
  clear hAe hD0
  have hl0 := lv_entry ([.ref ad0, .int 4, .int (-1), .int 0, .int (-1)]) (n := 5) (Nat.le_of_ble_eq_true rfl)
  rw [lg_entry_eq]
  generalize (lg_sl ([.ref ad0, .int 4, .int (-1), .int 0, .int (-1)]) ++ List.replicate (5 - (lg_sl ([.ref ad0, .int 4, .int (-1), .int 0, .int (-1)])).length) Slot.unset).toArray = ls at hl0 ⊢
  have hl : lv_has ls 5 [(0, .ref ad0), (1, .int 4), (2, .int (-1)), (3, .int 0), (4, .int (-1))] := hl0
  clear hl0
  refine lv_aload_n (pc := 0) hx hb dX12_blames_0 rfl (lv_at hl 0 rfl) ?_
  refine ob_get (pc := 1) (v := .int 0) (ci := 12) (C := RX12) (T := TX12) (N := 114) hx hb hG in_X12 hown hK hP 0 rfl rfl 67 (by decide) (hG _ g_491) rfl h0_67 dX12_blames_1 ?_
  refine lv_if_eq (pc := 4) (tgt := 8) hx hb dX12_blames_4 (by decide) (fun c1 => ?_) (fun c1 => absurd (by decide) c1)
  refine lv_aload_n (pc := 8) hx hb dX12_blames_8 rfl (lv_at hl 0 rfl) ?_
  refine lv_iload_n (pc := 9) hx hb dX12_blames_9 rfl (lv_at hl 1 rfl) ?_
  refine ob_put (pc := 10) (v := .int 4) (ci := 12) (C := RX12) (T := TX12) (N := 114) hx hb hG in_X12 tyX12 tyX12_ok nmX12 hown hK hP hD hS 0 rfl rfl 67 (by decide) (hG _ g_491) rfl rfl rfl rfl dX12_blames_10 (ws' := [(ad0, ob 12 114 (vup fn0 67 (.int 4)))]) rfl (fun H2 lo2 hP2 hD2 hS2 => ?_)
  clear hP hD hS
  refine lv_aload_n (pc := 13) hx hb dX12_blames_13 rfl (lv_at hl 0 rfl) ?_
  refine lv_iload_n (pc := 14) hx hb dX12_blames_14 rfl (lv_at hl 2 rfl) ?_
  refine ob_put (pc := 15) (v := .int (-1)) (ci := 12) (C := RX12) (T := TX12) (N := 114) hx hb hG in_X12 tyX12 tyX12_ok nmX12 hown hK hP2 hD2 hS2 0 rfl rfl 68 (by decide) (hG _ g_396) rfl rfl rfl rfl dX12_blames_15 (ws' := [(ad0, ob 12 114 (vup (vup fn0 67 (.int 4)) 68 (.int (-1))))]) rfl (fun H3 lo3 hP3 hD3 hS3 => ?_)
  clear hP2 hD2 hS2
  clear H2 lo2
  refine lv_aload_n (pc := 18) hx hb dX12_blames_18 rfl (lv_at hl 0 rfl) ?_
  refine lv_iload_n (pc := 19) hx hb dX12_blames_19 rfl (lv_at hl 3 rfl) ?_
  refine ob_put (pc := 20) (v := .int 0) (ci := 12) (C := RX12) (T := TX12) (N := 114) hx hb hG in_X12 tyX12 tyX12_ok nmX12 hown hK hP3 hD3 hS3 0 rfl rfl 69 (by decide) (hG _ g_397) rfl rfl rfl rfl dX12_blames_20 (ws' := [(ad0, ob 12 114 (vup (vup (vup fn0 67 (.int 4)) 68 (.int (-1))) 69 (.int 0)))]) rfl (fun H4 lo4 hP4 hD4 hS4 => ?_)
  clear hP3 hD3 hS3
  clear H3 lo3
  refine lv_aload_n (pc := 23) hx hb dX12_blames_23 rfl (lv_at hl 0 rfl) ?_
  refine lv_iload (pc := 24) hx hb dX12_blames_24 (lv_at hl 4 rfl) ?_
  refine ob_put (pc := 26) (v := .int (-1)) (ci := 12) (C := RX12) (T := TX12) (N := 114) hx hb hG in_X12 tyX12 tyX12_ok nmX12 hown hK hP4 hD4 hS4 0 rfl rfl 70 (by decide) (hG _ g_398) rfl rfl rfl rfl dX12_blames_26 (ws' := [(ad0, ob 12 114 (vup (vup (vup (vup fn0 67 (.int 4)) 68 (.int (-1))) 69 (.int 0)) 70 (.int (-1))))]) rfl (fun H5 lo5 hP5 hD5 hS5 => ?_)
  clear hP4 hD4 hS4
  clear H4 lo4
  exact W.vret (pc := 29) hx hb hr (fun t ht hW => ⟨⟨(), rfl, trivial, _, rfl, by rw [ht]; exact hP5, hD5⟩, hS5.F ht⟩) hS5.2.2 dX12_blames_29
set_option maxHeartbeats 4000000 in
set_option maxRecDepth 100000 in
/-- X12_cut -/
theorem m_cut (l : Launch) (D : va_G) (cy : Nat → ClassId) (kv : KV) (sz : Nat) (ad0 : Nat) (fn0 : Nat → Value) : Met l yX12_cut (Cond.code yX12_cut cX12_cut 9 (some .int) :: GW) ({ frames := 8, cells := 0, slots := 0, locals := 120 } : Room) (va_Pc [.ref ad0, .int 0] (pcq D cy kv sz [(ad0, ob 12 114 fn0)])) (va_Qi (fun r (_ : Unit) => r = 0) (fun _ t => bq D (fun w => w = [(ad0, ob 12 114 (vup (vup (vup (vup fn0 62 (.int 0)) 65 (.int 0)) 66 (.int 0)) 66 (.int 0)))]) (va_A [(ad0, ob 12 114 fn0)] sz) t) (va_A [(ad0, ob 12 114 fn0)] sz)) 0 0 (va_A [(ad0, ob 12 114 fn0)] sz) := by
  refine Met.ofW (cc := cX12_cut) (maxL := 9) (ret := (some .int)) (by decide) rfl ?_
  intro p e s m args below meth c s₁ B hml hv
  obtain ⟨rfl, hsz, hP, hK, hD0, hE⟩ := hv
  have hx := B.exec
  have hb := B.bytes
  have hr := B.returns
  have hG : ∀ w ∈ GW, w.before ([.ref ad0, .int 0] : List Value).toArray s = true := fun w h => atoms_spec (ws := Cond.code yX12_cut cX12_cut 9 (some .int) :: GW) B.pre w (List.mem_cons_of_mem _ h)
  have hown : s.vm.findClass RX12 = some m.cls := findClass_of_methodNamed B.named
  have hlocks := B.notSynchronized
  subst hsz
  have hD := hD0.self (sz := s.heap.size)
  generalize hAe : va_A [(ad0, ob 12 114 fn0)] s.heap.size = A at hD hE ⊢
  have hA : ∀ q : Nat, s.heap.size ≤ q → A q := fun q h => by rw [← hAe]; exact Or.inr h
  have hS : va_S A s.heap s.heap [] := va_S.rf
  clear hAe hD0
  have hl0 := lv_entry ([.ref ad0, .int 0]) (n := 9) (Nat.le_of_ble_eq_true rfl)
  rw [lg_entry_eq]
  generalize (lg_sl ([.ref ad0, .int 0]) ++ List.replicate (9 - (lg_sl ([.ref ad0, .int 0])).length) Slot.unset).toArray = ls at hl0 ⊢
  have hl : lv_has ls 9 [(0, .ref ad0), (1, .int 0)] := hl0
  clear hl0
  refine lv_aload_n (pc := 0) hx hb dX12_cut_0 rfl (lv_at hl 0 rfl) ?_
  refine lv_iconst (pc := 1) (v := 0) hx hb dX12_cut_1 (by decide) ?_
  refine ob_put (pc := 2) (v := .int 0) (ci := 12) (C := RX12) (T := TX12) (N := 114) hx hb hG in_X12 tyX12 tyX12_ok nmX12 hown hK hP hD hS 0 rfl rfl 62 (by decide) (hG _ g_498) rfl rfl rfl rfl dX12_cut_2 (ws' := [(ad0, ob 12 114 (vup fn0 62 (.int 0)))]) rfl (fun H1 lo1 hP1 hD1 hS1 => ?_)
  clear hP hD hS
  refine lv_aload_n (pc := 5) hx hb dX12_cut_5 rfl (lv_at hl 0 rfl) ?_
  refine lv_iconst (pc := 6) (v := 0) hx hb dX12_cut_6 (by decide) ?_
  refine ob_put (pc := 7) (v := .int 0) (ci := 12) (C := RX12) (T := TX12) (N := 114) hx hb hG in_X12 tyX12 tyX12_ok nmX12 hown hK hP1 hD1 hS1 0 rfl rfl 65 (by decide) (hG _ g_499) rfl rfl rfl rfl dX12_cut_7 (ws' := [(ad0, ob 12 114 (vup (vup fn0 62 (.int 0)) 65 (.int 0)))]) rfl (fun H2 lo2 hP2 hD2 hS2 => ?_)
  clear hP1 hD1 hS1
  clear H1 lo1
  refine lv_aload_n (pc := 10) hx hb dX12_cut_10 rfl (lv_at hl 0 rfl) ?_
  refine lv_iconst (pc := 11) (v := 0) hx hb dX12_cut_11 (by decide) ?_
  refine ob_put (pc := 12) (v := .int 0) (ci := 12) (C := RX12) (T := TX12) (N := 114) hx hb hG in_X12 tyX12 tyX12_ok nmX12 hown hK hP2 hD2 hS2 0 rfl rfl 66 (by decide) (hG _ g_500) rfl rfl rfl rfl dX12_cut_12 (ws' := [(ad0, ob 12 114 (vup (vup (vup fn0 62 (.int 0)) 65 (.int 0)) 66 (.int 0)))]) rfl (fun H3 lo3 hP3 hD3 hS3 => ?_)
  clear hP2 hD2 hS2
  clear H2 lo2
  refine lv_iconst (pc := 15) (v := 0) hx hb dX12_cut_15 (by decide) ?_
  refine lv_istore_n (pc := 16) (lv' := [(2, .int 0), (0, .ref ad0), (1, .int 0)]) hx hb dX12_cut_16 rfl hl (by decide) rfl (fun ls4 hl4 => ?_)
  clear hl ls
  refine lv_iload_n (pc := 17) hx hb dX12_cut_17 rfl (lv_at hl4 0 rfl) ?_
  refine lv_iload_n (pc := 18) hx hb dX12_cut_18 rfl (lv_at hl4 2 rfl) ?_
  refine lv_icmp_ge (pc := 19) (tgt := 50) hx hb dX12_cut_19 (by decide) (fun c5 => ?_) (fun c5 => absurd (by decide) c5)
  refine lv_aload_n (pc := 50) hx hb dX12_cut_50 rfl (lv_at hl4 1 rfl) ?_
  refine lv_iload_n (pc := 51) hx hb dX12_cut_51 rfl (lv_at hl4 0 rfl) ?_
  refine lv_iload_n (pc := 52) hx hb dX12_cut_52 rfl (lv_at hl4 2 rfl) ?_
  refine lv_icmp_ge (pc := 53) (tgt := 71) hx hb dX12_cut_53 (by decide) (fun c6 => ?_) (fun c6 => absurd (by decide) c6)
  refine lv_iconst (pc := 71) (v := 0) hx hb dX12_cut_71 (by decide) ?_
  refine ob_put (pc := 72) (v := .int 0) (ci := 12) (C := RX12) (T := TX12) (N := 114) hx hb hG in_X12 tyX12 tyX12_ok nmX12 hown hK hP3 hD3 hS3 0 rfl rfl 66 (by decide) (hG _ g_500) rfl rfl rfl rfl dX12_cut_72 (ws' := [(ad0, ob 12 114 (vup (vup (vup (vup fn0 62 (.int 0)) 65 (.int 0)) 66 (.int 0)) 66 (.int 0)))]) rfl (fun H7 lo7 hP7 hD7 hS7 => ?_)
  clear hP3 hD3 hS3
  clear H3 lo3
  refine lv_iload_n (pc := 75) hx hb dX12_cut_75 rfl (lv_at hl4 0 rfl) ?_
  refine lv_iload_n (pc := 76) hx hb dX12_cut_76 rfl (lv_at hl4 2 rfl) ?_
  refine lv_icmp_ge (pc := 77) (tgt := 87) hx hb dX12_cut_77 (by decide) (fun c8 => ?_) (fun c8 => absurd (by decide) c8)
  refine lv_iconst (pc := 87) (v := 0) hx hb dX12_cut_87 (by decide) ?_
  exact W.iret (pc := 88) (v := 0) hx hb hr (fun t ht hW => ⟨⟨0, (), rfl, rfl, _, rfl, by rw [ht]; exact hP7, hD7⟩, hS7.F ht⟩) hS7.2.2 dX12_cut_88
set_option maxHeartbeats 4000000 in
set_option maxRecDepth 100000 in
/-- X12_showWords -/
theorem m_showWords (l : Launch) (D : va_G) (cy : Nat → ClassId) (kv : KV) (sz : Nat) (ad0 : Nat) (fn0 : Nat → Value) (h0_62 : fn0 62 = .int 0) : Met l yX12_showWords (Cond.code yX12_showWords cX12_showWords 3 none :: GW) ({ frames := 8, cells := 0, slots := 0, locals := 120 } : Room) (va_Pc [.ref ad0] (pcq D cy kv sz [(ad0, ob 12 114 fn0)])) (va_Qv (fun (_ : Unit) => True) (fun _ t => bq D (fun w => w = [(ad0, ob 12 114 (vup (vup fn0 63 (.int 0)) 72 (.int 0)))]) (va_A [(ad0, ob 12 114 fn0)] sz) t) (va_A [(ad0, ob 12 114 fn0)] sz)) 0 0 (va_A [(ad0, ob 12 114 fn0)] sz) := by
  refine Met.ofW (cc := cX12_showWords) (maxL := 3) (ret := none) (by decide) rfl ?_
  intro p e s m args below meth c s₁ B hml hv
  obtain ⟨rfl, hsz, hP, hK, hD0, hE⟩ := hv
  have hx := B.exec
  have hb := B.bytes
  have hr := B.returns
  have hG : ∀ w ∈ GW, w.before ([.ref ad0] : List Value).toArray s = true := fun w h => atoms_spec (ws := Cond.code yX12_showWords cX12_showWords 3 none :: GW) B.pre w (List.mem_cons_of_mem _ h)
  have hown : s.vm.findClass RX12 = some m.cls := findClass_of_methodNamed B.named
  have hlocks := B.notSynchronized
  subst hsz
  have hD := hD0.self (sz := s.heap.size)
  generalize hAe : va_A [(ad0, ob 12 114 fn0)] s.heap.size = A at hD hE ⊢
  have hA : ∀ q : Nat, s.heap.size ≤ q → A q := fun q h => by rw [← hAe]; exact Or.inr h
  have hS : va_S A s.heap s.heap [] := va_S.rf
  clear hAe hD0
  have hl0 := lv_entry ([.ref ad0]) (n := 3) (Nat.le_of_ble_eq_true rfl)
  rw [lg_entry_eq]
  generalize (lg_sl ([.ref ad0]) ++ List.replicate (3 - (lg_sl ([.ref ad0])).length) Slot.unset).toArray = ls at hl0 ⊢
  have hl : lv_has ls 3 [(0, .ref ad0)] := hl0
  clear hl0
  refine lv_aload_n (pc := 0) hx hb dX12_showWords_0 rfl (lv_at hl 0 rfl) ?_
  refine lv_aload_n (pc := 1) hx hb dX12_showWords_1 rfl (lv_at hl 0 rfl) ?_
  refine ob_get (pc := 2) (v := .int 0) (ci := 12) (C := RX12) (T := TX12) (N := 114) hx hb hG in_X12 hown hK hP 0 rfl rfl 62 (by decide) (hG _ g_498) rfl h0_62 dX12_showWords_2 ?_
  refine ob_put (pc := 5) (v := .int 0) (ci := 12) (C := RX12) (T := TX12) (N := 114) hx hb hG in_X12 tyX12 tyX12_ok nmX12 hown hK hP hD hS 0 rfl rfl 63 (by decide) (hG _ g_494) rfl rfl rfl rfl dX12_showWords_5 (ws' := [(ad0, ob 12 114 (vup fn0 63 (.int 0)))]) rfl (fun H1 lo1 hP1 hD1 hS1 => ?_)
  clear hP hD hS
  refine lv_aload_n (pc := 8) hx hb dX12_showWords_8 rfl (lv_at hl 0 rfl) ?_
  refine lv_aload_n (pc := 9) hx hb dX12_showWords_9 rfl (lv_at hl 0 rfl) ?_
  refine ob_get (pc := 10) (v := .int 0) (ci := 12) (C := RX12) (T := TX12) (N := 114) hx hb hG in_X12 hown hK hP1 0 rfl rfl 62 (by decide) (hG _ g_498) rfl h0_62 dX12_showWords_10 ?_
  refine ob_put (pc := 13) (v := .int 0) (ci := 12) (C := RX12) (T := TX12) (N := 114) hx hb hG in_X12 tyX12 tyX12_ok nmX12 hown hK hP1 hD1 hS1 0 rfl rfl 72 (by decide) (hG _ g_492) rfl rfl rfl rfl dX12_showWords_13 (ws' := [(ad0, ob 12 114 (vup (vup fn0 63 (.int 0)) 72 (.int 0)))]) rfl (fun H2 lo2 hP2 hD2 hS2 => ?_)
  clear hP1 hD1 hS1
  clear H1 lo1
  refine lv_iconst (pc := 16) (v := 0) hx hb dX12_showWords_16 (by decide) ?_
  refine lv_istore_n (pc := 17) (lv' := [(1, .int 0), (0, .ref ad0)]) hx hb dX12_showWords_17 rfl hl (by decide) rfl (fun ls3 hl3 => ?_)
  clear hl ls
  refine lv_iload_n (pc := 18) hx hb dX12_showWords_18 rfl (lv_at hl3 0 rfl) ?_
  refine lv_aload_n (pc := 19) hx hb dX12_showWords_19 rfl (lv_at hl3 1 rfl) ?_
  refine ob_get (pc := 20) (v := .int 0) (ci := 12) (C := RX12) (T := TX12) (N := 114) hx hb hG in_X12 hown hK hP2 0 rfl rfl 62 (by decide) (hG _ g_498) rfl h0_62 dX12_showWords_20 ?_
  refine lv_icmp_ge (pc := 23) (tgt := 84) hx hb dX12_showWords_23 (by decide) (fun c4 => ?_) (fun c4 => absurd (by decide) c4)
  exact W.vret (pc := 84) hx hb hr (fun t ht hW => ⟨⟨(), rfl, trivial, _, rfl, by rw [ht]; exact hP2, hD2⟩, hS2.F ht⟩) hS2.2.2 dX12_showWords_84
set_option maxHeartbeats 4000000 in
set_option maxRecDepth 100000 in
/-- X12_putAliases -/
theorem m_putAliases (l : Launch) (D : va_G) (cy : Nat → ClassId) (kv : KV) (sz : Nat) (ad0 : Nat) (fn0 : Nat → Value) (ad1 : Nat) (ad2 : Nat) (ct1 : Nat → Int32) (ct2 : Nat → Int32) (h0_56 : fn0 56 = .ref ad1) (h0_62 : fn0 62 = .int 0) (h0_67 : fn0 67 = .int 0) (h0_73 : fn0 73 = .ref ad2) (k1_0 : ct1 0 = 0) (k1_1 : ct1 1 = 0) (k1_2 : ct1 2 = 0) : Met l yX12_putAliases (Cond.code yX12_putAliases cX12_putAliases 5 none :: GW) ({ frames := 9, cells := 0, slots := 0, locals := 160 } : Room) (va_Pc [.ref ad0] (pcq D cy kv sz [(ad0, ob 12 114 fn0), (ad1, ari (cy 0) 3 ct1), (ad2, ari (cy 3) 20 ct2)])) (va_Qv (fun (_ : Unit) => True) (fun _ t => bq D (fun w => ∃ (nc900 : Nat → Int32), w = [(ad1, ari (cy 0) 3 ct1), (ad2, ari (cy 3) 20 nc900), (ad0, ob 12 114 fn0)]) (va_A [(ad0, ob 12 114 fn0), (ad1, ari (cy 0) 3 ct1), (ad2, ari (cy 3) 20 ct2)] sz) t) (va_A [(ad0, ob 12 114 fn0), (ad1, ari (cy 0) 3 ct1), (ad2, ari (cy 3) 20 ct2)] sz)) 0 0 (va_A [(ad0, ob 12 114 fn0), (ad1, ari (cy 0) 3 ct1), (ad2, ari (cy 3) 20 ct2)] sz) := by
  refine Met.ofW (cc := cX12_putAliases) (maxL := 5) (ret := none) (by decide) rfl ?_
  intro p e s m args below meth c s₁ B hml hv
  obtain ⟨rfl, hsz, hP, hK, hD0, hE⟩ := hv
  have hx := B.exec
  have hb := B.bytes
  have hr := B.returns
  have hG : ∀ w ∈ GW, w.before ([.ref ad0] : List Value).toArray s = true := fun w h => atoms_spec (ws := Cond.code yX12_putAliases cX12_putAliases 5 none :: GW) B.pre w (List.mem_cons_of_mem _ h)
  have hown : s.vm.findClass RX12 = some m.cls := findClass_of_methodNamed B.named
  have hlocks := B.notSynchronized
  subst hsz
  have hD := hD0.self (sz := s.heap.size)
  generalize hAe : va_A [(ad0, ob 12 114 fn0), (ad1, ari (cy 0) 3 ct1), (ad2, ari (cy 3) 20 ct2)] s.heap.size = A at hD hE ⊢
  have hA : ∀ q : Nat, s.heap.size ≤ q → A q := fun q h => by rw [← hAe]; exact Or.inr h
  have hS : va_S A s.heap s.heap [] := va_S.rf
  clear hAe hD0
  have hl0 := lv_entry ([.ref ad0]) (n := 5) (Nat.le_of_ble_eq_true rfl)
  rw [lg_entry_eq]
  generalize (lg_sl ([.ref ad0]) ++ List.replicate (5 - (lg_sl ([.ref ad0])).length) Slot.unset).toArray = ls at hl0 ⊢
  have hl : lv_has ls 5 [(0, .ref ad0)] := hl0
  clear hl0
  refine lv_iconst (pc := 0) (v := 0) hx hb dX12_putAliases_0 (by decide) ?_
  refine lv_istore_n (pc := 1) (lv' := [(1, .int 0), (0, .ref ad0)]) hx hb dX12_putAliases_1 rfl hl (by decide) rfl (fun ls1 hl1 => ?_)
  clear hl ls
  refine lv_iload_n (pc := 2) hx hb dX12_putAliases_2 rfl (lv_at hl1 0 rfl) ?_
  refine lv_bipush (pc := 3) (v := 20) hx hb dX12_putAliases_3 (by decide) ?_
  refine lv_icmp_ge (pc := 5) (tgt := 21) hx hb dX12_putAliases_5 (by decide) (fun c2 => absurd c2 (by decide)) (fun c2 => ?_)
  refine lv_aload_n (pc := 8) hx hb dX12_putAliases_8 rfl (lv_at hl1 1 rfl) ?_
  refine ob_get (pc := 9) (v := .ref ad2) (ci := 12) (C := RX12) (T := TX12) (N := 114) hx hb hG in_X12 hown hK hP 0 rfl rfl 73 (by decide) (hG _ g_400) rfl h0_73 dX12_putAliases_9 ?_
  refine lv_iload_n (pc := 12) hx hb dX12_putAliases_12 rfl (lv_at hl1 0 rfl) ?_
  refine lv_iconst (pc := 13) (v := 0) hx hb dX12_putAliases_13 (by decide) ?_
  refine va_zast (pc := 14) hx hb hK hP hD hS 2 3 rfl rfl (show ¬ ((0 : Int32) < 0 ∨ 20 ≤ (0 : Int32).toNatClampNeg) by decide) dX12_putAliases_14 (fun H3 lo3 hP3r hD3r hS3 => ?_)
  have hP3 : va_P D classes [(ad0, ob 12 114 fn0), (ad1, ari (cy 0) 3 ct1), (ad2, ari (cy 3) 20 (upd ct2 (0 : Int32).toNatClampNeg (vp_nar .boolean 0)))] H3 := hP3r
  have hD3 : va_D A [(ad0, ob 12 114 fn0), (ad1, ari (cy 0) 3 ct1), (ad2, ari (cy 3) 20 (upd ct2 (0 : Int32).toNatClampNeg (vp_nar .boolean 0)))] := hD3r
  clear hP3r hD3r
  generalize (upd ct2 (0 : Int32).toNatClampNeg (vp_nar .boolean 0)) = nc4 at hP3 hD3
  clear hP hD hS
  refine lv_iinc (pc := 15) (v := 1) (lv' := [(1, .int 1), (0, .ref ad0)]) hx hb dX12_putAliases_15 hl1 (k := 0) rfl (by decide) (by decide) rfl (fun ls5 hl5 => ?_)
  clear hl1 ls1
  refine lv_goto (pc := 18) (tgt := 2) hx hb dX12_putAliases_18 (by decide) ?_
  refine lv_iload_n (pc := 2) hx hb dX12_putAliases_2 rfl (lv_at hl5 0 rfl) ?_
  refine lv_bipush (pc := 3) (v := 20) hx hb dX12_putAliases_3 (by decide) ?_
  refine lv_icmp_ge (pc := 5) (tgt := 21) hx hb dX12_putAliases_5 (by decide) (fun c6 => absurd c6 (by decide)) (fun c6 => ?_)
  refine lv_aload_n (pc := 8) hx hb dX12_putAliases_8 rfl (lv_at hl5 1 rfl) ?_
  refine ob_get (pc := 9) (v := .ref ad2) (ci := 12) (C := RX12) (T := TX12) (N := 114) hx hb hG in_X12 hown hK hP3 0 rfl rfl 73 (by decide) (hG _ g_400) rfl h0_73 dX12_putAliases_9 ?_
  refine lv_iload_n (pc := 12) hx hb dX12_putAliases_12 rfl (lv_at hl5 0 rfl) ?_
  refine lv_iconst (pc := 13) (v := 0) hx hb dX12_putAliases_13 (by decide) ?_
  refine va_zast (pc := 14) hx hb hK hP3 hD3 hS3 2 3 rfl rfl (show ¬ ((1 : Int32) < 0 ∨ 20 ≤ (1 : Int32).toNatClampNeg) by decide) dX12_putAliases_14 (fun H7 lo7 hP7r hD7r hS7 => ?_)
  have hP7 : va_P D classes [(ad0, ob 12 114 fn0), (ad1, ari (cy 0) 3 ct1), (ad2, ari (cy 3) 20 (upd nc4 (1 : Int32).toNatClampNeg (vp_nar .boolean 0)))] H7 := hP7r
  have hD7 : va_D A [(ad0, ob 12 114 fn0), (ad1, ari (cy 0) 3 ct1), (ad2, ari (cy 3) 20 (upd nc4 (1 : Int32).toNatClampNeg (vp_nar .boolean 0)))] := hD7r
  clear hP7r hD7r
  generalize (upd nc4 (1 : Int32).toNatClampNeg (vp_nar .boolean 0)) = nc8 at hP7 hD7
  clear hP3 hD3 hS3
  clear H3 lo3
  refine lv_iinc (pc := 15) (v := 2) (lv' := [(1, .int 2), (0, .ref ad0)]) hx hb dX12_putAliases_15 hl5 (k := 0) rfl (by decide) (by decide) rfl (fun ls9 hl9 => ?_)
  clear hl5 ls5
  refine lv_goto (pc := 18) (tgt := 2) hx hb dX12_putAliases_18 (by decide) ?_
  refine lv_iload_n (pc := 2) hx hb dX12_putAliases_2 rfl (lv_at hl9 0 rfl) ?_
  refine lv_bipush (pc := 3) (v := 20) hx hb dX12_putAliases_3 (by decide) ?_
  refine lv_icmp_ge (pc := 5) (tgt := 21) hx hb dX12_putAliases_5 (by decide) (fun c10 => absurd c10 (by decide)) (fun c10 => ?_)
  refine lv_aload_n (pc := 8) hx hb dX12_putAliases_8 rfl (lv_at hl9 1 rfl) ?_
  refine ob_get (pc := 9) (v := .ref ad2) (ci := 12) (C := RX12) (T := TX12) (N := 114) hx hb hG in_X12 hown hK hP7 0 rfl rfl 73 (by decide) (hG _ g_400) rfl h0_73 dX12_putAliases_9 ?_
  refine lv_iload_n (pc := 12) hx hb dX12_putAliases_12 rfl (lv_at hl9 0 rfl) ?_
  refine lv_iconst (pc := 13) (v := 0) hx hb dX12_putAliases_13 (by decide) ?_
  refine va_zast (pc := 14) hx hb hK hP7 hD7 hS7 2 3 rfl rfl (show ¬ ((2 : Int32) < 0 ∨ 20 ≤ (2 : Int32).toNatClampNeg) by decide) dX12_putAliases_14 (fun H11 lo11 hP11r hD11r hS11 => ?_)
  have hP11 : va_P D classes [(ad0, ob 12 114 fn0), (ad1, ari (cy 0) 3 ct1), (ad2, ari (cy 3) 20 (upd nc8 (2 : Int32).toNatClampNeg (vp_nar .boolean 0)))] H11 := hP11r
  have hD11 : va_D A [(ad0, ob 12 114 fn0), (ad1, ari (cy 0) 3 ct1), (ad2, ari (cy 3) 20 (upd nc8 (2 : Int32).toNatClampNeg (vp_nar .boolean 0)))] := hD11r
  clear hP11r hD11r
  generalize (upd nc8 (2 : Int32).toNatClampNeg (vp_nar .boolean 0)) = nc12 at hP11 hD11
  clear hP7 hD7 hS7
  clear H7 lo7
  refine lv_iinc (pc := 15) (v := 3) (lv' := [(1, .int 3), (0, .ref ad0)]) hx hb dX12_putAliases_15 hl9 (k := 0) rfl (by decide) (by decide) rfl (fun ls13 hl13 => ?_)
  clear hl9 ls9
  refine lv_goto (pc := 18) (tgt := 2) hx hb dX12_putAliases_18 (by decide) ?_
  refine lv_iload_n (pc := 2) hx hb dX12_putAliases_2 rfl (lv_at hl13 0 rfl) ?_
  refine lv_bipush (pc := 3) (v := 20) hx hb dX12_putAliases_3 (by decide) ?_
  refine lv_icmp_ge (pc := 5) (tgt := 21) hx hb dX12_putAliases_5 (by decide) (fun c14 => absurd c14 (by decide)) (fun c14 => ?_)
  refine lv_aload_n (pc := 8) hx hb dX12_putAliases_8 rfl (lv_at hl13 1 rfl) ?_
  refine ob_get (pc := 9) (v := .ref ad2) (ci := 12) (C := RX12) (T := TX12) (N := 114) hx hb hG in_X12 hown hK hP11 0 rfl rfl 73 (by decide) (hG _ g_400) rfl h0_73 dX12_putAliases_9 ?_
  refine lv_iload_n (pc := 12) hx hb dX12_putAliases_12 rfl (lv_at hl13 0 rfl) ?_
  refine lv_iconst (pc := 13) (v := 0) hx hb dX12_putAliases_13 (by decide) ?_
  refine va_zast (pc := 14) hx hb hK hP11 hD11 hS11 2 3 rfl rfl (show ¬ ((3 : Int32) < 0 ∨ 20 ≤ (3 : Int32).toNatClampNeg) by decide) dX12_putAliases_14 (fun H15 lo15 hP15r hD15r hS15 => ?_)
  have hP15 : va_P D classes [(ad0, ob 12 114 fn0), (ad1, ari (cy 0) 3 ct1), (ad2, ari (cy 3) 20 (upd nc12 (3 : Int32).toNatClampNeg (vp_nar .boolean 0)))] H15 := hP15r
  have hD15 : va_D A [(ad0, ob 12 114 fn0), (ad1, ari (cy 0) 3 ct1), (ad2, ari (cy 3) 20 (upd nc12 (3 : Int32).toNatClampNeg (vp_nar .boolean 0)))] := hD15r
  clear hP15r hD15r
  generalize (upd nc12 (3 : Int32).toNatClampNeg (vp_nar .boolean 0)) = nc16 at hP15 hD15
  clear hP11 hD11 hS11
  clear H11 lo11
  refine lv_iinc (pc := 15) (v := 4) (lv' := [(1, .int 4), (0, .ref ad0)]) hx hb dX12_putAliases_15 hl13 (k := 0) rfl (by decide) (by decide) rfl (fun ls17 hl17 => ?_)
  clear hl13 ls13
  refine lv_goto (pc := 18) (tgt := 2) hx hb dX12_putAliases_18 (by decide) ?_
  refine lv_iload_n (pc := 2) hx hb dX12_putAliases_2 rfl (lv_at hl17 0 rfl) ?_
  refine lv_bipush (pc := 3) (v := 20) hx hb dX12_putAliases_3 (by decide) ?_
  refine lv_icmp_ge (pc := 5) (tgt := 21) hx hb dX12_putAliases_5 (by decide) (fun c18 => absurd c18 (by decide)) (fun c18 => ?_)
  refine lv_aload_n (pc := 8) hx hb dX12_putAliases_8 rfl (lv_at hl17 1 rfl) ?_
  refine ob_get (pc := 9) (v := .ref ad2) (ci := 12) (C := RX12) (T := TX12) (N := 114) hx hb hG in_X12 hown hK hP15 0 rfl rfl 73 (by decide) (hG _ g_400) rfl h0_73 dX12_putAliases_9 ?_
  refine lv_iload_n (pc := 12) hx hb dX12_putAliases_12 rfl (lv_at hl17 0 rfl) ?_
  refine lv_iconst (pc := 13) (v := 0) hx hb dX12_putAliases_13 (by decide) ?_
  refine va_zast (pc := 14) hx hb hK hP15 hD15 hS15 2 3 rfl rfl (show ¬ ((4 : Int32) < 0 ∨ 20 ≤ (4 : Int32).toNatClampNeg) by decide) dX12_putAliases_14 (fun H19 lo19 hP19r hD19r hS19 => ?_)
  have hP19 : va_P D classes [(ad0, ob 12 114 fn0), (ad1, ari (cy 0) 3 ct1), (ad2, ari (cy 3) 20 (upd nc16 (4 : Int32).toNatClampNeg (vp_nar .boolean 0)))] H19 := hP19r
  have hD19 : va_D A [(ad0, ob 12 114 fn0), (ad1, ari (cy 0) 3 ct1), (ad2, ari (cy 3) 20 (upd nc16 (4 : Int32).toNatClampNeg (vp_nar .boolean 0)))] := hD19r
  clear hP19r hD19r
  generalize (upd nc16 (4 : Int32).toNatClampNeg (vp_nar .boolean 0)) = nc20 at hP19 hD19
  clear hP15 hD15 hS15
  clear H15 lo15
  refine lv_iinc (pc := 15) (v := 5) (lv' := [(1, .int 5), (0, .ref ad0)]) hx hb dX12_putAliases_15 hl17 (k := 0) rfl (by decide) (by decide) rfl (fun ls21 hl21 => ?_)
  clear hl17 ls17
  refine lv_goto (pc := 18) (tgt := 2) hx hb dX12_putAliases_18 (by decide) ?_
  refine lv_iload_n (pc := 2) hx hb dX12_putAliases_2 rfl (lv_at hl21 0 rfl) ?_
  refine lv_bipush (pc := 3) (v := 20) hx hb dX12_putAliases_3 (by decide) ?_
  refine lv_icmp_ge (pc := 5) (tgt := 21) hx hb dX12_putAliases_5 (by decide) (fun c22 => absurd c22 (by decide)) (fun c22 => ?_)
  refine lv_aload_n (pc := 8) hx hb dX12_putAliases_8 rfl (lv_at hl21 1 rfl) ?_
  refine ob_get (pc := 9) (v := .ref ad2) (ci := 12) (C := RX12) (T := TX12) (N := 114) hx hb hG in_X12 hown hK hP19 0 rfl rfl 73 (by decide) (hG _ g_400) rfl h0_73 dX12_putAliases_9 ?_
  refine lv_iload_n (pc := 12) hx hb dX12_putAliases_12 rfl (lv_at hl21 0 rfl) ?_
  refine lv_iconst (pc := 13) (v := 0) hx hb dX12_putAliases_13 (by decide) ?_
  refine va_zast (pc := 14) hx hb hK hP19 hD19 hS19 2 3 rfl rfl (show ¬ ((5 : Int32) < 0 ∨ 20 ≤ (5 : Int32).toNatClampNeg) by decide) dX12_putAliases_14 (fun H23 lo23 hP23r hD23r hS23 => ?_)
  have hP23 : va_P D classes [(ad0, ob 12 114 fn0), (ad1, ari (cy 0) 3 ct1), (ad2, ari (cy 3) 20 (upd nc20 (5 : Int32).toNatClampNeg (vp_nar .boolean 0)))] H23 := hP23r
  have hD23 : va_D A [(ad0, ob 12 114 fn0), (ad1, ari (cy 0) 3 ct1), (ad2, ari (cy 3) 20 (upd nc20 (5 : Int32).toNatClampNeg (vp_nar .boolean 0)))] := hD23r
  clear hP23r hD23r
  generalize (upd nc20 (5 : Int32).toNatClampNeg (vp_nar .boolean 0)) = nc24 at hP23 hD23
  clear hP19 hD19 hS19
  clear H19 lo19
  refine lv_iinc (pc := 15) (v := 6) (lv' := [(1, .int 6), (0, .ref ad0)]) hx hb dX12_putAliases_15 hl21 (k := 0) rfl (by decide) (by decide) rfl (fun ls25 hl25 => ?_)
  clear hl21 ls21
  refine lv_goto (pc := 18) (tgt := 2) hx hb dX12_putAliases_18 (by decide) ?_
  refine lv_iload_n (pc := 2) hx hb dX12_putAliases_2 rfl (lv_at hl25 0 rfl) ?_
  refine lv_bipush (pc := 3) (v := 20) hx hb dX12_putAliases_3 (by decide) ?_
  refine lv_icmp_ge (pc := 5) (tgt := 21) hx hb dX12_putAliases_5 (by decide) (fun c26 => absurd c26 (by decide)) (fun c26 => ?_)
  refine lv_aload_n (pc := 8) hx hb dX12_putAliases_8 rfl (lv_at hl25 1 rfl) ?_
  refine ob_get (pc := 9) (v := .ref ad2) (ci := 12) (C := RX12) (T := TX12) (N := 114) hx hb hG in_X12 hown hK hP23 0 rfl rfl 73 (by decide) (hG _ g_400) rfl h0_73 dX12_putAliases_9 ?_
  refine lv_iload_n (pc := 12) hx hb dX12_putAliases_12 rfl (lv_at hl25 0 rfl) ?_
  refine lv_iconst (pc := 13) (v := 0) hx hb dX12_putAliases_13 (by decide) ?_
  refine va_zast (pc := 14) hx hb hK hP23 hD23 hS23 2 3 rfl rfl (show ¬ ((6 : Int32) < 0 ∨ 20 ≤ (6 : Int32).toNatClampNeg) by decide) dX12_putAliases_14 (fun H27 lo27 hP27r hD27r hS27 => ?_)
  have hP27 : va_P D classes [(ad0, ob 12 114 fn0), (ad1, ari (cy 0) 3 ct1), (ad2, ari (cy 3) 20 (upd nc24 (6 : Int32).toNatClampNeg (vp_nar .boolean 0)))] H27 := hP27r
  have hD27 : va_D A [(ad0, ob 12 114 fn0), (ad1, ari (cy 0) 3 ct1), (ad2, ari (cy 3) 20 (upd nc24 (6 : Int32).toNatClampNeg (vp_nar .boolean 0)))] := hD27r
  clear hP27r hD27r
  generalize (upd nc24 (6 : Int32).toNatClampNeg (vp_nar .boolean 0)) = nc28 at hP27 hD27
  clear hP23 hD23 hS23
  clear H23 lo23
  refine lv_iinc (pc := 15) (v := 7) (lv' := [(1, .int 7), (0, .ref ad0)]) hx hb dX12_putAliases_15 hl25 (k := 0) rfl (by decide) (by decide) rfl (fun ls29 hl29 => ?_)
  clear hl25 ls25
  refine lv_goto (pc := 18) (tgt := 2) hx hb dX12_putAliases_18 (by decide) ?_
  refine lv_iload_n (pc := 2) hx hb dX12_putAliases_2 rfl (lv_at hl29 0 rfl) ?_
  refine lv_bipush (pc := 3) (v := 20) hx hb dX12_putAliases_3 (by decide) ?_
  refine lv_icmp_ge (pc := 5) (tgt := 21) hx hb dX12_putAliases_5 (by decide) (fun c30 => absurd c30 (by decide)) (fun c30 => ?_)
  refine lv_aload_n (pc := 8) hx hb dX12_putAliases_8 rfl (lv_at hl29 1 rfl) ?_
  refine ob_get (pc := 9) (v := .ref ad2) (ci := 12) (C := RX12) (T := TX12) (N := 114) hx hb hG in_X12 hown hK hP27 0 rfl rfl 73 (by decide) (hG _ g_400) rfl h0_73 dX12_putAliases_9 ?_
  refine lv_iload_n (pc := 12) hx hb dX12_putAliases_12 rfl (lv_at hl29 0 rfl) ?_
  refine lv_iconst (pc := 13) (v := 0) hx hb dX12_putAliases_13 (by decide) ?_
  refine va_zast (pc := 14) hx hb hK hP27 hD27 hS27 2 3 rfl rfl (show ¬ ((7 : Int32) < 0 ∨ 20 ≤ (7 : Int32).toNatClampNeg) by decide) dX12_putAliases_14 (fun H31 lo31 hP31r hD31r hS31 => ?_)
  have hP31 : va_P D classes [(ad0, ob 12 114 fn0), (ad1, ari (cy 0) 3 ct1), (ad2, ari (cy 3) 20 (upd nc28 (7 : Int32).toNatClampNeg (vp_nar .boolean 0)))] H31 := hP31r
  have hD31 : va_D A [(ad0, ob 12 114 fn0), (ad1, ari (cy 0) 3 ct1), (ad2, ari (cy 3) 20 (upd nc28 (7 : Int32).toNatClampNeg (vp_nar .boolean 0)))] := hD31r
  clear hP31r hD31r
  generalize (upd nc28 (7 : Int32).toNatClampNeg (vp_nar .boolean 0)) = nc32 at hP31 hD31
  clear hP27 hD27 hS27
  clear H27 lo27
  refine lv_iinc (pc := 15) (v := 8) (lv' := [(1, .int 8), (0, .ref ad0)]) hx hb dX12_putAliases_15 hl29 (k := 0) rfl (by decide) (by decide) rfl (fun ls33 hl33 => ?_)
  clear hl29 ls29
  refine lv_goto (pc := 18) (tgt := 2) hx hb dX12_putAliases_18 (by decide) ?_
  refine lv_iload_n (pc := 2) hx hb dX12_putAliases_2 rfl (lv_at hl33 0 rfl) ?_
  refine lv_bipush (pc := 3) (v := 20) hx hb dX12_putAliases_3 (by decide) ?_
  refine lv_icmp_ge (pc := 5) (tgt := 21) hx hb dX12_putAliases_5 (by decide) (fun c34 => absurd c34 (by decide)) (fun c34 => ?_)
  refine lv_aload_n (pc := 8) hx hb dX12_putAliases_8 rfl (lv_at hl33 1 rfl) ?_
  refine ob_get (pc := 9) (v := .ref ad2) (ci := 12) (C := RX12) (T := TX12) (N := 114) hx hb hG in_X12 hown hK hP31 0 rfl rfl 73 (by decide) (hG _ g_400) rfl h0_73 dX12_putAliases_9 ?_
  refine lv_iload_n (pc := 12) hx hb dX12_putAliases_12 rfl (lv_at hl33 0 rfl) ?_
  refine lv_iconst (pc := 13) (v := 0) hx hb dX12_putAliases_13 (by decide) ?_
  refine va_zast (pc := 14) hx hb hK hP31 hD31 hS31 2 3 rfl rfl (show ¬ ((8 : Int32) < 0 ∨ 20 ≤ (8 : Int32).toNatClampNeg) by decide) dX12_putAliases_14 (fun H35 lo35 hP35r hD35r hS35 => ?_)
  have hP35 : va_P D classes [(ad0, ob 12 114 fn0), (ad1, ari (cy 0) 3 ct1), (ad2, ari (cy 3) 20 (upd nc32 (8 : Int32).toNatClampNeg (vp_nar .boolean 0)))] H35 := hP35r
  have hD35 : va_D A [(ad0, ob 12 114 fn0), (ad1, ari (cy 0) 3 ct1), (ad2, ari (cy 3) 20 (upd nc32 (8 : Int32).toNatClampNeg (vp_nar .boolean 0)))] := hD35r
  clear hP35r hD35r
  generalize (upd nc32 (8 : Int32).toNatClampNeg (vp_nar .boolean 0)) = nc36 at hP35 hD35
  clear hP31 hD31 hS31
  clear H31 lo31
  refine lv_iinc (pc := 15) (v := 9) (lv' := [(1, .int 9), (0, .ref ad0)]) hx hb dX12_putAliases_15 hl33 (k := 0) rfl (by decide) (by decide) rfl (fun ls37 hl37 => ?_)
  clear hl33 ls33
  refine lv_goto (pc := 18) (tgt := 2) hx hb dX12_putAliases_18 (by decide) ?_
  refine lv_iload_n (pc := 2) hx hb dX12_putAliases_2 rfl (lv_at hl37 0 rfl) ?_
  refine lv_bipush (pc := 3) (v := 20) hx hb dX12_putAliases_3 (by decide) ?_
  refine lv_icmp_ge (pc := 5) (tgt := 21) hx hb dX12_putAliases_5 (by decide) (fun c38 => absurd c38 (by decide)) (fun c38 => ?_)
  refine lv_aload_n (pc := 8) hx hb dX12_putAliases_8 rfl (lv_at hl37 1 rfl) ?_
  refine ob_get (pc := 9) (v := .ref ad2) (ci := 12) (C := RX12) (T := TX12) (N := 114) hx hb hG in_X12 hown hK hP35 0 rfl rfl 73 (by decide) (hG _ g_400) rfl h0_73 dX12_putAliases_9 ?_
  refine lv_iload_n (pc := 12) hx hb dX12_putAliases_12 rfl (lv_at hl37 0 rfl) ?_
  refine lv_iconst (pc := 13) (v := 0) hx hb dX12_putAliases_13 (by decide) ?_
  refine va_zast (pc := 14) hx hb hK hP35 hD35 hS35 2 3 rfl rfl (show ¬ ((9 : Int32) < 0 ∨ 20 ≤ (9 : Int32).toNatClampNeg) by decide) dX12_putAliases_14 (fun H39 lo39 hP39r hD39r hS39 => ?_)
  have hP39 : va_P D classes [(ad0, ob 12 114 fn0), (ad1, ari (cy 0) 3 ct1), (ad2, ari (cy 3) 20 (upd nc36 (9 : Int32).toNatClampNeg (vp_nar .boolean 0)))] H39 := hP39r
  have hD39 : va_D A [(ad0, ob 12 114 fn0), (ad1, ari (cy 0) 3 ct1), (ad2, ari (cy 3) 20 (upd nc36 (9 : Int32).toNatClampNeg (vp_nar .boolean 0)))] := hD39r
  clear hP39r hD39r
  generalize (upd nc36 (9 : Int32).toNatClampNeg (vp_nar .boolean 0)) = nc40 at hP39 hD39
  clear hP35 hD35 hS35
  clear H35 lo35
  refine lv_iinc (pc := 15) (v := 10) (lv' := [(1, .int 10), (0, .ref ad0)]) hx hb dX12_putAliases_15 hl37 (k := 0) rfl (by decide) (by decide) rfl (fun ls41 hl41 => ?_)
  clear hl37 ls37
  refine lv_goto (pc := 18) (tgt := 2) hx hb dX12_putAliases_18 (by decide) ?_
  refine lv_iload_n (pc := 2) hx hb dX12_putAliases_2 rfl (lv_at hl41 0 rfl) ?_
  refine lv_bipush (pc := 3) (v := 20) hx hb dX12_putAliases_3 (by decide) ?_
  refine lv_icmp_ge (pc := 5) (tgt := 21) hx hb dX12_putAliases_5 (by decide) (fun c42 => absurd c42 (by decide)) (fun c42 => ?_)
  refine lv_aload_n (pc := 8) hx hb dX12_putAliases_8 rfl (lv_at hl41 1 rfl) ?_
  refine ob_get (pc := 9) (v := .ref ad2) (ci := 12) (C := RX12) (T := TX12) (N := 114) hx hb hG in_X12 hown hK hP39 0 rfl rfl 73 (by decide) (hG _ g_400) rfl h0_73 dX12_putAliases_9 ?_
  refine lv_iload_n (pc := 12) hx hb dX12_putAliases_12 rfl (lv_at hl41 0 rfl) ?_
  refine lv_iconst (pc := 13) (v := 0) hx hb dX12_putAliases_13 (by decide) ?_
  refine va_zast (pc := 14) hx hb hK hP39 hD39 hS39 2 3 rfl rfl (show ¬ ((10 : Int32) < 0 ∨ 20 ≤ (10 : Int32).toNatClampNeg) by decide) dX12_putAliases_14 (fun H43 lo43 hP43r hD43r hS43 => ?_)
  have hP43 : va_P D classes [(ad0, ob 12 114 fn0), (ad1, ari (cy 0) 3 ct1), (ad2, ari (cy 3) 20 (upd nc40 (10 : Int32).toNatClampNeg (vp_nar .boolean 0)))] H43 := hP43r
  have hD43 : va_D A [(ad0, ob 12 114 fn0), (ad1, ari (cy 0) 3 ct1), (ad2, ari (cy 3) 20 (upd nc40 (10 : Int32).toNatClampNeg (vp_nar .boolean 0)))] := hD43r
  clear hP43r hD43r
  generalize (upd nc40 (10 : Int32).toNatClampNeg (vp_nar .boolean 0)) = nc44 at hP43 hD43
  clear hP39 hD39 hS39
  clear H39 lo39
  refine lv_iinc (pc := 15) (v := 11) (lv' := [(1, .int 11), (0, .ref ad0)]) hx hb dX12_putAliases_15 hl41 (k := 0) rfl (by decide) (by decide) rfl (fun ls45 hl45 => ?_)
  clear hl41 ls41
  refine lv_goto (pc := 18) (tgt := 2) hx hb dX12_putAliases_18 (by decide) ?_
  refine lv_iload_n (pc := 2) hx hb dX12_putAliases_2 rfl (lv_at hl45 0 rfl) ?_
  refine lv_bipush (pc := 3) (v := 20) hx hb dX12_putAliases_3 (by decide) ?_
  refine lv_icmp_ge (pc := 5) (tgt := 21) hx hb dX12_putAliases_5 (by decide) (fun c46 => absurd c46 (by decide)) (fun c46 => ?_)
  refine lv_aload_n (pc := 8) hx hb dX12_putAliases_8 rfl (lv_at hl45 1 rfl) ?_
  refine ob_get (pc := 9) (v := .ref ad2) (ci := 12) (C := RX12) (T := TX12) (N := 114) hx hb hG in_X12 hown hK hP43 0 rfl rfl 73 (by decide) (hG _ g_400) rfl h0_73 dX12_putAliases_9 ?_
  refine lv_iload_n (pc := 12) hx hb dX12_putAliases_12 rfl (lv_at hl45 0 rfl) ?_
  refine lv_iconst (pc := 13) (v := 0) hx hb dX12_putAliases_13 (by decide) ?_
  refine va_zast (pc := 14) hx hb hK hP43 hD43 hS43 2 3 rfl rfl (show ¬ ((11 : Int32) < 0 ∨ 20 ≤ (11 : Int32).toNatClampNeg) by decide) dX12_putAliases_14 (fun H47 lo47 hP47r hD47r hS47 => ?_)
  have hP47 : va_P D classes [(ad0, ob 12 114 fn0), (ad1, ari (cy 0) 3 ct1), (ad2, ari (cy 3) 20 (upd nc44 (11 : Int32).toNatClampNeg (vp_nar .boolean 0)))] H47 := hP47r
  have hD47 : va_D A [(ad0, ob 12 114 fn0), (ad1, ari (cy 0) 3 ct1), (ad2, ari (cy 3) 20 (upd nc44 (11 : Int32).toNatClampNeg (vp_nar .boolean 0)))] := hD47r
  clear hP47r hD47r
  generalize (upd nc44 (11 : Int32).toNatClampNeg (vp_nar .boolean 0)) = nc48 at hP47 hD47
  clear hP43 hD43 hS43
  clear H43 lo43
  refine lv_iinc (pc := 15) (v := 12) (lv' := [(1, .int 12), (0, .ref ad0)]) hx hb dX12_putAliases_15 hl45 (k := 0) rfl (by decide) (by decide) rfl (fun ls49 hl49 => ?_)
  clear hl45 ls45
  refine lv_goto (pc := 18) (tgt := 2) hx hb dX12_putAliases_18 (by decide) ?_
  refine lv_iload_n (pc := 2) hx hb dX12_putAliases_2 rfl (lv_at hl49 0 rfl) ?_
  refine lv_bipush (pc := 3) (v := 20) hx hb dX12_putAliases_3 (by decide) ?_
  refine lv_icmp_ge (pc := 5) (tgt := 21) hx hb dX12_putAliases_5 (by decide) (fun c50 => absurd c50 (by decide)) (fun c50 => ?_)
  refine lv_aload_n (pc := 8) hx hb dX12_putAliases_8 rfl (lv_at hl49 1 rfl) ?_
  refine ob_get (pc := 9) (v := .ref ad2) (ci := 12) (C := RX12) (T := TX12) (N := 114) hx hb hG in_X12 hown hK hP47 0 rfl rfl 73 (by decide) (hG _ g_400) rfl h0_73 dX12_putAliases_9 ?_
  refine lv_iload_n (pc := 12) hx hb dX12_putAliases_12 rfl (lv_at hl49 0 rfl) ?_
  refine lv_iconst (pc := 13) (v := 0) hx hb dX12_putAliases_13 (by decide) ?_
  refine va_zast (pc := 14) hx hb hK hP47 hD47 hS47 2 3 rfl rfl (show ¬ ((12 : Int32) < 0 ∨ 20 ≤ (12 : Int32).toNatClampNeg) by decide) dX12_putAliases_14 (fun H51 lo51 hP51r hD51r hS51 => ?_)
  have hP51 : va_P D classes [(ad0, ob 12 114 fn0), (ad1, ari (cy 0) 3 ct1), (ad2, ari (cy 3) 20 (upd nc48 (12 : Int32).toNatClampNeg (vp_nar .boolean 0)))] H51 := hP51r
  have hD51 : va_D A [(ad0, ob 12 114 fn0), (ad1, ari (cy 0) 3 ct1), (ad2, ari (cy 3) 20 (upd nc48 (12 : Int32).toNatClampNeg (vp_nar .boolean 0)))] := hD51r
  clear hP51r hD51r
  generalize (upd nc48 (12 : Int32).toNatClampNeg (vp_nar .boolean 0)) = nc52 at hP51 hD51
  clear hP47 hD47 hS47
  clear H47 lo47
  refine lv_iinc (pc := 15) (v := 13) (lv' := [(1, .int 13), (0, .ref ad0)]) hx hb dX12_putAliases_15 hl49 (k := 0) rfl (by decide) (by decide) rfl (fun ls53 hl53 => ?_)
  clear hl49 ls49
  refine lv_goto (pc := 18) (tgt := 2) hx hb dX12_putAliases_18 (by decide) ?_
  refine lv_iload_n (pc := 2) hx hb dX12_putAliases_2 rfl (lv_at hl53 0 rfl) ?_
  refine lv_bipush (pc := 3) (v := 20) hx hb dX12_putAliases_3 (by decide) ?_
  refine lv_icmp_ge (pc := 5) (tgt := 21) hx hb dX12_putAliases_5 (by decide) (fun c54 => absurd c54 (by decide)) (fun c54 => ?_)
  refine lv_aload_n (pc := 8) hx hb dX12_putAliases_8 rfl (lv_at hl53 1 rfl) ?_
  refine ob_get (pc := 9) (v := .ref ad2) (ci := 12) (C := RX12) (T := TX12) (N := 114) hx hb hG in_X12 hown hK hP51 0 rfl rfl 73 (by decide) (hG _ g_400) rfl h0_73 dX12_putAliases_9 ?_
  refine lv_iload_n (pc := 12) hx hb dX12_putAliases_12 rfl (lv_at hl53 0 rfl) ?_
  refine lv_iconst (pc := 13) (v := 0) hx hb dX12_putAliases_13 (by decide) ?_
  refine va_zast (pc := 14) hx hb hK hP51 hD51 hS51 2 3 rfl rfl (show ¬ ((13 : Int32) < 0 ∨ 20 ≤ (13 : Int32).toNatClampNeg) by decide) dX12_putAliases_14 (fun H55 lo55 hP55r hD55r hS55 => ?_)
  have hP55 : va_P D classes [(ad0, ob 12 114 fn0), (ad1, ari (cy 0) 3 ct1), (ad2, ari (cy 3) 20 (upd nc52 (13 : Int32).toNatClampNeg (vp_nar .boolean 0)))] H55 := hP55r
  have hD55 : va_D A [(ad0, ob 12 114 fn0), (ad1, ari (cy 0) 3 ct1), (ad2, ari (cy 3) 20 (upd nc52 (13 : Int32).toNatClampNeg (vp_nar .boolean 0)))] := hD55r
  clear hP55r hD55r
  generalize (upd nc52 (13 : Int32).toNatClampNeg (vp_nar .boolean 0)) = nc56 at hP55 hD55
  clear hP51 hD51 hS51
  clear H51 lo51
  refine lv_iinc (pc := 15) (v := 14) (lv' := [(1, .int 14), (0, .ref ad0)]) hx hb dX12_putAliases_15 hl53 (k := 0) rfl (by decide) (by decide) rfl (fun ls57 hl57 => ?_)
  clear hl53 ls53
  refine lv_goto (pc := 18) (tgt := 2) hx hb dX12_putAliases_18 (by decide) ?_
  refine lv_iload_n (pc := 2) hx hb dX12_putAliases_2 rfl (lv_at hl57 0 rfl) ?_
  refine lv_bipush (pc := 3) (v := 20) hx hb dX12_putAliases_3 (by decide) ?_
  refine lv_icmp_ge (pc := 5) (tgt := 21) hx hb dX12_putAliases_5 (by decide) (fun c58 => absurd c58 (by decide)) (fun c58 => ?_)
  refine lv_aload_n (pc := 8) hx hb dX12_putAliases_8 rfl (lv_at hl57 1 rfl) ?_
  refine ob_get (pc := 9) (v := .ref ad2) (ci := 12) (C := RX12) (T := TX12) (N := 114) hx hb hG in_X12 hown hK hP55 0 rfl rfl 73 (by decide) (hG _ g_400) rfl h0_73 dX12_putAliases_9 ?_
  refine lv_iload_n (pc := 12) hx hb dX12_putAliases_12 rfl (lv_at hl57 0 rfl) ?_
  refine lv_iconst (pc := 13) (v := 0) hx hb dX12_putAliases_13 (by decide) ?_
  refine va_zast (pc := 14) hx hb hK hP55 hD55 hS55 2 3 rfl rfl (show ¬ ((14 : Int32) < 0 ∨ 20 ≤ (14 : Int32).toNatClampNeg) by decide) dX12_putAliases_14 (fun H59 lo59 hP59r hD59r hS59 => ?_)
  have hP59 : va_P D classes [(ad0, ob 12 114 fn0), (ad1, ari (cy 0) 3 ct1), (ad2, ari (cy 3) 20 (upd nc56 (14 : Int32).toNatClampNeg (vp_nar .boolean 0)))] H59 := hP59r
  have hD59 : va_D A [(ad0, ob 12 114 fn0), (ad1, ari (cy 0) 3 ct1), (ad2, ari (cy 3) 20 (upd nc56 (14 : Int32).toNatClampNeg (vp_nar .boolean 0)))] := hD59r
  clear hP59r hD59r
  generalize (upd nc56 (14 : Int32).toNatClampNeg (vp_nar .boolean 0)) = nc60 at hP59 hD59
  clear hP55 hD55 hS55
  clear H55 lo55
  refine lv_iinc (pc := 15) (v := 15) (lv' := [(1, .int 15), (0, .ref ad0)]) hx hb dX12_putAliases_15 hl57 (k := 0) rfl (by decide) (by decide) rfl (fun ls61 hl61 => ?_)
  clear hl57 ls57
  refine lv_goto (pc := 18) (tgt := 2) hx hb dX12_putAliases_18 (by decide) ?_
  refine lv_iload_n (pc := 2) hx hb dX12_putAliases_2 rfl (lv_at hl61 0 rfl) ?_
  refine lv_bipush (pc := 3) (v := 20) hx hb dX12_putAliases_3 (by decide) ?_
  refine lv_icmp_ge (pc := 5) (tgt := 21) hx hb dX12_putAliases_5 (by decide) (fun c62 => absurd c62 (by decide)) (fun c62 => ?_)
  refine lv_aload_n (pc := 8) hx hb dX12_putAliases_8 rfl (lv_at hl61 1 rfl) ?_
  refine ob_get (pc := 9) (v := .ref ad2) (ci := 12) (C := RX12) (T := TX12) (N := 114) hx hb hG in_X12 hown hK hP59 0 rfl rfl 73 (by decide) (hG _ g_400) rfl h0_73 dX12_putAliases_9 ?_
  refine lv_iload_n (pc := 12) hx hb dX12_putAliases_12 rfl (lv_at hl61 0 rfl) ?_
  refine lv_iconst (pc := 13) (v := 0) hx hb dX12_putAliases_13 (by decide) ?_
  refine va_zast (pc := 14) hx hb hK hP59 hD59 hS59 2 3 rfl rfl (show ¬ ((15 : Int32) < 0 ∨ 20 ≤ (15 : Int32).toNatClampNeg) by decide) dX12_putAliases_14 (fun H63 lo63 hP63r hD63r hS63 => ?_)
  have hP63 : va_P D classes [(ad0, ob 12 114 fn0), (ad1, ari (cy 0) 3 ct1), (ad2, ari (cy 3) 20 (upd nc60 (15 : Int32).toNatClampNeg (vp_nar .boolean 0)))] H63 := hP63r
  have hD63 : va_D A [(ad0, ob 12 114 fn0), (ad1, ari (cy 0) 3 ct1), (ad2, ari (cy 3) 20 (upd nc60 (15 : Int32).toNatClampNeg (vp_nar .boolean 0)))] := hD63r
  clear hP63r hD63r
  generalize (upd nc60 (15 : Int32).toNatClampNeg (vp_nar .boolean 0)) = nc64 at hP63 hD63
  clear hP59 hD59 hS59
  clear H59 lo59
  refine lv_iinc (pc := 15) (v := 16) (lv' := [(1, .int 16), (0, .ref ad0)]) hx hb dX12_putAliases_15 hl61 (k := 0) rfl (by decide) (by decide) rfl (fun ls65 hl65 => ?_)
  clear hl61 ls61
  refine lv_goto (pc := 18) (tgt := 2) hx hb dX12_putAliases_18 (by decide) ?_
  refine lv_iload_n (pc := 2) hx hb dX12_putAliases_2 rfl (lv_at hl65 0 rfl) ?_
  refine lv_bipush (pc := 3) (v := 20) hx hb dX12_putAliases_3 (by decide) ?_
  refine lv_icmp_ge (pc := 5) (tgt := 21) hx hb dX12_putAliases_5 (by decide) (fun c66 => absurd c66 (by decide)) (fun c66 => ?_)
  refine lv_aload_n (pc := 8) hx hb dX12_putAliases_8 rfl (lv_at hl65 1 rfl) ?_
  refine ob_get (pc := 9) (v := .ref ad2) (ci := 12) (C := RX12) (T := TX12) (N := 114) hx hb hG in_X12 hown hK hP63 0 rfl rfl 73 (by decide) (hG _ g_400) rfl h0_73 dX12_putAliases_9 ?_
  refine lv_iload_n (pc := 12) hx hb dX12_putAliases_12 rfl (lv_at hl65 0 rfl) ?_
  refine lv_iconst (pc := 13) (v := 0) hx hb dX12_putAliases_13 (by decide) ?_
  refine va_zast (pc := 14) hx hb hK hP63 hD63 hS63 2 3 rfl rfl (show ¬ ((16 : Int32) < 0 ∨ 20 ≤ (16 : Int32).toNatClampNeg) by decide) dX12_putAliases_14 (fun H67 lo67 hP67r hD67r hS67 => ?_)
  have hP67 : va_P D classes [(ad0, ob 12 114 fn0), (ad1, ari (cy 0) 3 ct1), (ad2, ari (cy 3) 20 (upd nc64 (16 : Int32).toNatClampNeg (vp_nar .boolean 0)))] H67 := hP67r
  have hD67 : va_D A [(ad0, ob 12 114 fn0), (ad1, ari (cy 0) 3 ct1), (ad2, ari (cy 3) 20 (upd nc64 (16 : Int32).toNatClampNeg (vp_nar .boolean 0)))] := hD67r
  clear hP67r hD67r
  generalize (upd nc64 (16 : Int32).toNatClampNeg (vp_nar .boolean 0)) = nc68 at hP67 hD67
  clear hP63 hD63 hS63
  clear H63 lo63
  refine lv_iinc (pc := 15) (v := 17) (lv' := [(1, .int 17), (0, .ref ad0)]) hx hb dX12_putAliases_15 hl65 (k := 0) rfl (by decide) (by decide) rfl (fun ls69 hl69 => ?_)
  clear hl65 ls65
  refine lv_goto (pc := 18) (tgt := 2) hx hb dX12_putAliases_18 (by decide) ?_
  refine lv_iload_n (pc := 2) hx hb dX12_putAliases_2 rfl (lv_at hl69 0 rfl) ?_
  refine lv_bipush (pc := 3) (v := 20) hx hb dX12_putAliases_3 (by decide) ?_
  refine lv_icmp_ge (pc := 5) (tgt := 21) hx hb dX12_putAliases_5 (by decide) (fun c70 => absurd c70 (by decide)) (fun c70 => ?_)
  refine lv_aload_n (pc := 8) hx hb dX12_putAliases_8 rfl (lv_at hl69 1 rfl) ?_
  refine ob_get (pc := 9) (v := .ref ad2) (ci := 12) (C := RX12) (T := TX12) (N := 114) hx hb hG in_X12 hown hK hP67 0 rfl rfl 73 (by decide) (hG _ g_400) rfl h0_73 dX12_putAliases_9 ?_
  refine lv_iload_n (pc := 12) hx hb dX12_putAliases_12 rfl (lv_at hl69 0 rfl) ?_
  refine lv_iconst (pc := 13) (v := 0) hx hb dX12_putAliases_13 (by decide) ?_
  refine va_zast (pc := 14) hx hb hK hP67 hD67 hS67 2 3 rfl rfl (show ¬ ((17 : Int32) < 0 ∨ 20 ≤ (17 : Int32).toNatClampNeg) by decide) dX12_putAliases_14 (fun H71 lo71 hP71r hD71r hS71 => ?_)
  have hP71 : va_P D classes [(ad0, ob 12 114 fn0), (ad1, ari (cy 0) 3 ct1), (ad2, ari (cy 3) 20 (upd nc68 (17 : Int32).toNatClampNeg (vp_nar .boolean 0)))] H71 := hP71r
  have hD71 : va_D A [(ad0, ob 12 114 fn0), (ad1, ari (cy 0) 3 ct1), (ad2, ari (cy 3) 20 (upd nc68 (17 : Int32).toNatClampNeg (vp_nar .boolean 0)))] := hD71r
  clear hP71r hD71r
  generalize (upd nc68 (17 : Int32).toNatClampNeg (vp_nar .boolean 0)) = nc72 at hP71 hD71
  clear hP67 hD67 hS67
  clear H67 lo67
  refine lv_iinc (pc := 15) (v := 18) (lv' := [(1, .int 18), (0, .ref ad0)]) hx hb dX12_putAliases_15 hl69 (k := 0) rfl (by decide) (by decide) rfl (fun ls73 hl73 => ?_)
  clear hl69 ls69
  refine lv_goto (pc := 18) (tgt := 2) hx hb dX12_putAliases_18 (by decide) ?_
  refine lv_iload_n (pc := 2) hx hb dX12_putAliases_2 rfl (lv_at hl73 0 rfl) ?_
  refine lv_bipush (pc := 3) (v := 20) hx hb dX12_putAliases_3 (by decide) ?_
  refine lv_icmp_ge (pc := 5) (tgt := 21) hx hb dX12_putAliases_5 (by decide) (fun c74 => absurd c74 (by decide)) (fun c74 => ?_)
  refine lv_aload_n (pc := 8) hx hb dX12_putAliases_8 rfl (lv_at hl73 1 rfl) ?_
  refine ob_get (pc := 9) (v := .ref ad2) (ci := 12) (C := RX12) (T := TX12) (N := 114) hx hb hG in_X12 hown hK hP71 0 rfl rfl 73 (by decide) (hG _ g_400) rfl h0_73 dX12_putAliases_9 ?_
  refine lv_iload_n (pc := 12) hx hb dX12_putAliases_12 rfl (lv_at hl73 0 rfl) ?_
  refine lv_iconst (pc := 13) (v := 0) hx hb dX12_putAliases_13 (by decide) ?_
  refine va_zast (pc := 14) hx hb hK hP71 hD71 hS71 2 3 rfl rfl (show ¬ ((18 : Int32) < 0 ∨ 20 ≤ (18 : Int32).toNatClampNeg) by decide) dX12_putAliases_14 (fun H75 lo75 hP75r hD75r hS75 => ?_)
  have hP75 : va_P D classes [(ad0, ob 12 114 fn0), (ad1, ari (cy 0) 3 ct1), (ad2, ari (cy 3) 20 (upd nc72 (18 : Int32).toNatClampNeg (vp_nar .boolean 0)))] H75 := hP75r
  have hD75 : va_D A [(ad0, ob 12 114 fn0), (ad1, ari (cy 0) 3 ct1), (ad2, ari (cy 3) 20 (upd nc72 (18 : Int32).toNatClampNeg (vp_nar .boolean 0)))] := hD75r
  clear hP75r hD75r
  generalize (upd nc72 (18 : Int32).toNatClampNeg (vp_nar .boolean 0)) = nc76 at hP75 hD75
  clear hP71 hD71 hS71
  clear H71 lo71
  refine lv_iinc (pc := 15) (v := 19) (lv' := [(1, .int 19), (0, .ref ad0)]) hx hb dX12_putAliases_15 hl73 (k := 0) rfl (by decide) (by decide) rfl (fun ls77 hl77 => ?_)
  clear hl73 ls73
  refine lv_goto (pc := 18) (tgt := 2) hx hb dX12_putAliases_18 (by decide) ?_
  refine lv_iload_n (pc := 2) hx hb dX12_putAliases_2 rfl (lv_at hl77 0 rfl) ?_
  refine lv_bipush (pc := 3) (v := 20) hx hb dX12_putAliases_3 (by decide) ?_
  refine lv_icmp_ge (pc := 5) (tgt := 21) hx hb dX12_putAliases_5 (by decide) (fun c78 => absurd c78 (by decide)) (fun c78 => ?_)
  refine lv_aload_n (pc := 8) hx hb dX12_putAliases_8 rfl (lv_at hl77 1 rfl) ?_
  refine ob_get (pc := 9) (v := .ref ad2) (ci := 12) (C := RX12) (T := TX12) (N := 114) hx hb hG in_X12 hown hK hP75 0 rfl rfl 73 (by decide) (hG _ g_400) rfl h0_73 dX12_putAliases_9 ?_
  refine lv_iload_n (pc := 12) hx hb dX12_putAliases_12 rfl (lv_at hl77 0 rfl) ?_
  refine lv_iconst (pc := 13) (v := 0) hx hb dX12_putAliases_13 (by decide) ?_
  refine va_zast (pc := 14) hx hb hK hP75 hD75 hS75 2 3 rfl rfl (show ¬ ((19 : Int32) < 0 ∨ 20 ≤ (19 : Int32).toNatClampNeg) by decide) dX12_putAliases_14 (fun H79 lo79 hP79r hD79r hS79 => ?_)
  have hP79 : va_P D classes [(ad0, ob 12 114 fn0), (ad1, ari (cy 0) 3 ct1), (ad2, ari (cy 3) 20 (upd nc76 (19 : Int32).toNatClampNeg (vp_nar .boolean 0)))] H79 := hP79r
  have hD79 : va_D A [(ad0, ob 12 114 fn0), (ad1, ari (cy 0) 3 ct1), (ad2, ari (cy 3) 20 (upd nc76 (19 : Int32).toNatClampNeg (vp_nar .boolean 0)))] := hD79r
  clear hP79r hD79r
  generalize (upd nc76 (19 : Int32).toNatClampNeg (vp_nar .boolean 0)) = nc80 at hP79 hD79
  clear hP75 hD75 hS75
  clear H75 lo75
  refine lv_iinc (pc := 15) (v := 20) (lv' := [(1, .int 20), (0, .ref ad0)]) hx hb dX12_putAliases_15 hl77 (k := 0) rfl (by decide) (by decide) rfl (fun ls81 hl81 => ?_)
  clear hl77 ls77
  refine lv_goto (pc := 18) (tgt := 2) hx hb dX12_putAliases_18 (by decide) ?_
  refine lv_iload_n (pc := 2) hx hb dX12_putAliases_2 rfl (lv_at hl81 0 rfl) ?_
  refine lv_bipush (pc := 3) (v := 20) hx hb dX12_putAliases_3 (by decide) ?_
  refine lv_icmp_ge (pc := 5) (tgt := 21) hx hb dX12_putAliases_5 (by decide) (fun c82 => ?_) (fun c82 => absurd (by decide) c82)
  refine lv_iconst (pc := 21) (v := 1) hx hb dX12_putAliases_21 (by decide) ?_
  refine lv_istore_n (pc := 22) (lv' := [(1, .int 1), (0, .ref ad0)]) hx hb dX12_putAliases_22 rfl hl81 (by decide) rfl (fun ls83 hl83 => ?_)
  clear hl81 ls81
  refine lv_iload_n (pc := 23) hx hb dX12_putAliases_23 rfl (lv_at hl83 0 rfl) ?_
  refine lv_if_eq (pc := 24) (tgt := 148) hx hb dX12_putAliases_24 (by decide) (fun c84 => absurd c84 (by decide)) (fun c84 => ?_)
  refine lv_aload_n (pc := 27) hx hb dX12_putAliases_27 rfl (lv_at hl83 1 rfl) ?_
  refine cq_i (pc := 28) (wr := [(ad1, ari (cy 0) 3 ct1), (ad2, ari (cy 3) 20 nc80)]) (k2 := 0) (n2 := 0) (va_runV (As := []) (rest := []) ⟨hx, hb, hml, hown, hG⟩ (m_unblamed0 l D cy kv H79.size ad0 fn0 h0_67) (cwV 0 hG (gi_V g_503 g_504 g_505 g_334 g_496) rfl rfl rfl (by decide +kernel) ⟨Nat.le_of_ble_eq_true rfl, Nat.le_of_ble_eq_true rfl⟩) ⟨pq_blind, (va_recv hK hP79 (ci := 12) (q0 := 0) rfl rfl), (pq_pass hP79 hD79 hK hE hS79 hA [0] rfl (by decide))⟩ rfl rfl hl83.1 rfl (lv_room (Nat.le_of_ble_eq_true rfl)) dX12_putAliases_28 ⟨Nat.le_of_ble_eq_true rfl, Nat.le_of_ble_eq_true rfl⟩) hP79 hD79 hS79 hA [0] [1, 2] rfl rfl (by decide) (by decide) (by decide) (by decide) (fun r85 w85 H85 lo85 e85 hR85 hP85r hD85r hS85 => ?_)
  subst hR85
  subst e85
  have hP85 : va_P D classes [(ad1, ari (cy 0) 3 ct1), (ad2, ari (cy 3) 20 nc80), (ad0, ob 12 114 fn0)] H85 := hP85r
  have hD85 : va_D A [(ad1, ari (cy 0) 3 ct1), (ad2, ari (cy 3) 20 nc80), (ad0, ob 12 114 fn0)] := hD85r
  clear hP85r hD85r
  clear hP79 hD79 hS79
  clear H79 lo79
  refine lv_if_eq (pc := 31) (tgt := 148) hx hb dX12_putAliases_31 (by decide) (fun c86 => absurd c86 (by decide)) (fun c86 => ?_)
  refine lv_iconst (pc := 34) (v := 0) hx hb dX12_putAliases_34 (by decide) ?_
  refine lv_istore_n (pc := 35) (lv' := [(1, .int 0), (0, .ref ad0)]) hx hb dX12_putAliases_35 rfl hl83 (by decide) rfl (fun ls87 hl87 => ?_)
  clear hl83 ls83
  refine lv_aload_n (pc := 36) hx hb dX12_putAliases_36 rfl (lv_at hl87 1 rfl) ?_
  refine ob_get (pc := 37) (v := .int 0) (ci := 12) (C := RX12) (T := TX12) (N := 114) hx hb hG in_X12 hown hK hP85 2 rfl rfl 62 (by decide) (hG _ g_498) rfl h0_62 dX12_putAliases_37 ?_
  refine lv_if_le (pc := 40) (tgt := 51) hx hb dX12_putAliases_40 (by decide) (fun c88 => ?_) (fun c88 => absurd (by decide) c88)
  refine lv_lconst (pc := 51) (v := 0) hx hb dX12_putAliases_51 (by decide) ?_
  refine lv_lstore_n (pc := 52) (lv' := [(2, .long 0), (1, .int 0), (0, .ref ad0)]) hx hb dX12_putAliases_52 rfl hl87 (by decide) rfl (fun ls89 hl89 => ?_)
  clear hl87 ls87
  refine lv_iconst (pc := 53) (v := 0) hx hb dX12_putAliases_53 (by decide) ?_
  refine lv_istore (pc := 54) (lv' := [(4, .int 0), (2, .long 0), (1, .int 0), (0, .ref ad0)]) hx hb dX12_putAliases_54 hl89 (by decide) rfl (fun ls90 hl90 => ?_)
  clear hl89 ls89
  refine lv_iload (pc := 56) hx hb dX12_putAliases_56 (lv_at hl90 0 rfl) ?_
  refine lv_aload_n (pc := 58) hx hb dX12_putAliases_58 rfl (lv_at hl90 3 rfl) ?_
  refine ob_get (pc := 59) (v := .ref ad1) (ci := 12) (C := RX12) (T := TX12) (N := 114) hx hb hG in_X12 hown hK hP85 2 rfl rfl 56 (by decide) (hG _ g_390) rfl h0_56 dX12_putAliases_59 ?_
  refine lv_iconst (pc := 62) (v := 2) hx hb dX12_putAliases_62 (by decide) ?_
  refine va_iald (pc := 63) hx hb hK hP85 0 0 rfl rfl (show ¬ ((2 : Int32) < 0 ∨ 3 ≤ (2 : Int32).toNatClampNeg) by decide) dX12_putAliases_63 ?_
  refine tp_i (y := 0) k1_2 ?_
  refine lv_icmp_ge (pc := 64) (tgt := 145) hx hb dX12_putAliases_64 (by decide) (fun c91 => ?_) (fun c91 => absurd (by decide) c91)
  refine lv_goto (pc := 145) (tgt := 23) hx hb dX12_putAliases_145 (by decide) ?_
  refine lv_iload_n (pc := 23) hx hb dX12_putAliases_23 rfl (lv_at hl90 2 rfl) ?_
  refine lv_if_eq (pc := 24) (tgt := 148) hx hb dX12_putAliases_24 (by decide) (fun c92 => ?_) (fun c92 => absurd (by decide) c92)
  exact W.vret (pc := 148) hx hb hr (fun t ht hW => ⟨⟨(), rfl, trivial, _, ⟨nc80, rfl⟩, by rw [ht]; exact hP85, hD85⟩, hS85.F ht⟩) hS85.2.2 dX12_putAliases_148
set_option maxHeartbeats 4000000 in
set_option maxRecDepth 100000 in
/-- X12_run -/
theorem m_run_z (l : Launch) (D : va_G) (cy : Nat → ClassId) (kv : KV) (sz : Nat) (ad0 : Nat) (fn0 : Nat → Value) (ad1 : Nat) (ad2 : Nat) (ct1 : Nat → Int32) (ct2 : Nat → Int32) (h0_32 : fn0 32 = .int 0) (h0_56 : fn0 56 = .ref ad1) (h0_73 : fn0 73 = .ref ad2) (h0_89 : fn0 89 = .int 0) (k1_0 : ct1 0 = 0) (k1_1 : ct1 1 = 0) (k1_2 : ct1 2 = 0) : Met l yX12_run (Cond.code yX12_run cX12_run 4 (some .int) :: GW) ({ frames := 10, cells := 0, slots := 0, locals := 200 } : Room) (va_Pc [.ref ad0, .int 0] (pcq D cy kv sz [(ad0, ob 12 114 fn0), (ad1, ari (cy 0) 3 ct1), (ad2, ari (cy 3) 20 ct2)])) (va_Qi (fun r (_ : Unit) => r = (-16)) (fun _ t => bq D (fun w => ∃ (nc900 : Nat → Value), w = [(ad0, ob 12 114 nc900)] ∧ nc900 0 = .int 0) (va_A [(ad0, ob 12 114 fn0), (ad1, ari (cy 0) 3 ct1), (ad2, ari (cy 3) 20 ct2)] sz) t) (va_A [(ad0, ob 12 114 fn0), (ad1, ari (cy 0) 3 ct1), (ad2, ari (cy 3) 20 ct2)] sz)) 0 0 (va_A [(ad0, ob 12 114 fn0), (ad1, ari (cy 0) 3 ct1), (ad2, ari (cy 3) 20 ct2)] sz) := by
  refine Met.ofW (cc := cX12_run) (maxL := 4) (ret := (some .int)) (by decide) rfl ?_
  intro p e s m args below meth c s₁ B hml hv
  obtain ⟨rfl, hsz, hP, hK, hD0, hE⟩ := hv
  have hx := B.exec
  have hb := B.bytes
  have hr := B.returns
  have hG : ∀ w ∈ GW, w.before ([.ref ad0, .int 0] : List Value).toArray s = true := fun w h => atoms_spec (ws := Cond.code yX12_run cX12_run 4 (some .int) :: GW) B.pre w (List.mem_cons_of_mem _ h)
  have hown : s.vm.findClass RX12 = some m.cls := findClass_of_methodNamed B.named
  have hlocks := B.notSynchronized
  subst hsz
  have hD := hD0.self (sz := s.heap.size)
  generalize hAe : va_A [(ad0, ob 12 114 fn0), (ad1, ari (cy 0) 3 ct1), (ad2, ari (cy 3) 20 ct2)] s.heap.size = A at hD hE ⊢
  have hA : ∀ q : Nat, s.heap.size ≤ q → A q := fun q h => by rw [← hAe]; exact Or.inr h
  have hS : va_S A s.heap s.heap [] := va_S.rf
  clear hAe hD0
  have hl0 := lv_entry ([.ref ad0, .int 0]) (n := 4) (Nat.le_of_ble_eq_true rfl)
  rw [lg_entry_eq]
  generalize (lg_sl ([.ref ad0, .int 0]) ++ List.replicate (4 - (lg_sl ([.ref ad0, .int 0])).length) Slot.unset).toArray = ls at hl0 ⊢
  have hl : lv_has ls 4 [(0, .ref ad0), (1, .int 0)] := hl0
  clear hl0
  refine lv_aload_n (pc := 0) hx hb dX12_run_0 rfl (lv_at hl 0 rfl) ?_
  refine lv_iconst (pc := 1) (v := 0) hx hb dX12_run_1 (by decide) ?_
  refine ob_put (pc := 2) (v := .int 0) (ci := 12) (C := RX12) (T := TX12) (N := 114) hx hb hG in_X12 tyX12 tyX12_ok nmX12 hown hK hP hD hS 0 rfl rfl 0 (by decide) (hG _ g_432) rfl rfl rfl rfl dX12_run_2 (ws' := [(ad0, ob 12 114 (vup fn0 0 (.int 0))), (ad1, ari (cy 0) 3 ct1), (ad2, ari (cy 3) 20 ct2)]) rfl (fun H1 lo1 hP1 hD1 hS1 => ?_)
  clear hP hD hS
  refine lv_aload_n (pc := 5) hx hb dX12_run_5 rfl (lv_at hl 0 rfl) ?_
  refine lv_iload_n (pc := 6) hx hb dX12_run_6 rfl (lv_at hl 1 rfl) ?_
  refine lv_if_lt (pc := 7) (tgt := 29) hx hb dX12_run_7 (by decide) (fun c2 => absurd c2 (by decide)) (fun c2 => ?_)
  refine lv_iload_n (pc := 10) hx hb dX12_run_10 rfl (lv_at hl 1 rfl) ?_
  refine lv_aload_n (pc := 11) hx hb dX12_run_11 rfl (lv_at hl 0 rfl) ?_
  refine ob_get (pc := 12) (v := .int 0) (ci := 12) (C := RX12) (T := TX12) (N := 114) hx hb hG in_X12 hown hK hP1 0 rfl rfl 32 (by decide) (hG _ g_435) rfl h0_32 dX12_run_12 ?_
  refine lv_icmp_gt (pc := 15) (tgt := 29) hx hb dX12_run_15 (by decide) (fun c3 => absurd c3 (by decide)) (fun c3 => ?_)
  refine lv_iload_n (pc := 18) hx hb dX12_run_18 rfl (lv_at hl 1 rfl) ?_
  refine lv_sipush (pc := 19) (v := 400) hx hb dX12_run_19 (by decide) ?_
  refine lv_icmp_gt (pc := 22) (tgt := 29) hx hb dX12_run_22 (by decide) (fun c4 => absurd c4 (by decide)) (fun c4 => ?_)
  refine lv_iconst (pc := 25) (v := 1) hx hb dX12_run_25 (by decide) ?_
  refine lv_goto (pc := 26) (tgt := 30) hx hb dX12_run_26 (by decide) ?_
  refine lv_iconst (pc := 30) (v := 1) hx hb dX12_run_30 (by decide) ?_
  refine cq_i (pc := 31) (wr := [(ad1, ari (cy 0) 3 ct1), (ad2, ari (cy 3) 20 ct2)]) (k2 := 0) (n2 := 0) (va_runV (As := [.int 1, .int 1]) (rest := []) ⟨hx, hb, hml, hown, hG⟩ (m_may1 l D cy kv H1.size ad0 (vup fn0 0 (.int 0)) rfl) (cwV 2 hG (gi_V g_475 g_476 g_477 g_334 g_434) rfl rfl rfl (by decide +kernel) ⟨Nat.le_of_ble_eq_true rfl, Nat.le_of_ble_eq_true rfl⟩) ⟨pq_blind, (va_recv hK hP1 (ci := 12) (q0 := 0) rfl rfl), (pq_pass hP1 hD1 hK hE hS1 hA [0] rfl (by decide))⟩ rfl rfl hl.1 rfl (lv_room (Nat.le_of_ble_eq_true rfl)) dX12_run_31 ⟨Nat.le_of_ble_eq_true rfl, Nat.le_of_ble_eq_true rfl⟩) hP1 hD1 hS1 hA [0] [1, 2] rfl rfl (by decide) (by decide) (by decide) (by decide) (fun r5 w5 H5 lo5 e5 hR5 hP5r hD5r hS5 => ?_)
  subst hR5
  subst e5
  have hP5 : va_P D classes [(ad1, ari (cy 0) 3 ct1), (ad2, ari (cy 3) 20 ct2), (ad0, ob 12 114 (vup fn0 0 (.int 0)))] H5 := hP5r
  have hD5 : va_D A [(ad1, ari (cy 0) 3 ct1), (ad2, ari (cy 3) 20 ct2), (ad0, ob 12 114 (vup fn0 0 (.int 0)))] := hD5r
  clear hP5r hD5r
  clear hP1 hD1 hS1
  clear H1 lo1
  refine lv_if_eq (pc := 34) (tgt := 59) hx hb dX12_run_34 (by decide) (fun c6 => absurd c6 (by decide)) (fun c6 => ?_)
  refine lv_aload_n (pc := 37) hx hb dX12_run_37 rfl (lv_at hl 0 rfl) ?_
  refine lv_aload_n (pc := 38) hx hb dX12_run_38 rfl (lv_at hl 0 rfl) ?_
  refine ob_get (pc := 39) (v := .int 0) (ci := 12) (C := RX12) (T := TX12) (N := 114) hx hb hG in_X12 hown hK hP5 2 rfl rfl 89 (by decide) (hG _ g_507) rfl h0_89 dX12_run_39 ?_
  refine lv_bipush (pc := 42) (v := 40) hx hb dX12_run_42 (by decide) ?_
  refine lv_icmp_ge (pc := 44) (tgt := 51) hx hb dX12_run_44 (by decide) (fun c7 => absurd c7 (by decide)) (fun c7 => ?_)
  refine lv_iconst (pc := 47) (v := 1) hx hb dX12_run_47 (by decide) ?_
  refine lv_goto (pc := 48) (tgt := 52) hx hb dX12_run_48 (by decide) ?_
  refine lv_iconst (pc := 52) (v := 2) hx hb dX12_run_52 (by decide) ?_
  refine cq_i (pc := 53) (wr := [(ad1, ari (cy 0) 3 ct1), (ad2, ari (cy 3) 20 ct2)]) (k2 := 0) (n2 := 0) (va_runV (As := [.int 1, .int 2]) (rest := []) ⟨hx, hb, hml, hown, hG⟩ (m_may2 l D cy kv H5.size ad0 (vup fn0 0 (.int 0)) rfl) (cwV 2 hG (gi_V g_475 g_476 g_477 g_334 g_434) rfl rfl rfl (by decide +kernel) ⟨Nat.le_of_ble_eq_true rfl, Nat.le_of_ble_eq_true rfl⟩) ⟨pq_blind, (va_recv hK hP5 (ci := 12) (q0 := 2) rfl rfl), (pq_pass hP5 hD5 hK hE hS5 hA [2] rfl (by decide))⟩ rfl rfl hl.1 rfl (lv_room (Nat.le_of_ble_eq_true rfl)) dX12_run_53 ⟨Nat.le_of_ble_eq_true rfl, Nat.le_of_ble_eq_true rfl⟩) hP5 hD5 hS5 hA [2] [0, 1] rfl rfl (by decide) (by decide) (by decide) (by decide) (fun r8 w8 H8 lo8 e8 hR8 hP8r hD8r hS8 => ?_)
  subst hR8
  subst e8
  have hP8 : va_P D classes [(ad1, ari (cy 0) 3 ct1), (ad2, ari (cy 3) 20 ct2), (ad0, ob 12 114 (vup fn0 0 (.int 0)))] H8 := hP8r
  have hD8 : va_D A [(ad1, ari (cy 0) 3 ct1), (ad2, ari (cy 3) 20 ct2), (ad0, ob 12 114 (vup fn0 0 (.int 0)))] := hD8r
  clear hP8r hD8r
  clear hP5 hD5 hS5
  clear H5 lo5
  refine lv_if_ne (pc := 56) (tgt := 61) hx hb dX12_run_56 (by decide) (fun c9 => ?_) (fun c9 => absurd c9 (by decide))
  refine lv_iconst (pc := 61) (v := 0) hx hb dX12_run_61 (by decide) ?_
  refine lv_istore_n (pc := 62) (lv' := [(2, .int 0), (0, .ref ad0), (1, .int 0)]) hx hb dX12_run_62 rfl hl (by decide) rfl (fun ls10 hl10 => ?_)
  clear hl ls
  refine lv_iload_n (pc := 63) hx hb dX12_run_63 rfl (lv_at hl10 0 rfl) ?_
  refine lv_iload_n (pc := 64) hx hb dX12_run_64 rfl (lv_at hl10 2 rfl) ?_
  refine lv_icmp_ge (pc := 65) (tgt := 86) hx hb dX12_run_65 (by decide) (fun c11 => ?_) (fun c11 => absurd (by decide) c11)
  refine lv_aload_n (pc := 86) hx hb dX12_run_86 rfl (lv_at hl10 1 rfl) ?_
  refine lv_iconst (pc := 87) (v := 0) hx hb dX12_run_87 (by decide) ?_
  refine ob_put (pc := 88) (v := .int 0) (ci := 12) (C := RX12) (T := TX12) (N := 114) hx hb hG in_X12 tyX12 tyX12_ok nmX12 hown hK hP8 hD8 hS8 2 rfl rfl 32 (by decide) (hG _ g_435) rfl rfl rfl rfl dX12_run_88 (ws' := [(ad1, ari (cy 0) 3 ct1), (ad2, ari (cy 3) 20 ct2), (ad0, ob 12 114 (vup (vup fn0 0 (.int 0)) 32 (.int 0)))]) rfl (fun H12 lo12 hP12 hD12 hS12 => ?_)
  clear hP8 hD8 hS8
  clear H8 lo8
  refine lv_aload_n (pc := 91) hx hb dX12_run_91 rfl (lv_at hl10 1 rfl) ?_
  refine cq_v (pc := 92) (wr := [(ad1, ari (cy 0) 3 ct1), (ad2, ari (cy 3) 20 ct2)]) (k2 := 0) (n2 := 0) (va_runV (As := []) (rest := []) ⟨hx, hb, hml, hown, hG⟩ (m_beginBlame l D cy kv H12.size ad0 (vup (vup fn0 0 (.int 0)) 32 (.int 0))) (cwV 0 hG (gi_V g_508 g_509 g_510 g_334 g_495) rfl rfl rfl (by decide +kernel) ⟨Nat.le_of_ble_eq_true rfl, Nat.le_of_ble_eq_true rfl⟩) ⟨pq_blind, (va_recv hK hP12 (ci := 12) (q0 := 2) rfl rfl), (pq_pass hP12 hD12 hK hE hS12 hA [2] rfl (by decide))⟩ rfl rfl hl10.1 rfl (lv_room (Nat.le_of_ble_eq_true rfl)) dX12_run_92 ⟨Nat.le_of_ble_eq_true rfl, Nat.le_of_ble_eq_true rfl⟩) hP12 hD12 hS12 hA [2] [0, 1] rfl rfl (by decide) (by decide) (by decide) (by decide) (fun w13 H13 lo13 hR13 hP13r hD13r hS13 => ?_)
  subst hR13
  have hP13 : va_P D classes [(ad1, ari (cy 0) 3 ct1), (ad2, ari (cy 3) 20 ct2), (ad0, ob 12 114 (vup (vup (vup (vup (vup (vup (vup (vup (vup (vup fn0 0 (.int 0)) 32 (.int 0)) 67 (.int 0)) 68 (.int (-1))) 69 (.int (-1))) 70 (.int (-1))) 71 (.int (-1))) 72 (.int 0)) 108 (.int 0)) 63 (.int 0)))] H13 := hP13r
  have hD13 : va_D A [(ad1, ari (cy 0) 3 ct1), (ad2, ari (cy 3) 20 ct2), (ad0, ob 12 114 (vup (vup (vup (vup (vup (vup (vup (vup (vup (vup fn0 0 (.int 0)) 32 (.int 0)) 67 (.int 0)) 68 (.int (-1))) 69 (.int (-1))) 70 (.int (-1))) 71 (.int (-1))) 72 (.int 0)) 108 (.int 0)) 63 (.int 0)))] := hD13r
  clear hP13r hD13r
  clear hP12 hD12 hS12
  clear H12 lo12
  refine lv_aload_n (pc := 95) hx hb dX12_run_95 rfl (lv_at hl10 1 rfl) ?_
  refine lv_iconst (pc := 96) (v := 0) hx hb dX12_run_96 (by decide) ?_
  refine ob_put (pc := 97) (v := .int 0) (ci := 12) (C := RX12) (T := TX12) (N := 114) hx hb hG in_X12 tyX12 tyX12_ok nmX12 hown hK hP13 hD13 hS13 2 rfl rfl 107 (by decide) (hG _ g_511) rfl rfl rfl rfl dX12_run_97 (ws' := [(ad1, ari (cy 0) 3 ct1), (ad2, ari (cy 3) 20 ct2), (ad0, ob 12 114 (vup (vup (vup (vup (vup (vup (vup (vup (vup (vup (vup fn0 0 (.int 0)) 32 (.int 0)) 67 (.int 0)) 68 (.int (-1))) 69 (.int (-1))) 70 (.int (-1))) 71 (.int (-1))) 72 (.int 0)) 108 (.int 0)) 63 (.int 0)) 107 (.int 0)))]) rfl (fun H14 lo14 hP14 hD14 hS14 => ?_)
  clear hP13 hD13 hS13
  clear H13 lo13
  refine lv_aload_n (pc := 100) hx hb dX12_run_100 rfl (lv_at hl10 1 rfl) ?_
  refine lv_iload_n (pc := 101) hx hb dX12_run_101 rfl (lv_at hl10 2 rfl) ?_
  refine cq_i (pc := 102) (wr := [(ad1, ari (cy 0) 3 ct1), (ad2, ari (cy 3) 20 ct2)]) (k2 := 0) (n2 := 0) (va_runV (As := [.int 0]) (rest := []) ⟨hx, hb, hml, hown, hG⟩ (m_cut l D cy kv H14.size ad0 (vup (vup (vup (vup (vup (vup (vup (vup (vup (vup (vup fn0 0 (.int 0)) 32 (.int 0)) 67 (.int 0)) 68 (.int (-1))) 69 (.int (-1))) 70 (.int (-1))) 71 (.int (-1))) 72 (.int 0)) 108 (.int 0)) 63 (.int 0)) 107 (.int 0))) (cwV 1 hG (gi_V g_512 g_513 g_514 g_334 g_501) rfl rfl rfl (by decide +kernel) ⟨Nat.le_of_ble_eq_true rfl, Nat.le_of_ble_eq_true rfl⟩) ⟨pq_blind, (va_recv hK hP14 (ci := 12) (q0 := 2) rfl rfl), (pq_pass hP14 hD14 hK hE hS14 hA [2] rfl (by decide))⟩ rfl rfl hl10.1 rfl (lv_room (Nat.le_of_ble_eq_true rfl)) dX12_run_102 ⟨Nat.le_of_ble_eq_true rfl, Nat.le_of_ble_eq_true rfl⟩) hP14 hD14 hS14 hA [2] [0, 1] rfl rfl (by decide) (by decide) (by decide) (by decide) (fun r15 w15 H15 lo15 e15 hR15 hP15r hD15r hS15 => ?_)
  subst hR15
  subst e15
  have hP15 : va_P D classes [(ad1, ari (cy 0) 3 ct1), (ad2, ari (cy 3) 20 ct2), (ad0, ob 12 114 (vup (vup (vup (vup (vup (vup (vup (vup (vup (vup (vup (vup (vup (vup (vup fn0 0 (.int 0)) 32 (.int 0)) 67 (.int 0)) 68 (.int (-1))) 69 (.int (-1))) 70 (.int (-1))) 71 (.int (-1))) 72 (.int 0)) 108 (.int 0)) 63 (.int 0)) 107 (.int 0)) 62 (.int 0)) 65 (.int 0)) 66 (.int 0)) 66 (.int 0)))] H15 := hP15r
  have hD15 : va_D A [(ad1, ari (cy 0) 3 ct1), (ad2, ari (cy 3) 20 ct2), (ad0, ob 12 114 (vup (vup (vup (vup (vup (vup (vup (vup (vup (vup (vup (vup (vup (vup (vup fn0 0 (.int 0)) 32 (.int 0)) 67 (.int 0)) 68 (.int (-1))) 69 (.int (-1))) 70 (.int (-1))) 71 (.int (-1))) 72 (.int 0)) 108 (.int 0)) 63 (.int 0)) 107 (.int 0)) 62 (.int 0)) 65 (.int 0)) 66 (.int 0)) 66 (.int 0)))] := hD15r
  clear hP15r hD15r
  clear hP14 hD14 hS14
  clear H14 lo14
  refine lv_istore_n (pc := 105) (lv' := [(2, .int 0), (0, .ref ad0), (1, .int 0)]) hx hb dX12_run_105 rfl hl10 (by decide) rfl (fun ls16 hl16 => ?_)
  clear hl10 ls10
  refine lv_iload_n (pc := 106) hx hb dX12_run_106 rfl (lv_at hl16 0 rfl) ?_
  refine lv_if_eq (pc := 107) (tgt := 126) hx hb dX12_run_107 (by decide) (fun c17 => ?_) (fun c17 => absurd (by decide) c17)
  refine lv_aload_n (pc := 126) hx hb dX12_run_126 rfl (lv_at hl16 1 rfl) ?_
  refine cq_v (pc := 127) (wr := []) (k2 := 0) (n2 := 0) (va_runV (As := []) (rest := []) ⟨hx, hb, hml, hown, hG⟩ (m_putAliases l D cy kv H15.size ad0 (vup (vup (vup (vup (vup (vup (vup (vup (vup (vup (vup (vup (vup (vup (vup fn0 0 (.int 0)) 32 (.int 0)) 67 (.int 0)) 68 (.int (-1))) 69 (.int (-1))) 70 (.int (-1))) 71 (.int (-1))) 72 (.int 0)) 108 (.int 0)) 63 (.int 0)) 107 (.int 0)) 62 (.int 0)) 65 (.int 0)) 66 (.int 0)) 66 (.int 0)) ad1 ad2 ct1 ct2 h0_56 rfl rfl h0_73 k1_0 k1_1 k1_2) (cwV 0 hG (gi_V g_515 g_516 g_517 g_334 g_506) rfl rfl rfl (by decide +kernel) ⟨Nat.le_of_ble_eq_true rfl, Nat.le_of_ble_eq_true rfl⟩) ⟨pq_blind, (va_recv hK hP15 (ci := 12) (q0 := 2) rfl rfl), (pq_pass hP15 hD15 hK hE hS15 hA [2, 0, 1] rfl (by decide))⟩ rfl rfl hl16.1 rfl (lv_room (Nat.le_of_ble_eq_true rfl)) dX12_run_127 ⟨Nat.le_of_ble_eq_true rfl, Nat.le_of_ble_eq_true rfl⟩) hP15 hD15 hS15 hA [2, 0, 1] [] rfl rfl (by decide) (by decide) (by decide) (by decide) (fun w18 H18 lo18 hR18 hP18r hD18r hS18 => ?_)
  obtain ⟨nc18000, rfl⟩ := hR18
  have hP18 : va_P D classes [(ad1, ari (cy 0) 3 ct1), (ad2, ari (cy 3) 20 nc18000), (ad0, ob 12 114 (vup (vup (vup (vup (vup (vup (vup (vup (vup (vup (vup (vup (vup (vup (vup fn0 0 (.int 0)) 32 (.int 0)) 67 (.int 0)) 68 (.int (-1))) 69 (.int (-1))) 70 (.int (-1))) 71 (.int (-1))) 72 (.int 0)) 108 (.int 0)) 63 (.int 0)) 107 (.int 0)) 62 (.int 0)) 65 (.int 0)) 66 (.int 0)) 66 (.int 0)))] H18 := hP18r
  have hD18 : va_D A [(ad1, ari (cy 0) 3 ct1), (ad2, ari (cy 3) 20 nc18000), (ad0, ob 12 114 (vup (vup (vup (vup (vup (vup (vup (vup (vup (vup (vup (vup (vup (vup (vup fn0 0 (.int 0)) 32 (.int 0)) 67 (.int 0)) 68 (.int (-1))) 69 (.int (-1))) 70 (.int (-1))) 71 (.int (-1))) 72 (.int 0)) 108 (.int 0)) 63 (.int 0)) 107 (.int 0)) 62 (.int 0)) 65 (.int 0)) 66 (.int 0)) 66 (.int 0)))] := hD18r
  clear hP18r hD18r
  clear hP15 hD15 hS15
  clear H15 lo15
  refine lv_aload_n (pc := 130) hx hb dX12_run_130 rfl (lv_at hl16 1 rfl) ?_
  refine ob_get (pc := 131) (v := .int 0) (ci := 12) (C := RX12) (T := TX12) (N := 114) hx hb hG in_X12 hown hK hP18 2 rfl rfl 67 (by decide) (hG _ g_491) rfl rfl dX12_run_131 ?_
  refine lv_iconst (pc := 134) (v := 2) hx hb dX12_run_134 (by decide) ?_
  refine lv_icmp_eq (pc := 135) (tgt := 142) hx hb dX12_run_135 (by decide) (fun c19 => absurd c19 (by decide)) (fun c19 => ?_)
  refine lv_aload_n (pc := 138) hx hb dX12_run_138 rfl (lv_at hl16 1 rfl) ?_
  refine cq_v (pc := 139) (wr := [(ad1, ari (cy 0) 3 ct1), (ad2, ari (cy 3) 20 nc18000)]) (k2 := 0) (n2 := 0) (va_runV (As := []) (rest := []) ⟨hx, hb, hml, hown, hG⟩ (m_showWords l D cy kv H18.size ad0 (vup (vup (vup (vup (vup (vup (vup (vup (vup (vup (vup (vup (vup (vup (vup fn0 0 (.int 0)) 32 (.int 0)) 67 (.int 0)) 68 (.int (-1))) 69 (.int (-1))) 70 (.int (-1))) 71 (.int (-1))) 72 (.int 0)) 108 (.int 0)) 63 (.int 0)) 107 (.int 0)) 62 (.int 0)) 65 (.int 0)) 66 (.int 0)) 66 (.int 0)) rfl) (cwV 0 hG (gi_V g_518 g_519 g_520 g_334 g_502) rfl rfl rfl (by decide +kernel) ⟨Nat.le_of_ble_eq_true rfl, Nat.le_of_ble_eq_true rfl⟩) ⟨pq_blind, (va_recv hK hP18 (ci := 12) (q0 := 2) rfl rfl), (pq_pass hP18 hD18 hK hE hS18 hA [2] rfl (by decide))⟩ rfl rfl hl16.1 rfl (lv_room (Nat.le_of_ble_eq_true rfl)) dX12_run_139 ⟨Nat.le_of_ble_eq_true rfl, Nat.le_of_ble_eq_true rfl⟩) hP18 hD18 hS18 hA [2] [0, 1] rfl rfl (by decide) (by decide) (by decide) (by decide) (fun w20 H20 lo20 hR20 hP20r hD20r hS20 => ?_)
  subst hR20
  have hP20 : va_P D classes [(ad1, ari (cy 0) 3 ct1), (ad2, ari (cy 3) 20 nc18000), (ad0, ob 12 114 (vup (vup (vup (vup (vup (vup (vup (vup (vup (vup (vup (vup (vup (vup (vup (vup (vup fn0 0 (.int 0)) 32 (.int 0)) 67 (.int 0)) 68 (.int (-1))) 69 (.int (-1))) 70 (.int (-1))) 71 (.int (-1))) 72 (.int 0)) 108 (.int 0)) 63 (.int 0)) 107 (.int 0)) 62 (.int 0)) 65 (.int 0)) 66 (.int 0)) 66 (.int 0)) 63 (.int 0)) 72 (.int 0)))] H20 := hP20r
  have hD20 : va_D A [(ad1, ari (cy 0) 3 ct1), (ad2, ari (cy 3) 20 nc18000), (ad0, ob 12 114 (vup (vup (vup (vup (vup (vup (vup (vup (vup (vup (vup (vup (vup (vup (vup (vup (vup fn0 0 (.int 0)) 32 (.int 0)) 67 (.int 0)) 68 (.int (-1))) 69 (.int (-1))) 70 (.int (-1))) 71 (.int (-1))) 72 (.int 0)) 108 (.int 0)) 63 (.int 0)) 107 (.int 0)) 62 (.int 0)) 65 (.int 0)) 66 (.int 0)) 66 (.int 0)) 63 (.int 0)) 72 (.int 0)))] := hD20r
  clear hP20r hD20r
  clear hP18 hD18 hS18
  clear H18 lo18
  refine lv_aload_n (pc := 142) hx hb dX12_run_142 rfl (lv_at hl16 1 rfl) ?_
  refine lv_iconst (pc := 143) (v := 0) hx hb dX12_run_143 (by decide) ?_
  refine ob_put (pc := 144) (v := .int 0) (ci := 12) (C := RX12) (T := TX12) (N := 114) hx hb hG in_X12 tyX12 tyX12_ok nmX12 hown hK hP20 hD20 hS20 2 rfl rfl 88 (by decide) (hG _ g_521) rfl rfl rfl rfl dX12_run_144 (ws' := [(ad1, ari (cy 0) 3 ct1), (ad2, ari (cy 3) 20 nc18000), (ad0, ob 12 114 (vup (vup (vup (vup (vup (vup (vup (vup (vup (vup (vup (vup (vup (vup (vup (vup (vup (vup fn0 0 (.int 0)) 32 (.int 0)) 67 (.int 0)) 68 (.int (-1))) 69 (.int (-1))) 70 (.int (-1))) 71 (.int (-1))) 72 (.int 0)) 108 (.int 0)) 63 (.int 0)) 107 (.int 0)) 62 (.int 0)) 65 (.int 0)) 66 (.int 0)) 66 (.int 0)) 63 (.int 0)) 72 (.int 0)) 88 (.int 0)))]) rfl (fun H21 lo21 hP21 hD21 hS21 => ?_)
  clear hP20 hD20 hS20
  clear H20 lo20
  refine lv_aload_n (pc := 147) hx hb dX12_run_147 rfl (lv_at hl16 1 rfl) ?_
  refine cq_i (pc := 148) (wr := [(ad1, ari (cy 0) 3 ct1), (ad2, ari (cy 3) 20 nc18000)]) (k2 := 0) (n2 := 0) (va_runV (As := []) (rest := []) ⟨hx, hb, hml, hown, hG⟩ (m_unblamed0 l D cy kv H21.size ad0 (vup (vup (vup (vup (vup (vup (vup (vup (vup (vup (vup (vup (vup (vup (vup (vup (vup (vup fn0 0 (.int 0)) 32 (.int 0)) 67 (.int 0)) 68 (.int (-1))) 69 (.int (-1))) 70 (.int (-1))) 71 (.int (-1))) 72 (.int 0)) 108 (.int 0)) 63 (.int 0)) 107 (.int 0)) 62 (.int 0)) 65 (.int 0)) 66 (.int 0)) 66 (.int 0)) 63 (.int 0)) 72 (.int 0)) 88 (.int 0)) rfl) (cwV 0 hG (gi_V g_503 g_504 g_505 g_334 g_496) rfl rfl rfl (by decide +kernel) ⟨Nat.le_of_ble_eq_true rfl, Nat.le_of_ble_eq_true rfl⟩) ⟨pq_blind, (va_recv hK hP21 (ci := 12) (q0 := 2) rfl rfl), (pq_pass hP21 hD21 hK hE hS21 hA [2] rfl (by decide))⟩ rfl rfl hl16.1 rfl (lv_room (Nat.le_of_ble_eq_true rfl)) dX12_run_148 ⟨Nat.le_of_ble_eq_true rfl, Nat.le_of_ble_eq_true rfl⟩) hP21 hD21 hS21 hA [2] [0, 1] rfl rfl (by decide) (by decide) (by decide) (by decide) (fun r22 w22 H22 lo22 e22 hR22 hP22r hD22r hS22 => ?_)
  subst hR22
  subst e22
  have hP22 : va_P D classes [(ad1, ari (cy 0) 3 ct1), (ad2, ari (cy 3) 20 nc18000), (ad0, ob 12 114 (vup (vup (vup (vup (vup (vup (vup (vup (vup (vup (vup (vup (vup (vup (vup (vup (vup (vup fn0 0 (.int 0)) 32 (.int 0)) 67 (.int 0)) 68 (.int (-1))) 69 (.int (-1))) 70 (.int (-1))) 71 (.int (-1))) 72 (.int 0)) 108 (.int 0)) 63 (.int 0)) 107 (.int 0)) 62 (.int 0)) 65 (.int 0)) 66 (.int 0)) 66 (.int 0)) 63 (.int 0)) 72 (.int 0)) 88 (.int 0)))] H22 := hP22r
  have hD22 : va_D A [(ad1, ari (cy 0) 3 ct1), (ad2, ari (cy 3) 20 nc18000), (ad0, ob 12 114 (vup (vup (vup (vup (vup (vup (vup (vup (vup (vup (vup (vup (vup (vup (vup (vup (vup (vup fn0 0 (.int 0)) 32 (.int 0)) 67 (.int 0)) 68 (.int (-1))) 69 (.int (-1))) 70 (.int (-1))) 71 (.int (-1))) 72 (.int 0)) 108 (.int 0)) 63 (.int 0)) 107 (.int 0)) 62 (.int 0)) 65 (.int 0)) 66 (.int 0)) 66 (.int 0)) 63 (.int 0)) 72 (.int 0)) 88 (.int 0)))] := hD22r
  clear hP22r hD22r
  clear hP21 hD21 hS21
  clear H21 lo21
  refine lv_if_eq (pc := 151) (tgt := 169) hx hb dX12_run_151 (by decide) (fun c23 => absurd c23 (by decide)) (fun c23 => ?_)
  refine lv_aload_n (pc := 154) hx hb dX12_run_154 rfl (lv_at hl16 1 rfl) ?_
  refine ob_get (pc := 155) (v := .int 0) (ci := 12) (C := RX12) (T := TX12) (N := 114) hx hb hG in_X12 hown hK hP22 2 rfl rfl 62 (by decide) (hG _ g_498) rfl rfl dX12_run_155 ?_
  refine lv_if_ne (pc := 158) (tgt := 169) hx hb dX12_run_158 (by decide) (fun c24 => absurd (by decide) c24) (fun c24 => ?_)
  refine lv_aload_n (pc := 161) hx hb dX12_run_161 rfl (lv_at hl16 1 rfl) ?_
  refine lv_iconst (pc := 162) (v := 4) hx hb dX12_run_162 (by decide) ?_
  refine lv_iconst (pc := 163) (v := (-1)) hx hb dX12_run_163 (by decide) ?_
  refine lv_iconst (pc := 164) (v := 0) hx hb dX12_run_164 (by decide) ?_
  refine lv_iconst (pc := 165) (v := (-1)) hx hb dX12_run_165 (by decide) ?_
  refine cq_v (pc := 166) (wr := [(ad1, ari (cy 0) 3 ct1), (ad2, ari (cy 3) 20 nc18000)]) (k2 := 0) (n2 := 0) (va_runV (As := [.int 4, .int (-1), .int 0, .int (-1)]) (rest := []) ⟨hx, hb, hml, hown, hG⟩ (m_blames l D cy kv H22.size ad0 (vup (vup (vup (vup (vup (vup (vup (vup (vup (vup (vup (vup (vup (vup (vup (vup (vup (vup fn0 0 (.int 0)) 32 (.int 0)) 67 (.int 0)) 68 (.int (-1))) 69 (.int (-1))) 70 (.int (-1))) 71 (.int (-1))) 72 (.int 0)) 108 (.int 0)) 63 (.int 0)) 107 (.int 0)) 62 (.int 0)) 65 (.int 0)) 66 (.int 0)) 66 (.int 0)) 63 (.int 0)) 72 (.int 0)) 88 (.int 0)) rfl) (cwV 4 hG (gi_V g_522 g_523 g_524 g_334 g_497) rfl rfl rfl (by decide +kernel) ⟨Nat.le_of_ble_eq_true rfl, Nat.le_of_ble_eq_true rfl⟩) ⟨pq_blind, (va_recv hK hP22 (ci := 12) (q0 := 2) rfl rfl), (pq_pass hP22 hD22 hK hE hS22 hA [2] rfl (by decide))⟩ rfl rfl hl16.1 rfl (lv_room (Nat.le_of_ble_eq_true rfl)) dX12_run_166 ⟨Nat.le_of_ble_eq_true rfl, Nat.le_of_ble_eq_true rfl⟩) hP22 hD22 hS22 hA [2] [0, 1] rfl rfl (by decide) (by decide) (by decide) (by decide) (fun w25 H25 lo25 hR25 hP25r hD25r hS25 => ?_)
  subst hR25
  have hP25 : va_P D classes [(ad1, ari (cy 0) 3 ct1), (ad2, ari (cy 3) 20 nc18000), (ad0, ob 12 114 (vup (vup (vup (vup (vup (vup (vup (vup (vup (vup (vup (vup (vup (vup (vup (vup (vup (vup (vup (vup (vup (vup fn0 0 (.int 0)) 32 (.int 0)) 67 (.int 0)) 68 (.int (-1))) 69 (.int (-1))) 70 (.int (-1))) 71 (.int (-1))) 72 (.int 0)) 108 (.int 0)) 63 (.int 0)) 107 (.int 0)) 62 (.int 0)) 65 (.int 0)) 66 (.int 0)) 66 (.int 0)) 63 (.int 0)) 72 (.int 0)) 88 (.int 0)) 67 (.int 4)) 68 (.int (-1))) 69 (.int 0)) 70 (.int (-1))))] H25 := hP25r
  have hD25 : va_D A [(ad1, ari (cy 0) 3 ct1), (ad2, ari (cy 3) 20 nc18000), (ad0, ob 12 114 (vup (vup (vup (vup (vup (vup (vup (vup (vup (vup (vup (vup (vup (vup (vup (vup (vup (vup (vup (vup (vup (vup fn0 0 (.int 0)) 32 (.int 0)) 67 (.int 0)) 68 (.int (-1))) 69 (.int (-1))) 70 (.int (-1))) 71 (.int (-1))) 72 (.int 0)) 108 (.int 0)) 63 (.int 0)) 107 (.int 0)) 62 (.int 0)) 65 (.int 0)) 66 (.int 0)) 66 (.int 0)) 63 (.int 0)) 72 (.int 0)) 88 (.int 0)) 67 (.int 4)) 68 (.int (-1))) 69 (.int 0)) 70 (.int (-1))))] := hD25r
  clear hP25r hD25r
  clear hP22 hD22 hS22
  clear H22 lo22
  refine lv_aload_n (pc := 169) hx hb dX12_run_169 rfl (lv_at hl16 1 rfl) ?_
  refine cq_i (pc := 170) (wr := [(ad1, ari (cy 0) 3 ct1), (ad2, ari (cy 3) 20 nc18000)]) (k2 := 0) (n2 := 0) (va_runV (As := []) (rest := []) ⟨hx, hb, hml, hown, hG⟩ (m_unblamed4 l D cy kv H25.size ad0 (vup (vup (vup (vup (vup (vup (vup (vup (vup (vup (vup (vup (vup (vup (vup (vup (vup (vup (vup (vup (vup (vup fn0 0 (.int 0)) 32 (.int 0)) 67 (.int 0)) 68 (.int (-1))) 69 (.int (-1))) 70 (.int (-1))) 71 (.int (-1))) 72 (.int 0)) 108 (.int 0)) 63 (.int 0)) 107 (.int 0)) 62 (.int 0)) 65 (.int 0)) 66 (.int 0)) 66 (.int 0)) 63 (.int 0)) 72 (.int 0)) 88 (.int 0)) 67 (.int 4)) 68 (.int (-1))) 69 (.int 0)) 70 (.int (-1))) rfl) (cwV 0 hG (gi_V g_503 g_504 g_505 g_334 g_496) rfl rfl rfl (by decide +kernel) ⟨Nat.le_of_ble_eq_true rfl, Nat.le_of_ble_eq_true rfl⟩) ⟨pq_blind, (va_recv hK hP25 (ci := 12) (q0 := 2) rfl rfl), (pq_pass hP25 hD25 hK hE hS25 hA [2] rfl (by decide))⟩ rfl rfl hl16.1 rfl (lv_room (Nat.le_of_ble_eq_true rfl)) dX12_run_170 ⟨Nat.le_of_ble_eq_true rfl, Nat.le_of_ble_eq_true rfl⟩) hP25 hD25 hS25 hA [2] [0, 1] rfl rfl (by decide) (by decide) (by decide) (by decide) (fun r26 w26 H26 lo26 e26 hR26 hP26r hD26r hS26 => ?_)
  subst hR26
  subst e26
  have hP26 : va_P D classes [(ad1, ari (cy 0) 3 ct1), (ad2, ari (cy 3) 20 nc18000), (ad0, ob 12 114 (vup (vup (vup (vup (vup (vup (vup (vup (vup (vup (vup (vup (vup (vup (vup (vup (vup (vup (vup (vup (vup (vup fn0 0 (.int 0)) 32 (.int 0)) 67 (.int 0)) 68 (.int (-1))) 69 (.int (-1))) 70 (.int (-1))) 71 (.int (-1))) 72 (.int 0)) 108 (.int 0)) 63 (.int 0)) 107 (.int 0)) 62 (.int 0)) 65 (.int 0)) 66 (.int 0)) 66 (.int 0)) 63 (.int 0)) 72 (.int 0)) 88 (.int 0)) 67 (.int 4)) 68 (.int (-1))) 69 (.int 0)) 70 (.int (-1))))] H26 := hP26r
  have hD26 : va_D A [(ad1, ari (cy 0) 3 ct1), (ad2, ari (cy 3) 20 nc18000), (ad0, ob 12 114 (vup (vup (vup (vup (vup (vup (vup (vup (vup (vup (vup (vup (vup (vup (vup (vup (vup (vup (vup (vup (vup (vup fn0 0 (.int 0)) 32 (.int 0)) 67 (.int 0)) 68 (.int (-1))) 69 (.int (-1))) 70 (.int (-1))) 71 (.int (-1))) 72 (.int 0)) 108 (.int 0)) 63 (.int 0)) 107 (.int 0)) 62 (.int 0)) 65 (.int 0)) 66 (.int 0)) 66 (.int 0)) 63 (.int 0)) 72 (.int 0)) 88 (.int 0)) 67 (.int 4)) 68 (.int (-1))) 69 (.int 0)) 70 (.int (-1))))] := hD26r
  clear hP26r hD26r
  clear hP25 hD25 hS25
  clear H25 lo25
  refine lv_if_eq (pc := 173) (tgt := 180) hx hb dX12_run_173 (by decide) (fun c27 => ?_) (fun c27 => absurd (by decide) c27)
  refine lv_aload_n (pc := 180) hx hb dX12_run_180 rfl (lv_at hl16 1 rfl) ?_
  refine cq_i (pc := 181) (wr := [(ad1, ari (cy 0) 3 ct1), (ad2, ari (cy 3) 20 nc18000)]) (k2 := 0) (n2 := 0) (va_runV (As := []) (rest := []) ⟨hx, hb, hml, hown, hG⟩ (m_unblamed4 l D cy kv H26.size ad0 (vup (vup (vup (vup (vup (vup (vup (vup (vup (vup (vup (vup (vup (vup (vup (vup (vup (vup (vup (vup (vup (vup fn0 0 (.int 0)) 32 (.int 0)) 67 (.int 0)) 68 (.int (-1))) 69 (.int (-1))) 70 (.int (-1))) 71 (.int (-1))) 72 (.int 0)) 108 (.int 0)) 63 (.int 0)) 107 (.int 0)) 62 (.int 0)) 65 (.int 0)) 66 (.int 0)) 66 (.int 0)) 63 (.int 0)) 72 (.int 0)) 88 (.int 0)) 67 (.int 4)) 68 (.int (-1))) 69 (.int 0)) 70 (.int (-1))) rfl) (cwV 0 hG (gi_V g_503 g_504 g_505 g_334 g_496) rfl rfl rfl (by decide +kernel) ⟨Nat.le_of_ble_eq_true rfl, Nat.le_of_ble_eq_true rfl⟩) ⟨pq_blind, (va_recv hK hP26 (ci := 12) (q0 := 2) rfl rfl), (pq_pass hP26 hD26 hK hE hS26 hA [2] rfl (by decide))⟩ rfl rfl hl16.1 rfl (lv_room (Nat.le_of_ble_eq_true rfl)) dX12_run_181 ⟨Nat.le_of_ble_eq_true rfl, Nat.le_of_ble_eq_true rfl⟩) hP26 hD26 hS26 hA [2] [0, 1] rfl rfl (by decide) (by decide) (by decide) (by decide) (fun r28 w28 H28 lo28 e28 hR28 hP28r hD28r hS28 => ?_)
  subst hR28
  subst e28
  have hP28 : va_P D classes [(ad1, ari (cy 0) 3 ct1), (ad2, ari (cy 3) 20 nc18000), (ad0, ob 12 114 (vup (vup (vup (vup (vup (vup (vup (vup (vup (vup (vup (vup (vup (vup (vup (vup (vup (vup (vup (vup (vup (vup fn0 0 (.int 0)) 32 (.int 0)) 67 (.int 0)) 68 (.int (-1))) 69 (.int (-1))) 70 (.int (-1))) 71 (.int (-1))) 72 (.int 0)) 108 (.int 0)) 63 (.int 0)) 107 (.int 0)) 62 (.int 0)) 65 (.int 0)) 66 (.int 0)) 66 (.int 0)) 63 (.int 0)) 72 (.int 0)) 88 (.int 0)) 67 (.int 4)) 68 (.int (-1))) 69 (.int 0)) 70 (.int (-1))))] H28 := hP28r
  have hD28 : va_D A [(ad1, ari (cy 0) 3 ct1), (ad2, ari (cy 3) 20 nc18000), (ad0, ob 12 114 (vup (vup (vup (vup (vup (vup (vup (vup (vup (vup (vup (vup (vup (vup (vup (vup (vup (vup (vup (vup (vup (vup fn0 0 (.int 0)) 32 (.int 0)) 67 (.int 0)) 68 (.int (-1))) 69 (.int (-1))) 70 (.int (-1))) 71 (.int (-1))) 72 (.int 0)) 108 (.int 0)) 63 (.int 0)) 107 (.int 0)) 62 (.int 0)) 65 (.int 0)) 66 (.int 0)) 66 (.int 0)) 63 (.int 0)) 72 (.int 0)) 88 (.int 0)) 67 (.int 4)) 68 (.int (-1))) 69 (.int 0)) 70 (.int (-1))))] := hD28r
  clear hP28r hD28r
  clear hP26 hD26 hS26
  clear H26 lo26
  refine lv_if_eq (pc := 184) (tgt := 191) hx hb dX12_run_184 (by decide) (fun c29 => ?_) (fun c29 => absurd (by decide) c29)
  refine lv_aload_n (pc := 191) hx hb dX12_run_191 rfl (lv_at hl16 1 rfl) ?_
  refine cq_i (pc := 192) (wr := [(ad1, ari (cy 0) 3 ct1), (ad2, ari (cy 3) 20 nc18000)]) (k2 := 0) (n2 := 0) (va_runV (As := []) (rest := []) ⟨hx, hb, hml, hown, hG⟩ (m_unblamed4 l D cy kv H28.size ad0 (vup (vup (vup (vup (vup (vup (vup (vup (vup (vup (vup (vup (vup (vup (vup (vup (vup (vup (vup (vup (vup (vup fn0 0 (.int 0)) 32 (.int 0)) 67 (.int 0)) 68 (.int (-1))) 69 (.int (-1))) 70 (.int (-1))) 71 (.int (-1))) 72 (.int 0)) 108 (.int 0)) 63 (.int 0)) 107 (.int 0)) 62 (.int 0)) 65 (.int 0)) 66 (.int 0)) 66 (.int 0)) 63 (.int 0)) 72 (.int 0)) 88 (.int 0)) 67 (.int 4)) 68 (.int (-1))) 69 (.int 0)) 70 (.int (-1))) rfl) (cwV 0 hG (gi_V g_503 g_504 g_505 g_334 g_496) rfl rfl rfl (by decide +kernel) ⟨Nat.le_of_ble_eq_true rfl, Nat.le_of_ble_eq_true rfl⟩) ⟨pq_blind, (va_recv hK hP28 (ci := 12) (q0 := 2) rfl rfl), (pq_pass hP28 hD28 hK hE hS28 hA [2] rfl (by decide))⟩ rfl rfl hl16.1 rfl (lv_room (Nat.le_of_ble_eq_true rfl)) dX12_run_192 ⟨Nat.le_of_ble_eq_true rfl, Nat.le_of_ble_eq_true rfl⟩) hP28 hD28 hS28 hA [2] [0, 1] rfl rfl (by decide) (by decide) (by decide) (by decide) (fun r30 w30 H30 lo30 e30 hR30 hP30r hD30r hS30 => ?_)
  subst hR30
  subst e30
  have hP30 : va_P D classes [(ad1, ari (cy 0) 3 ct1), (ad2, ari (cy 3) 20 nc18000), (ad0, ob 12 114 (vup (vup (vup (vup (vup (vup (vup (vup (vup (vup (vup (vup (vup (vup (vup (vup (vup (vup (vup (vup (vup (vup fn0 0 (.int 0)) 32 (.int 0)) 67 (.int 0)) 68 (.int (-1))) 69 (.int (-1))) 70 (.int (-1))) 71 (.int (-1))) 72 (.int 0)) 108 (.int 0)) 63 (.int 0)) 107 (.int 0)) 62 (.int 0)) 65 (.int 0)) 66 (.int 0)) 66 (.int 0)) 63 (.int 0)) 72 (.int 0)) 88 (.int 0)) 67 (.int 4)) 68 (.int (-1))) 69 (.int 0)) 70 (.int (-1))))] H30 := hP30r
  have hD30 : va_D A [(ad1, ari (cy 0) 3 ct1), (ad2, ari (cy 3) 20 nc18000), (ad0, ob 12 114 (vup (vup (vup (vup (vup (vup (vup (vup (vup (vup (vup (vup (vup (vup (vup (vup (vup (vup (vup (vup (vup (vup fn0 0 (.int 0)) 32 (.int 0)) 67 (.int 0)) 68 (.int (-1))) 69 (.int (-1))) 70 (.int (-1))) 71 (.int (-1))) 72 (.int 0)) 108 (.int 0)) 63 (.int 0)) 107 (.int 0)) 62 (.int 0)) 65 (.int 0)) 66 (.int 0)) 66 (.int 0)) 63 (.int 0)) 72 (.int 0)) 88 (.int 0)) 67 (.int 4)) 68 (.int (-1))) 69 (.int 0)) 70 (.int (-1))))] := hD30r
  clear hP30r hD30r
  clear hP28 hD28 hS28
  clear H28 lo28
  refine lv_if_eq (pc := 195) (tgt := 206) hx hb dX12_run_195 (by decide) (fun c31 => ?_) (fun c31 => absurd (by decide) c31)
  refine lv_iconst (pc := 206) (v := 0) hx hb dX12_run_206 (by decide) ?_
  refine lv_istore_n (pc := 207) (lv' := [(3, .int 0), (2, .int 0), (0, .ref ad0), (1, .int 0)]) hx hb dX12_run_207 rfl hl16 (by decide) rfl (fun ls32 hl32 => ?_)
  clear hl16 ls16
  refine lv_aload_n (pc := 208) hx hb dX12_run_208 rfl (lv_at hl32 2 rfl) ?_
  refine cq_i (pc := 209) (wr := [(ad1, ari (cy 0) 3 ct1), (ad2, ari (cy 3) 20 nc18000)]) (k2 := 0) (n2 := 0) (va_runV (As := []) (rest := []) ⟨hx, hb, hml, hown, hG⟩ (m_unblamed4 l D cy kv H30.size ad0 (vup (vup (vup (vup (vup (vup (vup (vup (vup (vup (vup (vup (vup (vup (vup (vup (vup (vup (vup (vup (vup (vup fn0 0 (.int 0)) 32 (.int 0)) 67 (.int 0)) 68 (.int (-1))) 69 (.int (-1))) 70 (.int (-1))) 71 (.int (-1))) 72 (.int 0)) 108 (.int 0)) 63 (.int 0)) 107 (.int 0)) 62 (.int 0)) 65 (.int 0)) 66 (.int 0)) 66 (.int 0)) 63 (.int 0)) 72 (.int 0)) 88 (.int 0)) 67 (.int 4)) 68 (.int (-1))) 69 (.int 0)) 70 (.int (-1))) rfl) (cwV 0 hG (gi_V g_503 g_504 g_505 g_334 g_496) rfl rfl rfl (by decide +kernel) ⟨Nat.le_of_ble_eq_true rfl, Nat.le_of_ble_eq_true rfl⟩) ⟨pq_blind, (va_recv hK hP30 (ci := 12) (q0 := 2) rfl rfl), (pq_pass hP30 hD30 hK hE hS30 hA [2] rfl (by decide))⟩ rfl rfl hl32.1 rfl (lv_room (Nat.le_of_ble_eq_true rfl)) dX12_run_209 ⟨Nat.le_of_ble_eq_true rfl, Nat.le_of_ble_eq_true rfl⟩) hP30 hD30 hS30 hA [2] [0, 1] rfl rfl (by decide) (by decide) (by decide) (by decide) (fun r33 w33 H33 lo33 e33 hR33 hP33r hD33r hS33 => ?_)
  subst hR33
  subst e33
  have hP33 : va_P D classes [(ad1, ari (cy 0) 3 ct1), (ad2, ari (cy 3) 20 nc18000), (ad0, ob 12 114 (vup (vup (vup (vup (vup (vup (vup (vup (vup (vup (vup (vup (vup (vup (vup (vup (vup (vup (vup (vup (vup (vup fn0 0 (.int 0)) 32 (.int 0)) 67 (.int 0)) 68 (.int (-1))) 69 (.int (-1))) 70 (.int (-1))) 71 (.int (-1))) 72 (.int 0)) 108 (.int 0)) 63 (.int 0)) 107 (.int 0)) 62 (.int 0)) 65 (.int 0)) 66 (.int 0)) 66 (.int 0)) 63 (.int 0)) 72 (.int 0)) 88 (.int 0)) 67 (.int 4)) 68 (.int (-1))) 69 (.int 0)) 70 (.int (-1))))] H33 := hP33r
  have hD33 : va_D A [(ad1, ari (cy 0) 3 ct1), (ad2, ari (cy 3) 20 nc18000), (ad0, ob 12 114 (vup (vup (vup (vup (vup (vup (vup (vup (vup (vup (vup (vup (vup (vup (vup (vup (vup (vup (vup (vup (vup (vup fn0 0 (.int 0)) 32 (.int 0)) 67 (.int 0)) 68 (.int (-1))) 69 (.int (-1))) 70 (.int (-1))) 71 (.int (-1))) 72 (.int 0)) 108 (.int 0)) 63 (.int 0)) 107 (.int 0)) 62 (.int 0)) 65 (.int 0)) 66 (.int 0)) 66 (.int 0)) 63 (.int 0)) 72 (.int 0)) 88 (.int 0)) 67 (.int 4)) 68 (.int (-1))) 69 (.int 0)) 70 (.int (-1))))] := hD33r
  clear hP33r hD33r
  clear hP30 hD30 hS30
  clear H30 lo30
  refine lv_if_eq (pc := 212) (tgt := 256) hx hb dX12_run_212 (by decide) (fun c34 => ?_) (fun c34 => absurd (by decide) c34)
  refine lv_iconst (pc := 256) (v := 0) hx hb dX12_run_256 (by decide) ?_
  refine lv_istore_n (pc := 257) (lv' := [(3, .int 0), (2, .int 0), (0, .ref ad0), (1, .int 0)]) hx hb dX12_run_257 rfl hl32 (by decide) rfl (fun ls35 hl35 => ?_)
  clear hl32 ls32
  refine lv_aload_n (pc := 258) hx hb dX12_run_258 rfl (lv_at hl35 2 rfl) ?_
  refine cq_i (pc := 259) (wr := [(ad1, ari (cy 0) 3 ct1), (ad2, ari (cy 3) 20 nc18000)]) (k2 := 0) (n2 := 0) (va_runV (As := []) (rest := []) ⟨hx, hb, hml, hown, hG⟩ (m_unblamed4 l D cy kv H33.size ad0 (vup (vup (vup (vup (vup (vup (vup (vup (vup (vup (vup (vup (vup (vup (vup (vup (vup (vup (vup (vup (vup (vup fn0 0 (.int 0)) 32 (.int 0)) 67 (.int 0)) 68 (.int (-1))) 69 (.int (-1))) 70 (.int (-1))) 71 (.int (-1))) 72 (.int 0)) 108 (.int 0)) 63 (.int 0)) 107 (.int 0)) 62 (.int 0)) 65 (.int 0)) 66 (.int 0)) 66 (.int 0)) 63 (.int 0)) 72 (.int 0)) 88 (.int 0)) 67 (.int 4)) 68 (.int (-1))) 69 (.int 0)) 70 (.int (-1))) rfl) (cwV 0 hG (gi_V g_503 g_504 g_505 g_334 g_496) rfl rfl rfl (by decide +kernel) ⟨Nat.le_of_ble_eq_true rfl, Nat.le_of_ble_eq_true rfl⟩) ⟨pq_blind, (va_recv hK hP33 (ci := 12) (q0 := 2) rfl rfl), (pq_pass hP33 hD33 hK hE hS33 hA [2] rfl (by decide))⟩ rfl rfl hl35.1 rfl (lv_room (Nat.le_of_ble_eq_true rfl)) dX12_run_259 ⟨Nat.le_of_ble_eq_true rfl, Nat.le_of_ble_eq_true rfl⟩) hP33 hD33 hS33 hA [2] [0, 1] rfl rfl (by decide) (by decide) (by decide) (by decide) (fun r36 w36 H36 lo36 e36 hR36 hP36r hD36r hS36 => ?_)
  subst hR36
  subst e36
  have hP36 : va_P D classes [(ad1, ari (cy 0) 3 ct1), (ad2, ari (cy 3) 20 nc18000), (ad0, ob 12 114 (vup (vup (vup (vup (vup (vup (vup (vup (vup (vup (vup (vup (vup (vup (vup (vup (vup (vup (vup (vup (vup (vup fn0 0 (.int 0)) 32 (.int 0)) 67 (.int 0)) 68 (.int (-1))) 69 (.int (-1))) 70 (.int (-1))) 71 (.int (-1))) 72 (.int 0)) 108 (.int 0)) 63 (.int 0)) 107 (.int 0)) 62 (.int 0)) 65 (.int 0)) 66 (.int 0)) 66 (.int 0)) 63 (.int 0)) 72 (.int 0)) 88 (.int 0)) 67 (.int 4)) 68 (.int (-1))) 69 (.int 0)) 70 (.int (-1))))] H36 := hP36r
  have hD36 : va_D A [(ad1, ari (cy 0) 3 ct1), (ad2, ari (cy 3) 20 nc18000), (ad0, ob 12 114 (vup (vup (vup (vup (vup (vup (vup (vup (vup (vup (vup (vup (vup (vup (vup (vup (vup (vup (vup (vup (vup (vup fn0 0 (.int 0)) 32 (.int 0)) 67 (.int 0)) 68 (.int (-1))) 69 (.int (-1))) 70 (.int (-1))) 71 (.int (-1))) 72 (.int 0)) 108 (.int 0)) 63 (.int 0)) 107 (.int 0)) 62 (.int 0)) 65 (.int 0)) 66 (.int 0)) 66 (.int 0)) 63 (.int 0)) 72 (.int 0)) 88 (.int 0)) 67 (.int 4)) 68 (.int (-1))) 69 (.int 0)) 70 (.int (-1))))] := hD36r
  clear hP36r hD36r
  clear hP33 hD33 hS33
  clear H33 lo33
  refine lv_if_eq (pc := 262) (tgt := 297) hx hb dX12_run_262 (by decide) (fun c37 => ?_) (fun c37 => absurd (by decide) c37)
  refine lv_aload_n (pc := 297) hx hb dX12_run_297 rfl (lv_at hl35 2 rfl) ?_
  refine cq_i (pc := 298) (wr := [(ad1, ari (cy 0) 3 ct1), (ad2, ari (cy 3) 20 nc18000)]) (k2 := 0) (n2 := 0) (va_runV (As := []) (rest := []) ⟨hx, hb, hml, hown, hG⟩ (m_unblamed4 l D cy kv H36.size ad0 (vup (vup (vup (vup (vup (vup (vup (vup (vup (vup (vup (vup (vup (vup (vup (vup (vup (vup (vup (vup (vup (vup fn0 0 (.int 0)) 32 (.int 0)) 67 (.int 0)) 68 (.int (-1))) 69 (.int (-1))) 70 (.int (-1))) 71 (.int (-1))) 72 (.int 0)) 108 (.int 0)) 63 (.int 0)) 107 (.int 0)) 62 (.int 0)) 65 (.int 0)) 66 (.int 0)) 66 (.int 0)) 63 (.int 0)) 72 (.int 0)) 88 (.int 0)) 67 (.int 4)) 68 (.int (-1))) 69 (.int 0)) 70 (.int (-1))) rfl) (cwV 0 hG (gi_V g_503 g_504 g_505 g_334 g_496) rfl rfl rfl (by decide +kernel) ⟨Nat.le_of_ble_eq_true rfl, Nat.le_of_ble_eq_true rfl⟩) ⟨pq_blind, (va_recv hK hP36 (ci := 12) (q0 := 2) rfl rfl), (pq_pass hP36 hD36 hK hE hS36 hA [2] rfl (by decide))⟩ rfl rfl hl35.1 rfl (lv_room (Nat.le_of_ble_eq_true rfl)) dX12_run_298 ⟨Nat.le_of_ble_eq_true rfl, Nat.le_of_ble_eq_true rfl⟩) hP36 hD36 hS36 hA [2] [0, 1] rfl rfl (by decide) (by decide) (by decide) (by decide) (fun r38 w38 H38 lo38 e38 hR38 hP38r hD38r hS38 => ?_)
  subst hR38
  subst e38
  have hP38 : va_P D classes [(ad1, ari (cy 0) 3 ct1), (ad2, ari (cy 3) 20 nc18000), (ad0, ob 12 114 (vup (vup (vup (vup (vup (vup (vup (vup (vup (vup (vup (vup (vup (vup (vup (vup (vup (vup (vup (vup (vup (vup fn0 0 (.int 0)) 32 (.int 0)) 67 (.int 0)) 68 (.int (-1))) 69 (.int (-1))) 70 (.int (-1))) 71 (.int (-1))) 72 (.int 0)) 108 (.int 0)) 63 (.int 0)) 107 (.int 0)) 62 (.int 0)) 65 (.int 0)) 66 (.int 0)) 66 (.int 0)) 63 (.int 0)) 72 (.int 0)) 88 (.int 0)) 67 (.int 4)) 68 (.int (-1))) 69 (.int 0)) 70 (.int (-1))))] H38 := hP38r
  have hD38 : va_D A [(ad1, ari (cy 0) 3 ct1), (ad2, ari (cy 3) 20 nc18000), (ad0, ob 12 114 (vup (vup (vup (vup (vup (vup (vup (vup (vup (vup (vup (vup (vup (vup (vup (vup (vup (vup (vup (vup (vup (vup fn0 0 (.int 0)) 32 (.int 0)) 67 (.int 0)) 68 (.int (-1))) 69 (.int (-1))) 70 (.int (-1))) 71 (.int (-1))) 72 (.int 0)) 108 (.int 0)) 63 (.int 0)) 107 (.int 0)) 62 (.int 0)) 65 (.int 0)) 66 (.int 0)) 66 (.int 0)) 63 (.int 0)) 72 (.int 0)) 88 (.int 0)) 67 (.int 4)) 68 (.int (-1))) 69 (.int 0)) 70 (.int (-1))))] := hD38r
  clear hP38r hD38r
  clear hP36 hD36 hS36
  clear H36 lo36
  refine lv_if_eq (pc := 301) (tgt := 367) hx hb dX12_run_301 (by decide) (fun c39 => ?_) (fun c39 => absurd (by decide) c39)
  refine lv_aload_n (pc := 367) hx hb dX12_run_367 rfl (lv_at hl35 2 rfl) ?_
  refine cq_i (pc := 368) (wr := [(ad1, ari (cy 0) 3 ct1), (ad2, ari (cy 3) 20 nc18000)]) (k2 := 0) (n2 := 0) (va_runV (As := []) (rest := []) ⟨hx, hb, hml, hown, hG⟩ (m_unblamed4 l D cy kv H38.size ad0 (vup (vup (vup (vup (vup (vup (vup (vup (vup (vup (vup (vup (vup (vup (vup (vup (vup (vup (vup (vup (vup (vup fn0 0 (.int 0)) 32 (.int 0)) 67 (.int 0)) 68 (.int (-1))) 69 (.int (-1))) 70 (.int (-1))) 71 (.int (-1))) 72 (.int 0)) 108 (.int 0)) 63 (.int 0)) 107 (.int 0)) 62 (.int 0)) 65 (.int 0)) 66 (.int 0)) 66 (.int 0)) 63 (.int 0)) 72 (.int 0)) 88 (.int 0)) 67 (.int 4)) 68 (.int (-1))) 69 (.int 0)) 70 (.int (-1))) rfl) (cwV 0 hG (gi_V g_503 g_504 g_505 g_334 g_496) rfl rfl rfl (by decide +kernel) ⟨Nat.le_of_ble_eq_true rfl, Nat.le_of_ble_eq_true rfl⟩) ⟨pq_blind, (va_recv hK hP38 (ci := 12) (q0 := 2) rfl rfl), (pq_pass hP38 hD38 hK hE hS38 hA [2] rfl (by decide))⟩ rfl rfl hl35.1 rfl (lv_room (Nat.le_of_ble_eq_true rfl)) dX12_run_368 ⟨Nat.le_of_ble_eq_true rfl, Nat.le_of_ble_eq_true rfl⟩) hP38 hD38 hS38 hA [2] [0, 1] rfl rfl (by decide) (by decide) (by decide) (by decide) (fun r40 w40 H40 lo40 e40 hR40 hP40r hD40r hS40 => ?_)
  subst hR40
  subst e40
  have hP40 : va_P D classes [(ad1, ari (cy 0) 3 ct1), (ad2, ari (cy 3) 20 nc18000), (ad0, ob 12 114 (vup (vup (vup (vup (vup (vup (vup (vup (vup (vup (vup (vup (vup (vup (vup (vup (vup (vup (vup (vup (vup (vup fn0 0 (.int 0)) 32 (.int 0)) 67 (.int 0)) 68 (.int (-1))) 69 (.int (-1))) 70 (.int (-1))) 71 (.int (-1))) 72 (.int 0)) 108 (.int 0)) 63 (.int 0)) 107 (.int 0)) 62 (.int 0)) 65 (.int 0)) 66 (.int 0)) 66 (.int 0)) 63 (.int 0)) 72 (.int 0)) 88 (.int 0)) 67 (.int 4)) 68 (.int (-1))) 69 (.int 0)) 70 (.int (-1))))] H40 := hP40r
  have hD40 : va_D A [(ad1, ari (cy 0) 3 ct1), (ad2, ari (cy 3) 20 nc18000), (ad0, ob 12 114 (vup (vup (vup (vup (vup (vup (vup (vup (vup (vup (vup (vup (vup (vup (vup (vup (vup (vup (vup (vup (vup (vup fn0 0 (.int 0)) 32 (.int 0)) 67 (.int 0)) 68 (.int (-1))) 69 (.int (-1))) 70 (.int (-1))) 71 (.int (-1))) 72 (.int 0)) 108 (.int 0)) 63 (.int 0)) 107 (.int 0)) 62 (.int 0)) 65 (.int 0)) 66 (.int 0)) 66 (.int 0)) 63 (.int 0)) 72 (.int 0)) 88 (.int 0)) 67 (.int 4)) 68 (.int (-1))) 69 (.int 0)) 70 (.int (-1))))] := hD40r
  clear hP40r hD40r
  clear hP38 hD38 hS38
  clear H38 lo38
  refine lv_if_ne (pc := 371) (tgt := 382) hx hb dX12_run_371 (by decide) (fun c41 => absurd (by decide) c41) (fun c41 => ?_)
  refine lv_aload_n (pc := 374) hx hb dX12_run_374 rfl (lv_at hl35 2 rfl) ?_
  refine ob_get (pc := 375) (v := .int 4) (ci := 12) (C := RX12) (T := TX12) (N := 114) hx hb hG in_X12 hown hK hP40 2 rfl rfl 67 (by decide) (hG _ g_491) rfl rfl dX12_run_375 ?_
  refine lv_bipush (pc := 378) (v := 20) hx hb dX12_run_378 (by decide) ?_
  refine lv_isub (pc := 380) hx hb dX12_run_380 ?_
  refine tp_i (y := (-16)) (by decide) ?_
  have hP99 := hP40.sub (ws' := [(ad0, ob 12 114 (vup (vup (vup (vup (vup (vup (vup (vup (vup (vup (vup (vup (vup (vup (vup (vup (vup (vup (vup (vup (vup (vup fn0 0 (.int 0)) 32 (.int 0)) 67 (.int 0)) 68 (.int (-1))) 69 (.int (-1))) 70 (.int (-1))) 71 (.int (-1))) 72 (.int 0)) 108 (.int 0)) 63 (.int 0)) 107 (.int 0)) 62 (.int 0)) 65 (.int 0)) 66 (.int 0)) 66 (.int 0)) 63 (.int 0)) 72 (.int 0)) 88 (.int 0)) 67 (.int 4)) 68 (.int (-1))) 69 (.int 0)) 70 (.int (-1))))]) [2] rfl
  have hD99 := hD40.sub (ws' := [(ad0, ob 12 114 (vup (vup (vup (vup (vup (vup (vup (vup (vup (vup (vup (vup (vup (vup (vup (vup (vup (vup (vup (vup (vup (vup fn0 0 (.int 0)) 32 (.int 0)) 67 (.int 0)) 68 (.int (-1))) 69 (.int (-1))) 70 (.int (-1))) 71 (.int (-1))) 72 (.int 0)) 108 (.int 0)) 63 (.int 0)) 107 (.int 0)) 62 (.int 0)) 65 (.int 0)) 66 (.int 0)) 66 (.int 0)) 63 (.int 0)) 72 (.int 0)) 88 (.int 0)) 67 (.int 4)) 68 (.int (-1))) 69 (.int 0)) 70 (.int (-1))))]) [2] (by decide) rfl
  exact W.iret (pc := 381) (v := (-16)) hx hb hr (fun t ht hW => ⟨⟨(-16), (), rfl, rfl, _, ⟨(vup (vup (vup (vup (vup (vup (vup (vup (vup (vup (vup (vup (vup (vup (vup (vup (vup (vup (vup (vup (vup (vup fn0 0 (.int 0)) 32 (.int 0)) 67 (.int 0)) 68 (.int (-1))) 69 (.int (-1))) 70 (.int (-1))) 71 (.int (-1))) 72 (.int 0)) 108 (.int 0)) 63 (.int 0)) 107 (.int 0)) 62 (.int 0)) 65 (.int 0)) 66 (.int 0)) 66 (.int 0)) 63 (.int 0)) 72 (.int 0)) 88 (.int 0)) 67 (.int 4)) 68 (.int (-1))) 69 (.int 0)) 70 (.int (-1))), rfl, rfl⟩, by rw [ht]; exact hP99, hD99⟩, hS40.F ht⟩) hS40.2.2 dX12_run_381
set_option maxHeartbeats 4000000 in
set_option maxRecDepth 100000 in
/-- X12_findEnds -/
theorem m_findEnds (l : Launch) (D : va_G) (cy : Nat → ClassId) (kv : KV) (sz : Nat) (ad0 : Nat) (fn0 : Nat → Value) (ad1 : Nat) (ct1 : Nat → Int32) (h0_2 : fn0 2 = .int 0) (h0_56 : fn0 56 = .ref ad1) (h0_62 : fn0 62 = .int 0) (h0_67 : fn0 67 = .int 0) (h0_107 : fn0 107 = .int 0) (k1_0 : ct1 0 = 0) (k1_1 : ct1 1 = 0) (k1_2 : ct1 2 = 0) : Met l yX12_findEnds (Cond.code yX12_findEnds cX12_findEnds 5 (some .int) :: GW) ({ frames := 9, cells := 0, slots := 0, locals := 160 } : Room) (va_Pc [.ref ad0, .int 0] (pcq D cy kv sz [(ad0, ob 12 114 fn0), (ad1, ari (cy 0) 3 ct1)])) (va_Qi (fun r (_ : Unit) => r = 0) (fun _ t => bq D (fun w => w = [(ad1, ari (cy 0) 3 ct1), (ad0, ob 12 114 (vup (vup fn0 63 (.int 0)) 72 (.int 0)))]) (va_A [(ad0, ob 12 114 fn0), (ad1, ari (cy 0) 3 ct1)] sz) t) (va_A [(ad0, ob 12 114 fn0), (ad1, ari (cy 0) 3 ct1)] sz)) 0 0 (va_A [(ad0, ob 12 114 fn0), (ad1, ari (cy 0) 3 ct1)] sz) := by
  refine Met.ofW (cc := cX12_findEnds) (maxL := 5) (ret := (some .int)) (by decide) rfl ?_
  intro p e s m args below meth c s₁ B hml hv
  obtain ⟨rfl, hsz, hP, hK, hD0, hE⟩ := hv
  have hx := B.exec
  have hb := B.bytes
  have hr := B.returns
  have hG : ∀ w ∈ GW, w.before ([.ref ad0, .int 0] : List Value).toArray s = true := fun w h => atoms_spec (ws := Cond.code yX12_findEnds cX12_findEnds 5 (some .int) :: GW) B.pre w (List.mem_cons_of_mem _ h)
  have hown : s.vm.findClass RX12 = some m.cls := findClass_of_methodNamed B.named
  have hlocks := B.notSynchronized
  subst hsz
  have hD := hD0.self (sz := s.heap.size)
  generalize hAe : va_A [(ad0, ob 12 114 fn0), (ad1, ari (cy 0) 3 ct1)] s.heap.size = A at hD hE ⊢
  have hA : ∀ q : Nat, s.heap.size ≤ q → A q := fun q h => by rw [← hAe]; exact Or.inr h
  have hS : va_S A s.heap s.heap [] := va_S.rf
  clear hAe hD0
  have hl0 := lv_entry ([.ref ad0, .int 0]) (n := 5) (Nat.le_of_ble_eq_true rfl)
  rw [lg_entry_eq]
  generalize (lg_sl ([.ref ad0, .int 0]) ++ List.replicate (5 - (lg_sl ([.ref ad0, .int 0])).length) Slot.unset).toArray = ls at hl0 ⊢
  have hl : lv_has ls 5 [(0, .ref ad0), (1, .int 0)] := hl0
  clear hl0
  refine lv_aload_n (pc := 0) hx hb dX12_findEnds_0 rfl (lv_at hl 0 rfl) ?_
  refine ob_get (pc := 1) (v := .int 0) (ci := 12) (C := RX12) (T := TX12) (N := 114) hx hb hG in_X12 hown hK hP 0 rfl rfl 62 (by decide) (hG _ g_498) rfl h0_62 dX12_findEnds_1 ?_
  refine lv_if_le (pc := 4) (tgt := 11) hx hb dX12_findEnds_4 (by decide) (fun c1 => ?_) (fun c1 => absurd (by decide) c1)
  refine lv_aload_n (pc := 11) hx hb dX12_findEnds_11 rfl (lv_at hl 0 rfl) ?_
  refine ob_get (pc := 12) (v := .int 0) (ci := 12) (C := RX12) (T := TX12) (N := 114) hx hb hG in_X12 hown hK hP 0 rfl rfl 67 (by decide) (hG _ g_491) rfl h0_67 dX12_findEnds_12 ?_
  refine lv_iconst (pc := 15) (v := 2) hx hb dX12_findEnds_15 (by decide) ?_
  refine lv_icmp_eq (pc := 16) (tgt := 23) hx hb dX12_findEnds_16 (by decide) (fun c2 => absurd c2 (by decide)) (fun c2 => ?_)
  refine lv_aload_n (pc := 19) hx hb dX12_findEnds_19 rfl (lv_at hl 0 rfl) ?_
  refine cq_v (pc := 20) (wr := [(ad1, ari (cy 0) 3 ct1)]) (k2 := 0) (n2 := 0) (va_runV (As := []) (rest := []) ⟨hx, hb, hml, hown, hG⟩ (m_showWords l D cy kv s.heap.size ad0 fn0 h0_62) (cwV 0 hG (gi_V g_518 g_519 g_520 g_334 g_502) rfl rfl rfl (by decide +kernel) ⟨Nat.le_of_ble_eq_true rfl, Nat.le_of_ble_eq_true rfl⟩) ⟨pq_blind, (va_recv hK hP (ci := 12) (q0 := 0) rfl rfl), (pq_pass hP hD hK hE hS hA [0] rfl (by decide))⟩ rfl rfl hl.1 rfl (lv_room (Nat.le_of_ble_eq_true rfl)) dX12_findEnds_20 ⟨Nat.le_of_ble_eq_true rfl, Nat.le_of_ble_eq_true rfl⟩) hP hD hS hA [0] [1] rfl rfl (by decide) (by decide) (by decide) (by decide) (fun w3 H3 lo3 hR3 hP3r hD3r hS3 => ?_)
  subst hR3
  have hP3 : va_P D classes [(ad1, ari (cy 0) 3 ct1), (ad0, ob 12 114 (vup (vup fn0 63 (.int 0)) 72 (.int 0)))] H3 := hP3r
  have hD3 : va_D A [(ad1, ari (cy 0) 3 ct1), (ad0, ob 12 114 (vup (vup fn0 63 (.int 0)) 72 (.int 0)))] := hD3r
  clear hP3r hD3r
  clear hP hD hS
  refine lv_aload_n (pc := 23) hx hb dX12_findEnds_23 rfl (lv_at hl 0 rfl) ?_
  refine cq_i (pc := 24) (wr := [(ad1, ari (cy 0) 3 ct1)]) (k2 := 0) (n2 := 0) (va_runV (As := []) (rest := []) ⟨hx, hb, hml, hown, hG⟩ (m_unblamed0 l D cy kv H3.size ad0 (vup (vup fn0 63 (.int 0)) 72 (.int 0)) h0_67) (cwV 0 hG (gi_V g_503 g_504 g_505 g_334 g_496) rfl rfl rfl (by decide +kernel) ⟨Nat.le_of_ble_eq_true rfl, Nat.le_of_ble_eq_true rfl⟩) ⟨pq_blind, (va_recv hK hP3 (ci := 12) (q0 := 1) rfl rfl), (pq_pass hP3 hD3 hK hE hS3 hA [1] rfl (by decide))⟩ rfl rfl hl.1 rfl (lv_room (Nat.le_of_ble_eq_true rfl)) dX12_findEnds_24 ⟨Nat.le_of_ble_eq_true rfl, Nat.le_of_ble_eq_true rfl⟩) hP3 hD3 hS3 hA [1] [0] rfl rfl (by decide) (by decide) (by decide) (by decide) (fun r4 w4 H4 lo4 e4 hR4 hP4r hD4r hS4 => ?_)
  subst hR4
  subst e4
  have hP4 : va_P D classes [(ad1, ari (cy 0) 3 ct1), (ad0, ob 12 114 (vup (vup fn0 63 (.int 0)) 72 (.int 0)))] H4 := hP4r
  have hD4 : va_D A [(ad1, ari (cy 0) 3 ct1), (ad0, ob 12 114 (vup (vup fn0 63 (.int 0)) 72 (.int 0)))] := hD4r
  clear hP4r hD4r
  clear hP3 hD3 hS3
  clear H3 lo3
  refine lv_if_eq (pc := 27) (tgt := 112) hx hb dX12_findEnds_27 (by decide) (fun c5 => absurd c5 (by decide)) (fun c5 => ?_)
  refine lv_aload_n (pc := 30) hx hb dX12_findEnds_30 rfl (lv_at hl 0 rfl) ?_
  refine ob_get (pc := 31) (v := .int 0) (ci := 12) (C := RX12) (T := TX12) (N := 114) hx hb hG in_X12 hown hK hP4 1 rfl rfl 62 (by decide) (hG _ g_498) rfl h0_62 dX12_findEnds_31 ?_
  refine lv_if_ne (pc := 34) (tgt := 112) hx hb dX12_findEnds_34 (by decide) (fun c6 => absurd (by decide) c6) (fun c6 => ?_)
  refine lv_iconst (pc := 37) (v := 0) hx hb dX12_findEnds_37 (by decide) ?_
  refine lv_istore_n (pc := 38) (lv' := [(2, .int 0), (0, .ref ad0), (1, .int 0)]) hx hb dX12_findEnds_38 rfl hl (by decide) rfl (fun ls7 hl7 => ?_)
  clear hl ls
  refine lv_iload_n (pc := 39) hx hb dX12_findEnds_39 rfl (lv_at hl7 0 rfl) ?_
  refine lv_aload_n (pc := 40) hx hb dX12_findEnds_40 rfl (lv_at hl7 1 rfl) ?_
  refine ob_get (pc := 41) (v := .int 0) (ci := 12) (C := RX12) (T := TX12) (N := 114) hx hb hG in_X12 hown hK hP4 1 rfl rfl 2 (by decide) (hG _ g_480) rfl h0_2 dX12_findEnds_41 ?_
  refine lv_icmp_ge (pc := 44) (tgt := 71) hx hb dX12_findEnds_44 (by decide) (fun c8 => ?_) (fun c8 => absurd (by decide) c8)
  refine lv_iconst (pc := 71) (v := 0) hx hb dX12_findEnds_71 (by decide) ?_
  refine lv_istore_n (pc := 72) (lv' := [(2, .int 0), (0, .ref ad0), (1, .int 0)]) hx hb dX12_findEnds_72 rfl hl7 (by decide) rfl (fun ls9 hl9 => ?_)
  clear hl7 ls7
  refine lv_iload_n (pc := 73) hx hb dX12_findEnds_73 rfl (lv_at hl9 0 rfl) ?_
  refine lv_aload_n (pc := 74) hx hb dX12_findEnds_74 rfl (lv_at hl9 1 rfl) ?_
  refine ob_get (pc := 75) (v := .ref ad1) (ci := 12) (C := RX12) (T := TX12) (N := 114) hx hb hG in_X12 hown hK hP4 1 rfl rfl 56 (by decide) (hG _ g_390) rfl h0_56 dX12_findEnds_75 ?_
  refine lv_iconst (pc := 78) (v := 2) hx hb dX12_findEnds_78 (by decide) ?_
  refine va_iald (pc := 79) hx hb hK hP4 0 0 rfl rfl (show ¬ ((2 : Int32) < 0 ∨ 3 ≤ (2 : Int32).toNatClampNeg) by decide) dX12_findEnds_79 ?_
  refine tp_i (y := 0) k1_2 ?_
  refine lv_icmp_ge (pc := 80) (tgt := 107) hx hb dX12_findEnds_80 (by decide) (fun c10 => ?_) (fun c10 => absurd (by decide) c10)
  refine lv_aload_n (pc := 107) hx hb dX12_findEnds_107 rfl (lv_at hl9 1 rfl) ?_
  refine ob_get (pc := 108) (v := .int 0) (ci := 12) (C := RX12) (T := TX12) (N := 114) hx hb hG in_X12 hown hK hP4 1 rfl rfl 107 (by decide) (hG _ g_511) rfl h0_107 dX12_findEnds_108 ?_
  exact W.iret (pc := 111) (v := 0) hx hb hr (fun t ht hW => ⟨⟨0, (), rfl, rfl, _, rfl, by rw [ht]; exact hP4, hD4⟩, hS4.F ht⟩) hS4.2.2 dX12_findEnds_111
set_option maxHeartbeats 4000000 in
set_option maxRecDepth 100000 in
/-- X12_ends -/
theorem m_ends_z (l : Launch) (D : va_G) (cy : Nat → ClassId) (kv : KV) (sz : Nat) (ad0 : Nat) (fn0 : Nat → Value) (ad1 : Nat) (ct1 : Nat → Int32) (h0_2 : fn0 2 = .int 0) (h0_32 : fn0 32 = .int 0) (h0_56 : fn0 56 = .ref ad1) (k1_0 : ct1 0 = 0) (k1_1 : ct1 1 = 0) (k1_2 : ct1 2 = 0) : Met l yX12_ends (Cond.code yX12_ends cX12_ends 5 (some .int) :: GW) ({ frames := 10, cells := 0, slots := 0, locals := 200 } : Room) (va_Pc [.ref ad0, .int 0] (pcq D cy kv sz [(ad0, ob 12 114 fn0), (ad1, ari (cy 0) 3 ct1)])) (va_Qi (fun r (_ : Unit) => r = 0) (fun _ t => bq D (fun w => ∃ (nc900 : Nat → Value), w = [(ad0, ob 12 114 nc900)] ∧ nc900 0 = .int 0) (va_A [(ad0, ob 12 114 fn0), (ad1, ari (cy 0) 3 ct1)] sz) t) (va_A [(ad0, ob 12 114 fn0), (ad1, ari (cy 0) 3 ct1)] sz)) 0 0 (va_A [(ad0, ob 12 114 fn0), (ad1, ari (cy 0) 3 ct1)] sz) := by
  refine Met.ofW (cc := cX12_ends) (maxL := 5) (ret := (some .int)) (by decide) rfl ?_
  intro p e s m args below meth c s₁ B hml hv
  obtain ⟨rfl, hsz, hP, hK, hD0, hE⟩ := hv
  have hx := B.exec
  have hb := B.bytes
  have hr := B.returns
  have hG : ∀ w ∈ GW, w.before ([.ref ad0, .int 0] : List Value).toArray s = true := fun w h => atoms_spec (ws := Cond.code yX12_ends cX12_ends 5 (some .int) :: GW) B.pre w (List.mem_cons_of_mem _ h)
  have hown : s.vm.findClass RX12 = some m.cls := findClass_of_methodNamed B.named
  have hlocks := B.notSynchronized
  subst hsz
  have hD := hD0.self (sz := s.heap.size)
  generalize hAe : va_A [(ad0, ob 12 114 fn0), (ad1, ari (cy 0) 3 ct1)] s.heap.size = A at hD hE ⊢
  have hA : ∀ q : Nat, s.heap.size ≤ q → A q := fun q h => by rw [← hAe]; exact Or.inr h
  have hS : va_S A s.heap s.heap [] := va_S.rf
  clear hAe hD0
  have hl0 := lv_entry ([.ref ad0, .int 0]) (n := 5) (Nat.le_of_ble_eq_true rfl)
  rw [lg_entry_eq]
  generalize (lg_sl ([.ref ad0, .int 0]) ++ List.replicate (5 - (lg_sl ([.ref ad0, .int 0])).length) Slot.unset).toArray = ls at hl0 ⊢
  have hl : lv_has ls 5 [(0, .ref ad0), (1, .int 0)] := hl0
  clear hl0
  refine lv_aload_n (pc := 0) hx hb dX12_ends_0 rfl (lv_at hl 0 rfl) ?_
  refine lv_iconst (pc := 1) (v := 0) hx hb dX12_ends_1 (by decide) ?_
  refine ob_put (pc := 2) (v := .int 0) (ci := 12) (C := RX12) (T := TX12) (N := 114) hx hb hG in_X12 tyX12 tyX12_ok nmX12 hown hK hP hD hS 0 rfl rfl 0 (by decide) (hG _ g_432) rfl rfl rfl rfl dX12_ends_2 (ws' := [(ad0, ob 12 114 (vup fn0 0 (.int 0))), (ad1, ari (cy 0) 3 ct1)]) rfl (fun H1 lo1 hP1 hD1 hS1 => ?_)
  clear hP hD hS
  refine lv_aload_n (pc := 5) hx hb dX12_ends_5 rfl (lv_at hl 0 rfl) ?_
  refine lv_iload_n (pc := 6) hx hb dX12_ends_6 rfl (lv_at hl 1 rfl) ?_
  refine lv_if_lt (pc := 7) (tgt := 29) hx hb dX12_ends_7 (by decide) (fun c2 => absurd c2 (by decide)) (fun c2 => ?_)
  refine lv_iload_n (pc := 10) hx hb dX12_ends_10 rfl (lv_at hl 1 rfl) ?_
  refine lv_aload_n (pc := 11) hx hb dX12_ends_11 rfl (lv_at hl 0 rfl) ?_
  refine ob_get (pc := 12) (v := .int 0) (ci := 12) (C := RX12) (T := TX12) (N := 114) hx hb hG in_X12 hown hK hP1 0 rfl rfl 32 (by decide) (hG _ g_435) rfl h0_32 dX12_ends_12 ?_
  refine lv_icmp_gt (pc := 15) (tgt := 29) hx hb dX12_ends_15 (by decide) (fun c3 => absurd c3 (by decide)) (fun c3 => ?_)
  refine lv_iload_n (pc := 18) hx hb dX12_ends_18 rfl (lv_at hl 1 rfl) ?_
  refine lv_sipush (pc := 19) (v := 400) hx hb dX12_ends_19 (by decide) ?_
  refine lv_icmp_gt (pc := 22) (tgt := 29) hx hb dX12_ends_22 (by decide) (fun c4 => absurd c4 (by decide)) (fun c4 => ?_)
  refine lv_iconst (pc := 25) (v := 1) hx hb dX12_ends_25 (by decide) ?_
  refine lv_goto (pc := 26) (tgt := 30) hx hb dX12_ends_26 (by decide) ?_
  refine lv_iconst (pc := 30) (v := 1) hx hb dX12_ends_30 (by decide) ?_
  refine cq_i (pc := 31) (wr := [(ad1, ari (cy 0) 3 ct1)]) (k2 := 0) (n2 := 0) (va_runV (As := [.int 1, .int 1]) (rest := []) ⟨hx, hb, hml, hown, hG⟩ (m_may1 l D cy kv H1.size ad0 (vup fn0 0 (.int 0)) rfl) (cwV 2 hG (gi_V g_475 g_476 g_477 g_334 g_434) rfl rfl rfl (by decide +kernel) ⟨Nat.le_of_ble_eq_true rfl, Nat.le_of_ble_eq_true rfl⟩) ⟨pq_blind, (va_recv hK hP1 (ci := 12) (q0 := 0) rfl rfl), (pq_pass hP1 hD1 hK hE hS1 hA [0] rfl (by decide))⟩ rfl rfl hl.1 rfl (lv_room (Nat.le_of_ble_eq_true rfl)) dX12_ends_31 ⟨Nat.le_of_ble_eq_true rfl, Nat.le_of_ble_eq_true rfl⟩) hP1 hD1 hS1 hA [0] [1] rfl rfl (by decide) (by decide) (by decide) (by decide) (fun r5 w5 H5 lo5 e5 hR5 hP5r hD5r hS5 => ?_)
  subst hR5
  subst e5
  have hP5 : va_P D classes [(ad1, ari (cy 0) 3 ct1), (ad0, ob 12 114 (vup fn0 0 (.int 0)))] H5 := hP5r
  have hD5 : va_D A [(ad1, ari (cy 0) 3 ct1), (ad0, ob 12 114 (vup fn0 0 (.int 0)))] := hD5r
  clear hP5r hD5r
  clear hP1 hD1 hS1
  clear H1 lo1
  refine lv_if_ne (pc := 34) (tgt := 39) hx hb dX12_ends_34 (by decide) (fun c6 => ?_) (fun c6 => absurd c6 (by decide))
  refine lv_iconst (pc := 39) (v := 0) hx hb dX12_ends_39 (by decide) ?_
  refine lv_istore_n (pc := 40) (lv' := [(2, .int 0), (0, .ref ad0), (1, .int 0)]) hx hb dX12_ends_40 rfl hl (by decide) rfl (fun ls7 hl7 => ?_)
  clear hl ls
  refine lv_iload_n (pc := 41) hx hb dX12_ends_41 rfl (lv_at hl7 0 rfl) ?_
  refine lv_iload_n (pc := 42) hx hb dX12_ends_42 rfl (lv_at hl7 2 rfl) ?_
  refine lv_icmp_ge (pc := 43) (tgt := 64) hx hb dX12_ends_43 (by decide) (fun c8 => ?_) (fun c8 => absurd (by decide) c8)
  refine lv_aload_n (pc := 64) hx hb dX12_ends_64 rfl (lv_at hl7 1 rfl) ?_
  refine lv_iconst (pc := 65) (v := 0) hx hb dX12_ends_65 (by decide) ?_
  refine ob_put (pc := 66) (v := .int 0) (ci := 12) (C := RX12) (T := TX12) (N := 114) hx hb hG in_X12 tyX12 tyX12_ok nmX12 hown hK hP5 hD5 hS5 1 rfl rfl 32 (by decide) (hG _ g_435) rfl rfl rfl rfl dX12_ends_66 (ws' := [(ad1, ari (cy 0) 3 ct1), (ad0, ob 12 114 (vup (vup fn0 0 (.int 0)) 32 (.int 0)))]) rfl (fun H9 lo9 hP9 hD9 hS9 => ?_)
  clear hP5 hD5 hS5
  clear H5 lo5
  refine lv_aload_n (pc := 69) hx hb dX12_ends_69 rfl (lv_at hl7 1 rfl) ?_
  refine cq_v (pc := 70) (wr := [(ad1, ari (cy 0) 3 ct1)]) (k2 := 0) (n2 := 0) (va_runV (As := []) (rest := []) ⟨hx, hb, hml, hown, hG⟩ (m_beginBlame l D cy kv H9.size ad0 (vup (vup fn0 0 (.int 0)) 32 (.int 0))) (cwV 0 hG (gi_V g_508 g_509 g_510 g_334 g_495) rfl rfl rfl (by decide +kernel) ⟨Nat.le_of_ble_eq_true rfl, Nat.le_of_ble_eq_true rfl⟩) ⟨pq_blind, (va_recv hK hP9 (ci := 12) (q0 := 1) rfl rfl), (pq_pass hP9 hD9 hK hE hS9 hA [1] rfl (by decide))⟩ rfl rfl hl7.1 rfl (lv_room (Nat.le_of_ble_eq_true rfl)) dX12_ends_70 ⟨Nat.le_of_ble_eq_true rfl, Nat.le_of_ble_eq_true rfl⟩) hP9 hD9 hS9 hA [1] [0] rfl rfl (by decide) (by decide) (by decide) (by decide) (fun w10 H10 lo10 hR10 hP10r hD10r hS10 => ?_)
  subst hR10
  have hP10 : va_P D classes [(ad1, ari (cy 0) 3 ct1), (ad0, ob 12 114 (vup (vup (vup (vup (vup (vup (vup (vup (vup (vup fn0 0 (.int 0)) 32 (.int 0)) 67 (.int 0)) 68 (.int (-1))) 69 (.int (-1))) 70 (.int (-1))) 71 (.int (-1))) 72 (.int 0)) 108 (.int 0)) 63 (.int 0)))] H10 := hP10r
  have hD10 : va_D A [(ad1, ari (cy 0) 3 ct1), (ad0, ob 12 114 (vup (vup (vup (vup (vup (vup (vup (vup (vup (vup fn0 0 (.int 0)) 32 (.int 0)) 67 (.int 0)) 68 (.int (-1))) 69 (.int (-1))) 70 (.int (-1))) 71 (.int (-1))) 72 (.int 0)) 108 (.int 0)) 63 (.int 0)))] := hD10r
  clear hP10r hD10r
  clear hP9 hD9 hS9
  clear H9 lo9
  refine lv_aload_n (pc := 73) hx hb dX12_ends_73 rfl (lv_at hl7 1 rfl) ?_
  refine lv_iconst (pc := 74) (v := 0) hx hb dX12_ends_74 (by decide) ?_
  refine ob_put (pc := 75) (v := .int 0) (ci := 12) (C := RX12) (T := TX12) (N := 114) hx hb hG in_X12 tyX12 tyX12_ok nmX12 hown hK hP10 hD10 hS10 1 rfl rfl 107 (by decide) (hG _ g_511) rfl rfl rfl rfl dX12_ends_75 (ws' := [(ad1, ari (cy 0) 3 ct1), (ad0, ob 12 114 (vup (vup (vup (vup (vup (vup (vup (vup (vup (vup (vup fn0 0 (.int 0)) 32 (.int 0)) 67 (.int 0)) 68 (.int (-1))) 69 (.int (-1))) 70 (.int (-1))) 71 (.int (-1))) 72 (.int 0)) 108 (.int 0)) 63 (.int 0)) 107 (.int 0)))]) rfl (fun H11 lo11 hP11 hD11 hS11 => ?_)
  clear hP10 hD10 hS10
  clear H10 lo10
  refine lv_aload_n (pc := 78) hx hb dX12_ends_78 rfl (lv_at hl7 1 rfl) ?_
  refine lv_iload_n (pc := 79) hx hb dX12_ends_79 rfl (lv_at hl7 2 rfl) ?_
  refine cq_i (pc := 80) (wr := [(ad1, ari (cy 0) 3 ct1)]) (k2 := 0) (n2 := 0) (va_runV (As := [.int 0]) (rest := []) ⟨hx, hb, hml, hown, hG⟩ (m_cut l D cy kv H11.size ad0 (vup (vup (vup (vup (vup (vup (vup (vup (vup (vup (vup fn0 0 (.int 0)) 32 (.int 0)) 67 (.int 0)) 68 (.int (-1))) 69 (.int (-1))) 70 (.int (-1))) 71 (.int (-1))) 72 (.int 0)) 108 (.int 0)) 63 (.int 0)) 107 (.int 0))) (cwV 1 hG (gi_V g_512 g_513 g_514 g_334 g_501) rfl rfl rfl (by decide +kernel) ⟨Nat.le_of_ble_eq_true rfl, Nat.le_of_ble_eq_true rfl⟩) ⟨pq_blind, (va_recv hK hP11 (ci := 12) (q0 := 1) rfl rfl), (pq_pass hP11 hD11 hK hE hS11 hA [1] rfl (by decide))⟩ rfl rfl hl7.1 rfl (lv_room (Nat.le_of_ble_eq_true rfl)) dX12_ends_80 ⟨Nat.le_of_ble_eq_true rfl, Nat.le_of_ble_eq_true rfl⟩) hP11 hD11 hS11 hA [1] [0] rfl rfl (by decide) (by decide) (by decide) (by decide) (fun r12 w12 H12 lo12 e12 hR12 hP12r hD12r hS12 => ?_)
  subst hR12
  subst e12
  have hP12 : va_P D classes [(ad1, ari (cy 0) 3 ct1), (ad0, ob 12 114 (vup (vup (vup (vup (vup (vup (vup (vup (vup (vup (vup (vup (vup (vup (vup fn0 0 (.int 0)) 32 (.int 0)) 67 (.int 0)) 68 (.int (-1))) 69 (.int (-1))) 70 (.int (-1))) 71 (.int (-1))) 72 (.int 0)) 108 (.int 0)) 63 (.int 0)) 107 (.int 0)) 62 (.int 0)) 65 (.int 0)) 66 (.int 0)) 66 (.int 0)))] H12 := hP12r
  have hD12 : va_D A [(ad1, ari (cy 0) 3 ct1), (ad0, ob 12 114 (vup (vup (vup (vup (vup (vup (vup (vup (vup (vup (vup (vup (vup (vup (vup fn0 0 (.int 0)) 32 (.int 0)) 67 (.int 0)) 68 (.int (-1))) 69 (.int (-1))) 70 (.int (-1))) 71 (.int (-1))) 72 (.int 0)) 108 (.int 0)) 63 (.int 0)) 107 (.int 0)) 62 (.int 0)) 65 (.int 0)) 66 (.int 0)) 66 (.int 0)))] := hD12r
  clear hP12r hD12r
  clear hP11 hD11 hS11
  clear H11 lo11
  refine lv_istore_n (pc := 83) (lv' := [(2, .int 0), (0, .ref ad0), (1, .int 0)]) hx hb dX12_ends_83 rfl hl7 (by decide) rfl (fun ls13 hl13 => ?_)
  clear hl7 ls7
  refine lv_iload_n (pc := 84) hx hb dX12_ends_84 rfl (lv_at hl13 0 rfl) ?_
  refine lv_if_eq (pc := 85) (tgt := 104) hx hb dX12_ends_85 (by decide) (fun c14 => ?_) (fun c14 => absurd (by decide) c14)
  refine lv_aload_n (pc := 104) hx hb dX12_ends_104 rfl (lv_at hl13 1 rfl) ?_
  refine ob_get (pc := 105) (v := .int 0) (ci := 12) (C := RX12) (T := TX12) (N := 114) hx hb hG in_X12 hown hK hP12 1 rfl rfl 66 (by decide) (hG _ g_500) rfl rfl dX12_ends_105 ?_
  refine lv_istore_n (pc := 108) (lv' := [(3, .int 0), (2, .int 0), (0, .ref ad0), (1, .int 0)]) hx hb dX12_ends_108 rfl hl13 (by decide) rfl (fun ls15 hl15 => ?_)
  clear hl13 ls13
  refine lv_aload_n (pc := 109) hx hb dX12_ends_109 rfl (lv_at hl15 2 rfl) ?_
  refine lv_iconst (pc := 110) (v := 0) hx hb dX12_ends_110 (by decide) ?_
  refine ob_put (pc := 111) (v := .int 0) (ci := 12) (C := RX12) (T := TX12) (N := 114) hx hb hG in_X12 tyX12 tyX12_ok nmX12 hown hK hP12 hD12 hS12 1 rfl rfl 113 (by decide) (hG _ g_526) rfl rfl rfl rfl dX12_ends_111 (ws' := [(ad1, ari (cy 0) 3 ct1), (ad0, ob 12 114 (vup (vup (vup (vup (vup (vup (vup (vup (vup (vup (vup (vup (vup (vup (vup (vup fn0 0 (.int 0)) 32 (.int 0)) 67 (.int 0)) 68 (.int (-1))) 69 (.int (-1))) 70 (.int (-1))) 71 (.int (-1))) 72 (.int 0)) 108 (.int 0)) 63 (.int 0)) 107 (.int 0)) 62 (.int 0)) 65 (.int 0)) 66 (.int 0)) 66 (.int 0)) 113 (.int 0)))]) rfl (fun H16 lo16 hP16 hD16 hS16 => ?_)
  clear hP12 hD12 hS12
  clear H12 lo12
  refine lv_aload_n (pc := 114) hx hb dX12_ends_114 rfl (lv_at hl15 2 rfl) ?_
  refine ob_get (pc := 115) (v := .int 0) (ci := 12) (C := RX12) (T := TX12) (N := 114) hx hb hG in_X12 hown hK hP16 1 rfl rfl 65 (by decide) (hG _ g_499) rfl rfl dX12_ends_115 ?_
  refine lv_if_eq (pc := 118) (tgt := 184) hx hb dX12_ends_118 (by decide) (fun c17 => ?_) (fun c17 => absurd (by decide) c17)
  refine lv_aload_n (pc := 184) hx hb dX12_ends_184 rfl (lv_at hl15 2 rfl) ?_
  refine lv_iload_n (pc := 185) hx hb dX12_ends_185 rfl (lv_at hl15 0 rfl) ?_
  refine cq_i (pc := 186) (wr := []) (k2 := 0) (n2 := 0) (va_runV (As := [.int 0]) (rest := []) ⟨hx, hb, hml, hown, hG⟩ (m_findEnds l D cy kv H16.size ad0 (vup (vup (vup (vup (vup (vup (vup (vup (vup (vup (vup (vup (vup (vup (vup (vup fn0 0 (.int 0)) 32 (.int 0)) 67 (.int 0)) 68 (.int (-1))) 69 (.int (-1))) 70 (.int (-1))) 71 (.int (-1))) 72 (.int 0)) 108 (.int 0)) 63 (.int 0)) 107 (.int 0)) 62 (.int 0)) 65 (.int 0)) 66 (.int 0)) 66 (.int 0)) 113 (.int 0)) ad1 ct1 h0_2 h0_56 rfl rfl rfl k1_0 k1_1 k1_2) (cwV 1 hG (gi_V g_527 g_528 g_529 g_334 g_525) rfl rfl rfl (by decide +kernel) ⟨Nat.le_of_ble_eq_true rfl, Nat.le_of_ble_eq_true rfl⟩) ⟨pq_blind, (va_recv hK hP16 (ci := 12) (q0 := 1) rfl rfl), (pq_pass hP16 hD16 hK hE hS16 hA [1, 0] rfl (by decide))⟩ rfl rfl hl15.1 rfl (lv_room (Nat.le_of_ble_eq_true rfl)) dX12_ends_186 ⟨Nat.le_of_ble_eq_true rfl, Nat.le_of_ble_eq_true rfl⟩) hP16 hD16 hS16 hA [1, 0] [] rfl rfl (by decide) (by decide) (by decide) (by decide) (fun r18 w18 H18 lo18 e18 hR18 hP18r hD18r hS18 => ?_)
  subst hR18
  subst e18
  have hP18 : va_P D classes [(ad1, ari (cy 0) 3 ct1), (ad0, ob 12 114 (vup (vup (vup (vup (vup (vup (vup (vup (vup (vup (vup (vup (vup (vup (vup (vup (vup (vup fn0 0 (.int 0)) 32 (.int 0)) 67 (.int 0)) 68 (.int (-1))) 69 (.int (-1))) 70 (.int (-1))) 71 (.int (-1))) 72 (.int 0)) 108 (.int 0)) 63 (.int 0)) 107 (.int 0)) 62 (.int 0)) 65 (.int 0)) 66 (.int 0)) 66 (.int 0)) 113 (.int 0)) 63 (.int 0)) 72 (.int 0)))] H18 := hP18r
  have hD18 : va_D A [(ad1, ari (cy 0) 3 ct1), (ad0, ob 12 114 (vup (vup (vup (vup (vup (vup (vup (vup (vup (vup (vup (vup (vup (vup (vup (vup (vup (vup fn0 0 (.int 0)) 32 (.int 0)) 67 (.int 0)) 68 (.int (-1))) 69 (.int (-1))) 70 (.int (-1))) 71 (.int (-1))) 72 (.int 0)) 108 (.int 0)) 63 (.int 0)) 107 (.int 0)) 62 (.int 0)) 65 (.int 0)) 66 (.int 0)) 66 (.int 0)) 113 (.int 0)) 63 (.int 0)) 72 (.int 0)))] := hD18r
  clear hP18r hD18r
  clear hP16 hD16 hS16
  clear H16 lo16
  have hP99 := hP18.sub (ws' := [(ad0, ob 12 114 (vup (vup (vup (vup (vup (vup (vup (vup (vup (vup (vup (vup (vup (vup (vup (vup (vup (vup fn0 0 (.int 0)) 32 (.int 0)) 67 (.int 0)) 68 (.int (-1))) 69 (.int (-1))) 70 (.int (-1))) 71 (.int (-1))) 72 (.int 0)) 108 (.int 0)) 63 (.int 0)) 107 (.int 0)) 62 (.int 0)) 65 (.int 0)) 66 (.int 0)) 66 (.int 0)) 113 (.int 0)) 63 (.int 0)) 72 (.int 0)))]) [1] rfl
  have hD99 := hD18.sub (ws' := [(ad0, ob 12 114 (vup (vup (vup (vup (vup (vup (vup (vup (vup (vup (vup (vup (vup (vup (vup (vup (vup (vup fn0 0 (.int 0)) 32 (.int 0)) 67 (.int 0)) 68 (.int (-1))) 69 (.int (-1))) 70 (.int (-1))) 71 (.int (-1))) 72 (.int 0)) 108 (.int 0)) 63 (.int 0)) 107 (.int 0)) 62 (.int 0)) 65 (.int 0)) 66 (.int 0)) 66 (.int 0)) 113 (.int 0)) 63 (.int 0)) 72 (.int 0)))]) [1] (by decide) rfl
  exact W.iret (pc := 189) (v := 0) hx hb hr (fun t ht hW => ⟨⟨0, (), rfl, rfl, _, ⟨(vup (vup (vup (vup (vup (vup (vup (vup (vup (vup (vup (vup (vup (vup (vup (vup (vup (vup fn0 0 (.int 0)) 32 (.int 0)) 67 (.int 0)) 68 (.int (-1))) 69 (.int (-1))) 70 (.int (-1))) 71 (.int (-1))) 72 (.int 0)) 108 (.int 0)) 63 (.int 0)) 107 (.int 0)) 62 (.int 0)) 65 (.int 0)) 66 (.int 0)) 66 (.int 0)) 113 (.int 0)) 63 (.int 0)) 72 (.int 0)), rfl, rfl⟩, by rw [ht]; exact hP99, hD99⟩, hS18.F ht⟩) hS18.2.2 dX12_ends_189
set_option maxHeartbeats 4000000 in
set_option maxRecDepth 100000 in
/-- X12_blame -/
theorem m_blame_0 (l : Launch) (D : va_G) (cy : Nat → ClassId) (kv : KV) (sz : Nat) (ad0 : Nat) (fn0 : Nat → Value) (h0_67 : fn0 67 = .int 0) : Met l yX12_blame (Cond.code yX12_blame cX12_blame 2 (some .int) :: GW) ({ frames := 8, cells := 0, slots := 0, locals := 120 } : Room) (va_Pc [.ref ad0, .int 0] (pcq D cy kv sz [(ad0, ob 12 114 fn0)])) (va_Qi (fun r (_ : Unit) => r = 0) (fun _ t => bq D (fun w => ∃ (nc900 : Nat → Value), w = [(ad0, ob 12 114 nc900)] ∧ nc900 0 = .int 0) (va_A [(ad0, ob 12 114 fn0)] sz) t) (va_A [(ad0, ob 12 114 fn0)] sz)) 0 0 (va_A [(ad0, ob 12 114 fn0)] sz) := by
  refine Met.ofW (cc := cX12_blame) (maxL := 2) (ret := (some .int)) (by decide) rfl ?_
  intro p e s m args below meth c s₁ B hml hv
  obtain ⟨rfl, hsz, hP, hK, hD0, hE⟩ := hv
  have hx := B.exec
  have hb := B.bytes
  have hr := B.returns
  have hG : ∀ w ∈ GW, w.before ([.ref ad0, .int 0] : List Value).toArray s = true := fun w h => atoms_spec (ws := Cond.code yX12_blame cX12_blame 2 (some .int) :: GW) B.pre w (List.mem_cons_of_mem _ h)
  have hown : s.vm.findClass RX12 = some m.cls := findClass_of_methodNamed B.named
  have hlocks := B.notSynchronized
  subst hsz
  have hD := hD0.self (sz := s.heap.size)
  generalize hAe : va_A [(ad0, ob 12 114 fn0)] s.heap.size = A at hD hE ⊢
  have hA : ∀ q : Nat, s.heap.size ≤ q → A q := fun q h => by rw [← hAe]; exact Or.inr h
  have hS : va_S A s.heap s.heap [] := va_S.rf
  clear hAe hD0
  have hl0 := lv_entry ([.ref ad0, .int 0]) (n := 2) (Nat.le_of_ble_eq_true rfl)
  rw [lg_entry_eq]
  generalize (lg_sl ([.ref ad0, .int 0]) ++ List.replicate (2 - (lg_sl ([.ref ad0, .int 0])).length) Slot.unset).toArray = ls at hl0 ⊢
  have hl : lv_has ls 2 [(0, .ref ad0), (1, .int 0)] := hl0
  clear hl0
  refine lv_aload_n (pc := 0) hx hb dX12_blame_0 rfl (lv_at hl 0 rfl) ?_
  refine lv_iconst (pc := 1) (v := 0) hx hb dX12_blame_1 (by decide) ?_
  refine ob_put (pc := 2) (v := .int 0) (ci := 12) (C := RX12) (T := TX12) (N := 114) hx hb hG in_X12 tyX12 tyX12_ok nmX12 hown hK hP hD hS 0 rfl rfl 0 (by decide) (hG _ g_432) rfl rfl rfl rfl dX12_blame_2 (ws' := [(ad0, ob 12 114 (vup fn0 0 (.int 0)))]) rfl (fun H1 lo1 hP1 hD1 hS1 => ?_)
  clear hP hD hS
  refine lv_iload_n (pc := 5) hx hb dX12_blame_5 rfl (lv_at hl 1 rfl) ?_
  refine lv_tableIn (pc := 6) (off := 38) (tgt := 44) hx hb dX12_blame_6 (by decide) (by decide) (by decide) (by decide) ?_
  refine lv_aload_n (pc := 44) hx hb dX12_blame_44 rfl (lv_at hl 0 rfl) ?_
  refine ob_get (pc := 45) (v := .int 0) (ci := 12) (C := RX12) (T := TX12) (N := 114) hx hb hG in_X12 hown hK hP1 0 rfl rfl 67 (by decide) (hG _ g_491) rfl h0_67 dX12_blame_45 ?_
  exact W.iret (pc := 48) (v := 0) hx hb hr (fun t ht hW => ⟨⟨0, (), rfl, rfl, _, ⟨(vup fn0 0 (.int 0)), rfl, rfl⟩, by rw [ht]; exact hP1, hD1⟩, hS1.F ht⟩) hS1.2.2 dX12_blame_48
set_option maxHeartbeats 4000000 in
set_option maxRecDepth 100000 in
/-- X12_blame -/
theorem m_blame_1 (l : Launch) (D : va_G) (cy : Nat → ClassId) (kv : KV) (sz : Nat) (ad0 : Nat) (fn0 : Nat → Value) (h0_68 : fn0 68 = .int (-1)) : Met l yX12_blame (Cond.code yX12_blame cX12_blame 2 (some .int) :: GW) ({ frames := 8, cells := 0, slots := 0, locals := 120 } : Room) (va_Pc [.ref ad0, .int 1] (pcq D cy kv sz [(ad0, ob 12 114 fn0)])) (va_Qi (fun r (_ : Unit) => r = (-1)) (fun _ t => bq D (fun w => ∃ (nc900 : Nat → Value), w = [(ad0, ob 12 114 nc900)] ∧ nc900 0 = .int 0) (va_A [(ad0, ob 12 114 fn0)] sz) t) (va_A [(ad0, ob 12 114 fn0)] sz)) 0 0 (va_A [(ad0, ob 12 114 fn0)] sz) := by
  refine Met.ofW (cc := cX12_blame) (maxL := 2) (ret := (some .int)) (by decide) rfl ?_
  intro p e s m args below meth c s₁ B hml hv
  obtain ⟨rfl, hsz, hP, hK, hD0, hE⟩ := hv
  have hx := B.exec
  have hb := B.bytes
  have hr := B.returns
  have hG : ∀ w ∈ GW, w.before ([.ref ad0, .int 1] : List Value).toArray s = true := fun w h => atoms_spec (ws := Cond.code yX12_blame cX12_blame 2 (some .int) :: GW) B.pre w (List.mem_cons_of_mem _ h)
  have hown : s.vm.findClass RX12 = some m.cls := findClass_of_methodNamed B.named
  have hlocks := B.notSynchronized
  subst hsz
  have hD := hD0.self (sz := s.heap.size)
  generalize hAe : va_A [(ad0, ob 12 114 fn0)] s.heap.size = A at hD hE ⊢
  have hA : ∀ q : Nat, s.heap.size ≤ q → A q := fun q h => by rw [← hAe]; exact Or.inr h
  have hS : va_S A s.heap s.heap [] := va_S.rf
  clear hAe hD0
  have hl0 := lv_entry ([.ref ad0, .int 1]) (n := 2) (Nat.le_of_ble_eq_true rfl)
  rw [lg_entry_eq]
  generalize (lg_sl ([.ref ad0, .int 1]) ++ List.replicate (2 - (lg_sl ([.ref ad0, .int 1])).length) Slot.unset).toArray = ls at hl0 ⊢
  have hl : lv_has ls 2 [(0, .ref ad0), (1, .int 1)] := hl0
  clear hl0
  refine lv_aload_n (pc := 0) hx hb dX12_blame_0 rfl (lv_at hl 0 rfl) ?_
  refine lv_iconst (pc := 1) (v := 0) hx hb dX12_blame_1 (by decide) ?_
  refine ob_put (pc := 2) (v := .int 0) (ci := 12) (C := RX12) (T := TX12) (N := 114) hx hb hG in_X12 tyX12 tyX12_ok nmX12 hown hK hP hD hS 0 rfl rfl 0 (by decide) (hG _ g_432) rfl rfl rfl rfl dX12_blame_2 (ws' := [(ad0, ob 12 114 (vup fn0 0 (.int 0)))]) rfl (fun H1 lo1 hP1 hD1 hS1 => ?_)
  clear hP hD hS
  refine lv_iload_n (pc := 5) hx hb dX12_blame_5 rfl (lv_at hl 1 rfl) ?_
  refine lv_tableIn (pc := 6) (off := 43) (tgt := 49) hx hb dX12_blame_6 (by decide) (by decide) (by decide) (by decide) ?_
  refine lv_aload_n (pc := 49) hx hb dX12_blame_49 rfl (lv_at hl 0 rfl) ?_
  refine ob_get (pc := 50) (v := .int (-1)) (ci := 12) (C := RX12) (T := TX12) (N := 114) hx hb hG in_X12 hown hK hP1 0 rfl rfl 68 (by decide) (hG _ g_396) rfl h0_68 dX12_blame_50 ?_
  exact W.iret (pc := 53) (v := (-1)) hx hb hr (fun t ht hW => ⟨⟨(-1), (), rfl, rfl, _, ⟨(vup fn0 0 (.int 0)), rfl, rfl⟩, by rw [ht]; exact hP1, hD1⟩, hS1.F ht⟩) hS1.2.2 dX12_blame_53
set_option maxHeartbeats 4000000 in
set_option maxRecDepth 100000 in
/-- X12_blame -/
theorem m_blame_2 (l : Launch) (D : va_G) (cy : Nat → ClassId) (kv : KV) (sz : Nat) (ad0 : Nat) (fn0 : Nat → Value) (h0_69 : fn0 69 = .int (-1)) : Met l yX12_blame (Cond.code yX12_blame cX12_blame 2 (some .int) :: GW) ({ frames := 8, cells := 0, slots := 0, locals := 120 } : Room) (va_Pc [.ref ad0, .int 2] (pcq D cy kv sz [(ad0, ob 12 114 fn0)])) (va_Qi (fun r (_ : Unit) => r = (-1)) (fun _ t => bq D (fun w => ∃ (nc900 : Nat → Value), w = [(ad0, ob 12 114 nc900)] ∧ nc900 0 = .int 0) (va_A [(ad0, ob 12 114 fn0)] sz) t) (va_A [(ad0, ob 12 114 fn0)] sz)) 0 0 (va_A [(ad0, ob 12 114 fn0)] sz) := by
  refine Met.ofW (cc := cX12_blame) (maxL := 2) (ret := (some .int)) (by decide) rfl ?_
  intro p e s m args below meth c s₁ B hml hv
  obtain ⟨rfl, hsz, hP, hK, hD0, hE⟩ := hv
  have hx := B.exec
  have hb := B.bytes
  have hr := B.returns
  have hG : ∀ w ∈ GW, w.before ([.ref ad0, .int 2] : List Value).toArray s = true := fun w h => atoms_spec (ws := Cond.code yX12_blame cX12_blame 2 (some .int) :: GW) B.pre w (List.mem_cons_of_mem _ h)
  have hown : s.vm.findClass RX12 = some m.cls := findClass_of_methodNamed B.named
  have hlocks := B.notSynchronized
  subst hsz
  have hD := hD0.self (sz := s.heap.size)
  generalize hAe : va_A [(ad0, ob 12 114 fn0)] s.heap.size = A at hD hE ⊢
  have hA : ∀ q : Nat, s.heap.size ≤ q → A q := fun q h => by rw [← hAe]; exact Or.inr h
  have hS : va_S A s.heap s.heap [] := va_S.rf
  clear hAe hD0
  have hl0 := lv_entry ([.ref ad0, .int 2]) (n := 2) (Nat.le_of_ble_eq_true rfl)
  rw [lg_entry_eq]
  generalize (lg_sl ([.ref ad0, .int 2]) ++ List.replicate (2 - (lg_sl ([.ref ad0, .int 2])).length) Slot.unset).toArray = ls at hl0 ⊢
  have hl : lv_has ls 2 [(0, .ref ad0), (1, .int 2)] := hl0
  clear hl0
  refine lv_aload_n (pc := 0) hx hb dX12_blame_0 rfl (lv_at hl 0 rfl) ?_
  refine lv_iconst (pc := 1) (v := 0) hx hb dX12_blame_1 (by decide) ?_
  refine ob_put (pc := 2) (v := .int 0) (ci := 12) (C := RX12) (T := TX12) (N := 114) hx hb hG in_X12 tyX12 tyX12_ok nmX12 hown hK hP hD hS 0 rfl rfl 0 (by decide) (hG _ g_432) rfl rfl rfl rfl dX12_blame_2 (ws' := [(ad0, ob 12 114 (vup fn0 0 (.int 0)))]) rfl (fun H1 lo1 hP1 hD1 hS1 => ?_)
  clear hP hD hS
  refine lv_iload_n (pc := 5) hx hb dX12_blame_5 rfl (lv_at hl 1 rfl) ?_
  refine lv_tableIn (pc := 6) (off := 48) (tgt := 54) hx hb dX12_blame_6 (by decide) (by decide) (by decide) (by decide) ?_
  refine lv_aload_n (pc := 54) hx hb dX12_blame_54 rfl (lv_at hl 0 rfl) ?_
  refine ob_get (pc := 55) (v := .int (-1)) (ci := 12) (C := RX12) (T := TX12) (N := 114) hx hb hG in_X12 hown hK hP1 0 rfl rfl 69 (by decide) (hG _ g_397) rfl h0_69 dX12_blame_55 ?_
  exact W.iret (pc := 58) (v := (-1)) hx hb hr (fun t ht hW => ⟨⟨(-1), (), rfl, rfl, _, ⟨(vup fn0 0 (.int 0)), rfl, rfl⟩, by rw [ht]; exact hP1, hD1⟩, hS1.F ht⟩) hS1.2.2 dX12_blame_58
set_option maxHeartbeats 4000000 in
set_option maxRecDepth 100000 in
/-- X12_blame -/
theorem m_blame_3 (l : Launch) (D : va_G) (cy : Nat → ClassId) (kv : KV) (sz : Nat) (ad0 : Nat) (fn0 : Nat → Value) (h0_70 : fn0 70 = .int (-1)) : Met l yX12_blame (Cond.code yX12_blame cX12_blame 2 (some .int) :: GW) ({ frames := 8, cells := 0, slots := 0, locals := 120 } : Room) (va_Pc [.ref ad0, .int 3] (pcq D cy kv sz [(ad0, ob 12 114 fn0)])) (va_Qi (fun r (_ : Unit) => r = (-1)) (fun _ t => bq D (fun w => ∃ (nc900 : Nat → Value), w = [(ad0, ob 12 114 nc900)] ∧ nc900 0 = .int 0) (va_A [(ad0, ob 12 114 fn0)] sz) t) (va_A [(ad0, ob 12 114 fn0)] sz)) 0 0 (va_A [(ad0, ob 12 114 fn0)] sz) := by
  refine Met.ofW (cc := cX12_blame) (maxL := 2) (ret := (some .int)) (by decide) rfl ?_
  intro p e s m args below meth c s₁ B hml hv
  obtain ⟨rfl, hsz, hP, hK, hD0, hE⟩ := hv
  have hx := B.exec
  have hb := B.bytes
  have hr := B.returns
  have hG : ∀ w ∈ GW, w.before ([.ref ad0, .int 3] : List Value).toArray s = true := fun w h => atoms_spec (ws := Cond.code yX12_blame cX12_blame 2 (some .int) :: GW) B.pre w (List.mem_cons_of_mem _ h)
  have hown : s.vm.findClass RX12 = some m.cls := findClass_of_methodNamed B.named
  have hlocks := B.notSynchronized
  subst hsz
  have hD := hD0.self (sz := s.heap.size)
  generalize hAe : va_A [(ad0, ob 12 114 fn0)] s.heap.size = A at hD hE ⊢
  have hA : ∀ q : Nat, s.heap.size ≤ q → A q := fun q h => by rw [← hAe]; exact Or.inr h
  have hS : va_S A s.heap s.heap [] := va_S.rf
  clear hAe hD0
  have hl0 := lv_entry ([.ref ad0, .int 3]) (n := 2) (Nat.le_of_ble_eq_true rfl)
  rw [lg_entry_eq]
  generalize (lg_sl ([.ref ad0, .int 3]) ++ List.replicate (2 - (lg_sl ([.ref ad0, .int 3])).length) Slot.unset).toArray = ls at hl0 ⊢
  have hl : lv_has ls 2 [(0, .ref ad0), (1, .int 3)] := hl0
  clear hl0
  refine lv_aload_n (pc := 0) hx hb dX12_blame_0 rfl (lv_at hl 0 rfl) ?_
  refine lv_iconst (pc := 1) (v := 0) hx hb dX12_blame_1 (by decide) ?_
  refine ob_put (pc := 2) (v := .int 0) (ci := 12) (C := RX12) (T := TX12) (N := 114) hx hb hG in_X12 tyX12 tyX12_ok nmX12 hown hK hP hD hS 0 rfl rfl 0 (by decide) (hG _ g_432) rfl rfl rfl rfl dX12_blame_2 (ws' := [(ad0, ob 12 114 (vup fn0 0 (.int 0)))]) rfl (fun H1 lo1 hP1 hD1 hS1 => ?_)
  clear hP hD hS
  refine lv_iload_n (pc := 5) hx hb dX12_blame_5 rfl (lv_at hl 1 rfl) ?_
  refine lv_tableIn (pc := 6) (off := 53) (tgt := 59) hx hb dX12_blame_6 (by decide) (by decide) (by decide) (by decide) ?_
  refine lv_aload_n (pc := 59) hx hb dX12_blame_59 rfl (lv_at hl 0 rfl) ?_
  refine ob_get (pc := 60) (v := .int (-1)) (ci := 12) (C := RX12) (T := TX12) (N := 114) hx hb hG in_X12 hown hK hP1 0 rfl rfl 70 (by decide) (hG _ g_398) rfl h0_70 dX12_blame_60 ?_
  exact W.iret (pc := 63) (v := (-1)) hx hb hr (fun t ht hW => ⟨⟨(-1), (), rfl, rfl, _, ⟨(vup fn0 0 (.int 0)), rfl, rfl⟩, by rw [ht]; exact hP1, hD1⟩, hS1.F ht⟩) hS1.2.2 dX12_blame_63
set_option maxHeartbeats 4000000 in
set_option maxRecDepth 100000 in
/-- X12_blame -/
theorem m_blame_4 (l : Launch) (D : va_G) (cy : Nat → ClassId) (kv : KV) (sz : Nat) (ad0 : Nat) (fn0 : Nat → Value) (h0_71 : fn0 71 = .int (-1)) : Met l yX12_blame (Cond.code yX12_blame cX12_blame 2 (some .int) :: GW) ({ frames := 8, cells := 0, slots := 0, locals := 120 } : Room) (va_Pc [.ref ad0, .int 4] (pcq D cy kv sz [(ad0, ob 12 114 fn0)])) (va_Qi (fun r (_ : Unit) => r = (-1)) (fun _ t => bq D (fun w => ∃ (nc900 : Nat → Value), w = [(ad0, ob 12 114 nc900)] ∧ nc900 0 = .int 0) (va_A [(ad0, ob 12 114 fn0)] sz) t) (va_A [(ad0, ob 12 114 fn0)] sz)) 0 0 (va_A [(ad0, ob 12 114 fn0)] sz) := by
  refine Met.ofW (cc := cX12_blame) (maxL := 2) (ret := (some .int)) (by decide) rfl ?_
  intro p e s m args below meth c s₁ B hml hv
  obtain ⟨rfl, hsz, hP, hK, hD0, hE⟩ := hv
  have hx := B.exec
  have hb := B.bytes
  have hr := B.returns
  have hG : ∀ w ∈ GW, w.before ([.ref ad0, .int 4] : List Value).toArray s = true := fun w h => atoms_spec (ws := Cond.code yX12_blame cX12_blame 2 (some .int) :: GW) B.pre w (List.mem_cons_of_mem _ h)
  have hown : s.vm.findClass RX12 = some m.cls := findClass_of_methodNamed B.named
  have hlocks := B.notSynchronized
  subst hsz
  have hD := hD0.self (sz := s.heap.size)
  generalize hAe : va_A [(ad0, ob 12 114 fn0)] s.heap.size = A at hD hE ⊢
  have hA : ∀ q : Nat, s.heap.size ≤ q → A q := fun q h => by rw [← hAe]; exact Or.inr h
  have hS : va_S A s.heap s.heap [] := va_S.rf
  clear hAe hD0
  have hl0 := lv_entry ([.ref ad0, .int 4]) (n := 2) (Nat.le_of_ble_eq_true rfl)
  rw [lg_entry_eq]
  generalize (lg_sl ([.ref ad0, .int 4]) ++ List.replicate (2 - (lg_sl ([.ref ad0, .int 4])).length) Slot.unset).toArray = ls at hl0 ⊢
  have hl : lv_has ls 2 [(0, .ref ad0), (1, .int 4)] := hl0
  clear hl0
  refine lv_aload_n (pc := 0) hx hb dX12_blame_0 rfl (lv_at hl 0 rfl) ?_
  refine lv_iconst (pc := 1) (v := 0) hx hb dX12_blame_1 (by decide) ?_
  refine ob_put (pc := 2) (v := .int 0) (ci := 12) (C := RX12) (T := TX12) (N := 114) hx hb hG in_X12 tyX12 tyX12_ok nmX12 hown hK hP hD hS 0 rfl rfl 0 (by decide) (hG _ g_432) rfl rfl rfl rfl dX12_blame_2 (ws' := [(ad0, ob 12 114 (vup fn0 0 (.int 0)))]) rfl (fun H1 lo1 hP1 hD1 hS1 => ?_)
  clear hP hD hS
  refine lv_iload_n (pc := 5) hx hb dX12_blame_5 rfl (lv_at hl 1 rfl) ?_
  refine lv_tableIn (pc := 6) (off := 58) (tgt := 64) hx hb dX12_blame_6 (by decide) (by decide) (by decide) (by decide) ?_
  refine lv_aload_n (pc := 64) hx hb dX12_blame_64 rfl (lv_at hl 0 rfl) ?_
  refine ob_get (pc := 65) (v := .int (-1)) (ci := 12) (C := RX12) (T := TX12) (N := 114) hx hb hG in_X12 hown hK hP1 0 rfl rfl 71 (by decide) (hG _ g_399) rfl h0_71 dX12_blame_65 ?_
  exact W.iret (pc := 68) (v := (-1)) hx hb hr (fun t ht hW => ⟨⟨(-1), (), rfl, rfl, _, ⟨(vup fn0 0 (.int 0)), rfl, rfl⟩, by rw [ht]; exact hP1, hD1⟩, hS1.F ht⟩) hS1.2.2 dX12_blame_68
set_option maxHeartbeats 4000000 in
set_option maxRecDepth 100000 in
/-- X12_blame -/
theorem m_blame_5 (l : Launch) (D : va_G) (cy : Nat → ClassId) (kv : KV) (sz : Nat) (ad0 : Nat) (fn0 : Nat → Value) (h0_72 : fn0 72 = .int 0) : Met l yX12_blame (Cond.code yX12_blame cX12_blame 2 (some .int) :: GW) ({ frames := 8, cells := 0, slots := 0, locals := 120 } : Room) (va_Pc [.ref ad0, .int 5] (pcq D cy kv sz [(ad0, ob 12 114 fn0)])) (va_Qi (fun r (_ : Unit) => r = 0) (fun _ t => bq D (fun w => ∃ (nc900 : Nat → Value), w = [(ad0, ob 12 114 nc900)] ∧ nc900 0 = .int 0) (va_A [(ad0, ob 12 114 fn0)] sz) t) (va_A [(ad0, ob 12 114 fn0)] sz)) 0 0 (va_A [(ad0, ob 12 114 fn0)] sz) := by
  refine Met.ofW (cc := cX12_blame) (maxL := 2) (ret := (some .int)) (by decide) rfl ?_
  intro p e s m args below meth c s₁ B hml hv
  obtain ⟨rfl, hsz, hP, hK, hD0, hE⟩ := hv
  have hx := B.exec
  have hb := B.bytes
  have hr := B.returns
  have hG : ∀ w ∈ GW, w.before ([.ref ad0, .int 5] : List Value).toArray s = true := fun w h => atoms_spec (ws := Cond.code yX12_blame cX12_blame 2 (some .int) :: GW) B.pre w (List.mem_cons_of_mem _ h)
  have hown : s.vm.findClass RX12 = some m.cls := findClass_of_methodNamed B.named
  have hlocks := B.notSynchronized
  subst hsz
  have hD := hD0.self (sz := s.heap.size)
  generalize hAe : va_A [(ad0, ob 12 114 fn0)] s.heap.size = A at hD hE ⊢
  have hA : ∀ q : Nat, s.heap.size ≤ q → A q := fun q h => by rw [← hAe]; exact Or.inr h
  have hS : va_S A s.heap s.heap [] := va_S.rf
  clear hAe hD0
  have hl0 := lv_entry ([.ref ad0, .int 5]) (n := 2) (Nat.le_of_ble_eq_true rfl)
  rw [lg_entry_eq]
  generalize (lg_sl ([.ref ad0, .int 5]) ++ List.replicate (2 - (lg_sl ([.ref ad0, .int 5])).length) Slot.unset).toArray = ls at hl0 ⊢
  have hl : lv_has ls 2 [(0, .ref ad0), (1, .int 5)] := hl0
  clear hl0
  refine lv_aload_n (pc := 0) hx hb dX12_blame_0 rfl (lv_at hl 0 rfl) ?_
  refine lv_iconst (pc := 1) (v := 0) hx hb dX12_blame_1 (by decide) ?_
  refine ob_put (pc := 2) (v := .int 0) (ci := 12) (C := RX12) (T := TX12) (N := 114) hx hb hG in_X12 tyX12 tyX12_ok nmX12 hown hK hP hD hS 0 rfl rfl 0 (by decide) (hG _ g_432) rfl rfl rfl rfl dX12_blame_2 (ws' := [(ad0, ob 12 114 (vup fn0 0 (.int 0)))]) rfl (fun H1 lo1 hP1 hD1 hS1 => ?_)
  clear hP hD hS
  refine lv_iload_n (pc := 5) hx hb dX12_blame_5 rfl (lv_at hl 1 rfl) ?_
  refine lv_tableIn (pc := 6) (off := 63) (tgt := 69) hx hb dX12_blame_6 (by decide) (by decide) (by decide) (by decide) ?_
  refine lv_aload_n (pc := 69) hx hb dX12_blame_69 rfl (lv_at hl 0 rfl) ?_
  refine ob_get (pc := 70) (v := .int 0) (ci := 12) (C := RX12) (T := TX12) (N := 114) hx hb hG in_X12 hown hK hP1 0 rfl rfl 72 (by decide) (hG _ g_492) rfl h0_72 dX12_blame_70 ?_
  exact W.iret (pc := 73) (v := 0) hx hb hr (fun t ht hW => ⟨⟨0, (), rfl, rfl, _, ⟨(vup fn0 0 (.int 0)), rfl, rfl⟩, by rw [ht]; exact hP1, hD1⟩, hS1.F ht⟩) hS1.2.2 dX12_blame_73
set_option maxHeartbeats 4000000 in
set_option maxRecDepth 100000 in
/-- X12_blame -/
theorem m_blame_o (l : Launch) (D : va_G) (cy : Nat → ClassId) (kv : KV) (sz : Nat) (ad0 : Nat) (xi0 : Int32) (fn0 : Nat → Value) (hn : xi0.toInt < 0 ∨ 5 < xi0.toInt) : Met l yX12_blame (Cond.code yX12_blame cX12_blame 2 (some .int) :: GW) ({ frames := 8, cells := 0, slots := 0, locals := 120 } : Room) (va_Pc [.ref ad0, .int xi0] (pcq D cy kv sz [(ad0, ob 12 114 fn0)])) (va_Qi (fun r (_ : Unit) => r = (-1)) (fun _ t => bq D (fun w => ∃ (nc900 : Nat → Value), w = [(ad0, ob 12 114 nc900)] ∧ nc900 0 = .int 0) (va_A [(ad0, ob 12 114 fn0)] sz) t) (va_A [(ad0, ob 12 114 fn0)] sz)) 0 0 (va_A [(ad0, ob 12 114 fn0)] sz) := by
  refine Met.ofW (cc := cX12_blame) (maxL := 2) (ret := (some .int)) (by decide) rfl ?_
  intro p e s m args below meth c s₁ B hml hv
  obtain ⟨rfl, hsz, hP, hK, hD0, hE⟩ := hv
  have hx := B.exec
  have hb := B.bytes
  have hr := B.returns
  have hG : ∀ w ∈ GW, w.before ([.ref ad0, .int xi0] : List Value).toArray s = true := fun w h => atoms_spec (ws := Cond.code yX12_blame cX12_blame 2 (some .int) :: GW) B.pre w (List.mem_cons_of_mem _ h)
  have hown : s.vm.findClass RX12 = some m.cls := findClass_of_methodNamed B.named
  have hlocks := B.notSynchronized
  subst hsz
  have hD := hD0.self (sz := s.heap.size)
  generalize hAe : va_A [(ad0, ob 12 114 fn0)] s.heap.size = A at hD hE ⊢
  have hA : ∀ q : Nat, s.heap.size ≤ q → A q := fun q h => by rw [← hAe]; exact Or.inr h
  have hS : va_S A s.heap s.heap [] := va_S.rf
  clear hAe hD0
  have hl0 := lv_entry ([.ref ad0, .int xi0]) (n := 2) (Nat.le_of_ble_eq_true rfl)
  rw [lg_entry_eq]
  generalize (lg_sl ([.ref ad0, .int xi0]) ++ List.replicate (2 - (lg_sl ([.ref ad0, .int xi0])).length) Slot.unset).toArray = ls at hl0 ⊢
  have hl : lv_has ls 2 [(0, .ref ad0), (1, .int xi0)] := hl0
  clear hl0
  refine lv_aload_n (pc := 0) hx hb dX12_blame_0 rfl (lv_at hl 0 rfl) ?_
  refine lv_iconst (pc := 1) (v := 0) hx hb dX12_blame_1 (by decide) ?_
  refine ob_put (pc := 2) (v := .int 0) (ci := 12) (C := RX12) (T := TX12) (N := 114) hx hb hG in_X12 tyX12 tyX12_ok nmX12 hown hK hP hD hS 0 rfl rfl 0 (by decide) (hG _ g_432) rfl rfl rfl rfl dX12_blame_2 (ws' := [(ad0, ob 12 114 (vup fn0 0 (.int 0)))]) rfl (fun H1 lo1 hP1 hD1 hS1 => ?_)
  clear hP hD hS
  refine lv_iload_n (pc := 5) hx hb dX12_blame_5 rfl (lv_at hl 1 rfl) ?_
  refine lv_tableOut (pc := 6) (tgt := 74) hx hb dX12_blame_6 hn (by decide) ?_
  refine lv_iconst (pc := 74) (v := (-1)) hx hb dX12_blame_74 (by decide) ?_
  exact W.iret (pc := 75) (v := (-1)) hx hb hr (fun t ht hW => ⟨⟨(-1), (), rfl, rfl, _, ⟨(vup fn0 0 (.int 0)), rfl, rfl⟩, by rw [ht]; exact hP1, hD1⟩, hS1.F ht⟩) hS1.2.2 dX12_blame_75
set_option maxHeartbeats 4000000 in
set_option maxRecDepth 100000 in
/-- X12_word -/
theorem m_word_n (l : Launch) (D : va_G) (cy : Nat → ClassId) (kv : KV) (sz : Nat) (ad0 : Nat) (xi0 : Int32) (xi1 : Int32) (fn0 : Nat → Value) (h0_63 : fn0 63 = .int 0) (hn : xi0 < 0) : Met l yX12_word (Cond.code yX12_word cX12_word 3 (some .int) :: GW) ({ frames := 8, cells := 0, slots := 0, locals := 120 } : Room) (va_Pc [.ref ad0, .int xi0, .int xi1] (pcq D cy kv sz [(ad0, ob 12 114 fn0)])) (va_Qi (fun r (_ : Unit) => r = (-1)) (fun _ t => bq D (fun w => ∃ (nc900 : Nat → Value), w = [(ad0, ob 12 114 nc900)] ∧ nc900 0 = .int 0) (va_A [(ad0, ob 12 114 fn0)] sz) t) (va_A [(ad0, ob 12 114 fn0)] sz)) 0 0 (va_A [(ad0, ob 12 114 fn0)] sz) := by
  refine Met.ofW (cc := cX12_word) (maxL := 3) (ret := (some .int)) (by decide) rfl ?_
  intro p e s m args below meth c s₁ B hml hv
  obtain ⟨rfl, hsz, hP, hK, hD0, hE⟩ := hv
  have hx := B.exec
  have hb := B.bytes
  have hr := B.returns
  have hG : ∀ w ∈ GW, w.before ([.ref ad0, .int xi0, .int xi1] : List Value).toArray s = true := fun w h => atoms_spec (ws := Cond.code yX12_word cX12_word 3 (some .int) :: GW) B.pre w (List.mem_cons_of_mem _ h)
  have hown : s.vm.findClass RX12 = some m.cls := findClass_of_methodNamed B.named
  have hlocks := B.notSynchronized
  subst hsz
  have hD := hD0.self (sz := s.heap.size)
  generalize hAe : va_A [(ad0, ob 12 114 fn0)] s.heap.size = A at hD hE ⊢
  have hA : ∀ q : Nat, s.heap.size ≤ q → A q := fun q h => by rw [← hAe]; exact Or.inr h
  have hS : va_S A s.heap s.heap [] := va_S.rf
  clear hAe hD0
  have hl0 := lv_entry ([.ref ad0, .int xi0, .int xi1]) (n := 3) (Nat.le_of_ble_eq_true rfl)
  rw [lg_entry_eq]
  generalize (lg_sl ([.ref ad0, .int xi0, .int xi1]) ++ List.replicate (3 - (lg_sl ([.ref ad0, .int xi0, .int xi1])).length) Slot.unset).toArray = ls at hl0 ⊢
  have hl : lv_has ls 3 [(0, .ref ad0), (1, .int xi0), (2, .int xi1)] := hl0
  clear hl0
  refine lv_aload_n (pc := 0) hx hb dX12_word_0 rfl (lv_at hl 0 rfl) ?_
  refine lv_iconst (pc := 1) (v := 0) hx hb dX12_word_1 (by decide) ?_
  refine ob_put (pc := 2) (v := .int 0) (ci := 12) (C := RX12) (T := TX12) (N := 114) hx hb hG in_X12 tyX12 tyX12_ok nmX12 hown hK hP hD hS 0 rfl rfl 0 (by decide) (hG _ g_432) rfl rfl rfl rfl dX12_word_2 (ws' := [(ad0, ob 12 114 (vup fn0 0 (.int 0)))]) rfl (fun H1 lo1 hP1 hD1 hS1 => ?_)
  clear hP hD hS
  refine lv_iload_n (pc := 5) hx hb dX12_word_5 rfl (lv_at hl 1 rfl) ?_
  refine lv_if_lt (pc := 6) (tgt := 45) hx hb dX12_word_6 (by decide) (fun c2 => ?_) (fun c2 => absurd hn c2)
  refine lv_iconst (pc := 45) (v := (-1)) hx hb dX12_word_45 (by decide) ?_
  exact W.iret (pc := 46) (v := (-1)) hx hb hr (fun t ht hW => ⟨⟨(-1), (), rfl, rfl, _, ⟨(vup fn0 0 (.int 0)), rfl, rfl⟩, by rw [ht]; exact hP1, hD1⟩, hS1.F ht⟩) hS1.2.2 dX12_word_46
set_option maxHeartbeats 4000000 in
set_option maxRecDepth 100000 in
/-- X12_word -/
theorem m_word_p (l : Launch) (D : va_G) (cy : Nat → ClassId) (kv : KV) (sz : Nat) (ad0 : Nat) (xi0 : Int32) (xi1 : Int32) (fn0 : Nat → Value) (h0_63 : fn0 63 = .int 0) (hn : 0 ≤ xi0) : Met l yX12_word (Cond.code yX12_word cX12_word 3 (some .int) :: GW) ({ frames := 8, cells := 0, slots := 0, locals := 120 } : Room) (va_Pc [.ref ad0, .int xi0, .int xi1] (pcq D cy kv sz [(ad0, ob 12 114 fn0)])) (va_Qi (fun r (_ : Unit) => r = (-1)) (fun _ t => bq D (fun w => ∃ (nc900 : Nat → Value), w = [(ad0, ob 12 114 nc900)] ∧ nc900 0 = .int 0) (va_A [(ad0, ob 12 114 fn0)] sz) t) (va_A [(ad0, ob 12 114 fn0)] sz)) 0 0 (va_A [(ad0, ob 12 114 fn0)] sz) := by
  refine Met.ofW (cc := cX12_word) (maxL := 3) (ret := (some .int)) (by decide) rfl ?_
  intro p e s m args below meth c s₁ B hml hv
  obtain ⟨rfl, hsz, hP, hK, hD0, hE⟩ := hv
  have hx := B.exec
  have hb := B.bytes
  have hr := B.returns
  have hG : ∀ w ∈ GW, w.before ([.ref ad0, .int xi0, .int xi1] : List Value).toArray s = true := fun w h => atoms_spec (ws := Cond.code yX12_word cX12_word 3 (some .int) :: GW) B.pre w (List.mem_cons_of_mem _ h)
  have hown : s.vm.findClass RX12 = some m.cls := findClass_of_methodNamed B.named
  have hlocks := B.notSynchronized
  subst hsz
  have hD := hD0.self (sz := s.heap.size)
  generalize hAe : va_A [(ad0, ob 12 114 fn0)] s.heap.size = A at hD hE ⊢
  have hA : ∀ q : Nat, s.heap.size ≤ q → A q := fun q h => by rw [← hAe]; exact Or.inr h
  have hS : va_S A s.heap s.heap [] := va_S.rf
  clear hAe hD0
  have hl0 := lv_entry ([.ref ad0, .int xi0, .int xi1]) (n := 3) (Nat.le_of_ble_eq_true rfl)
  rw [lg_entry_eq]
  generalize (lg_sl ([.ref ad0, .int xi0, .int xi1]) ++ List.replicate (3 - (lg_sl ([.ref ad0, .int xi0, .int xi1])).length) Slot.unset).toArray = ls at hl0 ⊢
  have hl : lv_has ls 3 [(0, .ref ad0), (1, .int xi0), (2, .int xi1)] := hl0
  clear hl0
  refine lv_aload_n (pc := 0) hx hb dX12_word_0 rfl (lv_at hl 0 rfl) ?_
  refine lv_iconst (pc := 1) (v := 0) hx hb dX12_word_1 (by decide) ?_
  refine ob_put (pc := 2) (v := .int 0) (ci := 12) (C := RX12) (T := TX12) (N := 114) hx hb hG in_X12 tyX12 tyX12_ok nmX12 hown hK hP hD hS 0 rfl rfl 0 (by decide) (hG _ g_432) rfl rfl rfl rfl dX12_word_2 (ws' := [(ad0, ob 12 114 (vup fn0 0 (.int 0)))]) rfl (fun H1 lo1 hP1 hD1 hS1 => ?_)
  clear hP hD hS
  refine lv_iload_n (pc := 5) hx hb dX12_word_5 rfl (lv_at hl 1 rfl) ?_
  refine lv_if_lt (pc := 6) (tgt := 45) hx hb dX12_word_6 (by decide) (fun c2 => absurd c2 (i_nlt hn)) (fun c2 => ?_)
  refine lv_iload_n (pc := 9) hx hb dX12_word_9 rfl (lv_at hl 1 rfl) ?_
  refine lv_aload_n (pc := 10) hx hb dX12_word_10 rfl (lv_at hl 0 rfl) ?_
  refine ob_get (pc := 11) (v := .int 0) (ci := 12) (C := RX12) (T := TX12) (N := 114) hx hb hG in_X12 hown hK hP1 0 rfl rfl 63 (by decide) (hG _ g_494) rfl h0_63 dX12_word_11 ?_
  refine lv_icmp_ge (pc := 14) (tgt := 45) hx hb dX12_word_14 (by decide) (fun c3 => ?_) (fun c3 => absurd hn c3)
  refine lv_iconst (pc := 45) (v := (-1)) hx hb dX12_word_45 (by decide) ?_
  exact W.iret (pc := 46) (v := (-1)) hx hb hr (fun t ht hW => ⟨⟨(-1), (), rfl, rfl, _, ⟨(vup fn0 0 (.int 0)), rfl, rfl⟩, by rw [ht]; exact hP1, hD1⟩, hS1.F ht⟩) hS1.2.2 dX12_word_46
set_option maxHeartbeats 4000000 in
set_option maxRecDepth 100000 in
/-- X12_count -/
theorem m_count_0 (l : Launch) (D : va_G) (cy : Nat → ClassId) (kv : KV) (sz : Nat) (ad0 : Nat) (fn0 : Nat → Value) (h0_2 : fn0 2 = .int 0) : Met l yX12_count (Cond.code yX12_count cX12_count 2 (some .int) :: GW) ({ frames := 8, cells := 0, slots := 0, locals := 120 } : Room) (va_Pc [.ref ad0, .int 0] (pcq D cy kv sz [(ad0, ob 12 114 fn0)])) (va_Qi (fun r (_ : Unit) => r = 0) (fun _ t => bq D (fun w => ∃ (nc900 : Nat → Value), w = [(ad0, ob 12 114 nc900)] ∧ nc900 0 = .int 0) (va_A [(ad0, ob 12 114 fn0)] sz) t) (va_A [(ad0, ob 12 114 fn0)] sz)) 0 0 (va_A [(ad0, ob 12 114 fn0)] sz) := by
  refine Met.ofW (cc := cX12_count) (maxL := 2) (ret := (some .int)) (by decide) rfl ?_
  intro p e s m args below meth c s₁ B hml hv
  obtain ⟨rfl, hsz, hP, hK, hD0, hE⟩ := hv
  have hx := B.exec
  have hb := B.bytes
  have hr := B.returns
  have hG : ∀ w ∈ GW, w.before ([.ref ad0, .int 0] : List Value).toArray s = true := fun w h => atoms_spec (ws := Cond.code yX12_count cX12_count 2 (some .int) :: GW) B.pre w (List.mem_cons_of_mem _ h)
  have hown : s.vm.findClass RX12 = some m.cls := findClass_of_methodNamed B.named
  have hlocks := B.notSynchronized
  subst hsz
  have hD := hD0.self (sz := s.heap.size)
  generalize hAe : va_A [(ad0, ob 12 114 fn0)] s.heap.size = A at hD hE ⊢
  have hA : ∀ q : Nat, s.heap.size ≤ q → A q := fun q h => by rw [← hAe]; exact Or.inr h
  have hS : va_S A s.heap s.heap [] := va_S.rf
  clear hAe hD0
  have hl0 := lv_entry ([.ref ad0, .int 0]) (n := 2) (Nat.le_of_ble_eq_true rfl)
  rw [lg_entry_eq]
  generalize (lg_sl ([.ref ad0, .int 0]) ++ List.replicate (2 - (lg_sl ([.ref ad0, .int 0])).length) Slot.unset).toArray = ls at hl0 ⊢
  have hl : lv_has ls 2 [(0, .ref ad0), (1, .int 0)] := hl0
  clear hl0
  refine lv_aload_n (pc := 0) hx hb dX12_count_0 rfl (lv_at hl 0 rfl) ?_
  refine lv_iconst (pc := 1) (v := 0) hx hb dX12_count_1 (by decide) ?_
  refine ob_put (pc := 2) (v := .int 0) (ci := 12) (C := RX12) (T := TX12) (N := 114) hx hb hG in_X12 tyX12 tyX12_ok nmX12 hown hK hP hD hS 0 rfl rfl 0 (by decide) (hG _ g_432) rfl rfl rfl rfl dX12_count_2 (ws' := [(ad0, ob 12 114 (vup fn0 0 (.int 0)))]) rfl (fun H1 lo1 hP1 hD1 hS1 => ?_)
  clear hP hD hS
  refine lv_iload_n (pc := 5) hx hb dX12_count_5 rfl (lv_at hl 1 rfl) ?_
  refine lv_tableIn (pc := 6) (off := 50) (tgt := 56) hx hb dX12_count_6 (by decide) (by decide) (by decide) (by decide) ?_
  refine lv_aload_n (pc := 56) hx hb dX12_count_56 rfl (lv_at hl 0 rfl) ?_
  refine ob_get (pc := 57) (v := .int 0) (ci := 12) (C := RX12) (T := TX12) (N := 114) hx hb hG in_X12 hown hK hP1 0 rfl rfl 2 (by decide) (hG _ g_480) rfl h0_2 dX12_count_57 ?_
  exact W.iret (pc := 60) (v := 0) hx hb hr (fun t ht hW => ⟨⟨0, (), rfl, rfl, _, ⟨(vup fn0 0 (.int 0)), rfl, rfl⟩, by rw [ht]; exact hP1, hD1⟩, hS1.F ht⟩) hS1.2.2 dX12_count_60
set_option maxHeartbeats 4000000 in
set_option maxRecDepth 100000 in
/-- X12_count -/
theorem m_count_1 (l : Launch) (D : va_G) (cy : Nat → ClassId) (kv : KV) (sz : Nat) (ad0 : Nat) (fn0 : Nat → Value) (h0_89 : fn0 89 = .int 0) : Met l yX12_count (Cond.code yX12_count cX12_count 2 (some .int) :: GW) ({ frames := 8, cells := 0, slots := 0, locals := 120 } : Room) (va_Pc [.ref ad0, .int 1] (pcq D cy kv sz [(ad0, ob 12 114 fn0)])) (va_Qi (fun r (_ : Unit) => r = 0) (fun _ t => bq D (fun w => ∃ (nc900 : Nat → Value), w = [(ad0, ob 12 114 nc900)] ∧ nc900 0 = .int 0) (va_A [(ad0, ob 12 114 fn0)] sz) t) (va_A [(ad0, ob 12 114 fn0)] sz)) 0 0 (va_A [(ad0, ob 12 114 fn0)] sz) := by
  refine Met.ofW (cc := cX12_count) (maxL := 2) (ret := (some .int)) (by decide) rfl ?_
  intro p e s m args below meth c s₁ B hml hv
  obtain ⟨rfl, hsz, hP, hK, hD0, hE⟩ := hv
  have hx := B.exec
  have hb := B.bytes
  have hr := B.returns
  have hG : ∀ w ∈ GW, w.before ([.ref ad0, .int 1] : List Value).toArray s = true := fun w h => atoms_spec (ws := Cond.code yX12_count cX12_count 2 (some .int) :: GW) B.pre w (List.mem_cons_of_mem _ h)
  have hown : s.vm.findClass RX12 = some m.cls := findClass_of_methodNamed B.named
  have hlocks := B.notSynchronized
  subst hsz
  have hD := hD0.self (sz := s.heap.size)
  generalize hAe : va_A [(ad0, ob 12 114 fn0)] s.heap.size = A at hD hE ⊢
  have hA : ∀ q : Nat, s.heap.size ≤ q → A q := fun q h => by rw [← hAe]; exact Or.inr h
  have hS : va_S A s.heap s.heap [] := va_S.rf
  clear hAe hD0
  have hl0 := lv_entry ([.ref ad0, .int 1]) (n := 2) (Nat.le_of_ble_eq_true rfl)
  rw [lg_entry_eq]
  generalize (lg_sl ([.ref ad0, .int 1]) ++ List.replicate (2 - (lg_sl ([.ref ad0, .int 1])).length) Slot.unset).toArray = ls at hl0 ⊢
  have hl : lv_has ls 2 [(0, .ref ad0), (1, .int 1)] := hl0
  clear hl0
  refine lv_aload_n (pc := 0) hx hb dX12_count_0 rfl (lv_at hl 0 rfl) ?_
  refine lv_iconst (pc := 1) (v := 0) hx hb dX12_count_1 (by decide) ?_
  refine ob_put (pc := 2) (v := .int 0) (ci := 12) (C := RX12) (T := TX12) (N := 114) hx hb hG in_X12 tyX12 tyX12_ok nmX12 hown hK hP hD hS 0 rfl rfl 0 (by decide) (hG _ g_432) rfl rfl rfl rfl dX12_count_2 (ws' := [(ad0, ob 12 114 (vup fn0 0 (.int 0)))]) rfl (fun H1 lo1 hP1 hD1 hS1 => ?_)
  clear hP hD hS
  refine lv_iload_n (pc := 5) hx hb dX12_count_5 rfl (lv_at hl 1 rfl) ?_
  refine lv_tableIn (pc := 6) (off := 55) (tgt := 61) hx hb dX12_count_6 (by decide) (by decide) (by decide) (by decide) ?_
  refine lv_aload_n (pc := 61) hx hb dX12_count_61 rfl (lv_at hl 0 rfl) ?_
  refine ob_get (pc := 62) (v := .int 0) (ci := 12) (C := RX12) (T := TX12) (N := 114) hx hb hG in_X12 hown hK hP1 0 rfl rfl 89 (by decide) (hG _ g_507) rfl h0_89 dX12_count_62 ?_
  exact W.iret (pc := 65) (v := 0) hx hb hr (fun t ht hW => ⟨⟨0, (), rfl, rfl, _, ⟨(vup fn0 0 (.int 0)), rfl, rfl⟩, by rw [ht]; exact hP1, hD1⟩, hS1.F ht⟩) hS1.2.2 dX12_count_65
set_option maxHeartbeats 4000000 in
set_option maxRecDepth 100000 in
/-- X12_count -/
theorem m_count_2 (l : Launch) (D : va_G) (cy : Nat → ClassId) (kv : KV) (sz : Nat) (ad0 : Nat) (fn0 : Nat → Value) (h0_32 : fn0 32 = .int 0) : Met l yX12_count (Cond.code yX12_count cX12_count 2 (some .int) :: GW) ({ frames := 8, cells := 0, slots := 0, locals := 120 } : Room) (va_Pc [.ref ad0, .int 2] (pcq D cy kv sz [(ad0, ob 12 114 fn0)])) (va_Qi (fun r (_ : Unit) => r = 0) (fun _ t => bq D (fun w => ∃ (nc900 : Nat → Value), w = [(ad0, ob 12 114 nc900)] ∧ nc900 0 = .int 0) (va_A [(ad0, ob 12 114 fn0)] sz) t) (va_A [(ad0, ob 12 114 fn0)] sz)) 0 0 (va_A [(ad0, ob 12 114 fn0)] sz) := by
  refine Met.ofW (cc := cX12_count) (maxL := 2) (ret := (some .int)) (by decide) rfl ?_
  intro p e s m args below meth c s₁ B hml hv
  obtain ⟨rfl, hsz, hP, hK, hD0, hE⟩ := hv
  have hx := B.exec
  have hb := B.bytes
  have hr := B.returns
  have hG : ∀ w ∈ GW, w.before ([.ref ad0, .int 2] : List Value).toArray s = true := fun w h => atoms_spec (ws := Cond.code yX12_count cX12_count 2 (some .int) :: GW) B.pre w (List.mem_cons_of_mem _ h)
  have hown : s.vm.findClass RX12 = some m.cls := findClass_of_methodNamed B.named
  have hlocks := B.notSynchronized
  subst hsz
  have hD := hD0.self (sz := s.heap.size)
  generalize hAe : va_A [(ad0, ob 12 114 fn0)] s.heap.size = A at hD hE ⊢
  have hA : ∀ q : Nat, s.heap.size ≤ q → A q := fun q h => by rw [← hAe]; exact Or.inr h
  have hS : va_S A s.heap s.heap [] := va_S.rf
  clear hAe hD0
  have hl0 := lv_entry ([.ref ad0, .int 2]) (n := 2) (Nat.le_of_ble_eq_true rfl)
  rw [lg_entry_eq]
  generalize (lg_sl ([.ref ad0, .int 2]) ++ List.replicate (2 - (lg_sl ([.ref ad0, .int 2])).length) Slot.unset).toArray = ls at hl0 ⊢
  have hl : lv_has ls 2 [(0, .ref ad0), (1, .int 2)] := hl0
  clear hl0
  refine lv_aload_n (pc := 0) hx hb dX12_count_0 rfl (lv_at hl 0 rfl) ?_
  refine lv_iconst (pc := 1) (v := 0) hx hb dX12_count_1 (by decide) ?_
  refine ob_put (pc := 2) (v := .int 0) (ci := 12) (C := RX12) (T := TX12) (N := 114) hx hb hG in_X12 tyX12 tyX12_ok nmX12 hown hK hP hD hS 0 rfl rfl 0 (by decide) (hG _ g_432) rfl rfl rfl rfl dX12_count_2 (ws' := [(ad0, ob 12 114 (vup fn0 0 (.int 0)))]) rfl (fun H1 lo1 hP1 hD1 hS1 => ?_)
  clear hP hD hS
  refine lv_iload_n (pc := 5) hx hb dX12_count_5 rfl (lv_at hl 1 rfl) ?_
  refine lv_tableIn (pc := 6) (off := 60) (tgt := 66) hx hb dX12_count_6 (by decide) (by decide) (by decide) (by decide) ?_
  refine lv_aload_n (pc := 66) hx hb dX12_count_66 rfl (lv_at hl 0 rfl) ?_
  refine ob_get (pc := 67) (v := .int 0) (ci := 12) (C := RX12) (T := TX12) (N := 114) hx hb hG in_X12 hown hK hP1 0 rfl rfl 32 (by decide) (hG _ g_435) rfl h0_32 dX12_count_67 ?_
  exact W.iret (pc := 70) (v := 0) hx hb hr (fun t ht hW => ⟨⟨0, (), rfl, rfl, _, ⟨(vup fn0 0 (.int 0)), rfl, rfl⟩, by rw [ht]; exact hP1, hD1⟩, hS1.F ht⟩) hS1.2.2 dX12_count_70
set_option maxHeartbeats 4000000 in
set_option maxRecDepth 100000 in
/-- X12_count -/
theorem m_count_3 (l : Launch) (D : va_G) (cy : Nat → ClassId) (kv : KV) (sz : Nat) (ad0 : Nat) (fn0 : Nat → Value) (h0_103 : fn0 103 = .int 0) : Met l yX12_count (Cond.code yX12_count cX12_count 2 (some .int) :: GW) ({ frames := 8, cells := 0, slots := 0, locals := 120 } : Room) (va_Pc [.ref ad0, .int 3] (pcq D cy kv sz [(ad0, ob 12 114 fn0)])) (va_Qi (fun r (_ : Unit) => r = 0) (fun _ t => bq D (fun w => ∃ (nc900 : Nat → Value), w = [(ad0, ob 12 114 nc900)] ∧ nc900 0 = .int 0) (va_A [(ad0, ob 12 114 fn0)] sz) t) (va_A [(ad0, ob 12 114 fn0)] sz)) 0 0 (va_A [(ad0, ob 12 114 fn0)] sz) := by
  refine Met.ofW (cc := cX12_count) (maxL := 2) (ret := (some .int)) (by decide) rfl ?_
  intro p e s m args below meth c s₁ B hml hv
  obtain ⟨rfl, hsz, hP, hK, hD0, hE⟩ := hv
  have hx := B.exec
  have hb := B.bytes
  have hr := B.returns
  have hG : ∀ w ∈ GW, w.before ([.ref ad0, .int 3] : List Value).toArray s = true := fun w h => atoms_spec (ws := Cond.code yX12_count cX12_count 2 (some .int) :: GW) B.pre w (List.mem_cons_of_mem _ h)
  have hown : s.vm.findClass RX12 = some m.cls := findClass_of_methodNamed B.named
  have hlocks := B.notSynchronized
  subst hsz
  have hD := hD0.self (sz := s.heap.size)
  generalize hAe : va_A [(ad0, ob 12 114 fn0)] s.heap.size = A at hD hE ⊢
  have hA : ∀ q : Nat, s.heap.size ≤ q → A q := fun q h => by rw [← hAe]; exact Or.inr h
  have hS : va_S A s.heap s.heap [] := va_S.rf
  clear hAe hD0
  have hl0 := lv_entry ([.ref ad0, .int 3]) (n := 2) (Nat.le_of_ble_eq_true rfl)
  rw [lg_entry_eq]
  generalize (lg_sl ([.ref ad0, .int 3]) ++ List.replicate (2 - (lg_sl ([.ref ad0, .int 3])).length) Slot.unset).toArray = ls at hl0 ⊢
  have hl : lv_has ls 2 [(0, .ref ad0), (1, .int 3)] := hl0
  clear hl0
  refine lv_aload_n (pc := 0) hx hb dX12_count_0 rfl (lv_at hl 0 rfl) ?_
  refine lv_iconst (pc := 1) (v := 0) hx hb dX12_count_1 (by decide) ?_
  refine ob_put (pc := 2) (v := .int 0) (ci := 12) (C := RX12) (T := TX12) (N := 114) hx hb hG in_X12 tyX12 tyX12_ok nmX12 hown hK hP hD hS 0 rfl rfl 0 (by decide) (hG _ g_432) rfl rfl rfl rfl dX12_count_2 (ws' := [(ad0, ob 12 114 (vup fn0 0 (.int 0)))]) rfl (fun H1 lo1 hP1 hD1 hS1 => ?_)
  clear hP hD hS
  refine lv_iload_n (pc := 5) hx hb dX12_count_5 rfl (lv_at hl 1 rfl) ?_
  refine lv_tableIn (pc := 6) (off := 65) (tgt := 71) hx hb dX12_count_6 (by decide) (by decide) (by decide) (by decide) ?_
  refine lv_aload_n (pc := 71) hx hb dX12_count_71 rfl (lv_at hl 0 rfl) ?_
  refine ob_get (pc := 72) (v := .int 0) (ci := 12) (C := RX12) (T := TX12) (N := 114) hx hb hG in_X12 hown hK hP1 0 rfl rfl 103 (by decide) (hG _ g_533) rfl h0_103 dX12_count_72 ?_
  exact W.iret (pc := 75) (v := 0) hx hb hr (fun t ht hW => ⟨⟨0, (), rfl, rfl, _, ⟨(vup fn0 0 (.int 0)), rfl, rfl⟩, by rw [ht]; exact hP1, hD1⟩, hS1.F ht⟩) hS1.2.2 dX12_count_75
set_option maxHeartbeats 4000000 in
set_option maxRecDepth 100000 in
/-- X12_count -/
theorem m_count_4 (l : Launch) (D : va_G) (cy : Nat → ClassId) (kv : KV) (sz : Nat) (ad0 : Nat) (fn0 : Nat → Value) (ad1 : Nat) (ct1 : Nat → Int32) (h0_56 : fn0 56 = .ref ad1) (k1_0 : ct1 0 = 0) (k1_1 : ct1 1 = 0) (k1_2 : ct1 2 = 0) : Met l yX12_count (Cond.code yX12_count cX12_count 2 (some .int) :: GW) ({ frames := 8, cells := 0, slots := 0, locals := 120 } : Room) (va_Pc [.ref ad0, .int 4] (pcq D cy kv sz [(ad0, ob 12 114 fn0), (ad1, ari (cy 0) 3 ct1)])) (va_Qi (fun r (_ : Unit) => r = 0) (fun _ t => bq D (fun w => ∃ (nc900 : Nat → Value), w = [(ad0, ob 12 114 nc900)] ∧ nc900 0 = .int 0) (va_A [(ad0, ob 12 114 fn0), (ad1, ari (cy 0) 3 ct1)] sz) t) (va_A [(ad0, ob 12 114 fn0), (ad1, ari (cy 0) 3 ct1)] sz)) 0 0 (va_A [(ad0, ob 12 114 fn0), (ad1, ari (cy 0) 3 ct1)] sz) := by
  refine Met.ofW (cc := cX12_count) (maxL := 2) (ret := (some .int)) (by decide) rfl ?_
  intro p e s m args below meth c s₁ B hml hv
  obtain ⟨rfl, hsz, hP, hK, hD0, hE⟩ := hv
  have hx := B.exec
  have hb := B.bytes
  have hr := B.returns
  have hG : ∀ w ∈ GW, w.before ([.ref ad0, .int 4] : List Value).toArray s = true := fun w h => atoms_spec (ws := Cond.code yX12_count cX12_count 2 (some .int) :: GW) B.pre w (List.mem_cons_of_mem _ h)
  have hown : s.vm.findClass RX12 = some m.cls := findClass_of_methodNamed B.named
  have hlocks := B.notSynchronized
  subst hsz
  have hD := hD0.self (sz := s.heap.size)
  generalize hAe : va_A [(ad0, ob 12 114 fn0), (ad1, ari (cy 0) 3 ct1)] s.heap.size = A at hD hE ⊢
  have hA : ∀ q : Nat, s.heap.size ≤ q → A q := fun q h => by rw [← hAe]; exact Or.inr h
  have hS : va_S A s.heap s.heap [] := va_S.rf
  clear hAe hD0
  have hl0 := lv_entry ([.ref ad0, .int 4]) (n := 2) (Nat.le_of_ble_eq_true rfl)
  rw [lg_entry_eq]
  generalize (lg_sl ([.ref ad0, .int 4]) ++ List.replicate (2 - (lg_sl ([.ref ad0, .int 4])).length) Slot.unset).toArray = ls at hl0 ⊢
  have hl : lv_has ls 2 [(0, .ref ad0), (1, .int 4)] := hl0
  clear hl0
  refine lv_aload_n (pc := 0) hx hb dX12_count_0 rfl (lv_at hl 0 rfl) ?_
  refine lv_iconst (pc := 1) (v := 0) hx hb dX12_count_1 (by decide) ?_
  refine ob_put (pc := 2) (v := .int 0) (ci := 12) (C := RX12) (T := TX12) (N := 114) hx hb hG in_X12 tyX12 tyX12_ok nmX12 hown hK hP hD hS 0 rfl rfl 0 (by decide) (hG _ g_432) rfl rfl rfl rfl dX12_count_2 (ws' := [(ad0, ob 12 114 (vup fn0 0 (.int 0))), (ad1, ari (cy 0) 3 ct1)]) rfl (fun H1 lo1 hP1 hD1 hS1 => ?_)
  clear hP hD hS
  refine lv_iload_n (pc := 5) hx hb dX12_count_5 rfl (lv_at hl 1 rfl) ?_
  refine lv_tableIn (pc := 6) (off := 70) (tgt := 76) hx hb dX12_count_6 (by decide) (by decide) (by decide) (by decide) ?_
  refine lv_aload_n (pc := 76) hx hb dX12_count_76 rfl (lv_at hl 0 rfl) ?_
  refine ob_get (pc := 77) (v := .ref ad1) (ci := 12) (C := RX12) (T := TX12) (N := 114) hx hb hG in_X12 hown hK hP1 0 rfl rfl 56 (by decide) (hG _ g_390) rfl h0_56 dX12_count_77 ?_
  refine lv_iload_n (pc := 80) hx hb dX12_count_80 rfl (lv_at hl 1 rfl) ?_
  refine lv_iconst (pc := 81) (v := 4) hx hb dX12_count_81 (by decide) ?_
  refine lv_isub (pc := 82) hx hb dX12_count_82 ?_
  refine tp_i (y := 0) (by decide) ?_
  refine va_iald (pc := 83) hx hb hK hP1 1 0 rfl rfl (show ¬ ((0 : Int32) < 0 ∨ 3 ≤ (0 : Int32).toNatClampNeg) by decide) dX12_count_83 ?_
  refine tp_i (y := 0) k1_0 ?_
  have hP99 := hP1.sub (ws' := [(ad0, ob 12 114 (vup fn0 0 (.int 0)))]) [0] rfl
  have hD99 := hD1.sub (ws' := [(ad0, ob 12 114 (vup fn0 0 (.int 0)))]) [0] (by decide) rfl
  exact W.iret (pc := 84) (v := 0) hx hb hr (fun t ht hW => ⟨⟨0, (), rfl, rfl, _, ⟨(vup fn0 0 (.int 0)), rfl, rfl⟩, by rw [ht]; exact hP99, hD99⟩, hS1.F ht⟩) hS1.2.2 dX12_count_84
set_option maxHeartbeats 4000000 in
set_option maxRecDepth 100000 in
/-- X12_count -/
theorem m_count_5 (l : Launch) (D : va_G) (cy : Nat → ClassId) (kv : KV) (sz : Nat) (ad0 : Nat) (fn0 : Nat → Value) (ad1 : Nat) (ct1 : Nat → Int32) (h0_56 : fn0 56 = .ref ad1) (k1_0 : ct1 0 = 0) (k1_1 : ct1 1 = 0) (k1_2 : ct1 2 = 0) : Met l yX12_count (Cond.code yX12_count cX12_count 2 (some .int) :: GW) ({ frames := 8, cells := 0, slots := 0, locals := 120 } : Room) (va_Pc [.ref ad0, .int 5] (pcq D cy kv sz [(ad0, ob 12 114 fn0), (ad1, ari (cy 0) 3 ct1)])) (va_Qi (fun r (_ : Unit) => r = 0) (fun _ t => bq D (fun w => ∃ (nc900 : Nat → Value), w = [(ad0, ob 12 114 nc900)] ∧ nc900 0 = .int 0) (va_A [(ad0, ob 12 114 fn0), (ad1, ari (cy 0) 3 ct1)] sz) t) (va_A [(ad0, ob 12 114 fn0), (ad1, ari (cy 0) 3 ct1)] sz)) 0 0 (va_A [(ad0, ob 12 114 fn0), (ad1, ari (cy 0) 3 ct1)] sz) := by
  refine Met.ofW (cc := cX12_count) (maxL := 2) (ret := (some .int)) (by decide) rfl ?_
  intro p e s m args below meth c s₁ B hml hv
  obtain ⟨rfl, hsz, hP, hK, hD0, hE⟩ := hv
  have hx := B.exec
  have hb := B.bytes
  have hr := B.returns
  have hG : ∀ w ∈ GW, w.before ([.ref ad0, .int 5] : List Value).toArray s = true := fun w h => atoms_spec (ws := Cond.code yX12_count cX12_count 2 (some .int) :: GW) B.pre w (List.mem_cons_of_mem _ h)
  have hown : s.vm.findClass RX12 = some m.cls := findClass_of_methodNamed B.named
  have hlocks := B.notSynchronized
  subst hsz
  have hD := hD0.self (sz := s.heap.size)
  generalize hAe : va_A [(ad0, ob 12 114 fn0), (ad1, ari (cy 0) 3 ct1)] s.heap.size = A at hD hE ⊢
  have hA : ∀ q : Nat, s.heap.size ≤ q → A q := fun q h => by rw [← hAe]; exact Or.inr h
  have hS : va_S A s.heap s.heap [] := va_S.rf
  clear hAe hD0
  have hl0 := lv_entry ([.ref ad0, .int 5]) (n := 2) (Nat.le_of_ble_eq_true rfl)
  rw [lg_entry_eq]
  generalize (lg_sl ([.ref ad0, .int 5]) ++ List.replicate (2 - (lg_sl ([.ref ad0, .int 5])).length) Slot.unset).toArray = ls at hl0 ⊢
  have hl : lv_has ls 2 [(0, .ref ad0), (1, .int 5)] := hl0
  clear hl0
  refine lv_aload_n (pc := 0) hx hb dX12_count_0 rfl (lv_at hl 0 rfl) ?_
  refine lv_iconst (pc := 1) (v := 0) hx hb dX12_count_1 (by decide) ?_
  refine ob_put (pc := 2) (v := .int 0) (ci := 12) (C := RX12) (T := TX12) (N := 114) hx hb hG in_X12 tyX12 tyX12_ok nmX12 hown hK hP hD hS 0 rfl rfl 0 (by decide) (hG _ g_432) rfl rfl rfl rfl dX12_count_2 (ws' := [(ad0, ob 12 114 (vup fn0 0 (.int 0))), (ad1, ari (cy 0) 3 ct1)]) rfl (fun H1 lo1 hP1 hD1 hS1 => ?_)
  clear hP hD hS
  refine lv_iload_n (pc := 5) hx hb dX12_count_5 rfl (lv_at hl 1 rfl) ?_
  refine lv_tableIn (pc := 6) (off := 70) (tgt := 76) hx hb dX12_count_6 (by decide) (by decide) (by decide) (by decide) ?_
  refine lv_aload_n (pc := 76) hx hb dX12_count_76 rfl (lv_at hl 0 rfl) ?_
  refine ob_get (pc := 77) (v := .ref ad1) (ci := 12) (C := RX12) (T := TX12) (N := 114) hx hb hG in_X12 hown hK hP1 0 rfl rfl 56 (by decide) (hG _ g_390) rfl h0_56 dX12_count_77 ?_
  refine lv_iload_n (pc := 80) hx hb dX12_count_80 rfl (lv_at hl 1 rfl) ?_
  refine lv_iconst (pc := 81) (v := 4) hx hb dX12_count_81 (by decide) ?_
  refine lv_isub (pc := 82) hx hb dX12_count_82 ?_
  refine tp_i (y := 1) (by decide) ?_
  refine va_iald (pc := 83) hx hb hK hP1 1 0 rfl rfl (show ¬ ((1 : Int32) < 0 ∨ 3 ≤ (1 : Int32).toNatClampNeg) by decide) dX12_count_83 ?_
  refine tp_i (y := 0) k1_1 ?_
  have hP99 := hP1.sub (ws' := [(ad0, ob 12 114 (vup fn0 0 (.int 0)))]) [0] rfl
  have hD99 := hD1.sub (ws' := [(ad0, ob 12 114 (vup fn0 0 (.int 0)))]) [0] (by decide) rfl
  exact W.iret (pc := 84) (v := 0) hx hb hr (fun t ht hW => ⟨⟨0, (), rfl, rfl, _, ⟨(vup fn0 0 (.int 0)), rfl, rfl⟩, by rw [ht]; exact hP99, hD99⟩, hS1.F ht⟩) hS1.2.2 dX12_count_84
set_option maxHeartbeats 4000000 in
set_option maxRecDepth 100000 in
/-- X12_count -/
theorem m_count_6 (l : Launch) (D : va_G) (cy : Nat → ClassId) (kv : KV) (sz : Nat) (ad0 : Nat) (fn0 : Nat → Value) (ad1 : Nat) (ct1 : Nat → Int32) (h0_56 : fn0 56 = .ref ad1) (k1_0 : ct1 0 = 0) (k1_1 : ct1 1 = 0) (k1_2 : ct1 2 = 0) : Met l yX12_count (Cond.code yX12_count cX12_count 2 (some .int) :: GW) ({ frames := 8, cells := 0, slots := 0, locals := 120 } : Room) (va_Pc [.ref ad0, .int 6] (pcq D cy kv sz [(ad0, ob 12 114 fn0), (ad1, ari (cy 0) 3 ct1)])) (va_Qi (fun r (_ : Unit) => r = 0) (fun _ t => bq D (fun w => ∃ (nc900 : Nat → Value), w = [(ad0, ob 12 114 nc900)] ∧ nc900 0 = .int 0) (va_A [(ad0, ob 12 114 fn0), (ad1, ari (cy 0) 3 ct1)] sz) t) (va_A [(ad0, ob 12 114 fn0), (ad1, ari (cy 0) 3 ct1)] sz)) 0 0 (va_A [(ad0, ob 12 114 fn0), (ad1, ari (cy 0) 3 ct1)] sz) := by
  refine Met.ofW (cc := cX12_count) (maxL := 2) (ret := (some .int)) (by decide) rfl ?_
  intro p e s m args below meth c s₁ B hml hv
  obtain ⟨rfl, hsz, hP, hK, hD0, hE⟩ := hv
  have hx := B.exec
  have hb := B.bytes
  have hr := B.returns
  have hG : ∀ w ∈ GW, w.before ([.ref ad0, .int 6] : List Value).toArray s = true := fun w h => atoms_spec (ws := Cond.code yX12_count cX12_count 2 (some .int) :: GW) B.pre w (List.mem_cons_of_mem _ h)
  have hown : s.vm.findClass RX12 = some m.cls := findClass_of_methodNamed B.named
  have hlocks := B.notSynchronized
  subst hsz
  have hD := hD0.self (sz := s.heap.size)
  generalize hAe : va_A [(ad0, ob 12 114 fn0), (ad1, ari (cy 0) 3 ct1)] s.heap.size = A at hD hE ⊢
  have hA : ∀ q : Nat, s.heap.size ≤ q → A q := fun q h => by rw [← hAe]; exact Or.inr h
  have hS : va_S A s.heap s.heap [] := va_S.rf
  clear hAe hD0
  have hl0 := lv_entry ([.ref ad0, .int 6]) (n := 2) (Nat.le_of_ble_eq_true rfl)
  rw [lg_entry_eq]
  generalize (lg_sl ([.ref ad0, .int 6]) ++ List.replicate (2 - (lg_sl ([.ref ad0, .int 6])).length) Slot.unset).toArray = ls at hl0 ⊢
  have hl : lv_has ls 2 [(0, .ref ad0), (1, .int 6)] := hl0
  clear hl0
  refine lv_aload_n (pc := 0) hx hb dX12_count_0 rfl (lv_at hl 0 rfl) ?_
  refine lv_iconst (pc := 1) (v := 0) hx hb dX12_count_1 (by decide) ?_
  refine ob_put (pc := 2) (v := .int 0) (ci := 12) (C := RX12) (T := TX12) (N := 114) hx hb hG in_X12 tyX12 tyX12_ok nmX12 hown hK hP hD hS 0 rfl rfl 0 (by decide) (hG _ g_432) rfl rfl rfl rfl dX12_count_2 (ws' := [(ad0, ob 12 114 (vup fn0 0 (.int 0))), (ad1, ari (cy 0) 3 ct1)]) rfl (fun H1 lo1 hP1 hD1 hS1 => ?_)
  clear hP hD hS
  refine lv_iload_n (pc := 5) hx hb dX12_count_5 rfl (lv_at hl 1 rfl) ?_
  refine lv_tableIn (pc := 6) (off := 70) (tgt := 76) hx hb dX12_count_6 (by decide) (by decide) (by decide) (by decide) ?_
  refine lv_aload_n (pc := 76) hx hb dX12_count_76 rfl (lv_at hl 0 rfl) ?_
  refine ob_get (pc := 77) (v := .ref ad1) (ci := 12) (C := RX12) (T := TX12) (N := 114) hx hb hG in_X12 hown hK hP1 0 rfl rfl 56 (by decide) (hG _ g_390) rfl h0_56 dX12_count_77 ?_
  refine lv_iload_n (pc := 80) hx hb dX12_count_80 rfl (lv_at hl 1 rfl) ?_
  refine lv_iconst (pc := 81) (v := 4) hx hb dX12_count_81 (by decide) ?_
  refine lv_isub (pc := 82) hx hb dX12_count_82 ?_
  refine tp_i (y := 2) (by decide) ?_
  refine va_iald (pc := 83) hx hb hK hP1 1 0 rfl rfl (show ¬ ((2 : Int32) < 0 ∨ 3 ≤ (2 : Int32).toNatClampNeg) by decide) dX12_count_83 ?_
  refine tp_i (y := 0) k1_2 ?_
  have hP99 := hP1.sub (ws' := [(ad0, ob 12 114 (vup fn0 0 (.int 0)))]) [0] rfl
  have hD99 := hD1.sub (ws' := [(ad0, ob 12 114 (vup fn0 0 (.int 0)))]) [0] (by decide) rfl
  exact W.iret (pc := 84) (v := 0) hx hb hr (fun t ht hW => ⟨⟨0, (), rfl, rfl, _, ⟨(vup fn0 0 (.int 0)), rfl, rfl⟩, by rw [ht]; exact hP99, hD99⟩, hS1.F ht⟩) hS1.2.2 dX12_count_84
set_option maxHeartbeats 4000000 in
set_option maxRecDepth 100000 in
/-- X12_count -/
theorem m_count_7 (l : Launch) (D : va_G) (cy : Nat → ClassId) (kv : KV) (sz : Nat) (ad0 : Nat) (fn0 : Nat → Value) (h0_107 : fn0 107 = .int 0) : Met l yX12_count (Cond.code yX12_count cX12_count 2 (some .int) :: GW) ({ frames := 8, cells := 0, slots := 0, locals := 120 } : Room) (va_Pc [.ref ad0, .int 7] (pcq D cy kv sz [(ad0, ob 12 114 fn0)])) (va_Qi (fun r (_ : Unit) => r = 0) (fun _ t => bq D (fun w => ∃ (nc900 : Nat → Value), w = [(ad0, ob 12 114 nc900)] ∧ nc900 0 = .int 0) (va_A [(ad0, ob 12 114 fn0)] sz) t) (va_A [(ad0, ob 12 114 fn0)] sz)) 0 0 (va_A [(ad0, ob 12 114 fn0)] sz) := by
  refine Met.ofW (cc := cX12_count) (maxL := 2) (ret := (some .int)) (by decide) rfl ?_
  intro p e s m args below meth c s₁ B hml hv
  obtain ⟨rfl, hsz, hP, hK, hD0, hE⟩ := hv
  have hx := B.exec
  have hb := B.bytes
  have hr := B.returns
  have hG : ∀ w ∈ GW, w.before ([.ref ad0, .int 7] : List Value).toArray s = true := fun w h => atoms_spec (ws := Cond.code yX12_count cX12_count 2 (some .int) :: GW) B.pre w (List.mem_cons_of_mem _ h)
  have hown : s.vm.findClass RX12 = some m.cls := findClass_of_methodNamed B.named
  have hlocks := B.notSynchronized
  subst hsz
  have hD := hD0.self (sz := s.heap.size)
  generalize hAe : va_A [(ad0, ob 12 114 fn0)] s.heap.size = A at hD hE ⊢
  have hA : ∀ q : Nat, s.heap.size ≤ q → A q := fun q h => by rw [← hAe]; exact Or.inr h
  have hS : va_S A s.heap s.heap [] := va_S.rf
  clear hAe hD0
  have hl0 := lv_entry ([.ref ad0, .int 7]) (n := 2) (Nat.le_of_ble_eq_true rfl)
  rw [lg_entry_eq]
  generalize (lg_sl ([.ref ad0, .int 7]) ++ List.replicate (2 - (lg_sl ([.ref ad0, .int 7])).length) Slot.unset).toArray = ls at hl0 ⊢
  have hl : lv_has ls 2 [(0, .ref ad0), (1, .int 7)] := hl0
  clear hl0
  refine lv_aload_n (pc := 0) hx hb dX12_count_0 rfl (lv_at hl 0 rfl) ?_
  refine lv_iconst (pc := 1) (v := 0) hx hb dX12_count_1 (by decide) ?_
  refine ob_put (pc := 2) (v := .int 0) (ci := 12) (C := RX12) (T := TX12) (N := 114) hx hb hG in_X12 tyX12 tyX12_ok nmX12 hown hK hP hD hS 0 rfl rfl 0 (by decide) (hG _ g_432) rfl rfl rfl rfl dX12_count_2 (ws' := [(ad0, ob 12 114 (vup fn0 0 (.int 0)))]) rfl (fun H1 lo1 hP1 hD1 hS1 => ?_)
  clear hP hD hS
  refine lv_iload_n (pc := 5) hx hb dX12_count_5 rfl (lv_at hl 1 rfl) ?_
  refine lv_tableIn (pc := 6) (off := 79) (tgt := 85) hx hb dX12_count_6 (by decide) (by decide) (by decide) (by decide) ?_
  refine lv_aload_n (pc := 85) hx hb dX12_count_85 rfl (lv_at hl 0 rfl) ?_
  refine ob_get (pc := 86) (v := .int 0) (ci := 12) (C := RX12) (T := TX12) (N := 114) hx hb hG in_X12 hown hK hP1 0 rfl rfl 107 (by decide) (hG _ g_511) rfl h0_107 dX12_count_86 ?_
  exact W.iret (pc := 89) (v := 0) hx hb hr (fun t ht hW => ⟨⟨0, (), rfl, rfl, _, ⟨(vup fn0 0 (.int 0)), rfl, rfl⟩, by rw [ht]; exact hP1, hD1⟩, hS1.F ht⟩) hS1.2.2 dX12_count_89
set_option maxHeartbeats 4000000 in
set_option maxRecDepth 100000 in
/-- X12_count -/
theorem m_count_8 (l : Launch) (D : va_G) (cy : Nat → ClassId) (kv : KV) (sz : Nat) (ad0 : Nat) (fn0 : Nat → Value) (h0_108 : fn0 108 = .int 0) : Met l yX12_count (Cond.code yX12_count cX12_count 2 (some .int) :: GW) ({ frames := 8, cells := 0, slots := 0, locals := 120 } : Room) (va_Pc [.ref ad0, .int 8] (pcq D cy kv sz [(ad0, ob 12 114 fn0)])) (va_Qi (fun r (_ : Unit) => r = 0) (fun _ t => bq D (fun w => ∃ (nc900 : Nat → Value), w = [(ad0, ob 12 114 nc900)] ∧ nc900 0 = .int 0) (va_A [(ad0, ob 12 114 fn0)] sz) t) (va_A [(ad0, ob 12 114 fn0)] sz)) 0 0 (va_A [(ad0, ob 12 114 fn0)] sz) := by
  refine Met.ofW (cc := cX12_count) (maxL := 2) (ret := (some .int)) (by decide) rfl ?_
  intro p e s m args below meth c s₁ B hml hv
  obtain ⟨rfl, hsz, hP, hK, hD0, hE⟩ := hv
  have hx := B.exec
  have hb := B.bytes
  have hr := B.returns
  have hG : ∀ w ∈ GW, w.before ([.ref ad0, .int 8] : List Value).toArray s = true := fun w h => atoms_spec (ws := Cond.code yX12_count cX12_count 2 (some .int) :: GW) B.pre w (List.mem_cons_of_mem _ h)
  have hown : s.vm.findClass RX12 = some m.cls := findClass_of_methodNamed B.named
  have hlocks := B.notSynchronized
  subst hsz
  have hD := hD0.self (sz := s.heap.size)
  generalize hAe : va_A [(ad0, ob 12 114 fn0)] s.heap.size = A at hD hE ⊢
  have hA : ∀ q : Nat, s.heap.size ≤ q → A q := fun q h => by rw [← hAe]; exact Or.inr h
  have hS : va_S A s.heap s.heap [] := va_S.rf
  clear hAe hD0
  have hl0 := lv_entry ([.ref ad0, .int 8]) (n := 2) (Nat.le_of_ble_eq_true rfl)
  rw [lg_entry_eq]
  generalize (lg_sl ([.ref ad0, .int 8]) ++ List.replicate (2 - (lg_sl ([.ref ad0, .int 8])).length) Slot.unset).toArray = ls at hl0 ⊢
  have hl : lv_has ls 2 [(0, .ref ad0), (1, .int 8)] := hl0
  clear hl0
  refine lv_aload_n (pc := 0) hx hb dX12_count_0 rfl (lv_at hl 0 rfl) ?_
  refine lv_iconst (pc := 1) (v := 0) hx hb dX12_count_1 (by decide) ?_
  refine ob_put (pc := 2) (v := .int 0) (ci := 12) (C := RX12) (T := TX12) (N := 114) hx hb hG in_X12 tyX12 tyX12_ok nmX12 hown hK hP hD hS 0 rfl rfl 0 (by decide) (hG _ g_432) rfl rfl rfl rfl dX12_count_2 (ws' := [(ad0, ob 12 114 (vup fn0 0 (.int 0)))]) rfl (fun H1 lo1 hP1 hD1 hS1 => ?_)
  clear hP hD hS
  refine lv_iload_n (pc := 5) hx hb dX12_count_5 rfl (lv_at hl 1 rfl) ?_
  refine lv_tableIn (pc := 6) (off := 84) (tgt := 90) hx hb dX12_count_6 (by decide) (by decide) (by decide) (by decide) ?_
  refine lv_aload_n (pc := 90) hx hb dX12_count_90 rfl (lv_at hl 0 rfl) ?_
  refine ob_get (pc := 91) (v := .int 0) (ci := 12) (C := RX12) (T := TX12) (N := 114) hx hb hG in_X12 hown hK hP1 0 rfl rfl 108 (by decide) (hG _ g_493) rfl h0_108 dX12_count_91 ?_
  exact W.iret (pc := 94) (v := 0) hx hb hr (fun t ht hW => ⟨⟨0, (), rfl, rfl, _, ⟨(vup fn0 0 (.int 0)), rfl, rfl⟩, by rw [ht]; exact hP1, hD1⟩, hS1.F ht⟩) hS1.2.2 dX12_count_94
set_option maxHeartbeats 4000000 in
set_option maxRecDepth 100000 in
/-- X12_count -/
theorem m_count_o (l : Launch) (D : va_G) (cy : Nat → ClassId) (kv : KV) (sz : Nat) (ad0 : Nat) (xi0 : Int32) (fn0 : Nat → Value) (hn : xi0.toInt < 0 ∨ 8 < xi0.toInt) : Met l yX12_count (Cond.code yX12_count cX12_count 2 (some .int) :: GW) ({ frames := 8, cells := 0, slots := 0, locals := 120 } : Room) (va_Pc [.ref ad0, .int xi0] (pcq D cy kv sz [(ad0, ob 12 114 fn0)])) (va_Qi (fun r (_ : Unit) => r = (-1)) (fun _ t => bq D (fun w => ∃ (nc900 : Nat → Value), w = [(ad0, ob 12 114 nc900)] ∧ nc900 0 = .int 0) (va_A [(ad0, ob 12 114 fn0)] sz) t) (va_A [(ad0, ob 12 114 fn0)] sz)) 0 0 (va_A [(ad0, ob 12 114 fn0)] sz) := by
  refine Met.ofW (cc := cX12_count) (maxL := 2) (ret := (some .int)) (by decide) rfl ?_
  intro p e s m args below meth c s₁ B hml hv
  obtain ⟨rfl, hsz, hP, hK, hD0, hE⟩ := hv
  have hx := B.exec
  have hb := B.bytes
  have hr := B.returns
  have hG : ∀ w ∈ GW, w.before ([.ref ad0, .int xi0] : List Value).toArray s = true := fun w h => atoms_spec (ws := Cond.code yX12_count cX12_count 2 (some .int) :: GW) B.pre w (List.mem_cons_of_mem _ h)
  have hown : s.vm.findClass RX12 = some m.cls := findClass_of_methodNamed B.named
  have hlocks := B.notSynchronized
  subst hsz
  have hD := hD0.self (sz := s.heap.size)
  generalize hAe : va_A [(ad0, ob 12 114 fn0)] s.heap.size = A at hD hE ⊢
  have hA : ∀ q : Nat, s.heap.size ≤ q → A q := fun q h => by rw [← hAe]; exact Or.inr h
  have hS : va_S A s.heap s.heap [] := va_S.rf
  clear hAe hD0
  have hl0 := lv_entry ([.ref ad0, .int xi0]) (n := 2) (Nat.le_of_ble_eq_true rfl)
  rw [lg_entry_eq]
  generalize (lg_sl ([.ref ad0, .int xi0]) ++ List.replicate (2 - (lg_sl ([.ref ad0, .int xi0])).length) Slot.unset).toArray = ls at hl0 ⊢
  have hl : lv_has ls 2 [(0, .ref ad0), (1, .int xi0)] := hl0
  clear hl0
  refine lv_aload_n (pc := 0) hx hb dX12_count_0 rfl (lv_at hl 0 rfl) ?_
  refine lv_iconst (pc := 1) (v := 0) hx hb dX12_count_1 (by decide) ?_
  refine ob_put (pc := 2) (v := .int 0) (ci := 12) (C := RX12) (T := TX12) (N := 114) hx hb hG in_X12 tyX12 tyX12_ok nmX12 hown hK hP hD hS 0 rfl rfl 0 (by decide) (hG _ g_432) rfl rfl rfl rfl dX12_count_2 (ws' := [(ad0, ob 12 114 (vup fn0 0 (.int 0)))]) rfl (fun H1 lo1 hP1 hD1 hS1 => ?_)
  clear hP hD hS
  refine lv_iload_n (pc := 5) hx hb dX12_count_5 rfl (lv_at hl 1 rfl) ?_
  refine lv_tableOut (pc := 6) (tgt := 95) hx hb dX12_count_6 hn (by decide) ?_
  refine lv_iconst (pc := 95) (v := (-1)) hx hb dX12_count_95 (by decide) ?_
  exact W.iret (pc := 96) (v := (-1)) hx hb hr (fun t ht hW => ⟨⟨(-1), (), rfl, rfl, _, ⟨(vup fn0 0 (.int 0)), rfl, rfl⟩, by rw [ht]; exact hP1, hD1⟩, hS1.F ht⟩) hS1.2.2 dX12_count_96
set_option maxHeartbeats 4000000 in
set_option maxRecDepth 100000 in
/-- X12_isRecord -/
theorem m_isRecord_n (l : Launch) (D : va_G) (cy : Nat → ClassId) (kv : KV) (sz : Nat) (ad0 : Nat) (xi0 : Int32) (fn0 : Nat → Value) (h0_0 : fn0 0 = .int 0) (h0_89 : fn0 89 = .int 0) (hn : xi0 < 0) : Met l yX12_isRecord (Cond.code yX12_isRecord cX12_isRecord 2 (some .boolean) :: GW) ({ frames := 9, cells := 0, slots := 0, locals := 160 } : Room) (va_Pc [.ref ad0, .int xi0] (pcq D cy kv sz [(ad0, ob 12 114 fn0)])) (va_Qi (fun r (_ : Unit) => r = 0) (fun _ t => bq D (fun w => w = [(ad0, ob 12 114 (vup fn0 0 (.int 1)))]) (va_A [(ad0, ob 12 114 fn0)] sz) t) (va_A [(ad0, ob 12 114 fn0)] sz)) 0 0 (va_A [(ad0, ob 12 114 fn0)] sz) := by
  refine Met.ofW (cc := cX12_isRecord) (maxL := 2) (ret := (some .boolean)) (by decide) rfl ?_
  intro p e s m args below meth c s₁ B hml hv
  obtain ⟨rfl, hsz, hP, hK, hD0, hE⟩ := hv
  have hx := B.exec
  have hb := B.bytes
  have hr := B.returns
  have hG : ∀ w ∈ GW, w.before ([.ref ad0, .int xi0] : List Value).toArray s = true := fun w h => atoms_spec (ws := Cond.code yX12_isRecord cX12_isRecord 2 (some .boolean) :: GW) B.pre w (List.mem_cons_of_mem _ h)
  have hown : s.vm.findClass RX12 = some m.cls := findClass_of_methodNamed B.named
  have hlocks := B.notSynchronized
  subst hsz
  have hD := hD0.self (sz := s.heap.size)
  generalize hAe : va_A [(ad0, ob 12 114 fn0)] s.heap.size = A at hD hE ⊢
  have hA : ∀ q : Nat, s.heap.size ≤ q → A q := fun q h => by rw [← hAe]; exact Or.inr h
  have hS : va_S A s.heap s.heap [] := va_S.rf
  clear hAe hD0
  have hl0 := lv_entry ([.ref ad0, .int xi0]) (n := 2) (Nat.le_of_ble_eq_true rfl)
  rw [lg_entry_eq]
  generalize (lg_sl ([.ref ad0, .int xi0]) ++ List.replicate (2 - (lg_sl ([.ref ad0, .int xi0])).length) Slot.unset).toArray = ls at hl0 ⊢
  have hl : lv_has ls 2 [(0, .ref ad0), (1, .int xi0)] := hl0
  clear hl0
  refine lv_aload_n (pc := 0) hx hb dX12_isRecord_0 rfl (lv_at hl 0 rfl) ?_
  refine lv_iload_n (pc := 1) hx hb dX12_isRecord_1 rfl (lv_at hl 1 rfl) ?_
  refine lv_if_lt (pc := 2) (tgt := 17) hx hb dX12_isRecord_2 (by decide) (fun c1 => ?_) (fun c1 => absurd hn c1)
  refine lv_iconst (pc := 17) (v := 0) hx hb dX12_isRecord_17 (by decide) ?_
  refine lv_iconst (pc := 18) (v := 1) hx hb dX12_isRecord_18 (by decide) ?_
  refine cq_i (pc := 19) (wr := []) (k2 := 0) (n2 := 0) (va_runV (As := [.int 0, .int 1]) (rest := []) ⟨hx, hb, hml, hown, hG⟩ (m_may0 l D cy kv s.heap.size ad0 fn0 h0_0) (cwV 2 hG (gi_V g_475 g_476 g_477 g_334 g_434) rfl rfl rfl (by decide +kernel) ⟨Nat.le_of_ble_eq_true rfl, Nat.le_of_ble_eq_true rfl⟩) ⟨pq_blind, (va_recv hK hP (ci := 12) (q0 := 0) rfl rfl), (pq_pass hP hD hK hE hS hA [0] rfl (by decide))⟩ rfl rfl hl.1 rfl (lv_room (Nat.le_of_ble_eq_true rfl)) dX12_isRecord_19 ⟨Nat.le_of_ble_eq_true rfl, Nat.le_of_ble_eq_true rfl⟩) hP hD hS hA [0] [] rfl rfl (by decide) (by decide) (by decide) (by decide) (fun r2 w2 H2 lo2 e2 hR2 hP2r hD2r hS2 => ?_)
  subst hR2
  subst e2
  have hP2 : va_P D classes [(ad0, ob 12 114 (vup fn0 0 (.int 1)))] H2 := hP2r
  have hD2 : va_D A [(ad0, ob 12 114 (vup fn0 0 (.int 1)))] := hD2r
  clear hP2r hD2r
  clear hP hD hS
  exact W.zret (pc := 22) (v := 0) (ty := .boolean) hx hb hr rfl (fun t ht hW => ⟨⟨0, (), rfl, rfl, _, rfl, by rw [ht]; exact hP2, hD2⟩, hS2.F ht⟩) hS2.2.2 dX12_isRecord_22
set_option maxHeartbeats 4000000 in
set_option maxRecDepth 100000 in
/-- X12_isRecord -/
theorem m_isRecord_p (l : Launch) (D : va_G) (cy : Nat → ClassId) (kv : KV) (sz : Nat) (ad0 : Nat) (xi0 : Int32) (fn0 : Nat → Value) (h0_0 : fn0 0 = .int 0) (h0_89 : fn0 89 = .int 0) (hn : 0 ≤ xi0) : Met l yX12_isRecord (Cond.code yX12_isRecord cX12_isRecord 2 (some .boolean) :: GW) ({ frames := 9, cells := 0, slots := 0, locals := 160 } : Room) (va_Pc [.ref ad0, .int xi0] (pcq D cy kv sz [(ad0, ob 12 114 fn0)])) (va_Qi (fun r (_ : Unit) => r = 0) (fun _ t => bq D (fun w => w = [(ad0, ob 12 114 (vup fn0 0 (.int 1)))]) (va_A [(ad0, ob 12 114 fn0)] sz) t) (va_A [(ad0, ob 12 114 fn0)] sz)) 0 0 (va_A [(ad0, ob 12 114 fn0)] sz) := by
  refine Met.ofW (cc := cX12_isRecord) (maxL := 2) (ret := (some .boolean)) (by decide) rfl ?_
  intro p e s m args below meth c s₁ B hml hv
  obtain ⟨rfl, hsz, hP, hK, hD0, hE⟩ := hv
  have hx := B.exec
  have hb := B.bytes
  have hr := B.returns
  have hG : ∀ w ∈ GW, w.before ([.ref ad0, .int xi0] : List Value).toArray s = true := fun w h => atoms_spec (ws := Cond.code yX12_isRecord cX12_isRecord 2 (some .boolean) :: GW) B.pre w (List.mem_cons_of_mem _ h)
  have hown : s.vm.findClass RX12 = some m.cls := findClass_of_methodNamed B.named
  have hlocks := B.notSynchronized
  subst hsz
  have hD := hD0.self (sz := s.heap.size)
  generalize hAe : va_A [(ad0, ob 12 114 fn0)] s.heap.size = A at hD hE ⊢
  have hA : ∀ q : Nat, s.heap.size ≤ q → A q := fun q h => by rw [← hAe]; exact Or.inr h
  have hS : va_S A s.heap s.heap [] := va_S.rf
  clear hAe hD0
  have hl0 := lv_entry ([.ref ad0, .int xi0]) (n := 2) (Nat.le_of_ble_eq_true rfl)
  rw [lg_entry_eq]
  generalize (lg_sl ([.ref ad0, .int xi0]) ++ List.replicate (2 - (lg_sl ([.ref ad0, .int xi0])).length) Slot.unset).toArray = ls at hl0 ⊢
  have hl : lv_has ls 2 [(0, .ref ad0), (1, .int xi0)] := hl0
  clear hl0
  refine lv_aload_n (pc := 0) hx hb dX12_isRecord_0 rfl (lv_at hl 0 rfl) ?_
  refine lv_iload_n (pc := 1) hx hb dX12_isRecord_1 rfl (lv_at hl 1 rfl) ?_
  refine lv_if_lt (pc := 2) (tgt := 17) hx hb dX12_isRecord_2 (by decide) (fun c1 => absurd c1 (i_nlt hn)) (fun c1 => ?_)
  refine lv_iload_n (pc := 5) hx hb dX12_isRecord_5 rfl (lv_at hl 1 rfl) ?_
  refine lv_aload_n (pc := 6) hx hb dX12_isRecord_6 rfl (lv_at hl 0 rfl) ?_
  refine ob_get (pc := 7) (v := .int 0) (ci := 12) (C := RX12) (T := TX12) (N := 114) hx hb hG in_X12 hown hK hP 0 rfl rfl 89 (by decide) (hG _ g_507) rfl h0_89 dX12_isRecord_7 ?_
  refine lv_icmp_ge (pc := 10) (tgt := 17) hx hb dX12_isRecord_10 (by decide) (fun c2 => ?_) (fun c2 => absurd hn c2)
  refine lv_iconst (pc := 17) (v := 0) hx hb dX12_isRecord_17 (by decide) ?_
  refine lv_iconst (pc := 18) (v := 1) hx hb dX12_isRecord_18 (by decide) ?_
  refine cq_i (pc := 19) (wr := []) (k2 := 0) (n2 := 0) (va_runV (As := [.int 0, .int 1]) (rest := []) ⟨hx, hb, hml, hown, hG⟩ (m_may0 l D cy kv s.heap.size ad0 fn0 h0_0) (cwV 2 hG (gi_V g_475 g_476 g_477 g_334 g_434) rfl rfl rfl (by decide +kernel) ⟨Nat.le_of_ble_eq_true rfl, Nat.le_of_ble_eq_true rfl⟩) ⟨pq_blind, (va_recv hK hP (ci := 12) (q0 := 0) rfl rfl), (pq_pass hP hD hK hE hS hA [0] rfl (by decide))⟩ rfl rfl hl.1 rfl (lv_room (Nat.le_of_ble_eq_true rfl)) dX12_isRecord_19 ⟨Nat.le_of_ble_eq_true rfl, Nat.le_of_ble_eq_true rfl⟩) hP hD hS hA [0] [] rfl rfl (by decide) (by decide) (by decide) (by decide) (fun r3 w3 H3 lo3 e3 hR3 hP3r hD3r hS3 => ?_)
  subst hR3
  subst e3
  have hP3 : va_P D classes [(ad0, ob 12 114 (vup fn0 0 (.int 1)))] H3 := hP3r
  have hD3 : va_D A [(ad0, ob 12 114 (vup fn0 0 (.int 1)))] := hD3r
  clear hP3r hD3r
  clear hP hD hS
  exact W.zret (pc := 22) (v := 0) (ty := .boolean) hx hb hr rfl (fun t ht hW => ⟨⟨0, (), rfl, rfl, _, rfl, by rw [ht]; exact hP3, hD3⟩, hS3.F ht⟩) hS3.2.2 dX12_isRecord_22
set_option maxHeartbeats 4000000 in
set_option maxRecDepth 100000 in
/-- X12_record -/
theorem m_record_n (l : Launch) (D : va_G) (cy : Nat → ClassId) (kv : KV) (sz : Nat) (ad0 : Nat) (xi0 : Int32) (xi1 : Int32) (fn0 : Nat → Value) (h0_89 : fn0 89 = .int 0) (hn : xi0 < 0) : Met l yX12_record (Cond.code yX12_record cX12_record 5 (some .int) :: GW) ({ frames := 10, cells := 0, slots := 0, locals := 200 } : Room) (va_Pc [.ref ad0, .int xi0, .int xi1] (pcq D cy kv sz [(ad0, ob 12 114 fn0)])) (va_Qi (fun r (_ : Unit) => r = 0) (fun _ t => bq D (fun w => ∃ (nc900 : Nat → Value), w = [(ad0, ob 12 114 nc900)] ∧ nc900 0 = .int 1) (va_A [(ad0, ob 12 114 fn0)] sz) t) (va_A [(ad0, ob 12 114 fn0)] sz)) 0 0 (va_A [(ad0, ob 12 114 fn0)] sz) := by
  refine Met.ofW (cc := cX12_record) (maxL := 5) (ret := (some .int)) (by decide) rfl ?_
  intro p e s m args below meth c s₁ B hml hv
  obtain ⟨rfl, hsz, hP, hK, hD0, hE⟩ := hv
  have hx := B.exec
  have hb := B.bytes
  have hr := B.returns
  have hG : ∀ w ∈ GW, w.before ([.ref ad0, .int xi0, .int xi1] : List Value).toArray s = true := fun w h => atoms_spec (ws := Cond.code yX12_record cX12_record 5 (some .int) :: GW) B.pre w (List.mem_cons_of_mem _ h)
  have hown : s.vm.findClass RX12 = some m.cls := findClass_of_methodNamed B.named
  have hlocks := B.notSynchronized
  subst hsz
  have hD := hD0.self (sz := s.heap.size)
  generalize hAe : va_A [(ad0, ob 12 114 fn0)] s.heap.size = A at hD hE ⊢
  have hA : ∀ q : Nat, s.heap.size ≤ q → A q := fun q h => by rw [← hAe]; exact Or.inr h
  have hS : va_S A s.heap s.heap [] := va_S.rf
  clear hAe hD0
  have hl0 := lv_entry ([.ref ad0, .int xi0, .int xi1]) (n := 5) (Nat.le_of_ble_eq_true rfl)
  rw [lg_entry_eq]
  generalize (lg_sl ([.ref ad0, .int xi0, .int xi1]) ++ List.replicate (5 - (lg_sl ([.ref ad0, .int xi0, .int xi1])).length) Slot.unset).toArray = ls at hl0 ⊢
  have hl : lv_has ls 5 [(0, .ref ad0), (1, .int xi0), (2, .int xi1)] := hl0
  clear hl0
  refine lv_aload_n (pc := 0) hx hb dX12_record_0 rfl (lv_at hl 0 rfl) ?_
  refine lv_iconst (pc := 1) (v := 0) hx hb dX12_record_1 (by decide) ?_
  refine ob_put (pc := 2) (v := .int 0) (ci := 12) (C := RX12) (T := TX12) (N := 114) hx hb hG in_X12 tyX12 tyX12_ok nmX12 hown hK hP hD hS 0 rfl rfl 0 (by decide) (hG _ g_432) rfl rfl rfl rfl dX12_record_2 (ws' := [(ad0, ob 12 114 (vup fn0 0 (.int 0)))]) rfl (fun H1 lo1 hP1 hD1 hS1 => ?_)
  clear hP hD hS
  refine lv_aload_n (pc := 5) hx hb dX12_record_5 rfl (lv_at hl 0 rfl) ?_
  refine lv_iload_n (pc := 6) hx hb dX12_record_6 rfl (lv_at hl 1 rfl) ?_
  refine cq_i (pc := 7) (wr := []) (k2 := 0) (n2 := 0) (va_runV (As := [.int xi0]) (rest := []) ⟨hx, hb, hml, hown, hG⟩ (m_isRecord_n l D cy kv H1.size ad0 xi0 (vup fn0 0 (.int 0)) rfl h0_89 hn) (cwV 1 hG (gi_V g_535 g_536 g_537 g_334 g_534) rfl rfl rfl (by decide +kernel) ⟨Nat.le_of_ble_eq_true rfl, Nat.le_of_ble_eq_true rfl⟩) ⟨pq_blind, (va_recv hK hP1 (ci := 12) (q0 := 0) rfl rfl), (pq_pass hP1 hD1 hK hE hS1 hA [0] rfl (by decide))⟩ rfl rfl hl.1 rfl (lv_room (Nat.le_of_ble_eq_true rfl)) dX12_record_7 ⟨Nat.le_of_ble_eq_true rfl, Nat.le_of_ble_eq_true rfl⟩) hP1 hD1 hS1 hA [0] [] rfl rfl (by decide) (by decide) (by decide) (by decide) (fun r2 w2 H2 lo2 e2 hR2 hP2r hD2r hS2 => ?_)
  subst hR2
  subst e2
  have hP2 : va_P D classes [(ad0, ob 12 114 (vup (vup fn0 0 (.int 0)) 0 (.int 1)))] H2 := hP2r
  have hD2 : va_D A [(ad0, ob 12 114 (vup (vup fn0 0 (.int 0)) 0 (.int 1)))] := hD2r
  clear hP2r hD2r
  clear hP1 hD1 hS1
  clear H1 lo1
  refine lv_if_eq (pc := 10) (tgt := 35) hx hb dX12_record_10 (by decide) (fun c3 => ?_) (fun c3 => absurd (by decide) c3)
  refine lv_iconst (pc := 35) (v := 0) hx hb dX12_record_35 (by decide) ?_
  exact W.iret (pc := 36) (v := 0) hx hb hr (fun t ht hW => ⟨⟨0, (), rfl, rfl, _, ⟨(vup (vup fn0 0 (.int 0)) 0 (.int 1)), rfl, rfl⟩, by rw [ht]; exact hP2, hD2⟩, hS2.F ht⟩) hS2.2.2 dX12_record_36
set_option maxHeartbeats 4000000 in
set_option maxRecDepth 100000 in
/-- X12_record -/
theorem m_record_p (l : Launch) (D : va_G) (cy : Nat → ClassId) (kv : KV) (sz : Nat) (ad0 : Nat) (xi0 : Int32) (xi1 : Int32) (fn0 : Nat → Value) (h0_89 : fn0 89 = .int 0) (hn : 0 ≤ xi0) : Met l yX12_record (Cond.code yX12_record cX12_record 5 (some .int) :: GW) ({ frames := 10, cells := 0, slots := 0, locals := 200 } : Room) (va_Pc [.ref ad0, .int xi0, .int xi1] (pcq D cy kv sz [(ad0, ob 12 114 fn0)])) (va_Qi (fun r (_ : Unit) => r = 0) (fun _ t => bq D (fun w => ∃ (nc900 : Nat → Value), w = [(ad0, ob 12 114 nc900)] ∧ nc900 0 = .int 1) (va_A [(ad0, ob 12 114 fn0)] sz) t) (va_A [(ad0, ob 12 114 fn0)] sz)) 0 0 (va_A [(ad0, ob 12 114 fn0)] sz) := by
  refine Met.ofW (cc := cX12_record) (maxL := 5) (ret := (some .int)) (by decide) rfl ?_
  intro p e s m args below meth c s₁ B hml hv
  obtain ⟨rfl, hsz, hP, hK, hD0, hE⟩ := hv
  have hx := B.exec
  have hb := B.bytes
  have hr := B.returns
  have hG : ∀ w ∈ GW, w.before ([.ref ad0, .int xi0, .int xi1] : List Value).toArray s = true := fun w h => atoms_spec (ws := Cond.code yX12_record cX12_record 5 (some .int) :: GW) B.pre w (List.mem_cons_of_mem _ h)
  have hown : s.vm.findClass RX12 = some m.cls := findClass_of_methodNamed B.named
  have hlocks := B.notSynchronized
  subst hsz
  have hD := hD0.self (sz := s.heap.size)
  generalize hAe : va_A [(ad0, ob 12 114 fn0)] s.heap.size = A at hD hE ⊢
  have hA : ∀ q : Nat, s.heap.size ≤ q → A q := fun q h => by rw [← hAe]; exact Or.inr h
  have hS : va_S A s.heap s.heap [] := va_S.rf
  clear hAe hD0
  have hl0 := lv_entry ([.ref ad0, .int xi0, .int xi1]) (n := 5) (Nat.le_of_ble_eq_true rfl)
  rw [lg_entry_eq]
  generalize (lg_sl ([.ref ad0, .int xi0, .int xi1]) ++ List.replicate (5 - (lg_sl ([.ref ad0, .int xi0, .int xi1])).length) Slot.unset).toArray = ls at hl0 ⊢
  have hl : lv_has ls 5 [(0, .ref ad0), (1, .int xi0), (2, .int xi1)] := hl0
  clear hl0
  refine lv_aload_n (pc := 0) hx hb dX12_record_0 rfl (lv_at hl 0 rfl) ?_
  refine lv_iconst (pc := 1) (v := 0) hx hb dX12_record_1 (by decide) ?_
  refine ob_put (pc := 2) (v := .int 0) (ci := 12) (C := RX12) (T := TX12) (N := 114) hx hb hG in_X12 tyX12 tyX12_ok nmX12 hown hK hP hD hS 0 rfl rfl 0 (by decide) (hG _ g_432) rfl rfl rfl rfl dX12_record_2 (ws' := [(ad0, ob 12 114 (vup fn0 0 (.int 0)))]) rfl (fun H1 lo1 hP1 hD1 hS1 => ?_)
  clear hP hD hS
  refine lv_aload_n (pc := 5) hx hb dX12_record_5 rfl (lv_at hl 0 rfl) ?_
  refine lv_iload_n (pc := 6) hx hb dX12_record_6 rfl (lv_at hl 1 rfl) ?_
  refine cq_i (pc := 7) (wr := []) (k2 := 0) (n2 := 0) (va_runV (As := [.int xi0]) (rest := []) ⟨hx, hb, hml, hown, hG⟩ (m_isRecord_p l D cy kv H1.size ad0 xi0 (vup fn0 0 (.int 0)) rfl h0_89 hn) (cwV 1 hG (gi_V g_535 g_536 g_537 g_334 g_534) rfl rfl rfl (by decide +kernel) ⟨Nat.le_of_ble_eq_true rfl, Nat.le_of_ble_eq_true rfl⟩) ⟨pq_blind, (va_recv hK hP1 (ci := 12) (q0 := 0) rfl rfl), (pq_pass hP1 hD1 hK hE hS1 hA [0] rfl (by decide))⟩ rfl rfl hl.1 rfl (lv_room (Nat.le_of_ble_eq_true rfl)) dX12_record_7 ⟨Nat.le_of_ble_eq_true rfl, Nat.le_of_ble_eq_true rfl⟩) hP1 hD1 hS1 hA [0] [] rfl rfl (by decide) (by decide) (by decide) (by decide) (fun r2 w2 H2 lo2 e2 hR2 hP2r hD2r hS2 => ?_)
  subst hR2
  subst e2
  have hP2 : va_P D classes [(ad0, ob 12 114 (vup (vup fn0 0 (.int 0)) 0 (.int 1)))] H2 := hP2r
  have hD2 : va_D A [(ad0, ob 12 114 (vup (vup fn0 0 (.int 0)) 0 (.int 1)))] := hD2r
  clear hP2r hD2r
  clear hP1 hD1 hS1
  clear H1 lo1
  refine lv_if_eq (pc := 10) (tgt := 35) hx hb dX12_record_10 (by decide) (fun c3 => ?_) (fun c3 => absurd (by decide) c3)
  refine lv_iconst (pc := 35) (v := 0) hx hb dX12_record_35 (by decide) ?_
  exact W.iret (pc := 36) (v := 0) hx hb hr (fun t ht hW => ⟨⟨0, (), rfl, rfl, _, ⟨(vup (vup fn0 0 (.int 0)) 0 (.int 1)), rfl, rfl⟩, by rw [ht]; exact hP2, hD2⟩, hS2.F ht⟩) hS2.2.2 dX12_record_36
set_option maxHeartbeats 4000000 in
set_option maxRecDepth 100000 in
/-- X12_source -/
theorem m_source_n (l : Launch) (D : va_G) (cy : Nat → ClassId) (kv : KV) (sz : Nat) (ad0 : Nat) (xi0 : Int32) (xi1 : Int32) (fn0 : Nat → Value) (h0_89 : fn0 89 = .int 0) (hn : xi0 < 0) : Met l yX12_source (Cond.code yX12_source cX12_source 3 (some .int) :: GW) ({ frames := 10, cells := 0, slots := 0, locals := 200 } : Room) (va_Pc [.ref ad0, .int xi0, .int xi1] (pcq D cy kv sz [(ad0, ob 12 114 fn0)])) (va_Qi (fun r (_ : Unit) => r = 0) (fun _ t => bq D (fun w => ∃ (nc900 : Nat → Value), w = [(ad0, ob 12 114 nc900)] ∧ nc900 0 = .int 1) (va_A [(ad0, ob 12 114 fn0)] sz) t) (va_A [(ad0, ob 12 114 fn0)] sz)) 0 0 (va_A [(ad0, ob 12 114 fn0)] sz) := by
  refine Met.ofW (cc := cX12_source) (maxL := 3) (ret := (some .int)) (by decide) rfl ?_
  intro p e s m args below meth c s₁ B hml hv
  obtain ⟨rfl, hsz, hP, hK, hD0, hE⟩ := hv
  have hx := B.exec
  have hb := B.bytes
  have hr := B.returns
  have hG : ∀ w ∈ GW, w.before ([.ref ad0, .int xi0, .int xi1] : List Value).toArray s = true := fun w h => atoms_spec (ws := Cond.code yX12_source cX12_source 3 (some .int) :: GW) B.pre w (List.mem_cons_of_mem _ h)
  have hown : s.vm.findClass RX12 = some m.cls := findClass_of_methodNamed B.named
  have hlocks := B.notSynchronized
  subst hsz
  have hD := hD0.self (sz := s.heap.size)
  generalize hAe : va_A [(ad0, ob 12 114 fn0)] s.heap.size = A at hD hE ⊢
  have hA : ∀ q : Nat, s.heap.size ≤ q → A q := fun q h => by rw [← hAe]; exact Or.inr h
  have hS : va_S A s.heap s.heap [] := va_S.rf
  clear hAe hD0
  have hl0 := lv_entry ([.ref ad0, .int xi0, .int xi1]) (n := 3) (Nat.le_of_ble_eq_true rfl)
  rw [lg_entry_eq]
  generalize (lg_sl ([.ref ad0, .int xi0, .int xi1]) ++ List.replicate (3 - (lg_sl ([.ref ad0, .int xi0, .int xi1])).length) Slot.unset).toArray = ls at hl0 ⊢
  have hl : lv_has ls 3 [(0, .ref ad0), (1, .int xi0), (2, .int xi1)] := hl0
  clear hl0
  refine lv_aload_n (pc := 0) hx hb dX12_source_0 rfl (lv_at hl 0 rfl) ?_
  refine lv_iconst (pc := 1) (v := 0) hx hb dX12_source_1 (by decide) ?_
  refine ob_put (pc := 2) (v := .int 0) (ci := 12) (C := RX12) (T := TX12) (N := 114) hx hb hG in_X12 tyX12 tyX12_ok nmX12 hown hK hP hD hS 0 rfl rfl 0 (by decide) (hG _ g_432) rfl rfl rfl rfl dX12_source_2 (ws' := [(ad0, ob 12 114 (vup fn0 0 (.int 0)))]) rfl (fun H1 lo1 hP1 hD1 hS1 => ?_)
  clear hP hD hS
  refine lv_aload_n (pc := 5) hx hb dX12_source_5 rfl (lv_at hl 0 rfl) ?_
  refine lv_iload_n (pc := 6) hx hb dX12_source_6 rfl (lv_at hl 1 rfl) ?_
  refine cq_i (pc := 7) (wr := []) (k2 := 0) (n2 := 0) (va_runV (As := [.int xi0]) (rest := []) ⟨hx, hb, hml, hown, hG⟩ (m_isRecord_n l D cy kv H1.size ad0 xi0 (vup fn0 0 (.int 0)) rfl h0_89 hn) (cwV 1 hG (gi_V g_535 g_536 g_537 g_334 g_534) rfl rfl rfl (by decide +kernel) ⟨Nat.le_of_ble_eq_true rfl, Nat.le_of_ble_eq_true rfl⟩) ⟨pq_blind, (va_recv hK hP1 (ci := 12) (q0 := 0) rfl rfl), (pq_pass hP1 hD1 hK hE hS1 hA [0] rfl (by decide))⟩ rfl rfl hl.1 rfl (lv_room (Nat.le_of_ble_eq_true rfl)) dX12_source_7 ⟨Nat.le_of_ble_eq_true rfl, Nat.le_of_ble_eq_true rfl⟩) hP1 hD1 hS1 hA [0] [] rfl rfl (by decide) (by decide) (by decide) (by decide) (fun r2 w2 H2 lo2 e2 hR2 hP2r hD2r hS2 => ?_)
  subst hR2
  subst e2
  have hP2 : va_P D classes [(ad0, ob 12 114 (vup (vup fn0 0 (.int 0)) 0 (.int 1)))] H2 := hP2r
  have hD2 : va_D A [(ad0, ob 12 114 (vup (vup fn0 0 (.int 0)) 0 (.int 1)))] := hD2r
  clear hP2r hD2r
  clear hP1 hD1 hS1
  clear H1 lo1
  refine lv_if_ne (pc := 10) (tgt := 15) hx hb dX12_source_10 (by decide) (fun c3 => absurd (by decide) c3) (fun c3 => ?_)
  refine lv_iconst (pc := 13) (v := 0) hx hb dX12_source_13 (by decide) ?_
  exact W.iret (pc := 14) (v := 0) hx hb hr (fun t ht hW => ⟨⟨0, (), rfl, rfl, _, ⟨(vup (vup fn0 0 (.int 0)) 0 (.int 1)), rfl, rfl⟩, by rw [ht]; exact hP2, hD2⟩, hS2.F ht⟩) hS2.2.2 dX12_source_14
set_option maxHeartbeats 4000000 in
set_option maxRecDepth 100000 in
/-- X12_source -/
theorem m_source_p (l : Launch) (D : va_G) (cy : Nat → ClassId) (kv : KV) (sz : Nat) (ad0 : Nat) (xi0 : Int32) (xi1 : Int32) (fn0 : Nat → Value) (h0_89 : fn0 89 = .int 0) (hn : 0 ≤ xi0) : Met l yX12_source (Cond.code yX12_source cX12_source 3 (some .int) :: GW) ({ frames := 10, cells := 0, slots := 0, locals := 200 } : Room) (va_Pc [.ref ad0, .int xi0, .int xi1] (pcq D cy kv sz [(ad0, ob 12 114 fn0)])) (va_Qi (fun r (_ : Unit) => r = 0) (fun _ t => bq D (fun w => ∃ (nc900 : Nat → Value), w = [(ad0, ob 12 114 nc900)] ∧ nc900 0 = .int 1) (va_A [(ad0, ob 12 114 fn0)] sz) t) (va_A [(ad0, ob 12 114 fn0)] sz)) 0 0 (va_A [(ad0, ob 12 114 fn0)] sz) := by
  refine Met.ofW (cc := cX12_source) (maxL := 3) (ret := (some .int)) (by decide) rfl ?_
  intro p e s m args below meth c s₁ B hml hv
  obtain ⟨rfl, hsz, hP, hK, hD0, hE⟩ := hv
  have hx := B.exec
  have hb := B.bytes
  have hr := B.returns
  have hG : ∀ w ∈ GW, w.before ([.ref ad0, .int xi0, .int xi1] : List Value).toArray s = true := fun w h => atoms_spec (ws := Cond.code yX12_source cX12_source 3 (some .int) :: GW) B.pre w (List.mem_cons_of_mem _ h)
  have hown : s.vm.findClass RX12 = some m.cls := findClass_of_methodNamed B.named
  have hlocks := B.notSynchronized
  subst hsz
  have hD := hD0.self (sz := s.heap.size)
  generalize hAe : va_A [(ad0, ob 12 114 fn0)] s.heap.size = A at hD hE ⊢
  have hA : ∀ q : Nat, s.heap.size ≤ q → A q := fun q h => by rw [← hAe]; exact Or.inr h
  have hS : va_S A s.heap s.heap [] := va_S.rf
  clear hAe hD0
  have hl0 := lv_entry ([.ref ad0, .int xi0, .int xi1]) (n := 3) (Nat.le_of_ble_eq_true rfl)
  rw [lg_entry_eq]
  generalize (lg_sl ([.ref ad0, .int xi0, .int xi1]) ++ List.replicate (3 - (lg_sl ([.ref ad0, .int xi0, .int xi1])).length) Slot.unset).toArray = ls at hl0 ⊢
  have hl : lv_has ls 3 [(0, .ref ad0), (1, .int xi0), (2, .int xi1)] := hl0
  clear hl0
  refine lv_aload_n (pc := 0) hx hb dX12_source_0 rfl (lv_at hl 0 rfl) ?_
  refine lv_iconst (pc := 1) (v := 0) hx hb dX12_source_1 (by decide) ?_
  refine ob_put (pc := 2) (v := .int 0) (ci := 12) (C := RX12) (T := TX12) (N := 114) hx hb hG in_X12 tyX12 tyX12_ok nmX12 hown hK hP hD hS 0 rfl rfl 0 (by decide) (hG _ g_432) rfl rfl rfl rfl dX12_source_2 (ws' := [(ad0, ob 12 114 (vup fn0 0 (.int 0)))]) rfl (fun H1 lo1 hP1 hD1 hS1 => ?_)
  clear hP hD hS
  refine lv_aload_n (pc := 5) hx hb dX12_source_5 rfl (lv_at hl 0 rfl) ?_
  refine lv_iload_n (pc := 6) hx hb dX12_source_6 rfl (lv_at hl 1 rfl) ?_
  refine cq_i (pc := 7) (wr := []) (k2 := 0) (n2 := 0) (va_runV (As := [.int xi0]) (rest := []) ⟨hx, hb, hml, hown, hG⟩ (m_isRecord_p l D cy kv H1.size ad0 xi0 (vup fn0 0 (.int 0)) rfl h0_89 hn) (cwV 1 hG (gi_V g_535 g_536 g_537 g_334 g_534) rfl rfl rfl (by decide +kernel) ⟨Nat.le_of_ble_eq_true rfl, Nat.le_of_ble_eq_true rfl⟩) ⟨pq_blind, (va_recv hK hP1 (ci := 12) (q0 := 0) rfl rfl), (pq_pass hP1 hD1 hK hE hS1 hA [0] rfl (by decide))⟩ rfl rfl hl.1 rfl (lv_room (Nat.le_of_ble_eq_true rfl)) dX12_source_7 ⟨Nat.le_of_ble_eq_true rfl, Nat.le_of_ble_eq_true rfl⟩) hP1 hD1 hS1 hA [0] [] rfl rfl (by decide) (by decide) (by decide) (by decide) (fun r2 w2 H2 lo2 e2 hR2 hP2r hD2r hS2 => ?_)
  subst hR2
  subst e2
  have hP2 : va_P D classes [(ad0, ob 12 114 (vup (vup fn0 0 (.int 0)) 0 (.int 1)))] H2 := hP2r
  have hD2 : va_D A [(ad0, ob 12 114 (vup (vup fn0 0 (.int 0)) 0 (.int 1)))] := hD2r
  clear hP2r hD2r
  clear hP1 hD1 hS1
  clear H1 lo1
  refine lv_if_ne (pc := 10) (tgt := 15) hx hb dX12_source_10 (by decide) (fun c3 => absurd (by decide) c3) (fun c3 => ?_)
  refine lv_iconst (pc := 13) (v := 0) hx hb dX12_source_13 (by decide) ?_
  exact W.iret (pc := 14) (v := 0) hx hb hr (fun t ht hW => ⟨⟨0, (), rfl, rfl, _, ⟨(vup (vup fn0 0 (.int 0)) 0 (.int 1)), rfl, rfl⟩, by rw [ht]; exact hP2, hD2⟩, hS2.F ht⟩) hS2.2.2 dX12_source_14
set_option maxHeartbeats 4000000 in
set_option maxRecDepth 100000 in
/-- X12_value_ -/
theorem m_value_n (l : Launch) (D : va_G) (cy : Nat → ClassId) (kv : KV) (sz : Nat) (ad0 : Nat) (xi0 : Int32) (xi1 : Int32) (fn0 : Nat → Value) (h0_89 : fn0 89 = .int 0) (hn : xi0 < 0) : Met l yX12_value_ (Cond.code yX12_value_ cX12_value_ 4 (some .int) :: GW) ({ frames := 10, cells := 0, slots := 0, locals := 200 } : Room) (va_Pc [.ref ad0, .int xi0, .int xi1] (pcq D cy kv sz [(ad0, ob 12 114 fn0)])) (va_Qi (fun r (_ : Unit) => r = 0) (fun _ t => bq D (fun w => ∃ (nc900 : Nat → Value), w = [(ad0, ob 12 114 nc900)] ∧ nc900 0 = .int 1) (va_A [(ad0, ob 12 114 fn0)] sz) t) (va_A [(ad0, ob 12 114 fn0)] sz)) 0 0 (va_A [(ad0, ob 12 114 fn0)] sz) := by
  refine Met.ofW (cc := cX12_value_) (maxL := 4) (ret := (some .int)) (by decide) rfl ?_
  intro p e s m args below meth c s₁ B hml hv
  obtain ⟨rfl, hsz, hP, hK, hD0, hE⟩ := hv
  have hx := B.exec
  have hb := B.bytes
  have hr := B.returns
  have hG : ∀ w ∈ GW, w.before ([.ref ad0, .int xi0, .int xi1] : List Value).toArray s = true := fun w h => atoms_spec (ws := Cond.code yX12_value_ cX12_value_ 4 (some .int) :: GW) B.pre w (List.mem_cons_of_mem _ h)
  have hown : s.vm.findClass RX12 = some m.cls := findClass_of_methodNamed B.named
  have hlocks := B.notSynchronized
  subst hsz
  have hD := hD0.self (sz := s.heap.size)
  generalize hAe : va_A [(ad0, ob 12 114 fn0)] s.heap.size = A at hD hE ⊢
  have hA : ∀ q : Nat, s.heap.size ≤ q → A q := fun q h => by rw [← hAe]; exact Or.inr h
  have hS : va_S A s.heap s.heap [] := va_S.rf
  clear hAe hD0
  have hl0 := lv_entry ([.ref ad0, .int xi0, .int xi1]) (n := 4) (Nat.le_of_ble_eq_true rfl)
  rw [lg_entry_eq]
  generalize (lg_sl ([.ref ad0, .int xi0, .int xi1]) ++ List.replicate (4 - (lg_sl ([.ref ad0, .int xi0, .int xi1])).length) Slot.unset).toArray = ls at hl0 ⊢
  have hl : lv_has ls 4 [(0, .ref ad0), (1, .int xi0), (2, .int xi1)] := hl0
  clear hl0
  refine lv_aload_n (pc := 0) hx hb dX12_value__0 rfl (lv_at hl 0 rfl) ?_
  refine lv_iconst (pc := 1) (v := 0) hx hb dX12_value__1 (by decide) ?_
  refine ob_put (pc := 2) (v := .int 0) (ci := 12) (C := RX12) (T := TX12) (N := 114) hx hb hG in_X12 tyX12 tyX12_ok nmX12 hown hK hP hD hS 0 rfl rfl 0 (by decide) (hG _ g_432) rfl rfl rfl rfl dX12_value__2 (ws' := [(ad0, ob 12 114 (vup fn0 0 (.int 0)))]) rfl (fun H1 lo1 hP1 hD1 hS1 => ?_)
  clear hP hD hS
  refine lv_aload_n (pc := 5) hx hb dX12_value__5 rfl (lv_at hl 0 rfl) ?_
  refine lv_iload_n (pc := 6) hx hb dX12_value__6 rfl (lv_at hl 1 rfl) ?_
  refine cq_i (pc := 7) (wr := []) (k2 := 0) (n2 := 0) (va_runV (As := [.int xi0]) (rest := []) ⟨hx, hb, hml, hown, hG⟩ (m_isRecord_n l D cy kv H1.size ad0 xi0 (vup fn0 0 (.int 0)) rfl h0_89 hn) (cwV 1 hG (gi_V g_535 g_536 g_537 g_334 g_534) rfl rfl rfl (by decide +kernel) ⟨Nat.le_of_ble_eq_true rfl, Nat.le_of_ble_eq_true rfl⟩) ⟨pq_blind, (va_recv hK hP1 (ci := 12) (q0 := 0) rfl rfl), (pq_pass hP1 hD1 hK hE hS1 hA [0] rfl (by decide))⟩ rfl rfl hl.1 rfl (lv_room (Nat.le_of_ble_eq_true rfl)) dX12_value__7 ⟨Nat.le_of_ble_eq_true rfl, Nat.le_of_ble_eq_true rfl⟩) hP1 hD1 hS1 hA [0] [] rfl rfl (by decide) (by decide) (by decide) (by decide) (fun r2 w2 H2 lo2 e2 hR2 hP2r hD2r hS2 => ?_)
  subst hR2
  subst e2
  have hP2 : va_P D classes [(ad0, ob 12 114 (vup (vup fn0 0 (.int 0)) 0 (.int 1)))] H2 := hP2r
  have hD2 : va_D A [(ad0, ob 12 114 (vup (vup fn0 0 (.int 0)) 0 (.int 1)))] := hD2r
  clear hP2r hD2r
  clear hP1 hD1 hS1
  clear H1 lo1
  refine lv_if_eq (pc := 10) (tgt := 22) hx hb dX12_value__10 (by decide) (fun c3 => ?_) (fun c3 => absurd (by decide) c3)
  refine lv_iconst (pc := 22) (v := 0) hx hb dX12_value__22 (by decide) ?_
  exact W.iret (pc := 23) (v := 0) hx hb hr (fun t ht hW => ⟨⟨0, (), rfl, rfl, _, ⟨(vup (vup fn0 0 (.int 0)) 0 (.int 1)), rfl, rfl⟩, by rw [ht]; exact hP2, hD2⟩, hS2.F ht⟩) hS2.2.2 dX12_value__23
set_option maxHeartbeats 4000000 in
set_option maxRecDepth 100000 in
/-- X12_value_ -/
theorem m_value_p (l : Launch) (D : va_G) (cy : Nat → ClassId) (kv : KV) (sz : Nat) (ad0 : Nat) (xi0 : Int32) (xi1 : Int32) (fn0 : Nat → Value) (h0_89 : fn0 89 = .int 0) (hn : 0 ≤ xi0) : Met l yX12_value_ (Cond.code yX12_value_ cX12_value_ 4 (some .int) :: GW) ({ frames := 10, cells := 0, slots := 0, locals := 200 } : Room) (va_Pc [.ref ad0, .int xi0, .int xi1] (pcq D cy kv sz [(ad0, ob 12 114 fn0)])) (va_Qi (fun r (_ : Unit) => r = 0) (fun _ t => bq D (fun w => ∃ (nc900 : Nat → Value), w = [(ad0, ob 12 114 nc900)] ∧ nc900 0 = .int 1) (va_A [(ad0, ob 12 114 fn0)] sz) t) (va_A [(ad0, ob 12 114 fn0)] sz)) 0 0 (va_A [(ad0, ob 12 114 fn0)] sz) := by
  refine Met.ofW (cc := cX12_value_) (maxL := 4) (ret := (some .int)) (by decide) rfl ?_
  intro p e s m args below meth c s₁ B hml hv
  obtain ⟨rfl, hsz, hP, hK, hD0, hE⟩ := hv
  have hx := B.exec
  have hb := B.bytes
  have hr := B.returns
  have hG : ∀ w ∈ GW, w.before ([.ref ad0, .int xi0, .int xi1] : List Value).toArray s = true := fun w h => atoms_spec (ws := Cond.code yX12_value_ cX12_value_ 4 (some .int) :: GW) B.pre w (List.mem_cons_of_mem _ h)
  have hown : s.vm.findClass RX12 = some m.cls := findClass_of_methodNamed B.named
  have hlocks := B.notSynchronized
  subst hsz
  have hD := hD0.self (sz := s.heap.size)
  generalize hAe : va_A [(ad0, ob 12 114 fn0)] s.heap.size = A at hD hE ⊢
  have hA : ∀ q : Nat, s.heap.size ≤ q → A q := fun q h => by rw [← hAe]; exact Or.inr h
  have hS : va_S A s.heap s.heap [] := va_S.rf
  clear hAe hD0
  have hl0 := lv_entry ([.ref ad0, .int xi0, .int xi1]) (n := 4) (Nat.le_of_ble_eq_true rfl)
  rw [lg_entry_eq]
  generalize (lg_sl ([.ref ad0, .int xi0, .int xi1]) ++ List.replicate (4 - (lg_sl ([.ref ad0, .int xi0, .int xi1])).length) Slot.unset).toArray = ls at hl0 ⊢
  have hl : lv_has ls 4 [(0, .ref ad0), (1, .int xi0), (2, .int xi1)] := hl0
  clear hl0
  refine lv_aload_n (pc := 0) hx hb dX12_value__0 rfl (lv_at hl 0 rfl) ?_
  refine lv_iconst (pc := 1) (v := 0) hx hb dX12_value__1 (by decide) ?_
  refine ob_put (pc := 2) (v := .int 0) (ci := 12) (C := RX12) (T := TX12) (N := 114) hx hb hG in_X12 tyX12 tyX12_ok nmX12 hown hK hP hD hS 0 rfl rfl 0 (by decide) (hG _ g_432) rfl rfl rfl rfl dX12_value__2 (ws' := [(ad0, ob 12 114 (vup fn0 0 (.int 0)))]) rfl (fun H1 lo1 hP1 hD1 hS1 => ?_)
  clear hP hD hS
  refine lv_aload_n (pc := 5) hx hb dX12_value__5 rfl (lv_at hl 0 rfl) ?_
  refine lv_iload_n (pc := 6) hx hb dX12_value__6 rfl (lv_at hl 1 rfl) ?_
  refine cq_i (pc := 7) (wr := []) (k2 := 0) (n2 := 0) (va_runV (As := [.int xi0]) (rest := []) ⟨hx, hb, hml, hown, hG⟩ (m_isRecord_p l D cy kv H1.size ad0 xi0 (vup fn0 0 (.int 0)) rfl h0_89 hn) (cwV 1 hG (gi_V g_535 g_536 g_537 g_334 g_534) rfl rfl rfl (by decide +kernel) ⟨Nat.le_of_ble_eq_true rfl, Nat.le_of_ble_eq_true rfl⟩) ⟨pq_blind, (va_recv hK hP1 (ci := 12) (q0 := 0) rfl rfl), (pq_pass hP1 hD1 hK hE hS1 hA [0] rfl (by decide))⟩ rfl rfl hl.1 rfl (lv_room (Nat.le_of_ble_eq_true rfl)) dX12_value__7 ⟨Nat.le_of_ble_eq_true rfl, Nat.le_of_ble_eq_true rfl⟩) hP1 hD1 hS1 hA [0] [] rfl rfl (by decide) (by decide) (by decide) (by decide) (fun r2 w2 H2 lo2 e2 hR2 hP2r hD2r hS2 => ?_)
  subst hR2
  subst e2
  have hP2 : va_P D classes [(ad0, ob 12 114 (vup (vup fn0 0 (.int 0)) 0 (.int 1)))] H2 := hP2r
  have hD2 : va_D A [(ad0, ob 12 114 (vup (vup fn0 0 (.int 0)) 0 (.int 1)))] := hD2r
  clear hP2r hD2r
  clear hP1 hD1 hS1
  clear H1 lo1
  refine lv_if_eq (pc := 10) (tgt := 22) hx hb dX12_value__10 (by decide) (fun c3 => ?_) (fun c3 => absurd (by decide) c3)
  refine lv_iconst (pc := 22) (v := 0) hx hb dX12_value__22 (by decide) ?_
  exact W.iret (pc := 23) (v := 0) hx hb hr (fun t ht hW => ⟨⟨0, (), rfl, rfl, _, ⟨(vup (vup fn0 0 (.int 0)) 0 (.int 1)), rfl, rfl⟩, by rw [ht]; exact hP2, hD2⟩, hS2.F ht⟩) hS2.2.2 dX12_value__23
set_option maxHeartbeats 4000000 in
set_option maxRecDepth 100000 in
/-- X12_item -/
theorem m_item_n (l : Launch) (D : va_G) (cy : Nat → ClassId) (kv : KV) (sz : Nat) (ad0 : Nat) (xi0 : Int32) (xi1 : Int32) (xi2 : Int32) (fn0 : Nat → Value) (h0_89 : fn0 89 = .int 0) (hn : xi0 < 0) : Met l yX12_item (Cond.code yX12_item cX12_item 6 (some .int) :: GW) ({ frames := 10, cells := 0, slots := 0, locals := 200 } : Room) (va_Pc [.ref ad0, .int xi0, .int xi1, .int xi2] (pcq D cy kv sz [(ad0, ob 12 114 fn0)])) (va_Qi (fun r (_ : Unit) => r = 0) (fun _ t => bq D (fun w => ∃ (nc900 : Nat → Value), w = [(ad0, ob 12 114 nc900)] ∧ nc900 0 = .int 1) (va_A [(ad0, ob 12 114 fn0)] sz) t) (va_A [(ad0, ob 12 114 fn0)] sz)) 0 0 (va_A [(ad0, ob 12 114 fn0)] sz) := by
  refine Met.ofW (cc := cX12_item) (maxL := 6) (ret := (some .int)) (by decide) rfl ?_
  intro p e s m args below meth c s₁ B hml hv
  obtain ⟨rfl, hsz, hP, hK, hD0, hE⟩ := hv
  have hx := B.exec
  have hb := B.bytes
  have hr := B.returns
  have hG : ∀ w ∈ GW, w.before ([.ref ad0, .int xi0, .int xi1, .int xi2] : List Value).toArray s = true := fun w h => atoms_spec (ws := Cond.code yX12_item cX12_item 6 (some .int) :: GW) B.pre w (List.mem_cons_of_mem _ h)
  have hown : s.vm.findClass RX12 = some m.cls := findClass_of_methodNamed B.named
  have hlocks := B.notSynchronized
  subst hsz
  have hD := hD0.self (sz := s.heap.size)
  generalize hAe : va_A [(ad0, ob 12 114 fn0)] s.heap.size = A at hD hE ⊢
  have hA : ∀ q : Nat, s.heap.size ≤ q → A q := fun q h => by rw [← hAe]; exact Or.inr h
  have hS : va_S A s.heap s.heap [] := va_S.rf
  clear hAe hD0
  have hl0 := lv_entry ([.ref ad0, .int xi0, .int xi1, .int xi2]) (n := 6) (Nat.le_of_ble_eq_true rfl)
  rw [lg_entry_eq]
  generalize (lg_sl ([.ref ad0, .int xi0, .int xi1, .int xi2]) ++ List.replicate (6 - (lg_sl ([.ref ad0, .int xi0, .int xi1, .int xi2])).length) Slot.unset).toArray = ls at hl0 ⊢
  have hl : lv_has ls 6 [(0, .ref ad0), (1, .int xi0), (2, .int xi1), (3, .int xi2)] := hl0
  clear hl0
  refine lv_aload_n (pc := 0) hx hb dX12_item_0 rfl (lv_at hl 0 rfl) ?_
  refine lv_iconst (pc := 1) (v := 0) hx hb dX12_item_1 (by decide) ?_
  refine ob_put (pc := 2) (v := .int 0) (ci := 12) (C := RX12) (T := TX12) (N := 114) hx hb hG in_X12 tyX12 tyX12_ok nmX12 hown hK hP hD hS 0 rfl rfl 0 (by decide) (hG _ g_432) rfl rfl rfl rfl dX12_item_2 (ws' := [(ad0, ob 12 114 (vup fn0 0 (.int 0)))]) rfl (fun H1 lo1 hP1 hD1 hS1 => ?_)
  clear hP hD hS
  refine lv_aload_n (pc := 5) hx hb dX12_item_5 rfl (lv_at hl 0 rfl) ?_
  refine lv_iload_n (pc := 6) hx hb dX12_item_6 rfl (lv_at hl 1 rfl) ?_
  refine cq_i (pc := 7) (wr := []) (k2 := 0) (n2 := 0) (va_runV (As := [.int xi0]) (rest := []) ⟨hx, hb, hml, hown, hG⟩ (m_isRecord_n l D cy kv H1.size ad0 xi0 (vup fn0 0 (.int 0)) rfl h0_89 hn) (cwV 1 hG (gi_V g_535 g_536 g_537 g_334 g_534) rfl rfl rfl (by decide +kernel) ⟨Nat.le_of_ble_eq_true rfl, Nat.le_of_ble_eq_true rfl⟩) ⟨pq_blind, (va_recv hK hP1 (ci := 12) (q0 := 0) rfl rfl), (pq_pass hP1 hD1 hK hE hS1 hA [0] rfl (by decide))⟩ rfl rfl hl.1 rfl (lv_room (Nat.le_of_ble_eq_true rfl)) dX12_item_7 ⟨Nat.le_of_ble_eq_true rfl, Nat.le_of_ble_eq_true rfl⟩) hP1 hD1 hS1 hA [0] [] rfl rfl (by decide) (by decide) (by decide) (by decide) (fun r2 w2 H2 lo2 e2 hR2 hP2r hD2r hS2 => ?_)
  subst hR2
  subst e2
  have hP2 : va_P D classes [(ad0, ob 12 114 (vup (vup fn0 0 (.int 0)) 0 (.int 1)))] H2 := hP2r
  have hD2 : va_D A [(ad0, ob 12 114 (vup (vup fn0 0 (.int 0)) 0 (.int 1)))] := hD2r
  clear hP2r hD2r
  clear hP1 hD1 hS1
  clear H1 lo1
  refine lv_if_eq (pc := 10) (tgt := 17) hx hb dX12_item_10 (by decide) (fun c3 => ?_) (fun c3 => absurd (by decide) c3)
  refine lv_iconst (pc := 17) (v := 0) hx hb dX12_item_17 (by decide) ?_
  exact W.iret (pc := 18) (v := 0) hx hb hr (fun t ht hW => ⟨⟨0, (), rfl, rfl, _, ⟨(vup (vup fn0 0 (.int 0)) 0 (.int 1)), rfl, rfl⟩, by rw [ht]; exact hP2, hD2⟩, hS2.F ht⟩) hS2.2.2 dX12_item_18
set_option maxHeartbeats 4000000 in
set_option maxRecDepth 100000 in
/-- X12_item -/
theorem m_item_p (l : Launch) (D : va_G) (cy : Nat → ClassId) (kv : KV) (sz : Nat) (ad0 : Nat) (xi0 : Int32) (xi1 : Int32) (xi2 : Int32) (fn0 : Nat → Value) (h0_89 : fn0 89 = .int 0) (hn : 0 ≤ xi0) : Met l yX12_item (Cond.code yX12_item cX12_item 6 (some .int) :: GW) ({ frames := 10, cells := 0, slots := 0, locals := 200 } : Room) (va_Pc [.ref ad0, .int xi0, .int xi1, .int xi2] (pcq D cy kv sz [(ad0, ob 12 114 fn0)])) (va_Qi (fun r (_ : Unit) => r = 0) (fun _ t => bq D (fun w => ∃ (nc900 : Nat → Value), w = [(ad0, ob 12 114 nc900)] ∧ nc900 0 = .int 1) (va_A [(ad0, ob 12 114 fn0)] sz) t) (va_A [(ad0, ob 12 114 fn0)] sz)) 0 0 (va_A [(ad0, ob 12 114 fn0)] sz) := by
  refine Met.ofW (cc := cX12_item) (maxL := 6) (ret := (some .int)) (by decide) rfl ?_
  intro p e s m args below meth c s₁ B hml hv
  obtain ⟨rfl, hsz, hP, hK, hD0, hE⟩ := hv
  have hx := B.exec
  have hb := B.bytes
  have hr := B.returns
  have hG : ∀ w ∈ GW, w.before ([.ref ad0, .int xi0, .int xi1, .int xi2] : List Value).toArray s = true := fun w h => atoms_spec (ws := Cond.code yX12_item cX12_item 6 (some .int) :: GW) B.pre w (List.mem_cons_of_mem _ h)
  have hown : s.vm.findClass RX12 = some m.cls := findClass_of_methodNamed B.named
  have hlocks := B.notSynchronized
  subst hsz
  have hD := hD0.self (sz := s.heap.size)
  generalize hAe : va_A [(ad0, ob 12 114 fn0)] s.heap.size = A at hD hE ⊢
  have hA : ∀ q : Nat, s.heap.size ≤ q → A q := fun q h => by rw [← hAe]; exact Or.inr h
  have hS : va_S A s.heap s.heap [] := va_S.rf
  clear hAe hD0
  have hl0 := lv_entry ([.ref ad0, .int xi0, .int xi1, .int xi2]) (n := 6) (Nat.le_of_ble_eq_true rfl)
  rw [lg_entry_eq]
  generalize (lg_sl ([.ref ad0, .int xi0, .int xi1, .int xi2]) ++ List.replicate (6 - (lg_sl ([.ref ad0, .int xi0, .int xi1, .int xi2])).length) Slot.unset).toArray = ls at hl0 ⊢
  have hl : lv_has ls 6 [(0, .ref ad0), (1, .int xi0), (2, .int xi1), (3, .int xi2)] := hl0
  clear hl0
  refine lv_aload_n (pc := 0) hx hb dX12_item_0 rfl (lv_at hl 0 rfl) ?_
  refine lv_iconst (pc := 1) (v := 0) hx hb dX12_item_1 (by decide) ?_
  refine ob_put (pc := 2) (v := .int 0) (ci := 12) (C := RX12) (T := TX12) (N := 114) hx hb hG in_X12 tyX12 tyX12_ok nmX12 hown hK hP hD hS 0 rfl rfl 0 (by decide) (hG _ g_432) rfl rfl rfl rfl dX12_item_2 (ws' := [(ad0, ob 12 114 (vup fn0 0 (.int 0)))]) rfl (fun H1 lo1 hP1 hD1 hS1 => ?_)
  clear hP hD hS
  refine lv_aload_n (pc := 5) hx hb dX12_item_5 rfl (lv_at hl 0 rfl) ?_
  refine lv_iload_n (pc := 6) hx hb dX12_item_6 rfl (lv_at hl 1 rfl) ?_
  refine cq_i (pc := 7) (wr := []) (k2 := 0) (n2 := 0) (va_runV (As := [.int xi0]) (rest := []) ⟨hx, hb, hml, hown, hG⟩ (m_isRecord_p l D cy kv H1.size ad0 xi0 (vup fn0 0 (.int 0)) rfl h0_89 hn) (cwV 1 hG (gi_V g_535 g_536 g_537 g_334 g_534) rfl rfl rfl (by decide +kernel) ⟨Nat.le_of_ble_eq_true rfl, Nat.le_of_ble_eq_true rfl⟩) ⟨pq_blind, (va_recv hK hP1 (ci := 12) (q0 := 0) rfl rfl), (pq_pass hP1 hD1 hK hE hS1 hA [0] rfl (by decide))⟩ rfl rfl hl.1 rfl (lv_room (Nat.le_of_ble_eq_true rfl)) dX12_item_7 ⟨Nat.le_of_ble_eq_true rfl, Nat.le_of_ble_eq_true rfl⟩) hP1 hD1 hS1 hA [0] [] rfl rfl (by decide) (by decide) (by decide) (by decide) (fun r2 w2 H2 lo2 e2 hR2 hP2r hD2r hS2 => ?_)
  subst hR2
  subst e2
  have hP2 : va_P D classes [(ad0, ob 12 114 (vup (vup fn0 0 (.int 0)) 0 (.int 1)))] H2 := hP2r
  have hD2 : va_D A [(ad0, ob 12 114 (vup (vup fn0 0 (.int 0)) 0 (.int 1)))] := hD2r
  clear hP2r hD2r
  clear hP1 hD1 hS1
  clear H1 lo1
  refine lv_if_eq (pc := 10) (tgt := 17) hx hb dX12_item_10 (by decide) (fun c3 => ?_) (fun c3 => absurd (by decide) c3)
  refine lv_iconst (pc := 17) (v := 0) hx hb dX12_item_17 (by decide) ?_
  exact W.iret (pc := 18) (v := 0) hx hb hr (fun t ht hW => ⟨⟨0, (), rfl, rfl, _, ⟨(vup (vup fn0 0 (.int 0)) 0 (.int 1)), rfl, rfl⟩, by rw [ht]; exact hP2, hD2⟩, hS2.F ht⟩) hS2.2.2 dX12_item_18
set_option maxHeartbeats 4000000 in
set_option maxRecDepth 100000 in
/-- X12_same -/
theorem m_same_n (l : Launch) (D : va_G) (cy : Nat → ClassId) (kv : KV) (sz : Nat) (ad0 : Nat) (xi0 : Int32) (xi1 : Int32) (fn0 : Nat → Value) (h0_89 : fn0 89 = .int 0) (hn : xi0 < 0) : Met l yX12_same (Cond.code yX12_same cX12_same 9 (some .boolean) :: GW) ({ frames := 10, cells := 0, slots := 0, locals := 200 } : Room) (va_Pc [.ref ad0, .int xi0, .int xi1] (pcq D cy kv sz [(ad0, ob 12 114 fn0)])) (va_Qi (fun r (_ : Unit) => r = 0) (fun _ t => bq D (fun w => ∃ (nc900 : Nat → Value), w = [(ad0, ob 12 114 nc900)] ∧ nc900 0 = .int 1) (va_A [(ad0, ob 12 114 fn0)] sz) t) (va_A [(ad0, ob 12 114 fn0)] sz)) 0 0 (va_A [(ad0, ob 12 114 fn0)] sz) := by
  refine Met.ofW (cc := cX12_same) (maxL := 9) (ret := (some .boolean)) (by decide) rfl ?_
  intro p e s m args below meth c s₁ B hml hv
  obtain ⟨rfl, hsz, hP, hK, hD0, hE⟩ := hv
  have hx := B.exec
  have hb := B.bytes
  have hr := B.returns
  have hG : ∀ w ∈ GW, w.before ([.ref ad0, .int xi0, .int xi1] : List Value).toArray s = true := fun w h => atoms_spec (ws := Cond.code yX12_same cX12_same 9 (some .boolean) :: GW) B.pre w (List.mem_cons_of_mem _ h)
  have hown : s.vm.findClass RX12 = some m.cls := findClass_of_methodNamed B.named
  have hlocks := B.notSynchronized
  subst hsz
  have hD := hD0.self (sz := s.heap.size)
  generalize hAe : va_A [(ad0, ob 12 114 fn0)] s.heap.size = A at hD hE ⊢
  have hA : ∀ q : Nat, s.heap.size ≤ q → A q := fun q h => by rw [← hAe]; exact Or.inr h
  have hS : va_S A s.heap s.heap [] := va_S.rf
  clear hAe hD0
  have hl0 := lv_entry ([.ref ad0, .int xi0, .int xi1]) (n := 9) (Nat.le_of_ble_eq_true rfl)
  rw [lg_entry_eq]
  generalize (lg_sl ([.ref ad0, .int xi0, .int xi1]) ++ List.replicate (9 - (lg_sl ([.ref ad0, .int xi0, .int xi1])).length) Slot.unset).toArray = ls at hl0 ⊢
  have hl : lv_has ls 9 [(0, .ref ad0), (1, .int xi0), (2, .int xi1)] := hl0
  clear hl0
  refine lv_aload_n (pc := 0) hx hb dX12_same_0 rfl (lv_at hl 0 rfl) ?_
  refine lv_iconst (pc := 1) (v := 0) hx hb dX12_same_1 (by decide) ?_
  refine ob_put (pc := 2) (v := .int 0) (ci := 12) (C := RX12) (T := TX12) (N := 114) hx hb hG in_X12 tyX12 tyX12_ok nmX12 hown hK hP hD hS 0 rfl rfl 0 (by decide) (hG _ g_432) rfl rfl rfl rfl dX12_same_2 (ws' := [(ad0, ob 12 114 (vup fn0 0 (.int 0)))]) rfl (fun H1 lo1 hP1 hD1 hS1 => ?_)
  clear hP hD hS
  refine lv_aload_n (pc := 5) hx hb dX12_same_5 rfl (lv_at hl 0 rfl) ?_
  refine lv_iload_n (pc := 6) hx hb dX12_same_6 rfl (lv_at hl 1 rfl) ?_
  refine cq_i (pc := 7) (wr := []) (k2 := 0) (n2 := 0) (va_runV (As := [.int xi0]) (rest := []) ⟨hx, hb, hml, hown, hG⟩ (m_isRecord_n l D cy kv H1.size ad0 xi0 (vup fn0 0 (.int 0)) rfl h0_89 hn) (cwV 1 hG (gi_V g_535 g_536 g_537 g_334 g_534) rfl rfl rfl (by decide +kernel) ⟨Nat.le_of_ble_eq_true rfl, Nat.le_of_ble_eq_true rfl⟩) ⟨pq_blind, (va_recv hK hP1 (ci := 12) (q0 := 0) rfl rfl), (pq_pass hP1 hD1 hK hE hS1 hA [0] rfl (by decide))⟩ rfl rfl hl.1 rfl (lv_room (Nat.le_of_ble_eq_true rfl)) dX12_same_7 ⟨Nat.le_of_ble_eq_true rfl, Nat.le_of_ble_eq_true rfl⟩) hP1 hD1 hS1 hA [0] [] rfl rfl (by decide) (by decide) (by decide) (by decide) (fun r2 w2 H2 lo2 e2 hR2 hP2r hD2r hS2 => ?_)
  subst hR2
  subst e2
  have hP2 : va_P D classes [(ad0, ob 12 114 (vup (vup fn0 0 (.int 0)) 0 (.int 1)))] H2 := hP2r
  have hD2 : va_D A [(ad0, ob 12 114 (vup (vup fn0 0 (.int 0)) 0 (.int 1)))] := hD2r
  clear hP2r hD2r
  clear hP1 hD1 hS1
  clear H1 lo1
  refine lv_if_eq (pc := 10) (tgt := 21) hx hb dX12_same_10 (by decide) (fun c3 => ?_) (fun c3 => absurd (by decide) c3)
  refine lv_iconst (pc := 21) (v := 0) hx hb dX12_same_21 (by decide) ?_
  exact W.zret (pc := 22) (v := 0) (ty := .boolean) hx hb hr rfl (fun t ht hW => ⟨⟨0, (), rfl, rfl, _, ⟨(vup (vup fn0 0 (.int 0)) 0 (.int 1)), rfl, rfl⟩, by rw [ht]; exact hP2, hD2⟩, hS2.F ht⟩) hS2.2.2 dX12_same_22
set_option maxHeartbeats 4000000 in
set_option maxRecDepth 100000 in
/-- X12_same -/
theorem m_same_p (l : Launch) (D : va_G) (cy : Nat → ClassId) (kv : KV) (sz : Nat) (ad0 : Nat) (xi0 : Int32) (xi1 : Int32) (fn0 : Nat → Value) (h0_89 : fn0 89 = .int 0) (hn : 0 ≤ xi0) : Met l yX12_same (Cond.code yX12_same cX12_same 9 (some .boolean) :: GW) ({ frames := 10, cells := 0, slots := 0, locals := 200 } : Room) (va_Pc [.ref ad0, .int xi0, .int xi1] (pcq D cy kv sz [(ad0, ob 12 114 fn0)])) (va_Qi (fun r (_ : Unit) => r = 0) (fun _ t => bq D (fun w => ∃ (nc900 : Nat → Value), w = [(ad0, ob 12 114 nc900)] ∧ nc900 0 = .int 1) (va_A [(ad0, ob 12 114 fn0)] sz) t) (va_A [(ad0, ob 12 114 fn0)] sz)) 0 0 (va_A [(ad0, ob 12 114 fn0)] sz) := by
  refine Met.ofW (cc := cX12_same) (maxL := 9) (ret := (some .boolean)) (by decide) rfl ?_
  intro p e s m args below meth c s₁ B hml hv
  obtain ⟨rfl, hsz, hP, hK, hD0, hE⟩ := hv
  have hx := B.exec
  have hb := B.bytes
  have hr := B.returns
  have hG : ∀ w ∈ GW, w.before ([.ref ad0, .int xi0, .int xi1] : List Value).toArray s = true := fun w h => atoms_spec (ws := Cond.code yX12_same cX12_same 9 (some .boolean) :: GW) B.pre w (List.mem_cons_of_mem _ h)
  have hown : s.vm.findClass RX12 = some m.cls := findClass_of_methodNamed B.named
  have hlocks := B.notSynchronized
  subst hsz
  have hD := hD0.self (sz := s.heap.size)
  generalize hAe : va_A [(ad0, ob 12 114 fn0)] s.heap.size = A at hD hE ⊢
  have hA : ∀ q : Nat, s.heap.size ≤ q → A q := fun q h => by rw [← hAe]; exact Or.inr h
  have hS : va_S A s.heap s.heap [] := va_S.rf
  clear hAe hD0
  have hl0 := lv_entry ([.ref ad0, .int xi0, .int xi1]) (n := 9) (Nat.le_of_ble_eq_true rfl)
  rw [lg_entry_eq]
  generalize (lg_sl ([.ref ad0, .int xi0, .int xi1]) ++ List.replicate (9 - (lg_sl ([.ref ad0, .int xi0, .int xi1])).length) Slot.unset).toArray = ls at hl0 ⊢
  have hl : lv_has ls 9 [(0, .ref ad0), (1, .int xi0), (2, .int xi1)] := hl0
  clear hl0
  refine lv_aload_n (pc := 0) hx hb dX12_same_0 rfl (lv_at hl 0 rfl) ?_
  refine lv_iconst (pc := 1) (v := 0) hx hb dX12_same_1 (by decide) ?_
  refine ob_put (pc := 2) (v := .int 0) (ci := 12) (C := RX12) (T := TX12) (N := 114) hx hb hG in_X12 tyX12 tyX12_ok nmX12 hown hK hP hD hS 0 rfl rfl 0 (by decide) (hG _ g_432) rfl rfl rfl rfl dX12_same_2 (ws' := [(ad0, ob 12 114 (vup fn0 0 (.int 0)))]) rfl (fun H1 lo1 hP1 hD1 hS1 => ?_)
  clear hP hD hS
  refine lv_aload_n (pc := 5) hx hb dX12_same_5 rfl (lv_at hl 0 rfl) ?_
  refine lv_iload_n (pc := 6) hx hb dX12_same_6 rfl (lv_at hl 1 rfl) ?_
  refine cq_i (pc := 7) (wr := []) (k2 := 0) (n2 := 0) (va_runV (As := [.int xi0]) (rest := []) ⟨hx, hb, hml, hown, hG⟩ (m_isRecord_p l D cy kv H1.size ad0 xi0 (vup fn0 0 (.int 0)) rfl h0_89 hn) (cwV 1 hG (gi_V g_535 g_536 g_537 g_334 g_534) rfl rfl rfl (by decide +kernel) ⟨Nat.le_of_ble_eq_true rfl, Nat.le_of_ble_eq_true rfl⟩) ⟨pq_blind, (va_recv hK hP1 (ci := 12) (q0 := 0) rfl rfl), (pq_pass hP1 hD1 hK hE hS1 hA [0] rfl (by decide))⟩ rfl rfl hl.1 rfl (lv_room (Nat.le_of_ble_eq_true rfl)) dX12_same_7 ⟨Nat.le_of_ble_eq_true rfl, Nat.le_of_ble_eq_true rfl⟩) hP1 hD1 hS1 hA [0] [] rfl rfl (by decide) (by decide) (by decide) (by decide) (fun r2 w2 H2 lo2 e2 hR2 hP2r hD2r hS2 => ?_)
  subst hR2
  subst e2
  have hP2 : va_P D classes [(ad0, ob 12 114 (vup (vup fn0 0 (.int 0)) 0 (.int 1)))] H2 := hP2r
  have hD2 : va_D A [(ad0, ob 12 114 (vup (vup fn0 0 (.int 0)) 0 (.int 1)))] := hD2r
  clear hP2r hD2r
  clear hP1 hD1 hS1
  clear H1 lo1
  refine lv_if_eq (pc := 10) (tgt := 21) hx hb dX12_same_10 (by decide) (fun c3 => ?_) (fun c3 => absurd (by decide) c3)
  refine lv_iconst (pc := 21) (v := 0) hx hb dX12_same_21 (by decide) ?_
  exact W.zret (pc := 22) (v := 0) (ty := .boolean) hx hb hr rfl (fun t ht hW => ⟨⟨0, (), rfl, rfl, _, ⟨(vup (vup fn0 0 (.int 0)) 0 (.int 1)), rfl, rfl⟩, by rw [ht]; exact hP2, hD2⟩, hS2.F ht⟩) hS2.2.2 dX12_same_22
set_option maxHeartbeats 4000000 in
set_option maxRecDepth 100000 in
/-- X12_print -/
theorem m_print_n (l : Launch) (D : va_G) (cy : Nat → ClassId) (kv : KV) (sz : Nat) (ad0 : Nat) (xi0 : Int32) (fn0 : Nat → Value) (h0_89 : fn0 89 = .int 0) (hn : xi0 < 0) : Met l yX12_print (Cond.code yX12_print cX12_print 4 (some .int) :: GW) ({ frames := 10, cells := 0, slots := 0, locals := 200 } : Room) (va_Pc [.ref ad0, .int xi0] (pcq D cy kv sz [(ad0, ob 12 114 fn0)])) (va_Qi (fun r (_ : Unit) => r = 0) (fun _ t => bq D (fun w => ∃ (nc900 : Nat → Value), w = [(ad0, ob 12 114 nc900)] ∧ nc900 0 = .int 1) (va_A [(ad0, ob 12 114 fn0)] sz) t) (va_A [(ad0, ob 12 114 fn0)] sz)) 0 0 (va_A [(ad0, ob 12 114 fn0)] sz) := by
  refine Met.ofW (cc := cX12_print) (maxL := 4) (ret := (some .int)) (by decide) rfl ?_
  intro p e s m args below meth c s₁ B hml hv
  obtain ⟨rfl, hsz, hP, hK, hD0, hE⟩ := hv
  have hx := B.exec
  have hb := B.bytes
  have hr := B.returns
  have hG : ∀ w ∈ GW, w.before ([.ref ad0, .int xi0] : List Value).toArray s = true := fun w h => atoms_spec (ws := Cond.code yX12_print cX12_print 4 (some .int) :: GW) B.pre w (List.mem_cons_of_mem _ h)
  have hown : s.vm.findClass RX12 = some m.cls := findClass_of_methodNamed B.named
  have hlocks := B.notSynchronized
  subst hsz
  have hD := hD0.self (sz := s.heap.size)
  generalize hAe : va_A [(ad0, ob 12 114 fn0)] s.heap.size = A at hD hE ⊢
  have hA : ∀ q : Nat, s.heap.size ≤ q → A q := fun q h => by rw [← hAe]; exact Or.inr h
  have hS : va_S A s.heap s.heap [] := va_S.rf
  clear hAe hD0
  have hl0 := lv_entry ([.ref ad0, .int xi0]) (n := 4) (Nat.le_of_ble_eq_true rfl)
  rw [lg_entry_eq]
  generalize (lg_sl ([.ref ad0, .int xi0]) ++ List.replicate (4 - (lg_sl ([.ref ad0, .int xi0])).length) Slot.unset).toArray = ls at hl0 ⊢
  have hl : lv_has ls 4 [(0, .ref ad0), (1, .int xi0)] := hl0
  clear hl0
  refine lv_aload_n (pc := 0) hx hb dX12_print_0 rfl (lv_at hl 0 rfl) ?_
  refine lv_iconst (pc := 1) (v := 0) hx hb dX12_print_1 (by decide) ?_
  refine ob_put (pc := 2) (v := .int 0) (ci := 12) (C := RX12) (T := TX12) (N := 114) hx hb hG in_X12 tyX12 tyX12_ok nmX12 hown hK hP hD hS 0 rfl rfl 0 (by decide) (hG _ g_432) rfl rfl rfl rfl dX12_print_2 (ws' := [(ad0, ob 12 114 (vup fn0 0 (.int 0)))]) rfl (fun H1 lo1 hP1 hD1 hS1 => ?_)
  clear hP hD hS
  refine lv_aload_n (pc := 5) hx hb dX12_print_5 rfl (lv_at hl 0 rfl) ?_
  refine lv_iload_n (pc := 6) hx hb dX12_print_6 rfl (lv_at hl 1 rfl) ?_
  refine cq_i (pc := 7) (wr := []) (k2 := 0) (n2 := 0) (va_runV (As := [.int xi0]) (rest := []) ⟨hx, hb, hml, hown, hG⟩ (m_isRecord_n l D cy kv H1.size ad0 xi0 (vup fn0 0 (.int 0)) rfl h0_89 hn) (cwV 1 hG (gi_V g_535 g_536 g_537 g_334 g_534) rfl rfl rfl (by decide +kernel) ⟨Nat.le_of_ble_eq_true rfl, Nat.le_of_ble_eq_true rfl⟩) ⟨pq_blind, (va_recv hK hP1 (ci := 12) (q0 := 0) rfl rfl), (pq_pass hP1 hD1 hK hE hS1 hA [0] rfl (by decide))⟩ rfl rfl hl.1 rfl (lv_room (Nat.le_of_ble_eq_true rfl)) dX12_print_7 ⟨Nat.le_of_ble_eq_true rfl, Nat.le_of_ble_eq_true rfl⟩) hP1 hD1 hS1 hA [0] [] rfl rfl (by decide) (by decide) (by decide) (by decide) (fun r2 w2 H2 lo2 e2 hR2 hP2r hD2r hS2 => ?_)
  subst hR2
  subst e2
  have hP2 : va_P D classes [(ad0, ob 12 114 (vup (vup fn0 0 (.int 0)) 0 (.int 1)))] H2 := hP2r
  have hD2 : va_D A [(ad0, ob 12 114 (vup (vup fn0 0 (.int 0)) 0 (.int 1)))] := hD2r
  clear hP2r hD2r
  clear hP1 hD1 hS1
  clear H1 lo1
  refine lv_if_ne (pc := 10) (tgt := 15) hx hb dX12_print_10 (by decide) (fun c3 => absurd (by decide) c3) (fun c3 => ?_)
  refine lv_iconst (pc := 13) (v := 0) hx hb dX12_print_13 (by decide) ?_
  exact W.iret (pc := 14) (v := 0) hx hb hr (fun t ht hW => ⟨⟨0, (), rfl, rfl, _, ⟨(vup (vup fn0 0 (.int 0)) 0 (.int 1)), rfl, rfl⟩, by rw [ht]; exact hP2, hD2⟩, hS2.F ht⟩) hS2.2.2 dX12_print_14
set_option maxHeartbeats 4000000 in
set_option maxRecDepth 100000 in
/-- X12_print -/
theorem m_print_p (l : Launch) (D : va_G) (cy : Nat → ClassId) (kv : KV) (sz : Nat) (ad0 : Nat) (xi0 : Int32) (fn0 : Nat → Value) (h0_89 : fn0 89 = .int 0) (hn : 0 ≤ xi0) : Met l yX12_print (Cond.code yX12_print cX12_print 4 (some .int) :: GW) ({ frames := 10, cells := 0, slots := 0, locals := 200 } : Room) (va_Pc [.ref ad0, .int xi0] (pcq D cy kv sz [(ad0, ob 12 114 fn0)])) (va_Qi (fun r (_ : Unit) => r = 0) (fun _ t => bq D (fun w => ∃ (nc900 : Nat → Value), w = [(ad0, ob 12 114 nc900)] ∧ nc900 0 = .int 1) (va_A [(ad0, ob 12 114 fn0)] sz) t) (va_A [(ad0, ob 12 114 fn0)] sz)) 0 0 (va_A [(ad0, ob 12 114 fn0)] sz) := by
  refine Met.ofW (cc := cX12_print) (maxL := 4) (ret := (some .int)) (by decide) rfl ?_
  intro p e s m args below meth c s₁ B hml hv
  obtain ⟨rfl, hsz, hP, hK, hD0, hE⟩ := hv
  have hx := B.exec
  have hb := B.bytes
  have hr := B.returns
  have hG : ∀ w ∈ GW, w.before ([.ref ad0, .int xi0] : List Value).toArray s = true := fun w h => atoms_spec (ws := Cond.code yX12_print cX12_print 4 (some .int) :: GW) B.pre w (List.mem_cons_of_mem _ h)
  have hown : s.vm.findClass RX12 = some m.cls := findClass_of_methodNamed B.named
  have hlocks := B.notSynchronized
  subst hsz
  have hD := hD0.self (sz := s.heap.size)
  generalize hAe : va_A [(ad0, ob 12 114 fn0)] s.heap.size = A at hD hE ⊢
  have hA : ∀ q : Nat, s.heap.size ≤ q → A q := fun q h => by rw [← hAe]; exact Or.inr h
  have hS : va_S A s.heap s.heap [] := va_S.rf
  clear hAe hD0
  have hl0 := lv_entry ([.ref ad0, .int xi0]) (n := 4) (Nat.le_of_ble_eq_true rfl)
  rw [lg_entry_eq]
  generalize (lg_sl ([.ref ad0, .int xi0]) ++ List.replicate (4 - (lg_sl ([.ref ad0, .int xi0])).length) Slot.unset).toArray = ls at hl0 ⊢
  have hl : lv_has ls 4 [(0, .ref ad0), (1, .int xi0)] := hl0
  clear hl0
  refine lv_aload_n (pc := 0) hx hb dX12_print_0 rfl (lv_at hl 0 rfl) ?_
  refine lv_iconst (pc := 1) (v := 0) hx hb dX12_print_1 (by decide) ?_
  refine ob_put (pc := 2) (v := .int 0) (ci := 12) (C := RX12) (T := TX12) (N := 114) hx hb hG in_X12 tyX12 tyX12_ok nmX12 hown hK hP hD hS 0 rfl rfl 0 (by decide) (hG _ g_432) rfl rfl rfl rfl dX12_print_2 (ws' := [(ad0, ob 12 114 (vup fn0 0 (.int 0)))]) rfl (fun H1 lo1 hP1 hD1 hS1 => ?_)
  clear hP hD hS
  refine lv_aload_n (pc := 5) hx hb dX12_print_5 rfl (lv_at hl 0 rfl) ?_
  refine lv_iload_n (pc := 6) hx hb dX12_print_6 rfl (lv_at hl 1 rfl) ?_
  refine cq_i (pc := 7) (wr := []) (k2 := 0) (n2 := 0) (va_runV (As := [.int xi0]) (rest := []) ⟨hx, hb, hml, hown, hG⟩ (m_isRecord_p l D cy kv H1.size ad0 xi0 (vup fn0 0 (.int 0)) rfl h0_89 hn) (cwV 1 hG (gi_V g_535 g_536 g_537 g_334 g_534) rfl rfl rfl (by decide +kernel) ⟨Nat.le_of_ble_eq_true rfl, Nat.le_of_ble_eq_true rfl⟩) ⟨pq_blind, (va_recv hK hP1 (ci := 12) (q0 := 0) rfl rfl), (pq_pass hP1 hD1 hK hE hS1 hA [0] rfl (by decide))⟩ rfl rfl hl.1 rfl (lv_room (Nat.le_of_ble_eq_true rfl)) dX12_print_7 ⟨Nat.le_of_ble_eq_true rfl, Nat.le_of_ble_eq_true rfl⟩) hP1 hD1 hS1 hA [0] [] rfl rfl (by decide) (by decide) (by decide) (by decide) (fun r2 w2 H2 lo2 e2 hR2 hP2r hD2r hS2 => ?_)
  subst hR2
  subst e2
  have hP2 : va_P D classes [(ad0, ob 12 114 (vup (vup fn0 0 (.int 0)) 0 (.int 1)))] H2 := hP2r
  have hD2 : va_D A [(ad0, ob 12 114 (vup (vup fn0 0 (.int 0)) 0 (.int 1)))] := hD2r
  clear hP2r hD2r
  clear hP1 hD1 hS1
  clear H1 lo1
  refine lv_if_ne (pc := 10) (tgt := 15) hx hb dX12_print_10 (by decide) (fun c3 => absurd (by decide) c3) (fun c3 => ?_)
  refine lv_iconst (pc := 13) (v := 0) hx hb dX12_print_13 (by decide) ?_
  exact W.iret (pc := 14) (v := 0) hx hb hr (fun t ht hW => ⟨⟨0, (), rfl, rfl, _, ⟨(vup (vup fn0 0 (.int 0)) 0 (.int 1)), rfl, rfl⟩, by rw [ht]; exact hP2, hD2⟩, hS2.F ht⟩) hS2.2.2 dX12_print_14
set_option maxHeartbeats 4000000 in
set_option maxRecDepth 100000 in
/-- X12_octet -/
theorem m_octet_n (l : Launch) (D : va_G) (cy : Nat → ClassId) (kv : KV) (sz : Nat) (ad0 : Nat) (xi0 : Int32) (fn0 : Nat → Value) (h0_103 : fn0 103 = .int 0) (hn : xi0 < 0) : Met l yX12_octet (Cond.code yX12_octet cX12_octet 2 (some .int) :: GW) ({ frames := 8, cells := 0, slots := 0, locals := 120 } : Room) (va_Pc [.ref ad0, .int xi0] (pcq D cy kv sz [(ad0, ob 12 114 fn0)])) (va_Qi (fun r (_ : Unit) => r = (-1)) (fun _ t => bq D (fun w => ∃ (nc900 : Nat → Value), w = [(ad0, ob 12 114 nc900)] ∧ nc900 0 = .int 0) (va_A [(ad0, ob 12 114 fn0)] sz) t) (va_A [(ad0, ob 12 114 fn0)] sz)) 0 0 (va_A [(ad0, ob 12 114 fn0)] sz) := by
  refine Met.ofW (cc := cX12_octet) (maxL := 2) (ret := (some .int)) (by decide) rfl ?_
  intro p e s m args below meth c s₁ B hml hv
  obtain ⟨rfl, hsz, hP, hK, hD0, hE⟩ := hv
  have hx := B.exec
  have hb := B.bytes
  have hr := B.returns
  have hG : ∀ w ∈ GW, w.before ([.ref ad0, .int xi0] : List Value).toArray s = true := fun w h => atoms_spec (ws := Cond.code yX12_octet cX12_octet 2 (some .int) :: GW) B.pre w (List.mem_cons_of_mem _ h)
  have hown : s.vm.findClass RX12 = some m.cls := findClass_of_methodNamed B.named
  have hlocks := B.notSynchronized
  subst hsz
  have hD := hD0.self (sz := s.heap.size)
  generalize hAe : va_A [(ad0, ob 12 114 fn0)] s.heap.size = A at hD hE ⊢
  have hA : ∀ q : Nat, s.heap.size ≤ q → A q := fun q h => by rw [← hAe]; exact Or.inr h
  have hS : va_S A s.heap s.heap [] := va_S.rf
  clear hAe hD0
  have hl0 := lv_entry ([.ref ad0, .int xi0]) (n := 2) (Nat.le_of_ble_eq_true rfl)
  rw [lg_entry_eq]
  generalize (lg_sl ([.ref ad0, .int xi0]) ++ List.replicate (2 - (lg_sl ([.ref ad0, .int xi0])).length) Slot.unset).toArray = ls at hl0 ⊢
  have hl : lv_has ls 2 [(0, .ref ad0), (1, .int xi0)] := hl0
  clear hl0
  refine lv_aload_n (pc := 0) hx hb dX12_octet_0 rfl (lv_at hl 0 rfl) ?_
  refine lv_iconst (pc := 1) (v := 0) hx hb dX12_octet_1 (by decide) ?_
  refine ob_put (pc := 2) (v := .int 0) (ci := 12) (C := RX12) (T := TX12) (N := 114) hx hb hG in_X12 tyX12 tyX12_ok nmX12 hown hK hP hD hS 0 rfl rfl 0 (by decide) (hG _ g_432) rfl rfl rfl rfl dX12_octet_2 (ws' := [(ad0, ob 12 114 (vup fn0 0 (.int 0)))]) rfl (fun H1 lo1 hP1 hD1 hS1 => ?_)
  clear hP hD hS
  refine lv_iload_n (pc := 5) hx hb dX12_octet_5 rfl (lv_at hl 1 rfl) ?_
  refine lv_if_lt (pc := 6) (tgt := 26) hx hb dX12_octet_6 (by decide) (fun c2 => ?_) (fun c2 => absurd hn c2)
  refine lv_iconst (pc := 26) (v := (-1)) hx hb dX12_octet_26 (by decide) ?_
  exact W.iret (pc := 27) (v := (-1)) hx hb hr (fun t ht hW => ⟨⟨(-1), (), rfl, rfl, _, ⟨(vup fn0 0 (.int 0)), rfl, rfl⟩, by rw [ht]; exact hP1, hD1⟩, hS1.F ht⟩) hS1.2.2 dX12_octet_27
set_option maxHeartbeats 4000000 in
set_option maxRecDepth 100000 in
/-- X12_show -/
theorem m_show0_n (l : Launch) (D : va_G) (cy : Nat → ClassId) (kv : KV) (sz : Nat) (ad0 : Nat) (xi0 : Int32) (fn0 : Nat → Value) (h0_107 : fn0 107 = .int 0) (hn : xi0 < 0) : Met l yX12_show (Cond.code yX12_show cX12_show 3 (some .int) :: GW) ({ frames := 9, cells := 0, slots := 0, locals := 160 } : Room) (va_Pc [.ref ad0, .int 0, .int xi0] (pcq D cy kv sz [(ad0, ob 12 114 fn0)])) (va_Qi (fun r (_ : Unit) => r = (-1)) (fun _ t => bq D (fun w => ∃ (nc900 : Nat → Value), w = [(ad0, ob 12 114 nc900)] ∧ nc900 0 = .int 0) (va_A [(ad0, ob 12 114 fn0)] sz) t) (va_A [(ad0, ob 12 114 fn0)] sz)) 0 0 (va_A [(ad0, ob 12 114 fn0)] sz) := by
  refine Met.ofW (cc := cX12_show) (maxL := 3) (ret := (some .int)) (by decide) rfl ?_
  intro p e s m args below meth c s₁ B hml hv
  obtain ⟨rfl, hsz, hP, hK, hD0, hE⟩ := hv
  have hx := B.exec
  have hb := B.bytes
  have hr := B.returns
  have hG : ∀ w ∈ GW, w.before ([.ref ad0, .int 0, .int xi0] : List Value).toArray s = true := fun w h => atoms_spec (ws := Cond.code yX12_show cX12_show 3 (some .int) :: GW) B.pre w (List.mem_cons_of_mem _ h)
  have hown : s.vm.findClass RX12 = some m.cls := findClass_of_methodNamed B.named
  have hlocks := B.notSynchronized
  subst hsz
  have hD := hD0.self (sz := s.heap.size)
  generalize hAe : va_A [(ad0, ob 12 114 fn0)] s.heap.size = A at hD hE ⊢
  have hA : ∀ q : Nat, s.heap.size ≤ q → A q := fun q h => by rw [← hAe]; exact Or.inr h
  have hS : va_S A s.heap s.heap [] := va_S.rf
  clear hAe hD0
  have hl0 := lv_entry ([.ref ad0, .int 0, .int xi0]) (n := 3) (Nat.le_of_ble_eq_true rfl)
  rw [lg_entry_eq]
  generalize (lg_sl ([.ref ad0, .int 0, .int xi0]) ++ List.replicate (3 - (lg_sl ([.ref ad0, .int 0, .int xi0])).length) Slot.unset).toArray = ls at hl0 ⊢
  have hl : lv_has ls 3 [(0, .ref ad0), (1, .int 0), (2, .int xi0)] := hl0
  clear hl0
  refine lv_aload_n (pc := 0) hx hb dX12_show_0 rfl (lv_at hl 0 rfl) ?_
  refine lv_iconst (pc := 1) (v := 0) hx hb dX12_show_1 (by decide) ?_
  refine ob_put (pc := 2) (v := .int 0) (ci := 12) (C := RX12) (T := TX12) (N := 114) hx hb hG in_X12 tyX12 tyX12_ok nmX12 hown hK hP hD hS 0 rfl rfl 0 (by decide) (hG _ g_432) rfl rfl rfl rfl dX12_show_2 (ws' := [(ad0, ob 12 114 (vup fn0 0 (.int 0)))]) rfl (fun H1 lo1 hP1 hD1 hS1 => ?_)
  clear hP hD hS
  refine lv_aload_n (pc := 5) hx hb dX12_show_5 rfl (lv_at hl 0 rfl) ?_
  refine lv_iload_n (pc := 6) hx hb dX12_show_6 rfl (lv_at hl 1 rfl) ?_
  refine lv_if_eq (pc := 7) (tgt := 15) hx hb dX12_show_7 (by decide) (fun c2 => ?_) (fun c2 => absurd (by decide) c2)
  refine lv_iconst (pc := 15) (v := 1) hx hb dX12_show_15 (by decide) ?_
  refine lv_goto (pc := 16) (tgt := 20) hx hb dX12_show_16 (by decide) ?_
  refine lv_iconst (pc := 20) (v := 1) hx hb dX12_show_20 (by decide) ?_
  refine cq_i (pc := 21) (wr := []) (k2 := 0) (n2 := 0) (va_runV (As := [.int 1, .int 1]) (rest := []) ⟨hx, hb, hml, hown, hG⟩ (m_may1 l D cy kv H1.size ad0 (vup fn0 0 (.int 0)) rfl) (cwV 2 hG (gi_V g_475 g_476 g_477 g_334 g_434) rfl rfl rfl (by decide +kernel) ⟨Nat.le_of_ble_eq_true rfl, Nat.le_of_ble_eq_true rfl⟩) ⟨pq_blind, (va_recv hK hP1 (ci := 12) (q0 := 0) rfl rfl), (pq_pass hP1 hD1 hK hE hS1 hA [0] rfl (by decide))⟩ rfl rfl hl.1 rfl (lv_room (Nat.le_of_ble_eq_true rfl)) dX12_show_21 ⟨Nat.le_of_ble_eq_true rfl, Nat.le_of_ble_eq_true rfl⟩) hP1 hD1 hS1 hA [0] [] rfl rfl (by decide) (by decide) (by decide) (by decide) (fun r3 w3 H3 lo3 e3 hR3 hP3r hD3r hS3 => ?_)
  subst hR3
  subst e3
  have hP3 : va_P D classes [(ad0, ob 12 114 (vup fn0 0 (.int 0)))] H3 := hP3r
  have hD3 : va_D A [(ad0, ob 12 114 (vup fn0 0 (.int 0)))] := hD3r
  clear hP3r hD3r
  clear hP1 hD1 hS1
  clear H1 lo1
  refine lv_if_ne (pc := 24) (tgt := 29) hx hb dX12_show_24 (by decide) (fun c4 => ?_) (fun c4 => absurd c4 (by decide))
  refine lv_iload_n (pc := 29) hx hb dX12_show_29 rfl (lv_at hl 2 rfl) ?_
  refine lv_if_lt (pc := 30) (tgt := 52) hx hb dX12_show_30 (by decide) (fun c5 => ?_) (fun c5 => absurd hn c5)
  refine lv_iconst (pc := 52) (v := (-1)) hx hb dX12_show_52 (by decide) ?_
  exact W.iret (pc := 53) (v := (-1)) hx hb hr (fun t ht hW => ⟨⟨(-1), (), rfl, rfl, _, ⟨(vup fn0 0 (.int 0)), rfl, rfl⟩, by rw [ht]; exact hP3, hD3⟩, hS3.F ht⟩) hS3.2.2 dX12_show_53
set_option maxHeartbeats 4000000 in
set_option maxRecDepth 100000 in
/-- X12_show -/
theorem m_show1_n (l : Launch) (D : va_G) (cy : Nat → ClassId) (kv : KV) (sz : Nat) (ad0 : Nat) (xi0 : Int32) (fn0 : Nat → Value) (h0_108 : fn0 108 = .int 0) (hn : xi0 < 0) : Met l yX12_show (Cond.code yX12_show cX12_show 3 (some .int) :: GW) ({ frames := 9, cells := 0, slots := 0, locals := 160 } : Room) (va_Pc [.ref ad0, .int 1, .int xi0] (pcq D cy kv sz [(ad0, ob 12 114 fn0)])) (va_Qi (fun r (_ : Unit) => r = (-1)) (fun _ t => bq D (fun w => ∃ (nc900 : Nat → Value), w = [(ad0, ob 12 114 nc900)] ∧ nc900 0 = .int 0) (va_A [(ad0, ob 12 114 fn0)] sz) t) (va_A [(ad0, ob 12 114 fn0)] sz)) 0 0 (va_A [(ad0, ob 12 114 fn0)] sz) := by
  refine Met.ofW (cc := cX12_show) (maxL := 3) (ret := (some .int)) (by decide) rfl ?_
  intro p e s m args below meth c s₁ B hml hv
  obtain ⟨rfl, hsz, hP, hK, hD0, hE⟩ := hv
  have hx := B.exec
  have hb := B.bytes
  have hr := B.returns
  have hG : ∀ w ∈ GW, w.before ([.ref ad0, .int 1, .int xi0] : List Value).toArray s = true := fun w h => atoms_spec (ws := Cond.code yX12_show cX12_show 3 (some .int) :: GW) B.pre w (List.mem_cons_of_mem _ h)
  have hown : s.vm.findClass RX12 = some m.cls := findClass_of_methodNamed B.named
  have hlocks := B.notSynchronized
  subst hsz
  have hD := hD0.self (sz := s.heap.size)
  generalize hAe : va_A [(ad0, ob 12 114 fn0)] s.heap.size = A at hD hE ⊢
  have hA : ∀ q : Nat, s.heap.size ≤ q → A q := fun q h => by rw [← hAe]; exact Or.inr h
  have hS : va_S A s.heap s.heap [] := va_S.rf
  clear hAe hD0
  have hl0 := lv_entry ([.ref ad0, .int 1, .int xi0]) (n := 3) (Nat.le_of_ble_eq_true rfl)
  rw [lg_entry_eq]
  generalize (lg_sl ([.ref ad0, .int 1, .int xi0]) ++ List.replicate (3 - (lg_sl ([.ref ad0, .int 1, .int xi0])).length) Slot.unset).toArray = ls at hl0 ⊢
  have hl : lv_has ls 3 [(0, .ref ad0), (1, .int 1), (2, .int xi0)] := hl0
  clear hl0
  refine lv_aload_n (pc := 0) hx hb dX12_show_0 rfl (lv_at hl 0 rfl) ?_
  refine lv_iconst (pc := 1) (v := 0) hx hb dX12_show_1 (by decide) ?_
  refine ob_put (pc := 2) (v := .int 0) (ci := 12) (C := RX12) (T := TX12) (N := 114) hx hb hG in_X12 tyX12 tyX12_ok nmX12 hown hK hP hD hS 0 rfl rfl 0 (by decide) (hG _ g_432) rfl rfl rfl rfl dX12_show_2 (ws' := [(ad0, ob 12 114 (vup fn0 0 (.int 0)))]) rfl (fun H1 lo1 hP1 hD1 hS1 => ?_)
  clear hP hD hS
  refine lv_aload_n (pc := 5) hx hb dX12_show_5 rfl (lv_at hl 0 rfl) ?_
  refine lv_iload_n (pc := 6) hx hb dX12_show_6 rfl (lv_at hl 1 rfl) ?_
  refine lv_if_eq (pc := 7) (tgt := 15) hx hb dX12_show_7 (by decide) (fun c2 => absurd c2 (by decide)) (fun c2 => ?_)
  refine lv_iload_n (pc := 10) hx hb dX12_show_10 rfl (lv_at hl 1 rfl) ?_
  refine lv_iconst (pc := 11) (v := 1) hx hb dX12_show_11 (by decide) ?_
  refine lv_icmp_ne (pc := 12) (tgt := 19) hx hb dX12_show_12 (by decide) (fun c3 => absurd (by decide) c3) (fun c3 => ?_)
  refine lv_iconst (pc := 15) (v := 1) hx hb dX12_show_15 (by decide) ?_
  refine lv_goto (pc := 16) (tgt := 20) hx hb dX12_show_16 (by decide) ?_
  refine lv_iconst (pc := 20) (v := 1) hx hb dX12_show_20 (by decide) ?_
  refine cq_i (pc := 21) (wr := []) (k2 := 0) (n2 := 0) (va_runV (As := [.int 1, .int 1]) (rest := []) ⟨hx, hb, hml, hown, hG⟩ (m_may1 l D cy kv H1.size ad0 (vup fn0 0 (.int 0)) rfl) (cwV 2 hG (gi_V g_475 g_476 g_477 g_334 g_434) rfl rfl rfl (by decide +kernel) ⟨Nat.le_of_ble_eq_true rfl, Nat.le_of_ble_eq_true rfl⟩) ⟨pq_blind, (va_recv hK hP1 (ci := 12) (q0 := 0) rfl rfl), (pq_pass hP1 hD1 hK hE hS1 hA [0] rfl (by decide))⟩ rfl rfl hl.1 rfl (lv_room (Nat.le_of_ble_eq_true rfl)) dX12_show_21 ⟨Nat.le_of_ble_eq_true rfl, Nat.le_of_ble_eq_true rfl⟩) hP1 hD1 hS1 hA [0] [] rfl rfl (by decide) (by decide) (by decide) (by decide) (fun r4 w4 H4 lo4 e4 hR4 hP4r hD4r hS4 => ?_)
  subst hR4
  subst e4
  have hP4 : va_P D classes [(ad0, ob 12 114 (vup fn0 0 (.int 0)))] H4 := hP4r
  have hD4 : va_D A [(ad0, ob 12 114 (vup fn0 0 (.int 0)))] := hD4r
  clear hP4r hD4r
  clear hP1 hD1 hS1
  clear H1 lo1
  refine lv_if_ne (pc := 24) (tgt := 29) hx hb dX12_show_24 (by decide) (fun c5 => ?_) (fun c5 => absurd c5 (by decide))
  refine lv_iload_n (pc := 29) hx hb dX12_show_29 rfl (lv_at hl 2 rfl) ?_
  refine lv_if_lt (pc := 30) (tgt := 52) hx hb dX12_show_30 (by decide) (fun c6 => ?_) (fun c6 => absurd hn c6)
  refine lv_iconst (pc := 52) (v := (-1)) hx hb dX12_show_52 (by decide) ?_
  exact W.iret (pc := 53) (v := (-1)) hx hb hr (fun t ht hW => ⟨⟨(-1), (), rfl, rfl, _, ⟨(vup fn0 0 (.int 0)), rfl, rfl⟩, by rw [ht]; exact hP4, hD4⟩, hS4.F ht⟩) hS4.2.2 dX12_show_53
set_option maxHeartbeats 4000000 in
set_option maxRecDepth 100000 in
/-- X12_octet -/
theorem m_octet_p (l : Launch) (D : va_G) (cy : Nat → ClassId) (kv : KV) (sz : Nat) (ad0 : Nat) (xi0 : Int32) (fn0 : Nat → Value) (h0_103 : fn0 103 = .int 0) (hn : 0 ≤ xi0) : Met l yX12_octet (Cond.code yX12_octet cX12_octet 2 (some .int) :: GW) ({ frames := 8, cells := 0, slots := 0, locals := 120 } : Room) (va_Pc [.ref ad0, .int xi0] (pcq D cy kv sz [(ad0, ob 12 114 fn0)])) (va_Qi (fun r (_ : Unit) => r = (-1)) (fun _ t => bq D (fun w => ∃ (nc900 : Nat → Value), w = [(ad0, ob 12 114 nc900)] ∧ nc900 0 = .int 0) (va_A [(ad0, ob 12 114 fn0)] sz) t) (va_A [(ad0, ob 12 114 fn0)] sz)) 0 0 (va_A [(ad0, ob 12 114 fn0)] sz) := by
  refine Met.ofW (cc := cX12_octet) (maxL := 2) (ret := (some .int)) (by decide) rfl ?_
  intro p e s m args below meth c s₁ B hml hv
  obtain ⟨rfl, hsz, hP, hK, hD0, hE⟩ := hv
  have hx := B.exec
  have hb := B.bytes
  have hr := B.returns
  have hG : ∀ w ∈ GW, w.before ([.ref ad0, .int xi0] : List Value).toArray s = true := fun w h => atoms_spec (ws := Cond.code yX12_octet cX12_octet 2 (some .int) :: GW) B.pre w (List.mem_cons_of_mem _ h)
  have hown : s.vm.findClass RX12 = some m.cls := findClass_of_methodNamed B.named
  have hlocks := B.notSynchronized
  subst hsz
  have hD := hD0.self (sz := s.heap.size)
  generalize hAe : va_A [(ad0, ob 12 114 fn0)] s.heap.size = A at hD hE ⊢
  have hA : ∀ q : Nat, s.heap.size ≤ q → A q := fun q h => by rw [← hAe]; exact Or.inr h
  have hS : va_S A s.heap s.heap [] := va_S.rf
  clear hAe hD0
  have hl0 := lv_entry ([.ref ad0, .int xi0]) (n := 2) (Nat.le_of_ble_eq_true rfl)
  rw [lg_entry_eq]
  generalize (lg_sl ([.ref ad0, .int xi0]) ++ List.replicate (2 - (lg_sl ([.ref ad0, .int xi0])).length) Slot.unset).toArray = ls at hl0 ⊢
  have hl : lv_has ls 2 [(0, .ref ad0), (1, .int xi0)] := hl0
  clear hl0
  refine lv_aload_n (pc := 0) hx hb dX12_octet_0 rfl (lv_at hl 0 rfl) ?_
  refine lv_iconst (pc := 1) (v := 0) hx hb dX12_octet_1 (by decide) ?_
  refine ob_put (pc := 2) (v := .int 0) (ci := 12) (C := RX12) (T := TX12) (N := 114) hx hb hG in_X12 tyX12 tyX12_ok nmX12 hown hK hP hD hS 0 rfl rfl 0 (by decide) (hG _ g_432) rfl rfl rfl rfl dX12_octet_2 (ws' := [(ad0, ob 12 114 (vup fn0 0 (.int 0)))]) rfl (fun H1 lo1 hP1 hD1 hS1 => ?_)
  clear hP hD hS
  refine lv_iload_n (pc := 5) hx hb dX12_octet_5 rfl (lv_at hl 1 rfl) ?_
  refine lv_if_lt (pc := 6) (tgt := 26) hx hb dX12_octet_6 (by decide) (fun c2 => absurd c2 (i_nlt hn)) (fun c2 => ?_)
  refine lv_iload_n (pc := 9) hx hb dX12_octet_9 rfl (lv_at hl 1 rfl) ?_
  refine lv_aload_n (pc := 10) hx hb dX12_octet_10 rfl (lv_at hl 0 rfl) ?_
  refine ob_get (pc := 11) (v := .int 0) (ci := 12) (C := RX12) (T := TX12) (N := 114) hx hb hG in_X12 hown hK hP1 0 rfl rfl 103 (by decide) (hG _ g_533) rfl h0_103 dX12_octet_11 ?_
  refine lv_icmp_ge (pc := 14) (tgt := 26) hx hb dX12_octet_14 (by decide) (fun c3 => ?_) (fun c3 => absurd hn c3)
  refine lv_iconst (pc := 26) (v := (-1)) hx hb dX12_octet_26 (by decide) ?_
  exact W.iret (pc := 27) (v := (-1)) hx hb hr (fun t ht hW => ⟨⟨(-1), (), rfl, rfl, _, ⟨(vup fn0 0 (.int 0)), rfl, rfl⟩, by rw [ht]; exact hP1, hD1⟩, hS1.F ht⟩) hS1.2.2 dX12_octet_27
set_option maxHeartbeats 4000000 in
set_option maxRecDepth 100000 in
/-- X12_show -/
theorem m_show0_p (l : Launch) (D : va_G) (cy : Nat → ClassId) (kv : KV) (sz : Nat) (ad0 : Nat) (xi0 : Int32) (fn0 : Nat → Value) (h0_107 : fn0 107 = .int 0) (hn : 0 ≤ xi0) : Met l yX12_show (Cond.code yX12_show cX12_show 3 (some .int) :: GW) ({ frames := 9, cells := 0, slots := 0, locals := 160 } : Room) (va_Pc [.ref ad0, .int 0, .int xi0] (pcq D cy kv sz [(ad0, ob 12 114 fn0)])) (va_Qi (fun r (_ : Unit) => r = (-1)) (fun _ t => bq D (fun w => ∃ (nc900 : Nat → Value), w = [(ad0, ob 12 114 nc900)] ∧ nc900 0 = .int 0) (va_A [(ad0, ob 12 114 fn0)] sz) t) (va_A [(ad0, ob 12 114 fn0)] sz)) 0 0 (va_A [(ad0, ob 12 114 fn0)] sz) := by
  refine Met.ofW (cc := cX12_show) (maxL := 3) (ret := (some .int)) (by decide) rfl ?_
  intro p e s m args below meth c s₁ B hml hv
  obtain ⟨rfl, hsz, hP, hK, hD0, hE⟩ := hv
  have hx := B.exec
  have hb := B.bytes
  have hr := B.returns
  have hG : ∀ w ∈ GW, w.before ([.ref ad0, .int 0, .int xi0] : List Value).toArray s = true := fun w h => atoms_spec (ws := Cond.code yX12_show cX12_show 3 (some .int) :: GW) B.pre w (List.mem_cons_of_mem _ h)
  have hown : s.vm.findClass RX12 = some m.cls := findClass_of_methodNamed B.named
  have hlocks := B.notSynchronized
  subst hsz
  have hD := hD0.self (sz := s.heap.size)
  generalize hAe : va_A [(ad0, ob 12 114 fn0)] s.heap.size = A at hD hE ⊢
  have hA : ∀ q : Nat, s.heap.size ≤ q → A q := fun q h => by rw [← hAe]; exact Or.inr h
  have hS : va_S A s.heap s.heap [] := va_S.rf
  clear hAe hD0
  have hl0 := lv_entry ([.ref ad0, .int 0, .int xi0]) (n := 3) (Nat.le_of_ble_eq_true rfl)
  rw [lg_entry_eq]
  generalize (lg_sl ([.ref ad0, .int 0, .int xi0]) ++ List.replicate (3 - (lg_sl ([.ref ad0, .int 0, .int xi0])).length) Slot.unset).toArray = ls at hl0 ⊢
  have hl : lv_has ls 3 [(0, .ref ad0), (1, .int 0), (2, .int xi0)] := hl0
  clear hl0
  refine lv_aload_n (pc := 0) hx hb dX12_show_0 rfl (lv_at hl 0 rfl) ?_
  refine lv_iconst (pc := 1) (v := 0) hx hb dX12_show_1 (by decide) ?_
  refine ob_put (pc := 2) (v := .int 0) (ci := 12) (C := RX12) (T := TX12) (N := 114) hx hb hG in_X12 tyX12 tyX12_ok nmX12 hown hK hP hD hS 0 rfl rfl 0 (by decide) (hG _ g_432) rfl rfl rfl rfl dX12_show_2 (ws' := [(ad0, ob 12 114 (vup fn0 0 (.int 0)))]) rfl (fun H1 lo1 hP1 hD1 hS1 => ?_)
  clear hP hD hS
  refine lv_aload_n (pc := 5) hx hb dX12_show_5 rfl (lv_at hl 0 rfl) ?_
  refine lv_iload_n (pc := 6) hx hb dX12_show_6 rfl (lv_at hl 1 rfl) ?_
  refine lv_if_eq (pc := 7) (tgt := 15) hx hb dX12_show_7 (by decide) (fun c2 => ?_) (fun c2 => absurd (by decide) c2)
  refine lv_iconst (pc := 15) (v := 1) hx hb dX12_show_15 (by decide) ?_
  refine lv_goto (pc := 16) (tgt := 20) hx hb dX12_show_16 (by decide) ?_
  refine lv_iconst (pc := 20) (v := 1) hx hb dX12_show_20 (by decide) ?_
  refine cq_i (pc := 21) (wr := []) (k2 := 0) (n2 := 0) (va_runV (As := [.int 1, .int 1]) (rest := []) ⟨hx, hb, hml, hown, hG⟩ (m_may1 l D cy kv H1.size ad0 (vup fn0 0 (.int 0)) rfl) (cwV 2 hG (gi_V g_475 g_476 g_477 g_334 g_434) rfl rfl rfl (by decide +kernel) ⟨Nat.le_of_ble_eq_true rfl, Nat.le_of_ble_eq_true rfl⟩) ⟨pq_blind, (va_recv hK hP1 (ci := 12) (q0 := 0) rfl rfl), (pq_pass hP1 hD1 hK hE hS1 hA [0] rfl (by decide))⟩ rfl rfl hl.1 rfl (lv_room (Nat.le_of_ble_eq_true rfl)) dX12_show_21 ⟨Nat.le_of_ble_eq_true rfl, Nat.le_of_ble_eq_true rfl⟩) hP1 hD1 hS1 hA [0] [] rfl rfl (by decide) (by decide) (by decide) (by decide) (fun r3 w3 H3 lo3 e3 hR3 hP3r hD3r hS3 => ?_)
  subst hR3
  subst e3
  have hP3 : va_P D classes [(ad0, ob 12 114 (vup fn0 0 (.int 0)))] H3 := hP3r
  have hD3 : va_D A [(ad0, ob 12 114 (vup fn0 0 (.int 0)))] := hD3r
  clear hP3r hD3r
  clear hP1 hD1 hS1
  clear H1 lo1
  refine lv_if_ne (pc := 24) (tgt := 29) hx hb dX12_show_24 (by decide) (fun c4 => ?_) (fun c4 => absurd c4 (by decide))
  refine lv_iload_n (pc := 29) hx hb dX12_show_29 rfl (lv_at hl 2 rfl) ?_
  refine lv_if_lt (pc := 30) (tgt := 52) hx hb dX12_show_30 (by decide) (fun c5 => absurd c5 (i_nlt hn)) (fun c5 => ?_)
  refine lv_iload_n (pc := 33) hx hb dX12_show_33 rfl (lv_at hl 2 rfl) ?_
  refine lv_iload_n (pc := 34) hx hb dX12_show_34 rfl (lv_at hl 1 rfl) ?_
  refine lv_if_ne (pc := 35) (tgt := 45) hx hb dX12_show_35 (by decide) (fun c6 => absurd (by decide) c6) (fun c6 => ?_)
  refine lv_aload_n (pc := 38) hx hb dX12_show_38 rfl (lv_at hl 0 rfl) ?_
  refine ob_get (pc := 39) (v := .int 0) (ci := 12) (C := RX12) (T := TX12) (N := 114) hx hb hG in_X12 hown hK hP3 0 rfl rfl 107 (by decide) (hG _ g_511) rfl h0_107 dX12_show_39 ?_
  refine lv_goto (pc := 42) (tgt := 49) hx hb dX12_show_42 (by decide) ?_
  refine lv_icmp_lt (pc := 49) (tgt := 54) hx hb dX12_show_49 (by decide) (fun c7 => absurd c7 (i_nlt hn)) (fun c7 => ?_)
  refine lv_iconst (pc := 52) (v := (-1)) hx hb dX12_show_52 (by decide) ?_
  exact W.iret (pc := 53) (v := (-1)) hx hb hr (fun t ht hW => ⟨⟨(-1), (), rfl, rfl, _, ⟨(vup fn0 0 (.int 0)), rfl, rfl⟩, by rw [ht]; exact hP3, hD3⟩, hS3.F ht⟩) hS3.2.2 dX12_show_53
set_option maxHeartbeats 4000000 in
set_option maxRecDepth 100000 in
/-- X12_show -/
theorem m_show1_p (l : Launch) (D : va_G) (cy : Nat → ClassId) (kv : KV) (sz : Nat) (ad0 : Nat) (xi0 : Int32) (fn0 : Nat → Value) (h0_108 : fn0 108 = .int 0) (hn : 0 ≤ xi0) : Met l yX12_show (Cond.code yX12_show cX12_show 3 (some .int) :: GW) ({ frames := 9, cells := 0, slots := 0, locals := 160 } : Room) (va_Pc [.ref ad0, .int 1, .int xi0] (pcq D cy kv sz [(ad0, ob 12 114 fn0)])) (va_Qi (fun r (_ : Unit) => r = (-1)) (fun _ t => bq D (fun w => ∃ (nc900 : Nat → Value), w = [(ad0, ob 12 114 nc900)] ∧ nc900 0 = .int 0) (va_A [(ad0, ob 12 114 fn0)] sz) t) (va_A [(ad0, ob 12 114 fn0)] sz)) 0 0 (va_A [(ad0, ob 12 114 fn0)] sz) := by
  refine Met.ofW (cc := cX12_show) (maxL := 3) (ret := (some .int)) (by decide) rfl ?_
  intro p e s m args below meth c s₁ B hml hv
  obtain ⟨rfl, hsz, hP, hK, hD0, hE⟩ := hv
  have hx := B.exec
  have hb := B.bytes
  have hr := B.returns
  have hG : ∀ w ∈ GW, w.before ([.ref ad0, .int 1, .int xi0] : List Value).toArray s = true := fun w h => atoms_spec (ws := Cond.code yX12_show cX12_show 3 (some .int) :: GW) B.pre w (List.mem_cons_of_mem _ h)
  have hown : s.vm.findClass RX12 = some m.cls := findClass_of_methodNamed B.named
  have hlocks := B.notSynchronized
  subst hsz
  have hD := hD0.self (sz := s.heap.size)
  generalize hAe : va_A [(ad0, ob 12 114 fn0)] s.heap.size = A at hD hE ⊢
  have hA : ∀ q : Nat, s.heap.size ≤ q → A q := fun q h => by rw [← hAe]; exact Or.inr h
  have hS : va_S A s.heap s.heap [] := va_S.rf
  clear hAe hD0
  have hl0 := lv_entry ([.ref ad0, .int 1, .int xi0]) (n := 3) (Nat.le_of_ble_eq_true rfl)
  rw [lg_entry_eq]
  generalize (lg_sl ([.ref ad0, .int 1, .int xi0]) ++ List.replicate (3 - (lg_sl ([.ref ad0, .int 1, .int xi0])).length) Slot.unset).toArray = ls at hl0 ⊢
  have hl : lv_has ls 3 [(0, .ref ad0), (1, .int 1), (2, .int xi0)] := hl0
  clear hl0
  refine lv_aload_n (pc := 0) hx hb dX12_show_0 rfl (lv_at hl 0 rfl) ?_
  refine lv_iconst (pc := 1) (v := 0) hx hb dX12_show_1 (by decide) ?_
  refine ob_put (pc := 2) (v := .int 0) (ci := 12) (C := RX12) (T := TX12) (N := 114) hx hb hG in_X12 tyX12 tyX12_ok nmX12 hown hK hP hD hS 0 rfl rfl 0 (by decide) (hG _ g_432) rfl rfl rfl rfl dX12_show_2 (ws' := [(ad0, ob 12 114 (vup fn0 0 (.int 0)))]) rfl (fun H1 lo1 hP1 hD1 hS1 => ?_)
  clear hP hD hS
  refine lv_aload_n (pc := 5) hx hb dX12_show_5 rfl (lv_at hl 0 rfl) ?_
  refine lv_iload_n (pc := 6) hx hb dX12_show_6 rfl (lv_at hl 1 rfl) ?_
  refine lv_if_eq (pc := 7) (tgt := 15) hx hb dX12_show_7 (by decide) (fun c2 => absurd c2 (by decide)) (fun c2 => ?_)
  refine lv_iload_n (pc := 10) hx hb dX12_show_10 rfl (lv_at hl 1 rfl) ?_
  refine lv_iconst (pc := 11) (v := 1) hx hb dX12_show_11 (by decide) ?_
  refine lv_icmp_ne (pc := 12) (tgt := 19) hx hb dX12_show_12 (by decide) (fun c3 => absurd (by decide) c3) (fun c3 => ?_)
  refine lv_iconst (pc := 15) (v := 1) hx hb dX12_show_15 (by decide) ?_
  refine lv_goto (pc := 16) (tgt := 20) hx hb dX12_show_16 (by decide) ?_
  refine lv_iconst (pc := 20) (v := 1) hx hb dX12_show_20 (by decide) ?_
  refine cq_i (pc := 21) (wr := []) (k2 := 0) (n2 := 0) (va_runV (As := [.int 1, .int 1]) (rest := []) ⟨hx, hb, hml, hown, hG⟩ (m_may1 l D cy kv H1.size ad0 (vup fn0 0 (.int 0)) rfl) (cwV 2 hG (gi_V g_475 g_476 g_477 g_334 g_434) rfl rfl rfl (by decide +kernel) ⟨Nat.le_of_ble_eq_true rfl, Nat.le_of_ble_eq_true rfl⟩) ⟨pq_blind, (va_recv hK hP1 (ci := 12) (q0 := 0) rfl rfl), (pq_pass hP1 hD1 hK hE hS1 hA [0] rfl (by decide))⟩ rfl rfl hl.1 rfl (lv_room (Nat.le_of_ble_eq_true rfl)) dX12_show_21 ⟨Nat.le_of_ble_eq_true rfl, Nat.le_of_ble_eq_true rfl⟩) hP1 hD1 hS1 hA [0] [] rfl rfl (by decide) (by decide) (by decide) (by decide) (fun r4 w4 H4 lo4 e4 hR4 hP4r hD4r hS4 => ?_)
  subst hR4
  subst e4
  have hP4 : va_P D classes [(ad0, ob 12 114 (vup fn0 0 (.int 0)))] H4 := hP4r
  have hD4 : va_D A [(ad0, ob 12 114 (vup fn0 0 (.int 0)))] := hD4r
  clear hP4r hD4r
  clear hP1 hD1 hS1
  clear H1 lo1
  refine lv_if_ne (pc := 24) (tgt := 29) hx hb dX12_show_24 (by decide) (fun c5 => ?_) (fun c5 => absurd c5 (by decide))
  refine lv_iload_n (pc := 29) hx hb dX12_show_29 rfl (lv_at hl 2 rfl) ?_
  refine lv_if_lt (pc := 30) (tgt := 52) hx hb dX12_show_30 (by decide) (fun c6 => absurd c6 (i_nlt hn)) (fun c6 => ?_)
  refine lv_iload_n (pc := 33) hx hb dX12_show_33 rfl (lv_at hl 2 rfl) ?_
  refine lv_iload_n (pc := 34) hx hb dX12_show_34 rfl (lv_at hl 1 rfl) ?_
  refine lv_if_ne (pc := 35) (tgt := 45) hx hb dX12_show_35 (by decide) (fun c7 => ?_) (fun c7 => absurd c7 (by decide))
  refine lv_aload_n (pc := 45) hx hb dX12_show_45 rfl (lv_at hl 0 rfl) ?_
  refine ob_get (pc := 46) (v := .int 0) (ci := 12) (C := RX12) (T := TX12) (N := 114) hx hb hG in_X12 hown hK hP4 0 rfl rfl 108 (by decide) (hG _ g_493) rfl h0_108 dX12_show_46 ?_
  refine lv_icmp_lt (pc := 49) (tgt := 54) hx hb dX12_show_49 (by decide) (fun c8 => absurd c8 (i_nlt hn)) (fun c8 => ?_)
  refine lv_iconst (pc := 52) (v := (-1)) hx hb dX12_show_52 (by decide) ?_
  exact W.iret (pc := 53) (v := (-1)) hx hb hr (fun t ht hW => ⟨⟨(-1), (), rfl, rfl, _, ⟨(vup fn0 0 (.int 0)), rfl, rfl⟩, by rw [ht]; exact hP4, hD4⟩, hS4.F ht⟩) hS4.2.2 dX12_show_53
set_option maxHeartbeats 4000000 in
set_option maxRecDepth 100000 in
/-- X12_show -/
theorem m_show (l : Launch) (D : va_G) (cy : Nat → ClassId) (kv : KV) (sz : Nat) (ad0 : Nat) (xi0 : Int32) (xi1 : Int32) (fn0 : Nat → Value) (hn : ¬ xi0 = 0) (hm : ¬ xi0 = 1) : Met l yX12_show (Cond.code yX12_show cX12_show 3 (some .int) :: GW) ({ frames := 9, cells := 0, slots := 0, locals := 160 } : Room) (va_Pc [.ref ad0, .int xi0, .int xi1] (pcq D cy kv sz [(ad0, ob 12 114 fn0)])) (va_Qi (fun r (_ : Unit) => r = 0) (fun _ t => bq D (fun w => ∃ (nc900 : Nat → Value), w = [(ad0, ob 12 114 nc900)] ∧ nc900 0 = .int 1) (va_A [(ad0, ob 12 114 fn0)] sz) t) (va_A [(ad0, ob 12 114 fn0)] sz)) 0 0 (va_A [(ad0, ob 12 114 fn0)] sz) := by
  refine Met.ofW (cc := cX12_show) (maxL := 3) (ret := (some .int)) (by decide) rfl ?_
  intro p e s m args below meth c s₁ B hml hv
  obtain ⟨rfl, hsz, hP, hK, hD0, hE⟩ := hv
  have hx := B.exec
  have hb := B.bytes
  have hr := B.returns
  have hG : ∀ w ∈ GW, w.before ([.ref ad0, .int xi0, .int xi1] : List Value).toArray s = true := fun w h => atoms_spec (ws := Cond.code yX12_show cX12_show 3 (some .int) :: GW) B.pre w (List.mem_cons_of_mem _ h)
  have hown : s.vm.findClass RX12 = some m.cls := findClass_of_methodNamed B.named
  have hlocks := B.notSynchronized
  subst hsz
  have hD := hD0.self (sz := s.heap.size)
  generalize hAe : va_A [(ad0, ob 12 114 fn0)] s.heap.size = A at hD hE ⊢
  have hA : ∀ q : Nat, s.heap.size ≤ q → A q := fun q h => by rw [← hAe]; exact Or.inr h
  have hS : va_S A s.heap s.heap [] := va_S.rf
  clear hAe hD0
  have hl0 := lv_entry ([.ref ad0, .int xi0, .int xi1]) (n := 3) (Nat.le_of_ble_eq_true rfl)
  rw [lg_entry_eq]
  generalize (lg_sl ([.ref ad0, .int xi0, .int xi1]) ++ List.replicate (3 - (lg_sl ([.ref ad0, .int xi0, .int xi1])).length) Slot.unset).toArray = ls at hl0 ⊢
  have hl : lv_has ls 3 [(0, .ref ad0), (1, .int xi0), (2, .int xi1)] := hl0
  clear hl0
  refine lv_aload_n (pc := 0) hx hb dX12_show_0 rfl (lv_at hl 0 rfl) ?_
  refine lv_iconst (pc := 1) (v := 0) hx hb dX12_show_1 (by decide) ?_
  refine ob_put (pc := 2) (v := .int 0) (ci := 12) (C := RX12) (T := TX12) (N := 114) hx hb hG in_X12 tyX12 tyX12_ok nmX12 hown hK hP hD hS 0 rfl rfl 0 (by decide) (hG _ g_432) rfl rfl rfl rfl dX12_show_2 (ws' := [(ad0, ob 12 114 (vup fn0 0 (.int 0)))]) rfl (fun H1 lo1 hP1 hD1 hS1 => ?_)
  clear hP hD hS
  refine lv_aload_n (pc := 5) hx hb dX12_show_5 rfl (lv_at hl 0 rfl) ?_
  refine lv_iload_n (pc := 6) hx hb dX12_show_6 rfl (lv_at hl 1 rfl) ?_
  refine lv_if_eq (pc := 7) (tgt := 15) hx hb dX12_show_7 (by decide) (fun c2 => absurd c2 hn) (fun c2 => ?_)
  refine lv_iload_n (pc := 10) hx hb dX12_show_10 rfl (lv_at hl 1 rfl) ?_
  refine lv_iconst (pc := 11) (v := 1) hx hb dX12_show_11 (by decide) ?_
  refine lv_icmp_ne (pc := 12) (tgt := 19) hx hb dX12_show_12 (by decide) (fun c3 => ?_) (fun c3 => absurd c3 hm)
  refine lv_iconst (pc := 19) (v := 0) hx hb dX12_show_19 (by decide) ?_
  refine lv_iconst (pc := 20) (v := 1) hx hb dX12_show_20 (by decide) ?_
  refine cq_i (pc := 21) (wr := []) (k2 := 0) (n2 := 0) (va_runV (As := [.int 0, .int 1]) (rest := []) ⟨hx, hb, hml, hown, hG⟩ (m_may0 l D cy kv H1.size ad0 (vup fn0 0 (.int 0)) rfl) (cwV 2 hG (gi_V g_475 g_476 g_477 g_334 g_434) rfl rfl rfl (by decide +kernel) ⟨Nat.le_of_ble_eq_true rfl, Nat.le_of_ble_eq_true rfl⟩) ⟨pq_blind, (va_recv hK hP1 (ci := 12) (q0 := 0) rfl rfl), (pq_pass hP1 hD1 hK hE hS1 hA [0] rfl (by decide))⟩ rfl rfl hl.1 rfl (lv_room (Nat.le_of_ble_eq_true rfl)) dX12_show_21 ⟨Nat.le_of_ble_eq_true rfl, Nat.le_of_ble_eq_true rfl⟩) hP1 hD1 hS1 hA [0] [] rfl rfl (by decide) (by decide) (by decide) (by decide) (fun r4 w4 H4 lo4 e4 hR4 hP4r hD4r hS4 => ?_)
  subst hR4
  subst e4
  have hP4 : va_P D classes [(ad0, ob 12 114 (vup (vup fn0 0 (.int 0)) 0 (.int 1)))] H4 := hP4r
  have hD4 : va_D A [(ad0, ob 12 114 (vup (vup fn0 0 (.int 0)) 0 (.int 1)))] := hD4r
  clear hP4r hD4r
  clear hP1 hD1 hS1
  clear H1 lo1
  refine lv_if_ne (pc := 24) (tgt := 29) hx hb dX12_show_24 (by decide) (fun c5 => absurd (by decide) c5) (fun c5 => ?_)
  refine lv_iconst (pc := 27) (v := 0) hx hb dX12_show_27 (by decide) ?_
  exact W.iret (pc := 28) (v := 0) hx hb hr (fun t ht hW => ⟨⟨0, (), rfl, rfl, _, ⟨(vup (vup fn0 0 (.int 0)) 0 (.int 1)), rfl, rfl⟩, by rw [ht]; exact hP4, hD4⟩, hS4.F ht⟩) hS4.2.2 dX12_show_28
