set_option maxHeartbeats 4000000 in
set_option maxRecDepth 100000 in
/-- X11_feedFour -/
theorem c_feedFour0 (l : Launch) (D : va_G) (cy : Nat → ClassId) (kv : KV) (sz : Nat) (ad0 : Nat) (xi0 : Int32) (fn0 : Nat → Value) (ad1 : Nat) (ct1 : Nat → Int32) (h0_0 : fn0 0 = .ref ad1) (h0_1 : fn0 1 = .int 0) : Met l yX11_feedFour (Cond.code yX11_feedFour cX11_feedFour 3 none :: GW) ({ frames := 8, cells := 0, slots := 0, locals := 120 } : Room) (va_Pc [.ref ad0, .int xi0] (pcq D cy kv sz [(ad0, ob 11 15 fn0), (ad1, ari (cy 1) 2000 ct1)])) (va_Qv (fun (_ : Unit) => True) (fun _ t => bq D (fun w => ∃ (nc900 : Nat → Int32), w = [(ad0, ob 11 15 (vup (vup (vup (vup fn0 1 (.int 1)) 1 (.int 2)) 1 (.int 3)) 1 (.int 4))), (ad1, ari (cy 1) 2000 nc900)]) (va_A [(ad0, ob 11 15 fn0), (ad1, ari (cy 1) 2000 ct1)] sz) t) (va_A [(ad0, ob 11 15 fn0), (ad1, ari (cy 1) 2000 ct1)] sz)) 0 0 (va_A [(ad0, ob 11 15 fn0), (ad1, ari (cy 1) 2000 ct1)] sz) := by
  refine Met.ofW (cc := cX11_feedFour) (maxL := 3) (ret := none) (by decide) rfl ?_
  intro p e s m args below meth c s₁ B hml hv
  obtain ⟨rfl, hsz, hP, hK, hD0, hE⟩ := hv
  have hx := B.exec
  have hb := B.bytes
  have hr := B.returns
  have hG : ∀ w ∈ GW, w.before ([.ref ad0, .int xi0] : List Value).toArray s = true := fun w h => atoms_spec (ws := Cond.code yX11_feedFour cX11_feedFour 3 none :: GW) B.pre w (List.mem_cons_of_mem _ h)
  have hown : s.vm.findClass RX11 = some m.cls := findClass_of_methodNamed B.named
  have hlocks := B.notSynchronized
  subst hsz
  have hD := hD0.self (sz := s.heap.size)
  generalize hAe : va_A [(ad0, ob 11 15 fn0), (ad1, ari (cy 1) 2000 ct1)] s.heap.size = A at hD hE ⊢
  have hA : ∀ q : Nat, s.heap.size ≤ q → A q := fun q h => by rw [← hAe]; exact Or.inr h
  have hS : va_S A s.heap s.heap [] := va_S.rf
  clear hAe hD0
  have hl0 := lv_entry ([.ref ad0, .int xi0]) (n := 3) (Nat.le_of_ble_eq_true rfl)
  rw [lg_entry_eq]
  generalize (lg_sl ([.ref ad0, .int xi0]) ++ List.replicate (3 - (lg_sl ([.ref ad0, .int xi0])).length) Slot.unset).toArray = ls at hl0 ⊢
  have hl : lv_has ls 3 [(0, .ref ad0), (1, .int xi0)] := hl0
  clear hl0
  refine lv_bipush (pc := 0) (v := 24) hx hb dX11_feedFour_0 (by decide) ?_
  refine lv_istore_n (pc := 2) (lv' := [(2, .int 24), (0, .ref ad0), (1, .int xi0)]) hx hb dX11_feedFour_2 rfl hl (by decide) rfl (fun ls1 hl1 => ?_)
  clear hl ls
  refine lv_iload_n (pc := 3) hx hb dX11_feedFour_3 rfl (lv_at hl1 0 rfl) ?_
  refine lv_if_lt (pc := 4) (tgt := 52) hx hb dX11_feedFour_4 (by decide) (fun c2 => absurd c2 (by decide)) (fun c2 => ?_)
  refine lv_aload_n (pc := 7) hx hb dX11_feedFour_7 rfl (lv_at hl1 1 rfl) ?_
  refine ob_get (pc := 8) (v := .int 0) (ci := 11) (C := RX11) (T := TX11) (N := 15) hx hb hG in_X11 hown hK hP 0 rfl rfl 1 (by decide) (hG _ g_90) rfl h0_1 dX11_feedFour_8 ?_
  refine lv_aload_n (pc := 11) hx hb dX11_feedFour_11 rfl (lv_at hl1 1 rfl) ?_
  refine ob_get (pc := 12) (v := .ref ad1) (ci := 11) (C := RX11) (T := TX11) (N := 15) hx hb hG in_X11 hown hK hP 0 rfl rfl 0 (by decide) (hG _ g_89) rfl h0_0 dX11_feedFour_12 ?_
  refine va_alen (pc := 15) hx hb hK hP 1 1 rfl rfl (v := 2000) (show Int32.ofNat 2000 = 2000 by decide) dX11_feedFour_15 ?_
  refine lv_icmp_ge (pc := 16) (tgt := 52) hx hb dX11_feedFour_16 (by decide) (fun c3 => absurd c3 (by decide)) (fun c3 => ?_)
  refine lv_aload_n (pc := 19) hx hb dX11_feedFour_19 rfl (lv_at hl1 1 rfl) ?_
  refine ob_get (pc := 20) (v := .ref ad1) (ci := 11) (C := RX11) (T := TX11) (N := 15) hx hb hG in_X11 hown hK hP 0 rfl rfl 0 (by decide) (hG _ g_89) rfl h0_0 dX11_feedFour_20 ?_
  refine lv_aload_n (pc := 23) hx hb dX11_feedFour_23 rfl (lv_at hl1 1 rfl) ?_
  refine ob_get (pc := 24) (v := .int 0) (ci := 11) (C := RX11) (T := TX11) (N := 15) hx hb hG in_X11 hown hK hP 0 rfl rfl 1 (by decide) (hG _ g_90) rfl h0_1 dX11_feedFour_24 ?_
  refine lv_iload_n (pc := 27) hx hb dX11_feedFour_27 rfl (lv_at hl1 2 rfl) ?_
  refine lv_iload_n (pc := 28) hx hb dX11_feedFour_28 rfl (lv_at hl1 0 rfl) ?_
  refine lv_iushr (pc := 29) (v := ((xi0 : Int32).toUInt32 >>> ((24 : Int32).toUInt32 &&& Int32.toUInt32 31)).toInt32) hx hb dX11_feedFour_29 rfl ?_
  refine lv_sipush (pc := 30) (v := 255) hx hb dX11_feedFour_30 (by decide) ?_
  refine lv_iand (pc := 33) hx hb dX11_feedFour_33 ?_
  refine lv_i2c (pc := 34) (v := (((((xi0 : Int32).toUInt32 >>> ((24 : Int32).toUInt32 &&& Int32.toUInt32 31)).toInt32) &&& 255 : Int32).toUInt32 % 65536).toInt32) hx hb dX11_feedFour_34 rfl ?_
  refine va_cast (pc := 35) hx hb hK hP hD hS 1 1 rfl rfl (show ¬ ((0 : Int32) < 0 ∨ 2000 ≤ (0 : Int32).toNatClampNeg) by decide) dX11_feedFour_35 (fun H4 lo4 hP4r hD4r hS4 => ?_)
  have hP4 : va_P D classes [(ad0, ob 11 15 fn0), (ad1, ari (cy 1) 2000 (upd ct1 (0 : Int32).toNatClampNeg (vp_nar .char ((((((xi0 : Int32).toUInt32 >>> ((24 : Int32).toUInt32 &&& Int32.toUInt32 31)).toInt32) &&& 255 : Int32).toUInt32 % 65536).toInt32))))] H4 := hP4r
  have hD4 : va_D A [(ad0, ob 11 15 fn0), (ad1, ari (cy 1) 2000 (upd ct1 (0 : Int32).toNatClampNeg (vp_nar .char ((((((xi0 : Int32).toUInt32 >>> ((24 : Int32).toUInt32 &&& Int32.toUInt32 31)).toInt32) &&& 255 : Int32).toUInt32 % 65536).toInt32))))] := hD4r
  clear hP4r hD4r
  generalize (upd ct1 (0 : Int32).toNatClampNeg (vp_nar .char ((((((xi0 : Int32).toUInt32 >>> ((24 : Int32).toUInt32 &&& Int32.toUInt32 31)).toInt32) &&& 255 : Int32).toUInt32 % 65536).toInt32))) = nc5 at hP4 hD4
  clear hP hD hS
  refine lv_aload_n (pc := 36) hx hb dX11_feedFour_36 rfl (lv_at hl1 1 rfl) ?_
  refine lv_dup (pc := 37) hx hb dX11_feedFour_37 rfl ?_
  refine ob_get (pc := 38) (v := .int 0) (ci := 11) (C := RX11) (T := TX11) (N := 15) hx hb hG in_X11 hown hK hP4 0 rfl rfl 1 (by decide) (hG _ g_90) rfl h0_1 dX11_feedFour_38 ?_
  refine lv_iconst (pc := 41) (v := 1) hx hb dX11_feedFour_41 (by decide) ?_
  refine lv_iadd (pc := 42) hx hb dX11_feedFour_42 ?_
  refine tp_i (y := 1) (by decide) ?_
  refine ob_put (pc := 43) (v := .int 1) (ci := 11) (C := RX11) (T := TX11) (N := 15) hx hb hG in_X11 tyX11 tyX11_ok nmX11 hown hK hP4 hD4 hS4 0 rfl rfl 1 (by decide) (hG _ g_90) rfl rfl rfl rfl dX11_feedFour_43 (ws' := [(ad0, ob 11 15 (vup fn0 1 (.int 1))), (ad1, ari (cy 1) 2000 nc5)]) rfl (fun H6 lo6 hP6 hD6 hS6 => ?_)
  clear hP4 hD4 hS4
  clear H4 lo4
  refine lv_iinc (pc := 46) (v := 16) (lv' := [(2, .int 16), (0, .ref ad0), (1, .int xi0)]) hx hb dX11_feedFour_46 hl1 (k := 0) rfl (by decide) (by decide) rfl (fun ls7 hl7 => ?_)
  clear hl1 ls1
  refine lv_goto (pc := 49) (tgt := 3) hx hb dX11_feedFour_49 (by decide) ?_
  refine lv_iload_n (pc := 3) hx hb dX11_feedFour_3 rfl (lv_at hl7 0 rfl) ?_
  refine lv_if_lt (pc := 4) (tgt := 52) hx hb dX11_feedFour_4 (by decide) (fun c8 => absurd c8 (by decide)) (fun c8 => ?_)
  refine lv_aload_n (pc := 7) hx hb dX11_feedFour_7 rfl (lv_at hl7 1 rfl) ?_
  refine ob_get (pc := 8) (v := .int 1) (ci := 11) (C := RX11) (T := TX11) (N := 15) hx hb hG in_X11 hown hK hP6 0 rfl rfl 1 (by decide) (hG _ g_90) rfl rfl dX11_feedFour_8 ?_
  refine lv_aload_n (pc := 11) hx hb dX11_feedFour_11 rfl (lv_at hl7 1 rfl) ?_
  refine ob_get (pc := 12) (v := .ref ad1) (ci := 11) (C := RX11) (T := TX11) (N := 15) hx hb hG in_X11 hown hK hP6 0 rfl rfl 0 (by decide) (hG _ g_89) rfl h0_0 dX11_feedFour_12 ?_
  refine va_alen (pc := 15) hx hb hK hP6 1 1 rfl rfl (v := 2000) (show Int32.ofNat 2000 = 2000 by decide) dX11_feedFour_15 ?_
  refine lv_icmp_ge (pc := 16) (tgt := 52) hx hb dX11_feedFour_16 (by decide) (fun c9 => absurd c9 (by decide)) (fun c9 => ?_)
  refine lv_aload_n (pc := 19) hx hb dX11_feedFour_19 rfl (lv_at hl7 1 rfl) ?_
  refine ob_get (pc := 20) (v := .ref ad1) (ci := 11) (C := RX11) (T := TX11) (N := 15) hx hb hG in_X11 hown hK hP6 0 rfl rfl 0 (by decide) (hG _ g_89) rfl h0_0 dX11_feedFour_20 ?_
  refine lv_aload_n (pc := 23) hx hb dX11_feedFour_23 rfl (lv_at hl7 1 rfl) ?_
  refine ob_get (pc := 24) (v := .int 1) (ci := 11) (C := RX11) (T := TX11) (N := 15) hx hb hG in_X11 hown hK hP6 0 rfl rfl 1 (by decide) (hG _ g_90) rfl rfl dX11_feedFour_24 ?_
  refine lv_iload_n (pc := 27) hx hb dX11_feedFour_27 rfl (lv_at hl7 2 rfl) ?_
  refine lv_iload_n (pc := 28) hx hb dX11_feedFour_28 rfl (lv_at hl7 0 rfl) ?_
  refine lv_iushr (pc := 29) (v := ((xi0 : Int32).toUInt32 >>> ((16 : Int32).toUInt32 &&& Int32.toUInt32 31)).toInt32) hx hb dX11_feedFour_29 rfl ?_
  refine lv_sipush (pc := 30) (v := 255) hx hb dX11_feedFour_30 (by decide) ?_
  refine lv_iand (pc := 33) hx hb dX11_feedFour_33 ?_
  refine lv_i2c (pc := 34) (v := (((((xi0 : Int32).toUInt32 >>> ((16 : Int32).toUInt32 &&& Int32.toUInt32 31)).toInt32) &&& 255 : Int32).toUInt32 % 65536).toInt32) hx hb dX11_feedFour_34 rfl ?_
  refine va_cast (pc := 35) hx hb hK hP6 hD6 hS6 1 1 rfl rfl (show ¬ ((1 : Int32) < 0 ∨ 2000 ≤ (1 : Int32).toNatClampNeg) by decide) dX11_feedFour_35 (fun H10 lo10 hP10r hD10r hS10 => ?_)
  have hP10 : va_P D classes [(ad0, ob 11 15 (vup fn0 1 (.int 1))), (ad1, ari (cy 1) 2000 (upd nc5 (1 : Int32).toNatClampNeg (vp_nar .char ((((((xi0 : Int32).toUInt32 >>> ((16 : Int32).toUInt32 &&& Int32.toUInt32 31)).toInt32) &&& 255 : Int32).toUInt32 % 65536).toInt32))))] H10 := hP10r
  have hD10 : va_D A [(ad0, ob 11 15 (vup fn0 1 (.int 1))), (ad1, ari (cy 1) 2000 (upd nc5 (1 : Int32).toNatClampNeg (vp_nar .char ((((((xi0 : Int32).toUInt32 >>> ((16 : Int32).toUInt32 &&& Int32.toUInt32 31)).toInt32) &&& 255 : Int32).toUInt32 % 65536).toInt32))))] := hD10r
  clear hP10r hD10r
  generalize (upd nc5 (1 : Int32).toNatClampNeg (vp_nar .char ((((((xi0 : Int32).toUInt32 >>> ((16 : Int32).toUInt32 &&& Int32.toUInt32 31)).toInt32) &&& 255 : Int32).toUInt32 % 65536).toInt32))) = nc11 at hP10 hD10
  clear hP6 hD6 hS6
  clear H6 lo6
  refine lv_aload_n (pc := 36) hx hb dX11_feedFour_36 rfl (lv_at hl7 1 rfl) ?_
  refine lv_dup (pc := 37) hx hb dX11_feedFour_37 rfl ?_
  refine ob_get (pc := 38) (v := .int 1) (ci := 11) (C := RX11) (T := TX11) (N := 15) hx hb hG in_X11 hown hK hP10 0 rfl rfl 1 (by decide) (hG _ g_90) rfl rfl dX11_feedFour_38 ?_
  refine lv_iconst (pc := 41) (v := 1) hx hb dX11_feedFour_41 (by decide) ?_
  refine lv_iadd (pc := 42) hx hb dX11_feedFour_42 ?_
  refine tp_i (y := 2) (by decide) ?_
  refine ob_put (pc := 43) (v := .int 2) (ci := 11) (C := RX11) (T := TX11) (N := 15) hx hb hG in_X11 tyX11 tyX11_ok nmX11 hown hK hP10 hD10 hS10 0 rfl rfl 1 (by decide) (hG _ g_90) rfl rfl rfl rfl dX11_feedFour_43 (ws' := [(ad0, ob 11 15 (vup (vup fn0 1 (.int 1)) 1 (.int 2))), (ad1, ari (cy 1) 2000 nc11)]) rfl (fun H12 lo12 hP12 hD12 hS12 => ?_)
  clear hP10 hD10 hS10
  clear H10 lo10
  refine lv_iinc (pc := 46) (v := 8) (lv' := [(2, .int 8), (0, .ref ad0), (1, .int xi0)]) hx hb dX11_feedFour_46 hl7 (k := 0) rfl (by decide) (by decide) rfl (fun ls13 hl13 => ?_)
  clear hl7 ls7
  refine lv_goto (pc := 49) (tgt := 3) hx hb dX11_feedFour_49 (by decide) ?_
  refine lv_iload_n (pc := 3) hx hb dX11_feedFour_3 rfl (lv_at hl13 0 rfl) ?_
  refine lv_if_lt (pc := 4) (tgt := 52) hx hb dX11_feedFour_4 (by decide) (fun c14 => absurd c14 (by decide)) (fun c14 => ?_)
  refine lv_aload_n (pc := 7) hx hb dX11_feedFour_7 rfl (lv_at hl13 1 rfl) ?_
  refine ob_get (pc := 8) (v := .int 2) (ci := 11) (C := RX11) (T := TX11) (N := 15) hx hb hG in_X11 hown hK hP12 0 rfl rfl 1 (by decide) (hG _ g_90) rfl rfl dX11_feedFour_8 ?_
  refine lv_aload_n (pc := 11) hx hb dX11_feedFour_11 rfl (lv_at hl13 1 rfl) ?_
  refine ob_get (pc := 12) (v := .ref ad1) (ci := 11) (C := RX11) (T := TX11) (N := 15) hx hb hG in_X11 hown hK hP12 0 rfl rfl 0 (by decide) (hG _ g_89) rfl h0_0 dX11_feedFour_12 ?_
  refine va_alen (pc := 15) hx hb hK hP12 1 1 rfl rfl (v := 2000) (show Int32.ofNat 2000 = 2000 by decide) dX11_feedFour_15 ?_
  refine lv_icmp_ge (pc := 16) (tgt := 52) hx hb dX11_feedFour_16 (by decide) (fun c15 => absurd c15 (by decide)) (fun c15 => ?_)
  refine lv_aload_n (pc := 19) hx hb dX11_feedFour_19 rfl (lv_at hl13 1 rfl) ?_
  refine ob_get (pc := 20) (v := .ref ad1) (ci := 11) (C := RX11) (T := TX11) (N := 15) hx hb hG in_X11 hown hK hP12 0 rfl rfl 0 (by decide) (hG _ g_89) rfl h0_0 dX11_feedFour_20 ?_
  refine lv_aload_n (pc := 23) hx hb dX11_feedFour_23 rfl (lv_at hl13 1 rfl) ?_
  refine ob_get (pc := 24) (v := .int 2) (ci := 11) (C := RX11) (T := TX11) (N := 15) hx hb hG in_X11 hown hK hP12 0 rfl rfl 1 (by decide) (hG _ g_90) rfl rfl dX11_feedFour_24 ?_
  refine lv_iload_n (pc := 27) hx hb dX11_feedFour_27 rfl (lv_at hl13 2 rfl) ?_
  refine lv_iload_n (pc := 28) hx hb dX11_feedFour_28 rfl (lv_at hl13 0 rfl) ?_
  refine lv_iushr (pc := 29) (v := ((xi0 : Int32).toUInt32 >>> ((8 : Int32).toUInt32 &&& Int32.toUInt32 31)).toInt32) hx hb dX11_feedFour_29 rfl ?_
  refine lv_sipush (pc := 30) (v := 255) hx hb dX11_feedFour_30 (by decide) ?_
  refine lv_iand (pc := 33) hx hb dX11_feedFour_33 ?_
  refine lv_i2c (pc := 34) (v := (((((xi0 : Int32).toUInt32 >>> ((8 : Int32).toUInt32 &&& Int32.toUInt32 31)).toInt32) &&& 255 : Int32).toUInt32 % 65536).toInt32) hx hb dX11_feedFour_34 rfl ?_
  refine va_cast (pc := 35) hx hb hK hP12 hD12 hS12 1 1 rfl rfl (show ¬ ((2 : Int32) < 0 ∨ 2000 ≤ (2 : Int32).toNatClampNeg) by decide) dX11_feedFour_35 (fun H16 lo16 hP16r hD16r hS16 => ?_)
  have hP16 : va_P D classes [(ad0, ob 11 15 (vup (vup fn0 1 (.int 1)) 1 (.int 2))), (ad1, ari (cy 1) 2000 (upd nc11 (2 : Int32).toNatClampNeg (vp_nar .char ((((((xi0 : Int32).toUInt32 >>> ((8 : Int32).toUInt32 &&& Int32.toUInt32 31)).toInt32) &&& 255 : Int32).toUInt32 % 65536).toInt32))))] H16 := hP16r
  have hD16 : va_D A [(ad0, ob 11 15 (vup (vup fn0 1 (.int 1)) 1 (.int 2))), (ad1, ari (cy 1) 2000 (upd nc11 (2 : Int32).toNatClampNeg (vp_nar .char ((((((xi0 : Int32).toUInt32 >>> ((8 : Int32).toUInt32 &&& Int32.toUInt32 31)).toInt32) &&& 255 : Int32).toUInt32 % 65536).toInt32))))] := hD16r
  clear hP16r hD16r
  generalize (upd nc11 (2 : Int32).toNatClampNeg (vp_nar .char ((((((xi0 : Int32).toUInt32 >>> ((8 : Int32).toUInt32 &&& Int32.toUInt32 31)).toInt32) &&& 255 : Int32).toUInt32 % 65536).toInt32))) = nc17 at hP16 hD16
  clear hP12 hD12 hS12
  clear H12 lo12
  refine lv_aload_n (pc := 36) hx hb dX11_feedFour_36 rfl (lv_at hl13 1 rfl) ?_
  refine lv_dup (pc := 37) hx hb dX11_feedFour_37 rfl ?_
  refine ob_get (pc := 38) (v := .int 2) (ci := 11) (C := RX11) (T := TX11) (N := 15) hx hb hG in_X11 hown hK hP16 0 rfl rfl 1 (by decide) (hG _ g_90) rfl rfl dX11_feedFour_38 ?_
  refine lv_iconst (pc := 41) (v := 1) hx hb dX11_feedFour_41 (by decide) ?_
  refine lv_iadd (pc := 42) hx hb dX11_feedFour_42 ?_
  refine tp_i (y := 3) (by decide) ?_
  refine ob_put (pc := 43) (v := .int 3) (ci := 11) (C := RX11) (T := TX11) (N := 15) hx hb hG in_X11 tyX11 tyX11_ok nmX11 hown hK hP16 hD16 hS16 0 rfl rfl 1 (by decide) (hG _ g_90) rfl rfl rfl rfl dX11_feedFour_43 (ws' := [(ad0, ob 11 15 (vup (vup (vup fn0 1 (.int 1)) 1 (.int 2)) 1 (.int 3))), (ad1, ari (cy 1) 2000 nc17)]) rfl (fun H18 lo18 hP18 hD18 hS18 => ?_)
  clear hP16 hD16 hS16
  clear H16 lo16
  refine lv_iinc (pc := 46) (v := 0) (lv' := [(2, .int 0), (0, .ref ad0), (1, .int xi0)]) hx hb dX11_feedFour_46 hl13 (k := 0) rfl (by decide) (by decide) rfl (fun ls19 hl19 => ?_)
  clear hl13 ls13
  refine lv_goto (pc := 49) (tgt := 3) hx hb dX11_feedFour_49 (by decide) ?_
  refine lv_iload_n (pc := 3) hx hb dX11_feedFour_3 rfl (lv_at hl19 0 rfl) ?_
  refine lv_if_lt (pc := 4) (tgt := 52) hx hb dX11_feedFour_4 (by decide) (fun c20 => absurd c20 (by decide)) (fun c20 => ?_)
  refine lv_aload_n (pc := 7) hx hb dX11_feedFour_7 rfl (lv_at hl19 1 rfl) ?_
  refine ob_get (pc := 8) (v := .int 3) (ci := 11) (C := RX11) (T := TX11) (N := 15) hx hb hG in_X11 hown hK hP18 0 rfl rfl 1 (by decide) (hG _ g_90) rfl rfl dX11_feedFour_8 ?_
  refine lv_aload_n (pc := 11) hx hb dX11_feedFour_11 rfl (lv_at hl19 1 rfl) ?_
  refine ob_get (pc := 12) (v := .ref ad1) (ci := 11) (C := RX11) (T := TX11) (N := 15) hx hb hG in_X11 hown hK hP18 0 rfl rfl 0 (by decide) (hG _ g_89) rfl h0_0 dX11_feedFour_12 ?_
  refine va_alen (pc := 15) hx hb hK hP18 1 1 rfl rfl (v := 2000) (show Int32.ofNat 2000 = 2000 by decide) dX11_feedFour_15 ?_
  refine lv_icmp_ge (pc := 16) (tgt := 52) hx hb dX11_feedFour_16 (by decide) (fun c21 => absurd c21 (by decide)) (fun c21 => ?_)
  refine lv_aload_n (pc := 19) hx hb dX11_feedFour_19 rfl (lv_at hl19 1 rfl) ?_
  refine ob_get (pc := 20) (v := .ref ad1) (ci := 11) (C := RX11) (T := TX11) (N := 15) hx hb hG in_X11 hown hK hP18 0 rfl rfl 0 (by decide) (hG _ g_89) rfl h0_0 dX11_feedFour_20 ?_
  refine lv_aload_n (pc := 23) hx hb dX11_feedFour_23 rfl (lv_at hl19 1 rfl) ?_
  refine ob_get (pc := 24) (v := .int 3) (ci := 11) (C := RX11) (T := TX11) (N := 15) hx hb hG in_X11 hown hK hP18 0 rfl rfl 1 (by decide) (hG _ g_90) rfl rfl dX11_feedFour_24 ?_
  refine lv_iload_n (pc := 27) hx hb dX11_feedFour_27 rfl (lv_at hl19 2 rfl) ?_
  refine lv_iload_n (pc := 28) hx hb dX11_feedFour_28 rfl (lv_at hl19 0 rfl) ?_
  refine lv_iushr (pc := 29) (v := ((xi0 : Int32).toUInt32 >>> ((0 : Int32).toUInt32 &&& Int32.toUInt32 31)).toInt32) hx hb dX11_feedFour_29 rfl ?_
  refine lv_sipush (pc := 30) (v := 255) hx hb dX11_feedFour_30 (by decide) ?_
  refine lv_iand (pc := 33) hx hb dX11_feedFour_33 ?_
  refine lv_i2c (pc := 34) (v := (((((xi0 : Int32).toUInt32 >>> ((0 : Int32).toUInt32 &&& Int32.toUInt32 31)).toInt32) &&& 255 : Int32).toUInt32 % 65536).toInt32) hx hb dX11_feedFour_34 rfl ?_
  refine va_cast (pc := 35) hx hb hK hP18 hD18 hS18 1 1 rfl rfl (show ¬ ((3 : Int32) < 0 ∨ 2000 ≤ (3 : Int32).toNatClampNeg) by decide) dX11_feedFour_35 (fun H22 lo22 hP22r hD22r hS22 => ?_)
  have hP22 : va_P D classes [(ad0, ob 11 15 (vup (vup (vup fn0 1 (.int 1)) 1 (.int 2)) 1 (.int 3))), (ad1, ari (cy 1) 2000 (upd nc17 (3 : Int32).toNatClampNeg (vp_nar .char ((((((xi0 : Int32).toUInt32 >>> ((0 : Int32).toUInt32 &&& Int32.toUInt32 31)).toInt32) &&& 255 : Int32).toUInt32 % 65536).toInt32))))] H22 := hP22r
  have hD22 : va_D A [(ad0, ob 11 15 (vup (vup (vup fn0 1 (.int 1)) 1 (.int 2)) 1 (.int 3))), (ad1, ari (cy 1) 2000 (upd nc17 (3 : Int32).toNatClampNeg (vp_nar .char ((((((xi0 : Int32).toUInt32 >>> ((0 : Int32).toUInt32 &&& Int32.toUInt32 31)).toInt32) &&& 255 : Int32).toUInt32 % 65536).toInt32))))] := hD22r
  clear hP22r hD22r
  generalize (upd nc17 (3 : Int32).toNatClampNeg (vp_nar .char ((((((xi0 : Int32).toUInt32 >>> ((0 : Int32).toUInt32 &&& Int32.toUInt32 31)).toInt32) &&& 255 : Int32).toUInt32 % 65536).toInt32))) = nc23 at hP22 hD22
  clear hP18 hD18 hS18
  clear H18 lo18
  refine lv_aload_n (pc := 36) hx hb dX11_feedFour_36 rfl (lv_at hl19 1 rfl) ?_
  refine lv_dup (pc := 37) hx hb dX11_feedFour_37 rfl ?_
  refine ob_get (pc := 38) (v := .int 3) (ci := 11) (C := RX11) (T := TX11) (N := 15) hx hb hG in_X11 hown hK hP22 0 rfl rfl 1 (by decide) (hG _ g_90) rfl rfl dX11_feedFour_38 ?_
  refine lv_iconst (pc := 41) (v := 1) hx hb dX11_feedFour_41 (by decide) ?_
  refine lv_iadd (pc := 42) hx hb dX11_feedFour_42 ?_
  refine tp_i (y := 4) (by decide) ?_
  refine ob_put (pc := 43) (v := .int 4) (ci := 11) (C := RX11) (T := TX11) (N := 15) hx hb hG in_X11 tyX11 tyX11_ok nmX11 hown hK hP22 hD22 hS22 0 rfl rfl 1 (by decide) (hG _ g_90) rfl rfl rfl rfl dX11_feedFour_43 (ws' := [(ad0, ob 11 15 (vup (vup (vup (vup fn0 1 (.int 1)) 1 (.int 2)) 1 (.int 3)) 1 (.int 4))), (ad1, ari (cy 1) 2000 nc23)]) rfl (fun H24 lo24 hP24 hD24 hS24 => ?_)
  clear hP22 hD22 hS22
  clear H22 lo22
  refine lv_iinc (pc := 46) (v := (-8)) (lv' := [(2, .int (-8)), (0, .ref ad0), (1, .int xi0)]) hx hb dX11_feedFour_46 hl19 (k := 0) rfl (by decide) (by decide) rfl (fun ls25 hl25 => ?_)
  clear hl19 ls19
  refine lv_goto (pc := 49) (tgt := 3) hx hb dX11_feedFour_49 (by decide) ?_
  refine lv_iload_n (pc := 3) hx hb dX11_feedFour_3 rfl (lv_at hl25 0 rfl) ?_
  refine lv_if_lt (pc := 4) (tgt := 52) hx hb dX11_feedFour_4 (by decide) (fun c26 => ?_) (fun c26 => absurd (by decide) c26)
  exact W.vret (pc := 52) hx hb hr (fun t ht hW => ⟨⟨(), rfl, trivial, _, ⟨nc23, rfl⟩, by rw [ht]; exact hP24, hD24⟩, hS24.F ht⟩) hS24.2.2 dX11_feedFour_52
set_option maxHeartbeats 4000000 in
set_option maxRecDepth 100000 in
/-- X11_feedFour -/
theorem c_feedFour4 (l : Launch) (D : va_G) (cy : Nat → ClassId) (kv : KV) (sz : Nat) (ad0 : Nat) (xi0 : Int32) (fn0 : Nat → Value) (ad1 : Nat) (ct1 : Nat → Int32) (h0_0 : fn0 0 = .ref ad1) (h0_1 : fn0 1 = .int 4) : Met l yX11_feedFour (Cond.code yX11_feedFour cX11_feedFour 3 none :: GW) ({ frames := 8, cells := 0, slots := 0, locals := 120 } : Room) (va_Pc [.ref ad0, .int xi0] (pcq D cy kv sz [(ad0, ob 11 15 fn0), (ad1, ari (cy 1) 2000 ct1)])) (va_Qv (fun (_ : Unit) => True) (fun _ t => bq D (fun w => ∃ (nc900 : Nat → Int32), w = [(ad0, ob 11 15 (vup (vup (vup (vup fn0 1 (.int 5)) 1 (.int 6)) 1 (.int 7)) 1 (.int 8))), (ad1, ari (cy 1) 2000 nc900)]) (va_A [(ad0, ob 11 15 fn0), (ad1, ari (cy 1) 2000 ct1)] sz) t) (va_A [(ad0, ob 11 15 fn0), (ad1, ari (cy 1) 2000 ct1)] sz)) 0 0 (va_A [(ad0, ob 11 15 fn0), (ad1, ari (cy 1) 2000 ct1)] sz) := by
  refine Met.ofW (cc := cX11_feedFour) (maxL := 3) (ret := none) (by decide) rfl ?_
  intro p e s m args below meth c s₁ B hml hv
  obtain ⟨rfl, hsz, hP, hK, hD0, hE⟩ := hv
  have hx := B.exec
  have hb := B.bytes
  have hr := B.returns
  have hG : ∀ w ∈ GW, w.before ([.ref ad0, .int xi0] : List Value).toArray s = true := fun w h => atoms_spec (ws := Cond.code yX11_feedFour cX11_feedFour 3 none :: GW) B.pre w (List.mem_cons_of_mem _ h)
  have hown : s.vm.findClass RX11 = some m.cls := findClass_of_methodNamed B.named
  have hlocks := B.notSynchronized
  subst hsz
  have hD := hD0.self (sz := s.heap.size)
  generalize hAe : va_A [(ad0, ob 11 15 fn0), (ad1, ari (cy 1) 2000 ct1)] s.heap.size = A at hD hE ⊢
  have hA : ∀ q : Nat, s.heap.size ≤ q → A q := fun q h => by rw [← hAe]; exact Or.inr h
  have hS : va_S A s.heap s.heap [] := va_S.rf
  clear hAe hD0
  have hl0 := lv_entry ([.ref ad0, .int xi0]) (n := 3) (Nat.le_of_ble_eq_true rfl)
  rw [lg_entry_eq]
  generalize (lg_sl ([.ref ad0, .int xi0]) ++ List.replicate (3 - (lg_sl ([.ref ad0, .int xi0])).length) Slot.unset).toArray = ls at hl0 ⊢
  have hl : lv_has ls 3 [(0, .ref ad0), (1, .int xi0)] := hl0
  clear hl0
  refine lv_bipush (pc := 0) (v := 24) hx hb dX11_feedFour_0 (by decide) ?_
  refine lv_istore_n (pc := 2) (lv' := [(2, .int 24), (0, .ref ad0), (1, .int xi0)]) hx hb dX11_feedFour_2 rfl hl (by decide) rfl (fun ls1 hl1 => ?_)
  clear hl ls
  refine lv_iload_n (pc := 3) hx hb dX11_feedFour_3 rfl (lv_at hl1 0 rfl) ?_
  refine lv_if_lt (pc := 4) (tgt := 52) hx hb dX11_feedFour_4 (by decide) (fun c2 => absurd c2 (by decide)) (fun c2 => ?_)
  refine lv_aload_n (pc := 7) hx hb dX11_feedFour_7 rfl (lv_at hl1 1 rfl) ?_
  refine ob_get (pc := 8) (v := .int 4) (ci := 11) (C := RX11) (T := TX11) (N := 15) hx hb hG in_X11 hown hK hP 0 rfl rfl 1 (by decide) (hG _ g_90) rfl h0_1 dX11_feedFour_8 ?_
  refine lv_aload_n (pc := 11) hx hb dX11_feedFour_11 rfl (lv_at hl1 1 rfl) ?_
  refine ob_get (pc := 12) (v := .ref ad1) (ci := 11) (C := RX11) (T := TX11) (N := 15) hx hb hG in_X11 hown hK hP 0 rfl rfl 0 (by decide) (hG _ g_89) rfl h0_0 dX11_feedFour_12 ?_
  refine va_alen (pc := 15) hx hb hK hP 1 1 rfl rfl (v := 2000) (show Int32.ofNat 2000 = 2000 by decide) dX11_feedFour_15 ?_
  refine lv_icmp_ge (pc := 16) (tgt := 52) hx hb dX11_feedFour_16 (by decide) (fun c3 => absurd c3 (by decide)) (fun c3 => ?_)
  refine lv_aload_n (pc := 19) hx hb dX11_feedFour_19 rfl (lv_at hl1 1 rfl) ?_
  refine ob_get (pc := 20) (v := .ref ad1) (ci := 11) (C := RX11) (T := TX11) (N := 15) hx hb hG in_X11 hown hK hP 0 rfl rfl 0 (by decide) (hG _ g_89) rfl h0_0 dX11_feedFour_20 ?_
  refine lv_aload_n (pc := 23) hx hb dX11_feedFour_23 rfl (lv_at hl1 1 rfl) ?_
  refine ob_get (pc := 24) (v := .int 4) (ci := 11) (C := RX11) (T := TX11) (N := 15) hx hb hG in_X11 hown hK hP 0 rfl rfl 1 (by decide) (hG _ g_90) rfl h0_1 dX11_feedFour_24 ?_
  refine lv_iload_n (pc := 27) hx hb dX11_feedFour_27 rfl (lv_at hl1 2 rfl) ?_
  refine lv_iload_n (pc := 28) hx hb dX11_feedFour_28 rfl (lv_at hl1 0 rfl) ?_
  refine lv_iushr (pc := 29) (v := ((xi0 : Int32).toUInt32 >>> ((24 : Int32).toUInt32 &&& Int32.toUInt32 31)).toInt32) hx hb dX11_feedFour_29 rfl ?_
  refine lv_sipush (pc := 30) (v := 255) hx hb dX11_feedFour_30 (by decide) ?_
  refine lv_iand (pc := 33) hx hb dX11_feedFour_33 ?_
  refine lv_i2c (pc := 34) (v := (((((xi0 : Int32).toUInt32 >>> ((24 : Int32).toUInt32 &&& Int32.toUInt32 31)).toInt32) &&& 255 : Int32).toUInt32 % 65536).toInt32) hx hb dX11_feedFour_34 rfl ?_
  refine va_cast (pc := 35) hx hb hK hP hD hS 1 1 rfl rfl (show ¬ ((4 : Int32) < 0 ∨ 2000 ≤ (4 : Int32).toNatClampNeg) by decide) dX11_feedFour_35 (fun H4 lo4 hP4r hD4r hS4 => ?_)
  have hP4 : va_P D classes [(ad0, ob 11 15 fn0), (ad1, ari (cy 1) 2000 (upd ct1 (4 : Int32).toNatClampNeg (vp_nar .char ((((((xi0 : Int32).toUInt32 >>> ((24 : Int32).toUInt32 &&& Int32.toUInt32 31)).toInt32) &&& 255 : Int32).toUInt32 % 65536).toInt32))))] H4 := hP4r
  have hD4 : va_D A [(ad0, ob 11 15 fn0), (ad1, ari (cy 1) 2000 (upd ct1 (4 : Int32).toNatClampNeg (vp_nar .char ((((((xi0 : Int32).toUInt32 >>> ((24 : Int32).toUInt32 &&& Int32.toUInt32 31)).toInt32) &&& 255 : Int32).toUInt32 % 65536).toInt32))))] := hD4r
  clear hP4r hD4r
  generalize (upd ct1 (4 : Int32).toNatClampNeg (vp_nar .char ((((((xi0 : Int32).toUInt32 >>> ((24 : Int32).toUInt32 &&& Int32.toUInt32 31)).toInt32) &&& 255 : Int32).toUInt32 % 65536).toInt32))) = nc5 at hP4 hD4
  clear hP hD hS
  refine lv_aload_n (pc := 36) hx hb dX11_feedFour_36 rfl (lv_at hl1 1 rfl) ?_
  refine lv_dup (pc := 37) hx hb dX11_feedFour_37 rfl ?_
  refine ob_get (pc := 38) (v := .int 4) (ci := 11) (C := RX11) (T := TX11) (N := 15) hx hb hG in_X11 hown hK hP4 0 rfl rfl 1 (by decide) (hG _ g_90) rfl h0_1 dX11_feedFour_38 ?_
  refine lv_iconst (pc := 41) (v := 1) hx hb dX11_feedFour_41 (by decide) ?_
  refine lv_iadd (pc := 42) hx hb dX11_feedFour_42 ?_
  refine tp_i (y := 5) (by decide) ?_
  refine ob_put (pc := 43) (v := .int 5) (ci := 11) (C := RX11) (T := TX11) (N := 15) hx hb hG in_X11 tyX11 tyX11_ok nmX11 hown hK hP4 hD4 hS4 0 rfl rfl 1 (by decide) (hG _ g_90) rfl rfl rfl rfl dX11_feedFour_43 (ws' := [(ad0, ob 11 15 (vup fn0 1 (.int 5))), (ad1, ari (cy 1) 2000 nc5)]) rfl (fun H6 lo6 hP6 hD6 hS6 => ?_)
  clear hP4 hD4 hS4
  clear H4 lo4
  refine lv_iinc (pc := 46) (v := 16) (lv' := [(2, .int 16), (0, .ref ad0), (1, .int xi0)]) hx hb dX11_feedFour_46 hl1 (k := 0) rfl (by decide) (by decide) rfl (fun ls7 hl7 => ?_)
  clear hl1 ls1
  refine lv_goto (pc := 49) (tgt := 3) hx hb dX11_feedFour_49 (by decide) ?_
  refine lv_iload_n (pc := 3) hx hb dX11_feedFour_3 rfl (lv_at hl7 0 rfl) ?_
  refine lv_if_lt (pc := 4) (tgt := 52) hx hb dX11_feedFour_4 (by decide) (fun c8 => absurd c8 (by decide)) (fun c8 => ?_)
  refine lv_aload_n (pc := 7) hx hb dX11_feedFour_7 rfl (lv_at hl7 1 rfl) ?_
  refine ob_get (pc := 8) (v := .int 5) (ci := 11) (C := RX11) (T := TX11) (N := 15) hx hb hG in_X11 hown hK hP6 0 rfl rfl 1 (by decide) (hG _ g_90) rfl rfl dX11_feedFour_8 ?_
  refine lv_aload_n (pc := 11) hx hb dX11_feedFour_11 rfl (lv_at hl7 1 rfl) ?_
  refine ob_get (pc := 12) (v := .ref ad1) (ci := 11) (C := RX11) (T := TX11) (N := 15) hx hb hG in_X11 hown hK hP6 0 rfl rfl 0 (by decide) (hG _ g_89) rfl h0_0 dX11_feedFour_12 ?_
  refine va_alen (pc := 15) hx hb hK hP6 1 1 rfl rfl (v := 2000) (show Int32.ofNat 2000 = 2000 by decide) dX11_feedFour_15 ?_
  refine lv_icmp_ge (pc := 16) (tgt := 52) hx hb dX11_feedFour_16 (by decide) (fun c9 => absurd c9 (by decide)) (fun c9 => ?_)
  refine lv_aload_n (pc := 19) hx hb dX11_feedFour_19 rfl (lv_at hl7 1 rfl) ?_
  refine ob_get (pc := 20) (v := .ref ad1) (ci := 11) (C := RX11) (T := TX11) (N := 15) hx hb hG in_X11 hown hK hP6 0 rfl rfl 0 (by decide) (hG _ g_89) rfl h0_0 dX11_feedFour_20 ?_
  refine lv_aload_n (pc := 23) hx hb dX11_feedFour_23 rfl (lv_at hl7 1 rfl) ?_
  refine ob_get (pc := 24) (v := .int 5) (ci := 11) (C := RX11) (T := TX11) (N := 15) hx hb hG in_X11 hown hK hP6 0 rfl rfl 1 (by decide) (hG _ g_90) rfl rfl dX11_feedFour_24 ?_
  refine lv_iload_n (pc := 27) hx hb dX11_feedFour_27 rfl (lv_at hl7 2 rfl) ?_
  refine lv_iload_n (pc := 28) hx hb dX11_feedFour_28 rfl (lv_at hl7 0 rfl) ?_
  refine lv_iushr (pc := 29) (v := ((xi0 : Int32).toUInt32 >>> ((16 : Int32).toUInt32 &&& Int32.toUInt32 31)).toInt32) hx hb dX11_feedFour_29 rfl ?_
  refine lv_sipush (pc := 30) (v := 255) hx hb dX11_feedFour_30 (by decide) ?_
  refine lv_iand (pc := 33) hx hb dX11_feedFour_33 ?_
  refine lv_i2c (pc := 34) (v := (((((xi0 : Int32).toUInt32 >>> ((16 : Int32).toUInt32 &&& Int32.toUInt32 31)).toInt32) &&& 255 : Int32).toUInt32 % 65536).toInt32) hx hb dX11_feedFour_34 rfl ?_
  refine va_cast (pc := 35) hx hb hK hP6 hD6 hS6 1 1 rfl rfl (show ¬ ((5 : Int32) < 0 ∨ 2000 ≤ (5 : Int32).toNatClampNeg) by decide) dX11_feedFour_35 (fun H10 lo10 hP10r hD10r hS10 => ?_)
  have hP10 : va_P D classes [(ad0, ob 11 15 (vup fn0 1 (.int 5))), (ad1, ari (cy 1) 2000 (upd nc5 (5 : Int32).toNatClampNeg (vp_nar .char ((((((xi0 : Int32).toUInt32 >>> ((16 : Int32).toUInt32 &&& Int32.toUInt32 31)).toInt32) &&& 255 : Int32).toUInt32 % 65536).toInt32))))] H10 := hP10r
  have hD10 : va_D A [(ad0, ob 11 15 (vup fn0 1 (.int 5))), (ad1, ari (cy 1) 2000 (upd nc5 (5 : Int32).toNatClampNeg (vp_nar .char ((((((xi0 : Int32).toUInt32 >>> ((16 : Int32).toUInt32 &&& Int32.toUInt32 31)).toInt32) &&& 255 : Int32).toUInt32 % 65536).toInt32))))] := hD10r
  clear hP10r hD10r
  generalize (upd nc5 (5 : Int32).toNatClampNeg (vp_nar .char ((((((xi0 : Int32).toUInt32 >>> ((16 : Int32).toUInt32 &&& Int32.toUInt32 31)).toInt32) &&& 255 : Int32).toUInt32 % 65536).toInt32))) = nc11 at hP10 hD10
  clear hP6 hD6 hS6
  clear H6 lo6
  refine lv_aload_n (pc := 36) hx hb dX11_feedFour_36 rfl (lv_at hl7 1 rfl) ?_
  refine lv_dup (pc := 37) hx hb dX11_feedFour_37 rfl ?_
  refine ob_get (pc := 38) (v := .int 5) (ci := 11) (C := RX11) (T := TX11) (N := 15) hx hb hG in_X11 hown hK hP10 0 rfl rfl 1 (by decide) (hG _ g_90) rfl rfl dX11_feedFour_38 ?_
  refine lv_iconst (pc := 41) (v := 1) hx hb dX11_feedFour_41 (by decide) ?_
  refine lv_iadd (pc := 42) hx hb dX11_feedFour_42 ?_
  refine tp_i (y := 6) (by decide) ?_
  refine ob_put (pc := 43) (v := .int 6) (ci := 11) (C := RX11) (T := TX11) (N := 15) hx hb hG in_X11 tyX11 tyX11_ok nmX11 hown hK hP10 hD10 hS10 0 rfl rfl 1 (by decide) (hG _ g_90) rfl rfl rfl rfl dX11_feedFour_43 (ws' := [(ad0, ob 11 15 (vup (vup fn0 1 (.int 5)) 1 (.int 6))), (ad1, ari (cy 1) 2000 nc11)]) rfl (fun H12 lo12 hP12 hD12 hS12 => ?_)
  clear hP10 hD10 hS10
  clear H10 lo10
  refine lv_iinc (pc := 46) (v := 8) (lv' := [(2, .int 8), (0, .ref ad0), (1, .int xi0)]) hx hb dX11_feedFour_46 hl7 (k := 0) rfl (by decide) (by decide) rfl (fun ls13 hl13 => ?_)
  clear hl7 ls7
  refine lv_goto (pc := 49) (tgt := 3) hx hb dX11_feedFour_49 (by decide) ?_
  refine lv_iload_n (pc := 3) hx hb dX11_feedFour_3 rfl (lv_at hl13 0 rfl) ?_
  refine lv_if_lt (pc := 4) (tgt := 52) hx hb dX11_feedFour_4 (by decide) (fun c14 => absurd c14 (by decide)) (fun c14 => ?_)
  refine lv_aload_n (pc := 7) hx hb dX11_feedFour_7 rfl (lv_at hl13 1 rfl) ?_
  refine ob_get (pc := 8) (v := .int 6) (ci := 11) (C := RX11) (T := TX11) (N := 15) hx hb hG in_X11 hown hK hP12 0 rfl rfl 1 (by decide) (hG _ g_90) rfl rfl dX11_feedFour_8 ?_
  refine lv_aload_n (pc := 11) hx hb dX11_feedFour_11 rfl (lv_at hl13 1 rfl) ?_
  refine ob_get (pc := 12) (v := .ref ad1) (ci := 11) (C := RX11) (T := TX11) (N := 15) hx hb hG in_X11 hown hK hP12 0 rfl rfl 0 (by decide) (hG _ g_89) rfl h0_0 dX11_feedFour_12 ?_
  refine va_alen (pc := 15) hx hb hK hP12 1 1 rfl rfl (v := 2000) (show Int32.ofNat 2000 = 2000 by decide) dX11_feedFour_15 ?_
  refine lv_icmp_ge (pc := 16) (tgt := 52) hx hb dX11_feedFour_16 (by decide) (fun c15 => absurd c15 (by decide)) (fun c15 => ?_)
  refine lv_aload_n (pc := 19) hx hb dX11_feedFour_19 rfl (lv_at hl13 1 rfl) ?_
  refine ob_get (pc := 20) (v := .ref ad1) (ci := 11) (C := RX11) (T := TX11) (N := 15) hx hb hG in_X11 hown hK hP12 0 rfl rfl 0 (by decide) (hG _ g_89) rfl h0_0 dX11_feedFour_20 ?_
  refine lv_aload_n (pc := 23) hx hb dX11_feedFour_23 rfl (lv_at hl13 1 rfl) ?_
  refine ob_get (pc := 24) (v := .int 6) (ci := 11) (C := RX11) (T := TX11) (N := 15) hx hb hG in_X11 hown hK hP12 0 rfl rfl 1 (by decide) (hG _ g_90) rfl rfl dX11_feedFour_24 ?_
  refine lv_iload_n (pc := 27) hx hb dX11_feedFour_27 rfl (lv_at hl13 2 rfl) ?_
  refine lv_iload_n (pc := 28) hx hb dX11_feedFour_28 rfl (lv_at hl13 0 rfl) ?_
  refine lv_iushr (pc := 29) (v := ((xi0 : Int32).toUInt32 >>> ((8 : Int32).toUInt32 &&& Int32.toUInt32 31)).toInt32) hx hb dX11_feedFour_29 rfl ?_
  refine lv_sipush (pc := 30) (v := 255) hx hb dX11_feedFour_30 (by decide) ?_
  refine lv_iand (pc := 33) hx hb dX11_feedFour_33 ?_
  refine lv_i2c (pc := 34) (v := (((((xi0 : Int32).toUInt32 >>> ((8 : Int32).toUInt32 &&& Int32.toUInt32 31)).toInt32) &&& 255 : Int32).toUInt32 % 65536).toInt32) hx hb dX11_feedFour_34 rfl ?_
  refine va_cast (pc := 35) hx hb hK hP12 hD12 hS12 1 1 rfl rfl (show ¬ ((6 : Int32) < 0 ∨ 2000 ≤ (6 : Int32).toNatClampNeg) by decide) dX11_feedFour_35 (fun H16 lo16 hP16r hD16r hS16 => ?_)
  have hP16 : va_P D classes [(ad0, ob 11 15 (vup (vup fn0 1 (.int 5)) 1 (.int 6))), (ad1, ari (cy 1) 2000 (upd nc11 (6 : Int32).toNatClampNeg (vp_nar .char ((((((xi0 : Int32).toUInt32 >>> ((8 : Int32).toUInt32 &&& Int32.toUInt32 31)).toInt32) &&& 255 : Int32).toUInt32 % 65536).toInt32))))] H16 := hP16r
  have hD16 : va_D A [(ad0, ob 11 15 (vup (vup fn0 1 (.int 5)) 1 (.int 6))), (ad1, ari (cy 1) 2000 (upd nc11 (6 : Int32).toNatClampNeg (vp_nar .char ((((((xi0 : Int32).toUInt32 >>> ((8 : Int32).toUInt32 &&& Int32.toUInt32 31)).toInt32) &&& 255 : Int32).toUInt32 % 65536).toInt32))))] := hD16r
  clear hP16r hD16r
  generalize (upd nc11 (6 : Int32).toNatClampNeg (vp_nar .char ((((((xi0 : Int32).toUInt32 >>> ((8 : Int32).toUInt32 &&& Int32.toUInt32 31)).toInt32) &&& 255 : Int32).toUInt32 % 65536).toInt32))) = nc17 at hP16 hD16
  clear hP12 hD12 hS12
  clear H12 lo12
  refine lv_aload_n (pc := 36) hx hb dX11_feedFour_36 rfl (lv_at hl13 1 rfl) ?_
  refine lv_dup (pc := 37) hx hb dX11_feedFour_37 rfl ?_
  refine ob_get (pc := 38) (v := .int 6) (ci := 11) (C := RX11) (T := TX11) (N := 15) hx hb hG in_X11 hown hK hP16 0 rfl rfl 1 (by decide) (hG _ g_90) rfl rfl dX11_feedFour_38 ?_
  refine lv_iconst (pc := 41) (v := 1) hx hb dX11_feedFour_41 (by decide) ?_
  refine lv_iadd (pc := 42) hx hb dX11_feedFour_42 ?_
  refine tp_i (y := 7) (by decide) ?_
  refine ob_put (pc := 43) (v := .int 7) (ci := 11) (C := RX11) (T := TX11) (N := 15) hx hb hG in_X11 tyX11 tyX11_ok nmX11 hown hK hP16 hD16 hS16 0 rfl rfl 1 (by decide) (hG _ g_90) rfl rfl rfl rfl dX11_feedFour_43 (ws' := [(ad0, ob 11 15 (vup (vup (vup fn0 1 (.int 5)) 1 (.int 6)) 1 (.int 7))), (ad1, ari (cy 1) 2000 nc17)]) rfl (fun H18 lo18 hP18 hD18 hS18 => ?_)
  clear hP16 hD16 hS16
  clear H16 lo16
  refine lv_iinc (pc := 46) (v := 0) (lv' := [(2, .int 0), (0, .ref ad0), (1, .int xi0)]) hx hb dX11_feedFour_46 hl13 (k := 0) rfl (by decide) (by decide) rfl (fun ls19 hl19 => ?_)
  clear hl13 ls13
  refine lv_goto (pc := 49) (tgt := 3) hx hb dX11_feedFour_49 (by decide) ?_
  refine lv_iload_n (pc := 3) hx hb dX11_feedFour_3 rfl (lv_at hl19 0 rfl) ?_
  refine lv_if_lt (pc := 4) (tgt := 52) hx hb dX11_feedFour_4 (by decide) (fun c20 => absurd c20 (by decide)) (fun c20 => ?_)
  refine lv_aload_n (pc := 7) hx hb dX11_feedFour_7 rfl (lv_at hl19 1 rfl) ?_
  refine ob_get (pc := 8) (v := .int 7) (ci := 11) (C := RX11) (T := TX11) (N := 15) hx hb hG in_X11 hown hK hP18 0 rfl rfl 1 (by decide) (hG _ g_90) rfl rfl dX11_feedFour_8 ?_
  refine lv_aload_n (pc := 11) hx hb dX11_feedFour_11 rfl (lv_at hl19 1 rfl) ?_
  refine ob_get (pc := 12) (v := .ref ad1) (ci := 11) (C := RX11) (T := TX11) (N := 15) hx hb hG in_X11 hown hK hP18 0 rfl rfl 0 (by decide) (hG _ g_89) rfl h0_0 dX11_feedFour_12 ?_
  refine va_alen (pc := 15) hx hb hK hP18 1 1 rfl rfl (v := 2000) (show Int32.ofNat 2000 = 2000 by decide) dX11_feedFour_15 ?_
  refine lv_icmp_ge (pc := 16) (tgt := 52) hx hb dX11_feedFour_16 (by decide) (fun c21 => absurd c21 (by decide)) (fun c21 => ?_)
  refine lv_aload_n (pc := 19) hx hb dX11_feedFour_19 rfl (lv_at hl19 1 rfl) ?_
  refine ob_get (pc := 20) (v := .ref ad1) (ci := 11) (C := RX11) (T := TX11) (N := 15) hx hb hG in_X11 hown hK hP18 0 rfl rfl 0 (by decide) (hG _ g_89) rfl h0_0 dX11_feedFour_20 ?_
  refine lv_aload_n (pc := 23) hx hb dX11_feedFour_23 rfl (lv_at hl19 1 rfl) ?_
  refine ob_get (pc := 24) (v := .int 7) (ci := 11) (C := RX11) (T := TX11) (N := 15) hx hb hG in_X11 hown hK hP18 0 rfl rfl 1 (by decide) (hG _ g_90) rfl rfl dX11_feedFour_24 ?_
  refine lv_iload_n (pc := 27) hx hb dX11_feedFour_27 rfl (lv_at hl19 2 rfl) ?_
  refine lv_iload_n (pc := 28) hx hb dX11_feedFour_28 rfl (lv_at hl19 0 rfl) ?_
  refine lv_iushr (pc := 29) (v := ((xi0 : Int32).toUInt32 >>> ((0 : Int32).toUInt32 &&& Int32.toUInt32 31)).toInt32) hx hb dX11_feedFour_29 rfl ?_
  refine lv_sipush (pc := 30) (v := 255) hx hb dX11_feedFour_30 (by decide) ?_
  refine lv_iand (pc := 33) hx hb dX11_feedFour_33 ?_
  refine lv_i2c (pc := 34) (v := (((((xi0 : Int32).toUInt32 >>> ((0 : Int32).toUInt32 &&& Int32.toUInt32 31)).toInt32) &&& 255 : Int32).toUInt32 % 65536).toInt32) hx hb dX11_feedFour_34 rfl ?_
  refine va_cast (pc := 35) hx hb hK hP18 hD18 hS18 1 1 rfl rfl (show ¬ ((7 : Int32) < 0 ∨ 2000 ≤ (7 : Int32).toNatClampNeg) by decide) dX11_feedFour_35 (fun H22 lo22 hP22r hD22r hS22 => ?_)
  have hP22 : va_P D classes [(ad0, ob 11 15 (vup (vup (vup fn0 1 (.int 5)) 1 (.int 6)) 1 (.int 7))), (ad1, ari (cy 1) 2000 (upd nc17 (7 : Int32).toNatClampNeg (vp_nar .char ((((((xi0 : Int32).toUInt32 >>> ((0 : Int32).toUInt32 &&& Int32.toUInt32 31)).toInt32) &&& 255 : Int32).toUInt32 % 65536).toInt32))))] H22 := hP22r
  have hD22 : va_D A [(ad0, ob 11 15 (vup (vup (vup fn0 1 (.int 5)) 1 (.int 6)) 1 (.int 7))), (ad1, ari (cy 1) 2000 (upd nc17 (7 : Int32).toNatClampNeg (vp_nar .char ((((((xi0 : Int32).toUInt32 >>> ((0 : Int32).toUInt32 &&& Int32.toUInt32 31)).toInt32) &&& 255 : Int32).toUInt32 % 65536).toInt32))))] := hD22r
  clear hP22r hD22r
  generalize (upd nc17 (7 : Int32).toNatClampNeg (vp_nar .char ((((((xi0 : Int32).toUInt32 >>> ((0 : Int32).toUInt32 &&& Int32.toUInt32 31)).toInt32) &&& 255 : Int32).toUInt32 % 65536).toInt32))) = nc23 at hP22 hD22
  clear hP18 hD18 hS18
  clear H18 lo18
  refine lv_aload_n (pc := 36) hx hb dX11_feedFour_36 rfl (lv_at hl19 1 rfl) ?_
  refine lv_dup (pc := 37) hx hb dX11_feedFour_37 rfl ?_
  refine ob_get (pc := 38) (v := .int 7) (ci := 11) (C := RX11) (T := TX11) (N := 15) hx hb hG in_X11 hown hK hP22 0 rfl rfl 1 (by decide) (hG _ g_90) rfl rfl dX11_feedFour_38 ?_
  refine lv_iconst (pc := 41) (v := 1) hx hb dX11_feedFour_41 (by decide) ?_
  refine lv_iadd (pc := 42) hx hb dX11_feedFour_42 ?_
  refine tp_i (y := 8) (by decide) ?_
  refine ob_put (pc := 43) (v := .int 8) (ci := 11) (C := RX11) (T := TX11) (N := 15) hx hb hG in_X11 tyX11 tyX11_ok nmX11 hown hK hP22 hD22 hS22 0 rfl rfl 1 (by decide) (hG _ g_90) rfl rfl rfl rfl dX11_feedFour_43 (ws' := [(ad0, ob 11 15 (vup (vup (vup (vup fn0 1 (.int 5)) 1 (.int 6)) 1 (.int 7)) 1 (.int 8))), (ad1, ari (cy 1) 2000 nc23)]) rfl (fun H24 lo24 hP24 hD24 hS24 => ?_)
  clear hP22 hD22 hS22
  clear H22 lo22
  refine lv_iinc (pc := 46) (v := (-8)) (lv' := [(2, .int (-8)), (0, .ref ad0), (1, .int xi0)]) hx hb dX11_feedFour_46 hl19 (k := 0) rfl (by decide) (by decide) rfl (fun ls25 hl25 => ?_)
  clear hl19 ls19
  refine lv_goto (pc := 49) (tgt := 3) hx hb dX11_feedFour_49 (by decide) ?_
  refine lv_iload_n (pc := 3) hx hb dX11_feedFour_3 rfl (lv_at hl25 0 rfl) ?_
  refine lv_if_lt (pc := 4) (tgt := 52) hx hb dX11_feedFour_4 (by decide) (fun c26 => ?_) (fun c26 => absurd (by decide) c26)
  exact W.vret (pc := 52) hx hb hr (fun t ht hW => ⟨⟨(), rfl, trivial, _, ⟨nc23, rfl⟩, by rw [ht]; exact hP24, hD24⟩, hS24.F ht⟩) hS24.2.2 dX11_feedFour_52
set_option maxHeartbeats 4000000 in
set_option maxRecDepth 100000 in
/-- X11_feedFour -/
theorem c_feedFour8 (l : Launch) (D : va_G) (cy : Nat → ClassId) (kv : KV) (sz : Nat) (ad0 : Nat) (xi0 : Int32) (fn0 : Nat → Value) (ad1 : Nat) (ct1 : Nat → Int32) (h0_0 : fn0 0 = .ref ad1) (h0_1 : fn0 1 = .int 8) : Met l yX11_feedFour (Cond.code yX11_feedFour cX11_feedFour 3 none :: GW) ({ frames := 8, cells := 0, slots := 0, locals := 120 } : Room) (va_Pc [.ref ad0, .int xi0] (pcq D cy kv sz [(ad0, ob 11 15 fn0), (ad1, ari (cy 1) 2000 ct1)])) (va_Qv (fun (_ : Unit) => True) (fun _ t => bq D (fun w => ∃ (nc900 : Nat → Int32), w = [(ad0, ob 11 15 (vup (vup (vup (vup fn0 1 (.int 9)) 1 (.int 10)) 1 (.int 11)) 1 (.int 12))), (ad1, ari (cy 1) 2000 nc900)]) (va_A [(ad0, ob 11 15 fn0), (ad1, ari (cy 1) 2000 ct1)] sz) t) (va_A [(ad0, ob 11 15 fn0), (ad1, ari (cy 1) 2000 ct1)] sz)) 0 0 (va_A [(ad0, ob 11 15 fn0), (ad1, ari (cy 1) 2000 ct1)] sz) := by
  refine Met.ofW (cc := cX11_feedFour) (maxL := 3) (ret := none) (by decide) rfl ?_
  intro p e s m args below meth c s₁ B hml hv
  obtain ⟨rfl, hsz, hP, hK, hD0, hE⟩ := hv
  have hx := B.exec
  have hb := B.bytes
  have hr := B.returns
  have hG : ∀ w ∈ GW, w.before ([.ref ad0, .int xi0] : List Value).toArray s = true := fun w h => atoms_spec (ws := Cond.code yX11_feedFour cX11_feedFour 3 none :: GW) B.pre w (List.mem_cons_of_mem _ h)
  have hown : s.vm.findClass RX11 = some m.cls := findClass_of_methodNamed B.named
  have hlocks := B.notSynchronized
  subst hsz
  have hD := hD0.self (sz := s.heap.size)
  generalize hAe : va_A [(ad0, ob 11 15 fn0), (ad1, ari (cy 1) 2000 ct1)] s.heap.size = A at hD hE ⊢
  have hA : ∀ q : Nat, s.heap.size ≤ q → A q := fun q h => by rw [← hAe]; exact Or.inr h
  have hS : va_S A s.heap s.heap [] := va_S.rf
  clear hAe hD0
  have hl0 := lv_entry ([.ref ad0, .int xi0]) (n := 3) (Nat.le_of_ble_eq_true rfl)
  rw [lg_entry_eq]
  generalize (lg_sl ([.ref ad0, .int xi0]) ++ List.replicate (3 - (lg_sl ([.ref ad0, .int xi0])).length) Slot.unset).toArray = ls at hl0 ⊢
  have hl : lv_has ls 3 [(0, .ref ad0), (1, .int xi0)] := hl0
  clear hl0
  refine lv_bipush (pc := 0) (v := 24) hx hb dX11_feedFour_0 (by decide) ?_
  refine lv_istore_n (pc := 2) (lv' := [(2, .int 24), (0, .ref ad0), (1, .int xi0)]) hx hb dX11_feedFour_2 rfl hl (by decide) rfl (fun ls1 hl1 => ?_)
  clear hl ls
  refine lv_iload_n (pc := 3) hx hb dX11_feedFour_3 rfl (lv_at hl1 0 rfl) ?_
  refine lv_if_lt (pc := 4) (tgt := 52) hx hb dX11_feedFour_4 (by decide) (fun c2 => absurd c2 (by decide)) (fun c2 => ?_)
  refine lv_aload_n (pc := 7) hx hb dX11_feedFour_7 rfl (lv_at hl1 1 rfl) ?_
  refine ob_get (pc := 8) (v := .int 8) (ci := 11) (C := RX11) (T := TX11) (N := 15) hx hb hG in_X11 hown hK hP 0 rfl rfl 1 (by decide) (hG _ g_90) rfl h0_1 dX11_feedFour_8 ?_
  refine lv_aload_n (pc := 11) hx hb dX11_feedFour_11 rfl (lv_at hl1 1 rfl) ?_
  refine ob_get (pc := 12) (v := .ref ad1) (ci := 11) (C := RX11) (T := TX11) (N := 15) hx hb hG in_X11 hown hK hP 0 rfl rfl 0 (by decide) (hG _ g_89) rfl h0_0 dX11_feedFour_12 ?_
  refine va_alen (pc := 15) hx hb hK hP 1 1 rfl rfl (v := 2000) (show Int32.ofNat 2000 = 2000 by decide) dX11_feedFour_15 ?_
  refine lv_icmp_ge (pc := 16) (tgt := 52) hx hb dX11_feedFour_16 (by decide) (fun c3 => absurd c3 (by decide)) (fun c3 => ?_)
  refine lv_aload_n (pc := 19) hx hb dX11_feedFour_19 rfl (lv_at hl1 1 rfl) ?_
  refine ob_get (pc := 20) (v := .ref ad1) (ci := 11) (C := RX11) (T := TX11) (N := 15) hx hb hG in_X11 hown hK hP 0 rfl rfl 0 (by decide) (hG _ g_89) rfl h0_0 dX11_feedFour_20 ?_
  refine lv_aload_n (pc := 23) hx hb dX11_feedFour_23 rfl (lv_at hl1 1 rfl) ?_
  refine ob_get (pc := 24) (v := .int 8) (ci := 11) (C := RX11) (T := TX11) (N := 15) hx hb hG in_X11 hown hK hP 0 rfl rfl 1 (by decide) (hG _ g_90) rfl h0_1 dX11_feedFour_24 ?_
  refine lv_iload_n (pc := 27) hx hb dX11_feedFour_27 rfl (lv_at hl1 2 rfl) ?_
  refine lv_iload_n (pc := 28) hx hb dX11_feedFour_28 rfl (lv_at hl1 0 rfl) ?_
  refine lv_iushr (pc := 29) (v := ((xi0 : Int32).toUInt32 >>> ((24 : Int32).toUInt32 &&& Int32.toUInt32 31)).toInt32) hx hb dX11_feedFour_29 rfl ?_
  refine lv_sipush (pc := 30) (v := 255) hx hb dX11_feedFour_30 (by decide) ?_
  refine lv_iand (pc := 33) hx hb dX11_feedFour_33 ?_
  refine lv_i2c (pc := 34) (v := (((((xi0 : Int32).toUInt32 >>> ((24 : Int32).toUInt32 &&& Int32.toUInt32 31)).toInt32) &&& 255 : Int32).toUInt32 % 65536).toInt32) hx hb dX11_feedFour_34 rfl ?_
  refine va_cast (pc := 35) hx hb hK hP hD hS 1 1 rfl rfl (show ¬ ((8 : Int32) < 0 ∨ 2000 ≤ (8 : Int32).toNatClampNeg) by decide) dX11_feedFour_35 (fun H4 lo4 hP4r hD4r hS4 => ?_)
  have hP4 : va_P D classes [(ad0, ob 11 15 fn0), (ad1, ari (cy 1) 2000 (upd ct1 (8 : Int32).toNatClampNeg (vp_nar .char ((((((xi0 : Int32).toUInt32 >>> ((24 : Int32).toUInt32 &&& Int32.toUInt32 31)).toInt32) &&& 255 : Int32).toUInt32 % 65536).toInt32))))] H4 := hP4r
  have hD4 : va_D A [(ad0, ob 11 15 fn0), (ad1, ari (cy 1) 2000 (upd ct1 (8 : Int32).toNatClampNeg (vp_nar .char ((((((xi0 : Int32).toUInt32 >>> ((24 : Int32).toUInt32 &&& Int32.toUInt32 31)).toInt32) &&& 255 : Int32).toUInt32 % 65536).toInt32))))] := hD4r
  clear hP4r hD4r
  generalize (upd ct1 (8 : Int32).toNatClampNeg (vp_nar .char ((((((xi0 : Int32).toUInt32 >>> ((24 : Int32).toUInt32 &&& Int32.toUInt32 31)).toInt32) &&& 255 : Int32).toUInt32 % 65536).toInt32))) = nc5 at hP4 hD4
  clear hP hD hS
  refine lv_aload_n (pc := 36) hx hb dX11_feedFour_36 rfl (lv_at hl1 1 rfl) ?_
  refine lv_dup (pc := 37) hx hb dX11_feedFour_37 rfl ?_
  refine ob_get (pc := 38) (v := .int 8) (ci := 11) (C := RX11) (T := TX11) (N := 15) hx hb hG in_X11 hown hK hP4 0 rfl rfl 1 (by decide) (hG _ g_90) rfl h0_1 dX11_feedFour_38 ?_
  refine lv_iconst (pc := 41) (v := 1) hx hb dX11_feedFour_41 (by decide) ?_
  refine lv_iadd (pc := 42) hx hb dX11_feedFour_42 ?_
  refine tp_i (y := 9) (by decide) ?_
  refine ob_put (pc := 43) (v := .int 9) (ci := 11) (C := RX11) (T := TX11) (N := 15) hx hb hG in_X11 tyX11 tyX11_ok nmX11 hown hK hP4 hD4 hS4 0 rfl rfl 1 (by decide) (hG _ g_90) rfl rfl rfl rfl dX11_feedFour_43 (ws' := [(ad0, ob 11 15 (vup fn0 1 (.int 9))), (ad1, ari (cy 1) 2000 nc5)]) rfl (fun H6 lo6 hP6 hD6 hS6 => ?_)
  clear hP4 hD4 hS4
  clear H4 lo4
  refine lv_iinc (pc := 46) (v := 16) (lv' := [(2, .int 16), (0, .ref ad0), (1, .int xi0)]) hx hb dX11_feedFour_46 hl1 (k := 0) rfl (by decide) (by decide) rfl (fun ls7 hl7 => ?_)
  clear hl1 ls1
  refine lv_goto (pc := 49) (tgt := 3) hx hb dX11_feedFour_49 (by decide) ?_
  refine lv_iload_n (pc := 3) hx hb dX11_feedFour_3 rfl (lv_at hl7 0 rfl) ?_
  refine lv_if_lt (pc := 4) (tgt := 52) hx hb dX11_feedFour_4 (by decide) (fun c8 => absurd c8 (by decide)) (fun c8 => ?_)
  refine lv_aload_n (pc := 7) hx hb dX11_feedFour_7 rfl (lv_at hl7 1 rfl) ?_
  refine ob_get (pc := 8) (v := .int 9) (ci := 11) (C := RX11) (T := TX11) (N := 15) hx hb hG in_X11 hown hK hP6 0 rfl rfl 1 (by decide) (hG _ g_90) rfl rfl dX11_feedFour_8 ?_
  refine lv_aload_n (pc := 11) hx hb dX11_feedFour_11 rfl (lv_at hl7 1 rfl) ?_
  refine ob_get (pc := 12) (v := .ref ad1) (ci := 11) (C := RX11) (T := TX11) (N := 15) hx hb hG in_X11 hown hK hP6 0 rfl rfl 0 (by decide) (hG _ g_89) rfl h0_0 dX11_feedFour_12 ?_
  refine va_alen (pc := 15) hx hb hK hP6 1 1 rfl rfl (v := 2000) (show Int32.ofNat 2000 = 2000 by decide) dX11_feedFour_15 ?_
  refine lv_icmp_ge (pc := 16) (tgt := 52) hx hb dX11_feedFour_16 (by decide) (fun c9 => absurd c9 (by decide)) (fun c9 => ?_)
  refine lv_aload_n (pc := 19) hx hb dX11_feedFour_19 rfl (lv_at hl7 1 rfl) ?_
  refine ob_get (pc := 20) (v := .ref ad1) (ci := 11) (C := RX11) (T := TX11) (N := 15) hx hb hG in_X11 hown hK hP6 0 rfl rfl 0 (by decide) (hG _ g_89) rfl h0_0 dX11_feedFour_20 ?_
  refine lv_aload_n (pc := 23) hx hb dX11_feedFour_23 rfl (lv_at hl7 1 rfl) ?_
  refine ob_get (pc := 24) (v := .int 9) (ci := 11) (C := RX11) (T := TX11) (N := 15) hx hb hG in_X11 hown hK hP6 0 rfl rfl 1 (by decide) (hG _ g_90) rfl rfl dX11_feedFour_24 ?_
  refine lv_iload_n (pc := 27) hx hb dX11_feedFour_27 rfl (lv_at hl7 2 rfl) ?_
  refine lv_iload_n (pc := 28) hx hb dX11_feedFour_28 rfl (lv_at hl7 0 rfl) ?_
  refine lv_iushr (pc := 29) (v := ((xi0 : Int32).toUInt32 >>> ((16 : Int32).toUInt32 &&& Int32.toUInt32 31)).toInt32) hx hb dX11_feedFour_29 rfl ?_
  refine lv_sipush (pc := 30) (v := 255) hx hb dX11_feedFour_30 (by decide) ?_
  refine lv_iand (pc := 33) hx hb dX11_feedFour_33 ?_
  refine lv_i2c (pc := 34) (v := (((((xi0 : Int32).toUInt32 >>> ((16 : Int32).toUInt32 &&& Int32.toUInt32 31)).toInt32) &&& 255 : Int32).toUInt32 % 65536).toInt32) hx hb dX11_feedFour_34 rfl ?_
  refine va_cast (pc := 35) hx hb hK hP6 hD6 hS6 1 1 rfl rfl (show ¬ ((9 : Int32) < 0 ∨ 2000 ≤ (9 : Int32).toNatClampNeg) by decide) dX11_feedFour_35 (fun H10 lo10 hP10r hD10r hS10 => ?_)
  have hP10 : va_P D classes [(ad0, ob 11 15 (vup fn0 1 (.int 9))), (ad1, ari (cy 1) 2000 (upd nc5 (9 : Int32).toNatClampNeg (vp_nar .char ((((((xi0 : Int32).toUInt32 >>> ((16 : Int32).toUInt32 &&& Int32.toUInt32 31)).toInt32) &&& 255 : Int32).toUInt32 % 65536).toInt32))))] H10 := hP10r
  have hD10 : va_D A [(ad0, ob 11 15 (vup fn0 1 (.int 9))), (ad1, ari (cy 1) 2000 (upd nc5 (9 : Int32).toNatClampNeg (vp_nar .char ((((((xi0 : Int32).toUInt32 >>> ((16 : Int32).toUInt32 &&& Int32.toUInt32 31)).toInt32) &&& 255 : Int32).toUInt32 % 65536).toInt32))))] := hD10r
  clear hP10r hD10r
  generalize (upd nc5 (9 : Int32).toNatClampNeg (vp_nar .char ((((((xi0 : Int32).toUInt32 >>> ((16 : Int32).toUInt32 &&& Int32.toUInt32 31)).toInt32) &&& 255 : Int32).toUInt32 % 65536).toInt32))) = nc11 at hP10 hD10
  clear hP6 hD6 hS6
  clear H6 lo6
  refine lv_aload_n (pc := 36) hx hb dX11_feedFour_36 rfl (lv_at hl7 1 rfl) ?_
  refine lv_dup (pc := 37) hx hb dX11_feedFour_37 rfl ?_
  refine ob_get (pc := 38) (v := .int 9) (ci := 11) (C := RX11) (T := TX11) (N := 15) hx hb hG in_X11 hown hK hP10 0 rfl rfl 1 (by decide) (hG _ g_90) rfl rfl dX11_feedFour_38 ?_
  refine lv_iconst (pc := 41) (v := 1) hx hb dX11_feedFour_41 (by decide) ?_
  refine lv_iadd (pc := 42) hx hb dX11_feedFour_42 ?_
  refine tp_i (y := 10) (by decide) ?_
  refine ob_put (pc := 43) (v := .int 10) (ci := 11) (C := RX11) (T := TX11) (N := 15) hx hb hG in_X11 tyX11 tyX11_ok nmX11 hown hK hP10 hD10 hS10 0 rfl rfl 1 (by decide) (hG _ g_90) rfl rfl rfl rfl dX11_feedFour_43 (ws' := [(ad0, ob 11 15 (vup (vup fn0 1 (.int 9)) 1 (.int 10))), (ad1, ari (cy 1) 2000 nc11)]) rfl (fun H12 lo12 hP12 hD12 hS12 => ?_)
  clear hP10 hD10 hS10
  clear H10 lo10
  refine lv_iinc (pc := 46) (v := 8) (lv' := [(2, .int 8), (0, .ref ad0), (1, .int xi0)]) hx hb dX11_feedFour_46 hl7 (k := 0) rfl (by decide) (by decide) rfl (fun ls13 hl13 => ?_)
  clear hl7 ls7
  refine lv_goto (pc := 49) (tgt := 3) hx hb dX11_feedFour_49 (by decide) ?_
  refine lv_iload_n (pc := 3) hx hb dX11_feedFour_3 rfl (lv_at hl13 0 rfl) ?_
  refine lv_if_lt (pc := 4) (tgt := 52) hx hb dX11_feedFour_4 (by decide) (fun c14 => absurd c14 (by decide)) (fun c14 => ?_)
  refine lv_aload_n (pc := 7) hx hb dX11_feedFour_7 rfl (lv_at hl13 1 rfl) ?_
  refine ob_get (pc := 8) (v := .int 10) (ci := 11) (C := RX11) (T := TX11) (N := 15) hx hb hG in_X11 hown hK hP12 0 rfl rfl 1 (by decide) (hG _ g_90) rfl rfl dX11_feedFour_8 ?_
  refine lv_aload_n (pc := 11) hx hb dX11_feedFour_11 rfl (lv_at hl13 1 rfl) ?_
  refine ob_get (pc := 12) (v := .ref ad1) (ci := 11) (C := RX11) (T := TX11) (N := 15) hx hb hG in_X11 hown hK hP12 0 rfl rfl 0 (by decide) (hG _ g_89) rfl h0_0 dX11_feedFour_12 ?_
  refine va_alen (pc := 15) hx hb hK hP12 1 1 rfl rfl (v := 2000) (show Int32.ofNat 2000 = 2000 by decide) dX11_feedFour_15 ?_
  refine lv_icmp_ge (pc := 16) (tgt := 52) hx hb dX11_feedFour_16 (by decide) (fun c15 => absurd c15 (by decide)) (fun c15 => ?_)
  refine lv_aload_n (pc := 19) hx hb dX11_feedFour_19 rfl (lv_at hl13 1 rfl) ?_
  refine ob_get (pc := 20) (v := .ref ad1) (ci := 11) (C := RX11) (T := TX11) (N := 15) hx hb hG in_X11 hown hK hP12 0 rfl rfl 0 (by decide) (hG _ g_89) rfl h0_0 dX11_feedFour_20 ?_
  refine lv_aload_n (pc := 23) hx hb dX11_feedFour_23 rfl (lv_at hl13 1 rfl) ?_
  refine ob_get (pc := 24) (v := .int 10) (ci := 11) (C := RX11) (T := TX11) (N := 15) hx hb hG in_X11 hown hK hP12 0 rfl rfl 1 (by decide) (hG _ g_90) rfl rfl dX11_feedFour_24 ?_
  refine lv_iload_n (pc := 27) hx hb dX11_feedFour_27 rfl (lv_at hl13 2 rfl) ?_
  refine lv_iload_n (pc := 28) hx hb dX11_feedFour_28 rfl (lv_at hl13 0 rfl) ?_
  refine lv_iushr (pc := 29) (v := ((xi0 : Int32).toUInt32 >>> ((8 : Int32).toUInt32 &&& Int32.toUInt32 31)).toInt32) hx hb dX11_feedFour_29 rfl ?_
  refine lv_sipush (pc := 30) (v := 255) hx hb dX11_feedFour_30 (by decide) ?_
  refine lv_iand (pc := 33) hx hb dX11_feedFour_33 ?_
  refine lv_i2c (pc := 34) (v := (((((xi0 : Int32).toUInt32 >>> ((8 : Int32).toUInt32 &&& Int32.toUInt32 31)).toInt32) &&& 255 : Int32).toUInt32 % 65536).toInt32) hx hb dX11_feedFour_34 rfl ?_
  refine va_cast (pc := 35) hx hb hK hP12 hD12 hS12 1 1 rfl rfl (show ¬ ((10 : Int32) < 0 ∨ 2000 ≤ (10 : Int32).toNatClampNeg) by decide) dX11_feedFour_35 (fun H16 lo16 hP16r hD16r hS16 => ?_)
  have hP16 : va_P D classes [(ad0, ob 11 15 (vup (vup fn0 1 (.int 9)) 1 (.int 10))), (ad1, ari (cy 1) 2000 (upd nc11 (10 : Int32).toNatClampNeg (vp_nar .char ((((((xi0 : Int32).toUInt32 >>> ((8 : Int32).toUInt32 &&& Int32.toUInt32 31)).toInt32) &&& 255 : Int32).toUInt32 % 65536).toInt32))))] H16 := hP16r
  have hD16 : va_D A [(ad0, ob 11 15 (vup (vup fn0 1 (.int 9)) 1 (.int 10))), (ad1, ari (cy 1) 2000 (upd nc11 (10 : Int32).toNatClampNeg (vp_nar .char ((((((xi0 : Int32).toUInt32 >>> ((8 : Int32).toUInt32 &&& Int32.toUInt32 31)).toInt32) &&& 255 : Int32).toUInt32 % 65536).toInt32))))] := hD16r
  clear hP16r hD16r
  generalize (upd nc11 (10 : Int32).toNatClampNeg (vp_nar .char ((((((xi0 : Int32).toUInt32 >>> ((8 : Int32).toUInt32 &&& Int32.toUInt32 31)).toInt32) &&& 255 : Int32).toUInt32 % 65536).toInt32))) = nc17 at hP16 hD16
  clear hP12 hD12 hS12
  clear H12 lo12
  refine lv_aload_n (pc := 36) hx hb dX11_feedFour_36 rfl (lv_at hl13 1 rfl) ?_
  refine lv_dup (pc := 37) hx hb dX11_feedFour_37 rfl ?_
  refine ob_get (pc := 38) (v := .int 10) (ci := 11) (C := RX11) (T := TX11) (N := 15) hx hb hG in_X11 hown hK hP16 0 rfl rfl 1 (by decide) (hG _ g_90) rfl rfl dX11_feedFour_38 ?_
  refine lv_iconst (pc := 41) (v := 1) hx hb dX11_feedFour_41 (by decide) ?_
  refine lv_iadd (pc := 42) hx hb dX11_feedFour_42 ?_
  refine tp_i (y := 11) (by decide) ?_
  refine ob_put (pc := 43) (v := .int 11) (ci := 11) (C := RX11) (T := TX11) (N := 15) hx hb hG in_X11 tyX11 tyX11_ok nmX11 hown hK hP16 hD16 hS16 0 rfl rfl 1 (by decide) (hG _ g_90) rfl rfl rfl rfl dX11_feedFour_43 (ws' := [(ad0, ob 11 15 (vup (vup (vup fn0 1 (.int 9)) 1 (.int 10)) 1 (.int 11))), (ad1, ari (cy 1) 2000 nc17)]) rfl (fun H18 lo18 hP18 hD18 hS18 => ?_)
  clear hP16 hD16 hS16
  clear H16 lo16
  refine lv_iinc (pc := 46) (v := 0) (lv' := [(2, .int 0), (0, .ref ad0), (1, .int xi0)]) hx hb dX11_feedFour_46 hl13 (k := 0) rfl (by decide) (by decide) rfl (fun ls19 hl19 => ?_)
  clear hl13 ls13
  refine lv_goto (pc := 49) (tgt := 3) hx hb dX11_feedFour_49 (by decide) ?_
  refine lv_iload_n (pc := 3) hx hb dX11_feedFour_3 rfl (lv_at hl19 0 rfl) ?_
  refine lv_if_lt (pc := 4) (tgt := 52) hx hb dX11_feedFour_4 (by decide) (fun c20 => absurd c20 (by decide)) (fun c20 => ?_)
  refine lv_aload_n (pc := 7) hx hb dX11_feedFour_7 rfl (lv_at hl19 1 rfl) ?_
  refine ob_get (pc := 8) (v := .int 11) (ci := 11) (C := RX11) (T := TX11) (N := 15) hx hb hG in_X11 hown hK hP18 0 rfl rfl 1 (by decide) (hG _ g_90) rfl rfl dX11_feedFour_8 ?_
  refine lv_aload_n (pc := 11) hx hb dX11_feedFour_11 rfl (lv_at hl19 1 rfl) ?_
  refine ob_get (pc := 12) (v := .ref ad1) (ci := 11) (C := RX11) (T := TX11) (N := 15) hx hb hG in_X11 hown hK hP18 0 rfl rfl 0 (by decide) (hG _ g_89) rfl h0_0 dX11_feedFour_12 ?_
  refine va_alen (pc := 15) hx hb hK hP18 1 1 rfl rfl (v := 2000) (show Int32.ofNat 2000 = 2000 by decide) dX11_feedFour_15 ?_
  refine lv_icmp_ge (pc := 16) (tgt := 52) hx hb dX11_feedFour_16 (by decide) (fun c21 => absurd c21 (by decide)) (fun c21 => ?_)
  refine lv_aload_n (pc := 19) hx hb dX11_feedFour_19 rfl (lv_at hl19 1 rfl) ?_
  refine ob_get (pc := 20) (v := .ref ad1) (ci := 11) (C := RX11) (T := TX11) (N := 15) hx hb hG in_X11 hown hK hP18 0 rfl rfl 0 (by decide) (hG _ g_89) rfl h0_0 dX11_feedFour_20 ?_
  refine lv_aload_n (pc := 23) hx hb dX11_feedFour_23 rfl (lv_at hl19 1 rfl) ?_
  refine ob_get (pc := 24) (v := .int 11) (ci := 11) (C := RX11) (T := TX11) (N := 15) hx hb hG in_X11 hown hK hP18 0 rfl rfl 1 (by decide) (hG _ g_90) rfl rfl dX11_feedFour_24 ?_
  refine lv_iload_n (pc := 27) hx hb dX11_feedFour_27 rfl (lv_at hl19 2 rfl) ?_
  refine lv_iload_n (pc := 28) hx hb dX11_feedFour_28 rfl (lv_at hl19 0 rfl) ?_
  refine lv_iushr (pc := 29) (v := ((xi0 : Int32).toUInt32 >>> ((0 : Int32).toUInt32 &&& Int32.toUInt32 31)).toInt32) hx hb dX11_feedFour_29 rfl ?_
  refine lv_sipush (pc := 30) (v := 255) hx hb dX11_feedFour_30 (by decide) ?_
  refine lv_iand (pc := 33) hx hb dX11_feedFour_33 ?_
  refine lv_i2c (pc := 34) (v := (((((xi0 : Int32).toUInt32 >>> ((0 : Int32).toUInt32 &&& Int32.toUInt32 31)).toInt32) &&& 255 : Int32).toUInt32 % 65536).toInt32) hx hb dX11_feedFour_34 rfl ?_
  refine va_cast (pc := 35) hx hb hK hP18 hD18 hS18 1 1 rfl rfl (show ¬ ((11 : Int32) < 0 ∨ 2000 ≤ (11 : Int32).toNatClampNeg) by decide) dX11_feedFour_35 (fun H22 lo22 hP22r hD22r hS22 => ?_)
  have hP22 : va_P D classes [(ad0, ob 11 15 (vup (vup (vup fn0 1 (.int 9)) 1 (.int 10)) 1 (.int 11))), (ad1, ari (cy 1) 2000 (upd nc17 (11 : Int32).toNatClampNeg (vp_nar .char ((((((xi0 : Int32).toUInt32 >>> ((0 : Int32).toUInt32 &&& Int32.toUInt32 31)).toInt32) &&& 255 : Int32).toUInt32 % 65536).toInt32))))] H22 := hP22r
  have hD22 : va_D A [(ad0, ob 11 15 (vup (vup (vup fn0 1 (.int 9)) 1 (.int 10)) 1 (.int 11))), (ad1, ari (cy 1) 2000 (upd nc17 (11 : Int32).toNatClampNeg (vp_nar .char ((((((xi0 : Int32).toUInt32 >>> ((0 : Int32).toUInt32 &&& Int32.toUInt32 31)).toInt32) &&& 255 : Int32).toUInt32 % 65536).toInt32))))] := hD22r
  clear hP22r hD22r
  generalize (upd nc17 (11 : Int32).toNatClampNeg (vp_nar .char ((((((xi0 : Int32).toUInt32 >>> ((0 : Int32).toUInt32 &&& Int32.toUInt32 31)).toInt32) &&& 255 : Int32).toUInt32 % 65536).toInt32))) = nc23 at hP22 hD22
  clear hP18 hD18 hS18
  clear H18 lo18
  refine lv_aload_n (pc := 36) hx hb dX11_feedFour_36 rfl (lv_at hl19 1 rfl) ?_
  refine lv_dup (pc := 37) hx hb dX11_feedFour_37 rfl ?_
  refine ob_get (pc := 38) (v := .int 11) (ci := 11) (C := RX11) (T := TX11) (N := 15) hx hb hG in_X11 hown hK hP22 0 rfl rfl 1 (by decide) (hG _ g_90) rfl rfl dX11_feedFour_38 ?_
  refine lv_iconst (pc := 41) (v := 1) hx hb dX11_feedFour_41 (by decide) ?_
  refine lv_iadd (pc := 42) hx hb dX11_feedFour_42 ?_
  refine tp_i (y := 12) (by decide) ?_
  refine ob_put (pc := 43) (v := .int 12) (ci := 11) (C := RX11) (T := TX11) (N := 15) hx hb hG in_X11 tyX11 tyX11_ok nmX11 hown hK hP22 hD22 hS22 0 rfl rfl 1 (by decide) (hG _ g_90) rfl rfl rfl rfl dX11_feedFour_43 (ws' := [(ad0, ob 11 15 (vup (vup (vup (vup fn0 1 (.int 9)) 1 (.int 10)) 1 (.int 11)) 1 (.int 12))), (ad1, ari (cy 1) 2000 nc23)]) rfl (fun H24 lo24 hP24 hD24 hS24 => ?_)
  clear hP22 hD22 hS22
  clear H22 lo22
  refine lv_iinc (pc := 46) (v := (-8)) (lv' := [(2, .int (-8)), (0, .ref ad0), (1, .int xi0)]) hx hb dX11_feedFour_46 hl19 (k := 0) rfl (by decide) (by decide) rfl (fun ls25 hl25 => ?_)
  clear hl19 ls19
  refine lv_goto (pc := 49) (tgt := 3) hx hb dX11_feedFour_49 (by decide) ?_
  refine lv_iload_n (pc := 3) hx hb dX11_feedFour_3 rfl (lv_at hl25 0 rfl) ?_
  refine lv_if_lt (pc := 4) (tgt := 52) hx hb dX11_feedFour_4 (by decide) (fun c26 => ?_) (fun c26 => absurd (by decide) c26)
  exact W.vret (pc := 52) hx hb hr (fun t ht hW => ⟨⟨(), rfl, trivial, _, ⟨nc23, rfl⟩, by rw [ht]; exact hP24, hD24⟩, hS24.F ht⟩) hS24.2.2 dX11_feedFour_52
set_option maxHeartbeats 4000000 in
set_option maxRecDepth 100000 in
/-- X11_feedFour -/
theorem c_feedFour12 (l : Launch) (D : va_G) (cy : Nat → ClassId) (kv : KV) (sz : Nat) (ad0 : Nat) (xi0 : Int32) (fn0 : Nat → Value) (ad1 : Nat) (ct1 : Nat → Int32) (h0_0 : fn0 0 = .ref ad1) (h0_1 : fn0 1 = .int 12) : Met l yX11_feedFour (Cond.code yX11_feedFour cX11_feedFour 3 none :: GW) ({ frames := 8, cells := 0, slots := 0, locals := 120 } : Room) (va_Pc [.ref ad0, .int xi0] (pcq D cy kv sz [(ad0, ob 11 15 fn0), (ad1, ari (cy 1) 2000 ct1)])) (va_Qv (fun (_ : Unit) => True) (fun _ t => bq D (fun w => ∃ (nc900 : Nat → Int32), w = [(ad0, ob 11 15 (vup (vup (vup (vup fn0 1 (.int 13)) 1 (.int 14)) 1 (.int 15)) 1 (.int 16))), (ad1, ari (cy 1) 2000 nc900)]) (va_A [(ad0, ob 11 15 fn0), (ad1, ari (cy 1) 2000 ct1)] sz) t) (va_A [(ad0, ob 11 15 fn0), (ad1, ari (cy 1) 2000 ct1)] sz)) 0 0 (va_A [(ad0, ob 11 15 fn0), (ad1, ari (cy 1) 2000 ct1)] sz) := by
  refine Met.ofW (cc := cX11_feedFour) (maxL := 3) (ret := none) (by decide) rfl ?_
  intro p e s m args below meth c s₁ B hml hv
  obtain ⟨rfl, hsz, hP, hK, hD0, hE⟩ := hv
  have hx := B.exec
  have hb := B.bytes
  have hr := B.returns
  have hG : ∀ w ∈ GW, w.before ([.ref ad0, .int xi0] : List Value).toArray s = true := fun w h => atoms_spec (ws := Cond.code yX11_feedFour cX11_feedFour 3 none :: GW) B.pre w (List.mem_cons_of_mem _ h)
  have hown : s.vm.findClass RX11 = some m.cls := findClass_of_methodNamed B.named
  have hlocks := B.notSynchronized
  subst hsz
  have hD := hD0.self (sz := s.heap.size)
  generalize hAe : va_A [(ad0, ob 11 15 fn0), (ad1, ari (cy 1) 2000 ct1)] s.heap.size = A at hD hE ⊢
  have hA : ∀ q : Nat, s.heap.size ≤ q → A q := fun q h => by rw [← hAe]; exact Or.inr h
  have hS : va_S A s.heap s.heap [] := va_S.rf
  clear hAe hD0
  have hl0 := lv_entry ([.ref ad0, .int xi0]) (n := 3) (Nat.le_of_ble_eq_true rfl)
  rw [lg_entry_eq]
  generalize (lg_sl ([.ref ad0, .int xi0]) ++ List.replicate (3 - (lg_sl ([.ref ad0, .int xi0])).length) Slot.unset).toArray = ls at hl0 ⊢
  have hl : lv_has ls 3 [(0, .ref ad0), (1, .int xi0)] := hl0
  clear hl0
  refine lv_bipush (pc := 0) (v := 24) hx hb dX11_feedFour_0 (by decide) ?_
  refine lv_istore_n (pc := 2) (lv' := [(2, .int 24), (0, .ref ad0), (1, .int xi0)]) hx hb dX11_feedFour_2 rfl hl (by decide) rfl (fun ls1 hl1 => ?_)
  clear hl ls
  refine lv_iload_n (pc := 3) hx hb dX11_feedFour_3 rfl (lv_at hl1 0 rfl) ?_
  refine lv_if_lt (pc := 4) (tgt := 52) hx hb dX11_feedFour_4 (by decide) (fun c2 => absurd c2 (by decide)) (fun c2 => ?_)
  refine lv_aload_n (pc := 7) hx hb dX11_feedFour_7 rfl (lv_at hl1 1 rfl) ?_
  refine ob_get (pc := 8) (v := .int 12) (ci := 11) (C := RX11) (T := TX11) (N := 15) hx hb hG in_X11 hown hK hP 0 rfl rfl 1 (by decide) (hG _ g_90) rfl h0_1 dX11_feedFour_8 ?_
  refine lv_aload_n (pc := 11) hx hb dX11_feedFour_11 rfl (lv_at hl1 1 rfl) ?_
  refine ob_get (pc := 12) (v := .ref ad1) (ci := 11) (C := RX11) (T := TX11) (N := 15) hx hb hG in_X11 hown hK hP 0 rfl rfl 0 (by decide) (hG _ g_89) rfl h0_0 dX11_feedFour_12 ?_
  refine va_alen (pc := 15) hx hb hK hP 1 1 rfl rfl (v := 2000) (show Int32.ofNat 2000 = 2000 by decide) dX11_feedFour_15 ?_
  refine lv_icmp_ge (pc := 16) (tgt := 52) hx hb dX11_feedFour_16 (by decide) (fun c3 => absurd c3 (by decide)) (fun c3 => ?_)
  refine lv_aload_n (pc := 19) hx hb dX11_feedFour_19 rfl (lv_at hl1 1 rfl) ?_
  refine ob_get (pc := 20) (v := .ref ad1) (ci := 11) (C := RX11) (T := TX11) (N := 15) hx hb hG in_X11 hown hK hP 0 rfl rfl 0 (by decide) (hG _ g_89) rfl h0_0 dX11_feedFour_20 ?_
  refine lv_aload_n (pc := 23) hx hb dX11_feedFour_23 rfl (lv_at hl1 1 rfl) ?_
  refine ob_get (pc := 24) (v := .int 12) (ci := 11) (C := RX11) (T := TX11) (N := 15) hx hb hG in_X11 hown hK hP 0 rfl rfl 1 (by decide) (hG _ g_90) rfl h0_1 dX11_feedFour_24 ?_
  refine lv_iload_n (pc := 27) hx hb dX11_feedFour_27 rfl (lv_at hl1 2 rfl) ?_
  refine lv_iload_n (pc := 28) hx hb dX11_feedFour_28 rfl (lv_at hl1 0 rfl) ?_
  refine lv_iushr (pc := 29) (v := ((xi0 : Int32).toUInt32 >>> ((24 : Int32).toUInt32 &&& Int32.toUInt32 31)).toInt32) hx hb dX11_feedFour_29 rfl ?_
  refine lv_sipush (pc := 30) (v := 255) hx hb dX11_feedFour_30 (by decide) ?_
  refine lv_iand (pc := 33) hx hb dX11_feedFour_33 ?_
  refine lv_i2c (pc := 34) (v := (((((xi0 : Int32).toUInt32 >>> ((24 : Int32).toUInt32 &&& Int32.toUInt32 31)).toInt32) &&& 255 : Int32).toUInt32 % 65536).toInt32) hx hb dX11_feedFour_34 rfl ?_
  refine va_cast (pc := 35) hx hb hK hP hD hS 1 1 rfl rfl (show ¬ ((12 : Int32) < 0 ∨ 2000 ≤ (12 : Int32).toNatClampNeg) by decide) dX11_feedFour_35 (fun H4 lo4 hP4r hD4r hS4 => ?_)
  have hP4 : va_P D classes [(ad0, ob 11 15 fn0), (ad1, ari (cy 1) 2000 (upd ct1 (12 : Int32).toNatClampNeg (vp_nar .char ((((((xi0 : Int32).toUInt32 >>> ((24 : Int32).toUInt32 &&& Int32.toUInt32 31)).toInt32) &&& 255 : Int32).toUInt32 % 65536).toInt32))))] H4 := hP4r
  have hD4 : va_D A [(ad0, ob 11 15 fn0), (ad1, ari (cy 1) 2000 (upd ct1 (12 : Int32).toNatClampNeg (vp_nar .char ((((((xi0 : Int32).toUInt32 >>> ((24 : Int32).toUInt32 &&& Int32.toUInt32 31)).toInt32) &&& 255 : Int32).toUInt32 % 65536).toInt32))))] := hD4r
  clear hP4r hD4r
  generalize (upd ct1 (12 : Int32).toNatClampNeg (vp_nar .char ((((((xi0 : Int32).toUInt32 >>> ((24 : Int32).toUInt32 &&& Int32.toUInt32 31)).toInt32) &&& 255 : Int32).toUInt32 % 65536).toInt32))) = nc5 at hP4 hD4
  clear hP hD hS
  refine lv_aload_n (pc := 36) hx hb dX11_feedFour_36 rfl (lv_at hl1 1 rfl) ?_
  refine lv_dup (pc := 37) hx hb dX11_feedFour_37 rfl ?_
  refine ob_get (pc := 38) (v := .int 12) (ci := 11) (C := RX11) (T := TX11) (N := 15) hx hb hG in_X11 hown hK hP4 0 rfl rfl 1 (by decide) (hG _ g_90) rfl h0_1 dX11_feedFour_38 ?_
  refine lv_iconst (pc := 41) (v := 1) hx hb dX11_feedFour_41 (by decide) ?_
  refine lv_iadd (pc := 42) hx hb dX11_feedFour_42 ?_
  refine tp_i (y := 13) (by decide) ?_
  refine ob_put (pc := 43) (v := .int 13) (ci := 11) (C := RX11) (T := TX11) (N := 15) hx hb hG in_X11 tyX11 tyX11_ok nmX11 hown hK hP4 hD4 hS4 0 rfl rfl 1 (by decide) (hG _ g_90) rfl rfl rfl rfl dX11_feedFour_43 (ws' := [(ad0, ob 11 15 (vup fn0 1 (.int 13))), (ad1, ari (cy 1) 2000 nc5)]) rfl (fun H6 lo6 hP6 hD6 hS6 => ?_)
  clear hP4 hD4 hS4
  clear H4 lo4
  refine lv_iinc (pc := 46) (v := 16) (lv' := [(2, .int 16), (0, .ref ad0), (1, .int xi0)]) hx hb dX11_feedFour_46 hl1 (k := 0) rfl (by decide) (by decide) rfl (fun ls7 hl7 => ?_)
  clear hl1 ls1
  refine lv_goto (pc := 49) (tgt := 3) hx hb dX11_feedFour_49 (by decide) ?_
  refine lv_iload_n (pc := 3) hx hb dX11_feedFour_3 rfl (lv_at hl7 0 rfl) ?_
  refine lv_if_lt (pc := 4) (tgt := 52) hx hb dX11_feedFour_4 (by decide) (fun c8 => absurd c8 (by decide)) (fun c8 => ?_)
  refine lv_aload_n (pc := 7) hx hb dX11_feedFour_7 rfl (lv_at hl7 1 rfl) ?_
  refine ob_get (pc := 8) (v := .int 13) (ci := 11) (C := RX11) (T := TX11) (N := 15) hx hb hG in_X11 hown hK hP6 0 rfl rfl 1 (by decide) (hG _ g_90) rfl rfl dX11_feedFour_8 ?_
  refine lv_aload_n (pc := 11) hx hb dX11_feedFour_11 rfl (lv_at hl7 1 rfl) ?_
  refine ob_get (pc := 12) (v := .ref ad1) (ci := 11) (C := RX11) (T := TX11) (N := 15) hx hb hG in_X11 hown hK hP6 0 rfl rfl 0 (by decide) (hG _ g_89) rfl h0_0 dX11_feedFour_12 ?_
  refine va_alen (pc := 15) hx hb hK hP6 1 1 rfl rfl (v := 2000) (show Int32.ofNat 2000 = 2000 by decide) dX11_feedFour_15 ?_
  refine lv_icmp_ge (pc := 16) (tgt := 52) hx hb dX11_feedFour_16 (by decide) (fun c9 => absurd c9 (by decide)) (fun c9 => ?_)
  refine lv_aload_n (pc := 19) hx hb dX11_feedFour_19 rfl (lv_at hl7 1 rfl) ?_
  refine ob_get (pc := 20) (v := .ref ad1) (ci := 11) (C := RX11) (T := TX11) (N := 15) hx hb hG in_X11 hown hK hP6 0 rfl rfl 0 (by decide) (hG _ g_89) rfl h0_0 dX11_feedFour_20 ?_
  refine lv_aload_n (pc := 23) hx hb dX11_feedFour_23 rfl (lv_at hl7 1 rfl) ?_
  refine ob_get (pc := 24) (v := .int 13) (ci := 11) (C := RX11) (T := TX11) (N := 15) hx hb hG in_X11 hown hK hP6 0 rfl rfl 1 (by decide) (hG _ g_90) rfl rfl dX11_feedFour_24 ?_
  refine lv_iload_n (pc := 27) hx hb dX11_feedFour_27 rfl (lv_at hl7 2 rfl) ?_
  refine lv_iload_n (pc := 28) hx hb dX11_feedFour_28 rfl (lv_at hl7 0 rfl) ?_
  refine lv_iushr (pc := 29) (v := ((xi0 : Int32).toUInt32 >>> ((16 : Int32).toUInt32 &&& Int32.toUInt32 31)).toInt32) hx hb dX11_feedFour_29 rfl ?_
  refine lv_sipush (pc := 30) (v := 255) hx hb dX11_feedFour_30 (by decide) ?_
  refine lv_iand (pc := 33) hx hb dX11_feedFour_33 ?_
  refine lv_i2c (pc := 34) (v := (((((xi0 : Int32).toUInt32 >>> ((16 : Int32).toUInt32 &&& Int32.toUInt32 31)).toInt32) &&& 255 : Int32).toUInt32 % 65536).toInt32) hx hb dX11_feedFour_34 rfl ?_
  refine va_cast (pc := 35) hx hb hK hP6 hD6 hS6 1 1 rfl rfl (show ¬ ((13 : Int32) < 0 ∨ 2000 ≤ (13 : Int32).toNatClampNeg) by decide) dX11_feedFour_35 (fun H10 lo10 hP10r hD10r hS10 => ?_)
  have hP10 : va_P D classes [(ad0, ob 11 15 (vup fn0 1 (.int 13))), (ad1, ari (cy 1) 2000 (upd nc5 (13 : Int32).toNatClampNeg (vp_nar .char ((((((xi0 : Int32).toUInt32 >>> ((16 : Int32).toUInt32 &&& Int32.toUInt32 31)).toInt32) &&& 255 : Int32).toUInt32 % 65536).toInt32))))] H10 := hP10r
  have hD10 : va_D A [(ad0, ob 11 15 (vup fn0 1 (.int 13))), (ad1, ari (cy 1) 2000 (upd nc5 (13 : Int32).toNatClampNeg (vp_nar .char ((((((xi0 : Int32).toUInt32 >>> ((16 : Int32).toUInt32 &&& Int32.toUInt32 31)).toInt32) &&& 255 : Int32).toUInt32 % 65536).toInt32))))] := hD10r
  clear hP10r hD10r
  generalize (upd nc5 (13 : Int32).toNatClampNeg (vp_nar .char ((((((xi0 : Int32).toUInt32 >>> ((16 : Int32).toUInt32 &&& Int32.toUInt32 31)).toInt32) &&& 255 : Int32).toUInt32 % 65536).toInt32))) = nc11 at hP10 hD10
  clear hP6 hD6 hS6
  clear H6 lo6
  refine lv_aload_n (pc := 36) hx hb dX11_feedFour_36 rfl (lv_at hl7 1 rfl) ?_
  refine lv_dup (pc := 37) hx hb dX11_feedFour_37 rfl ?_
  refine ob_get (pc := 38) (v := .int 13) (ci := 11) (C := RX11) (T := TX11) (N := 15) hx hb hG in_X11 hown hK hP10 0 rfl rfl 1 (by decide) (hG _ g_90) rfl rfl dX11_feedFour_38 ?_
  refine lv_iconst (pc := 41) (v := 1) hx hb dX11_feedFour_41 (by decide) ?_
  refine lv_iadd (pc := 42) hx hb dX11_feedFour_42 ?_
  refine tp_i (y := 14) (by decide) ?_
  refine ob_put (pc := 43) (v := .int 14) (ci := 11) (C := RX11) (T := TX11) (N := 15) hx hb hG in_X11 tyX11 tyX11_ok nmX11 hown hK hP10 hD10 hS10 0 rfl rfl 1 (by decide) (hG _ g_90) rfl rfl rfl rfl dX11_feedFour_43 (ws' := [(ad0, ob 11 15 (vup (vup fn0 1 (.int 13)) 1 (.int 14))), (ad1, ari (cy 1) 2000 nc11)]) rfl (fun H12 lo12 hP12 hD12 hS12 => ?_)
  clear hP10 hD10 hS10
  clear H10 lo10
  refine lv_iinc (pc := 46) (v := 8) (lv' := [(2, .int 8), (0, .ref ad0), (1, .int xi0)]) hx hb dX11_feedFour_46 hl7 (k := 0) rfl (by decide) (by decide) rfl (fun ls13 hl13 => ?_)
  clear hl7 ls7
  refine lv_goto (pc := 49) (tgt := 3) hx hb dX11_feedFour_49 (by decide) ?_
  refine lv_iload_n (pc := 3) hx hb dX11_feedFour_3 rfl (lv_at hl13 0 rfl) ?_
  refine lv_if_lt (pc := 4) (tgt := 52) hx hb dX11_feedFour_4 (by decide) (fun c14 => absurd c14 (by decide)) (fun c14 => ?_)
  refine lv_aload_n (pc := 7) hx hb dX11_feedFour_7 rfl (lv_at hl13 1 rfl) ?_
  refine ob_get (pc := 8) (v := .int 14) (ci := 11) (C := RX11) (T := TX11) (N := 15) hx hb hG in_X11 hown hK hP12 0 rfl rfl 1 (by decide) (hG _ g_90) rfl rfl dX11_feedFour_8 ?_
  refine lv_aload_n (pc := 11) hx hb dX11_feedFour_11 rfl (lv_at hl13 1 rfl) ?_
  refine ob_get (pc := 12) (v := .ref ad1) (ci := 11) (C := RX11) (T := TX11) (N := 15) hx hb hG in_X11 hown hK hP12 0 rfl rfl 0 (by decide) (hG _ g_89) rfl h0_0 dX11_feedFour_12 ?_
  refine va_alen (pc := 15) hx hb hK hP12 1 1 rfl rfl (v := 2000) (show Int32.ofNat 2000 = 2000 by decide) dX11_feedFour_15 ?_
  refine lv_icmp_ge (pc := 16) (tgt := 52) hx hb dX11_feedFour_16 (by decide) (fun c15 => absurd c15 (by decide)) (fun c15 => ?_)
  refine lv_aload_n (pc := 19) hx hb dX11_feedFour_19 rfl (lv_at hl13 1 rfl) ?_
  refine ob_get (pc := 20) (v := .ref ad1) (ci := 11) (C := RX11) (T := TX11) (N := 15) hx hb hG in_X11 hown hK hP12 0 rfl rfl 0 (by decide) (hG _ g_89) rfl h0_0 dX11_feedFour_20 ?_
  refine lv_aload_n (pc := 23) hx hb dX11_feedFour_23 rfl (lv_at hl13 1 rfl) ?_
  refine ob_get (pc := 24) (v := .int 14) (ci := 11) (C := RX11) (T := TX11) (N := 15) hx hb hG in_X11 hown hK hP12 0 rfl rfl 1 (by decide) (hG _ g_90) rfl rfl dX11_feedFour_24 ?_
  refine lv_iload_n (pc := 27) hx hb dX11_feedFour_27 rfl (lv_at hl13 2 rfl) ?_
  refine lv_iload_n (pc := 28) hx hb dX11_feedFour_28 rfl (lv_at hl13 0 rfl) ?_
  refine lv_iushr (pc := 29) (v := ((xi0 : Int32).toUInt32 >>> ((8 : Int32).toUInt32 &&& Int32.toUInt32 31)).toInt32) hx hb dX11_feedFour_29 rfl ?_
  refine lv_sipush (pc := 30) (v := 255) hx hb dX11_feedFour_30 (by decide) ?_
  refine lv_iand (pc := 33) hx hb dX11_feedFour_33 ?_
  refine lv_i2c (pc := 34) (v := (((((xi0 : Int32).toUInt32 >>> ((8 : Int32).toUInt32 &&& Int32.toUInt32 31)).toInt32) &&& 255 : Int32).toUInt32 % 65536).toInt32) hx hb dX11_feedFour_34 rfl ?_
  refine va_cast (pc := 35) hx hb hK hP12 hD12 hS12 1 1 rfl rfl (show ¬ ((14 : Int32) < 0 ∨ 2000 ≤ (14 : Int32).toNatClampNeg) by decide) dX11_feedFour_35 (fun H16 lo16 hP16r hD16r hS16 => ?_)
  have hP16 : va_P D classes [(ad0, ob 11 15 (vup (vup fn0 1 (.int 13)) 1 (.int 14))), (ad1, ari (cy 1) 2000 (upd nc11 (14 : Int32).toNatClampNeg (vp_nar .char ((((((xi0 : Int32).toUInt32 >>> ((8 : Int32).toUInt32 &&& Int32.toUInt32 31)).toInt32) &&& 255 : Int32).toUInt32 % 65536).toInt32))))] H16 := hP16r
  have hD16 : va_D A [(ad0, ob 11 15 (vup (vup fn0 1 (.int 13)) 1 (.int 14))), (ad1, ari (cy 1) 2000 (upd nc11 (14 : Int32).toNatClampNeg (vp_nar .char ((((((xi0 : Int32).toUInt32 >>> ((8 : Int32).toUInt32 &&& Int32.toUInt32 31)).toInt32) &&& 255 : Int32).toUInt32 % 65536).toInt32))))] := hD16r
  clear hP16r hD16r
  generalize (upd nc11 (14 : Int32).toNatClampNeg (vp_nar .char ((((((xi0 : Int32).toUInt32 >>> ((8 : Int32).toUInt32 &&& Int32.toUInt32 31)).toInt32) &&& 255 : Int32).toUInt32 % 65536).toInt32))) = nc17 at hP16 hD16
  clear hP12 hD12 hS12
  clear H12 lo12
  refine lv_aload_n (pc := 36) hx hb dX11_feedFour_36 rfl (lv_at hl13 1 rfl) ?_
  refine lv_dup (pc := 37) hx hb dX11_feedFour_37 rfl ?_
  refine ob_get (pc := 38) (v := .int 14) (ci := 11) (C := RX11) (T := TX11) (N := 15) hx hb hG in_X11 hown hK hP16 0 rfl rfl 1 (by decide) (hG _ g_90) rfl rfl dX11_feedFour_38 ?_
  refine lv_iconst (pc := 41) (v := 1) hx hb dX11_feedFour_41 (by decide) ?_
  refine lv_iadd (pc := 42) hx hb dX11_feedFour_42 ?_
  refine tp_i (y := 15) (by decide) ?_
  refine ob_put (pc := 43) (v := .int 15) (ci := 11) (C := RX11) (T := TX11) (N := 15) hx hb hG in_X11 tyX11 tyX11_ok nmX11 hown hK hP16 hD16 hS16 0 rfl rfl 1 (by decide) (hG _ g_90) rfl rfl rfl rfl dX11_feedFour_43 (ws' := [(ad0, ob 11 15 (vup (vup (vup fn0 1 (.int 13)) 1 (.int 14)) 1 (.int 15))), (ad1, ari (cy 1) 2000 nc17)]) rfl (fun H18 lo18 hP18 hD18 hS18 => ?_)
  clear hP16 hD16 hS16
  clear H16 lo16
  refine lv_iinc (pc := 46) (v := 0) (lv' := [(2, .int 0), (0, .ref ad0), (1, .int xi0)]) hx hb dX11_feedFour_46 hl13 (k := 0) rfl (by decide) (by decide) rfl (fun ls19 hl19 => ?_)
  clear hl13 ls13
  refine lv_goto (pc := 49) (tgt := 3) hx hb dX11_feedFour_49 (by decide) ?_
  refine lv_iload_n (pc := 3) hx hb dX11_feedFour_3 rfl (lv_at hl19 0 rfl) ?_
  refine lv_if_lt (pc := 4) (tgt := 52) hx hb dX11_feedFour_4 (by decide) (fun c20 => absurd c20 (by decide)) (fun c20 => ?_)
  refine lv_aload_n (pc := 7) hx hb dX11_feedFour_7 rfl (lv_at hl19 1 rfl) ?_
  refine ob_get (pc := 8) (v := .int 15) (ci := 11) (C := RX11) (T := TX11) (N := 15) hx hb hG in_X11 hown hK hP18 0 rfl rfl 1 (by decide) (hG _ g_90) rfl rfl dX11_feedFour_8 ?_
  refine lv_aload_n (pc := 11) hx hb dX11_feedFour_11 rfl (lv_at hl19 1 rfl) ?_
  refine ob_get (pc := 12) (v := .ref ad1) (ci := 11) (C := RX11) (T := TX11) (N := 15) hx hb hG in_X11 hown hK hP18 0 rfl rfl 0 (by decide) (hG _ g_89) rfl h0_0 dX11_feedFour_12 ?_
  refine va_alen (pc := 15) hx hb hK hP18 1 1 rfl rfl (v := 2000) (show Int32.ofNat 2000 = 2000 by decide) dX11_feedFour_15 ?_
  refine lv_icmp_ge (pc := 16) (tgt := 52) hx hb dX11_feedFour_16 (by decide) (fun c21 => absurd c21 (by decide)) (fun c21 => ?_)
  refine lv_aload_n (pc := 19) hx hb dX11_feedFour_19 rfl (lv_at hl19 1 rfl) ?_
  refine ob_get (pc := 20) (v := .ref ad1) (ci := 11) (C := RX11) (T := TX11) (N := 15) hx hb hG in_X11 hown hK hP18 0 rfl rfl 0 (by decide) (hG _ g_89) rfl h0_0 dX11_feedFour_20 ?_
  refine lv_aload_n (pc := 23) hx hb dX11_feedFour_23 rfl (lv_at hl19 1 rfl) ?_
  refine ob_get (pc := 24) (v := .int 15) (ci := 11) (C := RX11) (T := TX11) (N := 15) hx hb hG in_X11 hown hK hP18 0 rfl rfl 1 (by decide) (hG _ g_90) rfl rfl dX11_feedFour_24 ?_
  refine lv_iload_n (pc := 27) hx hb dX11_feedFour_27 rfl (lv_at hl19 2 rfl) ?_
  refine lv_iload_n (pc := 28) hx hb dX11_feedFour_28 rfl (lv_at hl19 0 rfl) ?_
  refine lv_iushr (pc := 29) (v := ((xi0 : Int32).toUInt32 >>> ((0 : Int32).toUInt32 &&& Int32.toUInt32 31)).toInt32) hx hb dX11_feedFour_29 rfl ?_
  refine lv_sipush (pc := 30) (v := 255) hx hb dX11_feedFour_30 (by decide) ?_
  refine lv_iand (pc := 33) hx hb dX11_feedFour_33 ?_
  refine lv_i2c (pc := 34) (v := (((((xi0 : Int32).toUInt32 >>> ((0 : Int32).toUInt32 &&& Int32.toUInt32 31)).toInt32) &&& 255 : Int32).toUInt32 % 65536).toInt32) hx hb dX11_feedFour_34 rfl ?_
  refine va_cast (pc := 35) hx hb hK hP18 hD18 hS18 1 1 rfl rfl (show ¬ ((15 : Int32) < 0 ∨ 2000 ≤ (15 : Int32).toNatClampNeg) by decide) dX11_feedFour_35 (fun H22 lo22 hP22r hD22r hS22 => ?_)
  have hP22 : va_P D classes [(ad0, ob 11 15 (vup (vup (vup fn0 1 (.int 13)) 1 (.int 14)) 1 (.int 15))), (ad1, ari (cy 1) 2000 (upd nc17 (15 : Int32).toNatClampNeg (vp_nar .char ((((((xi0 : Int32).toUInt32 >>> ((0 : Int32).toUInt32 &&& Int32.toUInt32 31)).toInt32) &&& 255 : Int32).toUInt32 % 65536).toInt32))))] H22 := hP22r
  have hD22 : va_D A [(ad0, ob 11 15 (vup (vup (vup fn0 1 (.int 13)) 1 (.int 14)) 1 (.int 15))), (ad1, ari (cy 1) 2000 (upd nc17 (15 : Int32).toNatClampNeg (vp_nar .char ((((((xi0 : Int32).toUInt32 >>> ((0 : Int32).toUInt32 &&& Int32.toUInt32 31)).toInt32) &&& 255 : Int32).toUInt32 % 65536).toInt32))))] := hD22r
  clear hP22r hD22r
  generalize (upd nc17 (15 : Int32).toNatClampNeg (vp_nar .char ((((((xi0 : Int32).toUInt32 >>> ((0 : Int32).toUInt32 &&& Int32.toUInt32 31)).toInt32) &&& 255 : Int32).toUInt32 % 65536).toInt32))) = nc23 at hP22 hD22
  clear hP18 hD18 hS18
  clear H18 lo18
  refine lv_aload_n (pc := 36) hx hb dX11_feedFour_36 rfl (lv_at hl19 1 rfl) ?_
  refine lv_dup (pc := 37) hx hb dX11_feedFour_37 rfl ?_
  refine ob_get (pc := 38) (v := .int 15) (ci := 11) (C := RX11) (T := TX11) (N := 15) hx hb hG in_X11 hown hK hP22 0 rfl rfl 1 (by decide) (hG _ g_90) rfl rfl dX11_feedFour_38 ?_
  refine lv_iconst (pc := 41) (v := 1) hx hb dX11_feedFour_41 (by decide) ?_
  refine lv_iadd (pc := 42) hx hb dX11_feedFour_42 ?_
  refine tp_i (y := 16) (by decide) ?_
  refine ob_put (pc := 43) (v := .int 16) (ci := 11) (C := RX11) (T := TX11) (N := 15) hx hb hG in_X11 tyX11 tyX11_ok nmX11 hown hK hP22 hD22 hS22 0 rfl rfl 1 (by decide) (hG _ g_90) rfl rfl rfl rfl dX11_feedFour_43 (ws' := [(ad0, ob 11 15 (vup (vup (vup (vup fn0 1 (.int 13)) 1 (.int 14)) 1 (.int 15)) 1 (.int 16))), (ad1, ari (cy 1) 2000 nc23)]) rfl (fun H24 lo24 hP24 hD24 hS24 => ?_)
  clear hP22 hD22 hS22
  clear H22 lo22
  refine lv_iinc (pc := 46) (v := (-8)) (lv' := [(2, .int (-8)), (0, .ref ad0), (1, .int xi0)]) hx hb dX11_feedFour_46 hl19 (k := 0) rfl (by decide) (by decide) rfl (fun ls25 hl25 => ?_)
  clear hl19 ls19
  refine lv_goto (pc := 49) (tgt := 3) hx hb dX11_feedFour_49 (by decide) ?_
  refine lv_iload_n (pc := 3) hx hb dX11_feedFour_3 rfl (lv_at hl25 0 rfl) ?_
  refine lv_if_lt (pc := 4) (tgt := 52) hx hb dX11_feedFour_4 (by decide) (fun c26 => ?_) (fun c26 => absurd (by decide) c26)
  exact W.vret (pc := 52) hx hb hr (fun t ht hW => ⟨⟨(), rfl, trivial, _, ⟨nc23, rfl⟩, by rw [ht]; exact hP24, hD24⟩, hS24.F ht⟩) hS24.2.2 dX11_feedFour_52
set_option maxHeartbeats 4000000 in
set_option maxRecDepth 100000 in
/-- X11_feedFour -/
theorem c_feedFour16 (l : Launch) (D : va_G) (cy : Nat → ClassId) (kv : KV) (sz : Nat) (ad0 : Nat) (xi0 : Int32) (fn0 : Nat → Value) (ad1 : Nat) (ct1 : Nat → Int32) (h0_0 : fn0 0 = .ref ad1) (h0_1 : fn0 1 = .int 16) : Met l yX11_feedFour (Cond.code yX11_feedFour cX11_feedFour 3 none :: GW) ({ frames := 8, cells := 0, slots := 0, locals := 120 } : Room) (va_Pc [.ref ad0, .int xi0] (pcq D cy kv sz [(ad0, ob 11 15 fn0), (ad1, ari (cy 1) 2000 ct1)])) (va_Qv (fun (_ : Unit) => True) (fun _ t => bq D (fun w => ∃ (nc900 : Nat → Int32), w = [(ad0, ob 11 15 (vup (vup (vup (vup fn0 1 (.int 17)) 1 (.int 18)) 1 (.int 19)) 1 (.int 20))), (ad1, ari (cy 1) 2000 nc900)]) (va_A [(ad0, ob 11 15 fn0), (ad1, ari (cy 1) 2000 ct1)] sz) t) (va_A [(ad0, ob 11 15 fn0), (ad1, ari (cy 1) 2000 ct1)] sz)) 0 0 (va_A [(ad0, ob 11 15 fn0), (ad1, ari (cy 1) 2000 ct1)] sz) := by
  refine Met.ofW (cc := cX11_feedFour) (maxL := 3) (ret := none) (by decide) rfl ?_
  intro p e s m args below meth c s₁ B hml hv
  obtain ⟨rfl, hsz, hP, hK, hD0, hE⟩ := hv
  have hx := B.exec
  have hb := B.bytes
  have hr := B.returns
  have hG : ∀ w ∈ GW, w.before ([.ref ad0, .int xi0] : List Value).toArray s = true := fun w h => atoms_spec (ws := Cond.code yX11_feedFour cX11_feedFour 3 none :: GW) B.pre w (List.mem_cons_of_mem _ h)
  have hown : s.vm.findClass RX11 = some m.cls := findClass_of_methodNamed B.named
  have hlocks := B.notSynchronized
  subst hsz
  have hD := hD0.self (sz := s.heap.size)
  generalize hAe : va_A [(ad0, ob 11 15 fn0), (ad1, ari (cy 1) 2000 ct1)] s.heap.size = A at hD hE ⊢
  have hA : ∀ q : Nat, s.heap.size ≤ q → A q := fun q h => by rw [← hAe]; exact Or.inr h
  have hS : va_S A s.heap s.heap [] := va_S.rf
  clear hAe hD0
  have hl0 := lv_entry ([.ref ad0, .int xi0]) (n := 3) (Nat.le_of_ble_eq_true rfl)
  rw [lg_entry_eq]
  generalize (lg_sl ([.ref ad0, .int xi0]) ++ List.replicate (3 - (lg_sl ([.ref ad0, .int xi0])).length) Slot.unset).toArray = ls at hl0 ⊢
  have hl : lv_has ls 3 [(0, .ref ad0), (1, .int xi0)] := hl0
  clear hl0
  refine lv_bipush (pc := 0) (v := 24) hx hb dX11_feedFour_0 (by decide) ?_
  refine lv_istore_n (pc := 2) (lv' := [(2, .int 24), (0, .ref ad0), (1, .int xi0)]) hx hb dX11_feedFour_2 rfl hl (by decide) rfl (fun ls1 hl1 => ?_)
  clear hl ls
  refine lv_iload_n (pc := 3) hx hb dX11_feedFour_3 rfl (lv_at hl1 0 rfl) ?_
  refine lv_if_lt (pc := 4) (tgt := 52) hx hb dX11_feedFour_4 (by decide) (fun c2 => absurd c2 (by decide)) (fun c2 => ?_)
  refine lv_aload_n (pc := 7) hx hb dX11_feedFour_7 rfl (lv_at hl1 1 rfl) ?_
  refine ob_get (pc := 8) (v := .int 16) (ci := 11) (C := RX11) (T := TX11) (N := 15) hx hb hG in_X11 hown hK hP 0 rfl rfl 1 (by decide) (hG _ g_90) rfl h0_1 dX11_feedFour_8 ?_
  refine lv_aload_n (pc := 11) hx hb dX11_feedFour_11 rfl (lv_at hl1 1 rfl) ?_
  refine ob_get (pc := 12) (v := .ref ad1) (ci := 11) (C := RX11) (T := TX11) (N := 15) hx hb hG in_X11 hown hK hP 0 rfl rfl 0 (by decide) (hG _ g_89) rfl h0_0 dX11_feedFour_12 ?_
  refine va_alen (pc := 15) hx hb hK hP 1 1 rfl rfl (v := 2000) (show Int32.ofNat 2000 = 2000 by decide) dX11_feedFour_15 ?_
  refine lv_icmp_ge (pc := 16) (tgt := 52) hx hb dX11_feedFour_16 (by decide) (fun c3 => absurd c3 (by decide)) (fun c3 => ?_)
  refine lv_aload_n (pc := 19) hx hb dX11_feedFour_19 rfl (lv_at hl1 1 rfl) ?_
  refine ob_get (pc := 20) (v := .ref ad1) (ci := 11) (C := RX11) (T := TX11) (N := 15) hx hb hG in_X11 hown hK hP 0 rfl rfl 0 (by decide) (hG _ g_89) rfl h0_0 dX11_feedFour_20 ?_
  refine lv_aload_n (pc := 23) hx hb dX11_feedFour_23 rfl (lv_at hl1 1 rfl) ?_
  refine ob_get (pc := 24) (v := .int 16) (ci := 11) (C := RX11) (T := TX11) (N := 15) hx hb hG in_X11 hown hK hP 0 rfl rfl 1 (by decide) (hG _ g_90) rfl h0_1 dX11_feedFour_24 ?_
  refine lv_iload_n (pc := 27) hx hb dX11_feedFour_27 rfl (lv_at hl1 2 rfl) ?_
  refine lv_iload_n (pc := 28) hx hb dX11_feedFour_28 rfl (lv_at hl1 0 rfl) ?_
  refine lv_iushr (pc := 29) (v := ((xi0 : Int32).toUInt32 >>> ((24 : Int32).toUInt32 &&& Int32.toUInt32 31)).toInt32) hx hb dX11_feedFour_29 rfl ?_
  refine lv_sipush (pc := 30) (v := 255) hx hb dX11_feedFour_30 (by decide) ?_
  refine lv_iand (pc := 33) hx hb dX11_feedFour_33 ?_
  refine lv_i2c (pc := 34) (v := (((((xi0 : Int32).toUInt32 >>> ((24 : Int32).toUInt32 &&& Int32.toUInt32 31)).toInt32) &&& 255 : Int32).toUInt32 % 65536).toInt32) hx hb dX11_feedFour_34 rfl ?_
  refine va_cast (pc := 35) hx hb hK hP hD hS 1 1 rfl rfl (show ¬ ((16 : Int32) < 0 ∨ 2000 ≤ (16 : Int32).toNatClampNeg) by decide) dX11_feedFour_35 (fun H4 lo4 hP4r hD4r hS4 => ?_)
  have hP4 : va_P D classes [(ad0, ob 11 15 fn0), (ad1, ari (cy 1) 2000 (upd ct1 (16 : Int32).toNatClampNeg (vp_nar .char ((((((xi0 : Int32).toUInt32 >>> ((24 : Int32).toUInt32 &&& Int32.toUInt32 31)).toInt32) &&& 255 : Int32).toUInt32 % 65536).toInt32))))] H4 := hP4r
  have hD4 : va_D A [(ad0, ob 11 15 fn0), (ad1, ari (cy 1) 2000 (upd ct1 (16 : Int32).toNatClampNeg (vp_nar .char ((((((xi0 : Int32).toUInt32 >>> ((24 : Int32).toUInt32 &&& Int32.toUInt32 31)).toInt32) &&& 255 : Int32).toUInt32 % 65536).toInt32))))] := hD4r
  clear hP4r hD4r
  generalize (upd ct1 (16 : Int32).toNatClampNeg (vp_nar .char ((((((xi0 : Int32).toUInt32 >>> ((24 : Int32).toUInt32 &&& Int32.toUInt32 31)).toInt32) &&& 255 : Int32).toUInt32 % 65536).toInt32))) = nc5 at hP4 hD4
  clear hP hD hS
  refine lv_aload_n (pc := 36) hx hb dX11_feedFour_36 rfl (lv_at hl1 1 rfl) ?_
  refine lv_dup (pc := 37) hx hb dX11_feedFour_37 rfl ?_
  refine ob_get (pc := 38) (v := .int 16) (ci := 11) (C := RX11) (T := TX11) (N := 15) hx hb hG in_X11 hown hK hP4 0 rfl rfl 1 (by decide) (hG _ g_90) rfl h0_1 dX11_feedFour_38 ?_
  refine lv_iconst (pc := 41) (v := 1) hx hb dX11_feedFour_41 (by decide) ?_
  refine lv_iadd (pc := 42) hx hb dX11_feedFour_42 ?_
  refine tp_i (y := 17) (by decide) ?_
  refine ob_put (pc := 43) (v := .int 17) (ci := 11) (C := RX11) (T := TX11) (N := 15) hx hb hG in_X11 tyX11 tyX11_ok nmX11 hown hK hP4 hD4 hS4 0 rfl rfl 1 (by decide) (hG _ g_90) rfl rfl rfl rfl dX11_feedFour_43 (ws' := [(ad0, ob 11 15 (vup fn0 1 (.int 17))), (ad1, ari (cy 1) 2000 nc5)]) rfl (fun H6 lo6 hP6 hD6 hS6 => ?_)
  clear hP4 hD4 hS4
  clear H4 lo4
  refine lv_iinc (pc := 46) (v := 16) (lv' := [(2, .int 16), (0, .ref ad0), (1, .int xi0)]) hx hb dX11_feedFour_46 hl1 (k := 0) rfl (by decide) (by decide) rfl (fun ls7 hl7 => ?_)
  clear hl1 ls1
  refine lv_goto (pc := 49) (tgt := 3) hx hb dX11_feedFour_49 (by decide) ?_
  refine lv_iload_n (pc := 3) hx hb dX11_feedFour_3 rfl (lv_at hl7 0 rfl) ?_
  refine lv_if_lt (pc := 4) (tgt := 52) hx hb dX11_feedFour_4 (by decide) (fun c8 => absurd c8 (by decide)) (fun c8 => ?_)
  refine lv_aload_n (pc := 7) hx hb dX11_feedFour_7 rfl (lv_at hl7 1 rfl) ?_
  refine ob_get (pc := 8) (v := .int 17) (ci := 11) (C := RX11) (T := TX11) (N := 15) hx hb hG in_X11 hown hK hP6 0 rfl rfl 1 (by decide) (hG _ g_90) rfl rfl dX11_feedFour_8 ?_
  refine lv_aload_n (pc := 11) hx hb dX11_feedFour_11 rfl (lv_at hl7 1 rfl) ?_
  refine ob_get (pc := 12) (v := .ref ad1) (ci := 11) (C := RX11) (T := TX11) (N := 15) hx hb hG in_X11 hown hK hP6 0 rfl rfl 0 (by decide) (hG _ g_89) rfl h0_0 dX11_feedFour_12 ?_
  refine va_alen (pc := 15) hx hb hK hP6 1 1 rfl rfl (v := 2000) (show Int32.ofNat 2000 = 2000 by decide) dX11_feedFour_15 ?_
  refine lv_icmp_ge (pc := 16) (tgt := 52) hx hb dX11_feedFour_16 (by decide) (fun c9 => absurd c9 (by decide)) (fun c9 => ?_)
  refine lv_aload_n (pc := 19) hx hb dX11_feedFour_19 rfl (lv_at hl7 1 rfl) ?_
  refine ob_get (pc := 20) (v := .ref ad1) (ci := 11) (C := RX11) (T := TX11) (N := 15) hx hb hG in_X11 hown hK hP6 0 rfl rfl 0 (by decide) (hG _ g_89) rfl h0_0 dX11_feedFour_20 ?_
  refine lv_aload_n (pc := 23) hx hb dX11_feedFour_23 rfl (lv_at hl7 1 rfl) ?_
  refine ob_get (pc := 24) (v := .int 17) (ci := 11) (C := RX11) (T := TX11) (N := 15) hx hb hG in_X11 hown hK hP6 0 rfl rfl 1 (by decide) (hG _ g_90) rfl rfl dX11_feedFour_24 ?_
  refine lv_iload_n (pc := 27) hx hb dX11_feedFour_27 rfl (lv_at hl7 2 rfl) ?_
  refine lv_iload_n (pc := 28) hx hb dX11_feedFour_28 rfl (lv_at hl7 0 rfl) ?_
  refine lv_iushr (pc := 29) (v := ((xi0 : Int32).toUInt32 >>> ((16 : Int32).toUInt32 &&& Int32.toUInt32 31)).toInt32) hx hb dX11_feedFour_29 rfl ?_
  refine lv_sipush (pc := 30) (v := 255) hx hb dX11_feedFour_30 (by decide) ?_
  refine lv_iand (pc := 33) hx hb dX11_feedFour_33 ?_
  refine lv_i2c (pc := 34) (v := (((((xi0 : Int32).toUInt32 >>> ((16 : Int32).toUInt32 &&& Int32.toUInt32 31)).toInt32) &&& 255 : Int32).toUInt32 % 65536).toInt32) hx hb dX11_feedFour_34 rfl ?_
  refine va_cast (pc := 35) hx hb hK hP6 hD6 hS6 1 1 rfl rfl (show ¬ ((17 : Int32) < 0 ∨ 2000 ≤ (17 : Int32).toNatClampNeg) by decide) dX11_feedFour_35 (fun H10 lo10 hP10r hD10r hS10 => ?_)
  have hP10 : va_P D classes [(ad0, ob 11 15 (vup fn0 1 (.int 17))), (ad1, ari (cy 1) 2000 (upd nc5 (17 : Int32).toNatClampNeg (vp_nar .char ((((((xi0 : Int32).toUInt32 >>> ((16 : Int32).toUInt32 &&& Int32.toUInt32 31)).toInt32) &&& 255 : Int32).toUInt32 % 65536).toInt32))))] H10 := hP10r
  have hD10 : va_D A [(ad0, ob 11 15 (vup fn0 1 (.int 17))), (ad1, ari (cy 1) 2000 (upd nc5 (17 : Int32).toNatClampNeg (vp_nar .char ((((((xi0 : Int32).toUInt32 >>> ((16 : Int32).toUInt32 &&& Int32.toUInt32 31)).toInt32) &&& 255 : Int32).toUInt32 % 65536).toInt32))))] := hD10r
  clear hP10r hD10r
  generalize (upd nc5 (17 : Int32).toNatClampNeg (vp_nar .char ((((((xi0 : Int32).toUInt32 >>> ((16 : Int32).toUInt32 &&& Int32.toUInt32 31)).toInt32) &&& 255 : Int32).toUInt32 % 65536).toInt32))) = nc11 at hP10 hD10
  clear hP6 hD6 hS6
  clear H6 lo6
  refine lv_aload_n (pc := 36) hx hb dX11_feedFour_36 rfl (lv_at hl7 1 rfl) ?_
  refine lv_dup (pc := 37) hx hb dX11_feedFour_37 rfl ?_
  refine ob_get (pc := 38) (v := .int 17) (ci := 11) (C := RX11) (T := TX11) (N := 15) hx hb hG in_X11 hown hK hP10 0 rfl rfl 1 (by decide) (hG _ g_90) rfl rfl dX11_feedFour_38 ?_
  refine lv_iconst (pc := 41) (v := 1) hx hb dX11_feedFour_41 (by decide) ?_
  refine lv_iadd (pc := 42) hx hb dX11_feedFour_42 ?_
  refine tp_i (y := 18) (by decide) ?_
  refine ob_put (pc := 43) (v := .int 18) (ci := 11) (C := RX11) (T := TX11) (N := 15) hx hb hG in_X11 tyX11 tyX11_ok nmX11 hown hK hP10 hD10 hS10 0 rfl rfl 1 (by decide) (hG _ g_90) rfl rfl rfl rfl dX11_feedFour_43 (ws' := [(ad0, ob 11 15 (vup (vup fn0 1 (.int 17)) 1 (.int 18))), (ad1, ari (cy 1) 2000 nc11)]) rfl (fun H12 lo12 hP12 hD12 hS12 => ?_)
  clear hP10 hD10 hS10
  clear H10 lo10
  refine lv_iinc (pc := 46) (v := 8) (lv' := [(2, .int 8), (0, .ref ad0), (1, .int xi0)]) hx hb dX11_feedFour_46 hl7 (k := 0) rfl (by decide) (by decide) rfl (fun ls13 hl13 => ?_)
  clear hl7 ls7
  refine lv_goto (pc := 49) (tgt := 3) hx hb dX11_feedFour_49 (by decide) ?_
  refine lv_iload_n (pc := 3) hx hb dX11_feedFour_3 rfl (lv_at hl13 0 rfl) ?_
  refine lv_if_lt (pc := 4) (tgt := 52) hx hb dX11_feedFour_4 (by decide) (fun c14 => absurd c14 (by decide)) (fun c14 => ?_)
  refine lv_aload_n (pc := 7) hx hb dX11_feedFour_7 rfl (lv_at hl13 1 rfl) ?_
  refine ob_get (pc := 8) (v := .int 18) (ci := 11) (C := RX11) (T := TX11) (N := 15) hx hb hG in_X11 hown hK hP12 0 rfl rfl 1 (by decide) (hG _ g_90) rfl rfl dX11_feedFour_8 ?_
  refine lv_aload_n (pc := 11) hx hb dX11_feedFour_11 rfl (lv_at hl13 1 rfl) ?_
  refine ob_get (pc := 12) (v := .ref ad1) (ci := 11) (C := RX11) (T := TX11) (N := 15) hx hb hG in_X11 hown hK hP12 0 rfl rfl 0 (by decide) (hG _ g_89) rfl h0_0 dX11_feedFour_12 ?_
  refine va_alen (pc := 15) hx hb hK hP12 1 1 rfl rfl (v := 2000) (show Int32.ofNat 2000 = 2000 by decide) dX11_feedFour_15 ?_
  refine lv_icmp_ge (pc := 16) (tgt := 52) hx hb dX11_feedFour_16 (by decide) (fun c15 => absurd c15 (by decide)) (fun c15 => ?_)
  refine lv_aload_n (pc := 19) hx hb dX11_feedFour_19 rfl (lv_at hl13 1 rfl) ?_
  refine ob_get (pc := 20) (v := .ref ad1) (ci := 11) (C := RX11) (T := TX11) (N := 15) hx hb hG in_X11 hown hK hP12 0 rfl rfl 0 (by decide) (hG _ g_89) rfl h0_0 dX11_feedFour_20 ?_
  refine lv_aload_n (pc := 23) hx hb dX11_feedFour_23 rfl (lv_at hl13 1 rfl) ?_
  refine ob_get (pc := 24) (v := .int 18) (ci := 11) (C := RX11) (T := TX11) (N := 15) hx hb hG in_X11 hown hK hP12 0 rfl rfl 1 (by decide) (hG _ g_90) rfl rfl dX11_feedFour_24 ?_
  refine lv_iload_n (pc := 27) hx hb dX11_feedFour_27 rfl (lv_at hl13 2 rfl) ?_
  refine lv_iload_n (pc := 28) hx hb dX11_feedFour_28 rfl (lv_at hl13 0 rfl) ?_
  refine lv_iushr (pc := 29) (v := ((xi0 : Int32).toUInt32 >>> ((8 : Int32).toUInt32 &&& Int32.toUInt32 31)).toInt32) hx hb dX11_feedFour_29 rfl ?_
  refine lv_sipush (pc := 30) (v := 255) hx hb dX11_feedFour_30 (by decide) ?_
  refine lv_iand (pc := 33) hx hb dX11_feedFour_33 ?_
  refine lv_i2c (pc := 34) (v := (((((xi0 : Int32).toUInt32 >>> ((8 : Int32).toUInt32 &&& Int32.toUInt32 31)).toInt32) &&& 255 : Int32).toUInt32 % 65536).toInt32) hx hb dX11_feedFour_34 rfl ?_
  refine va_cast (pc := 35) hx hb hK hP12 hD12 hS12 1 1 rfl rfl (show ¬ ((18 : Int32) < 0 ∨ 2000 ≤ (18 : Int32).toNatClampNeg) by decide) dX11_feedFour_35 (fun H16 lo16 hP16r hD16r hS16 => ?_)
  have hP16 : va_P D classes [(ad0, ob 11 15 (vup (vup fn0 1 (.int 17)) 1 (.int 18))), (ad1, ari (cy 1) 2000 (upd nc11 (18 : Int32).toNatClampNeg (vp_nar .char ((((((xi0 : Int32).toUInt32 >>> ((8 : Int32).toUInt32 &&& Int32.toUInt32 31)).toInt32) &&& 255 : Int32).toUInt32 % 65536).toInt32))))] H16 := hP16r
  have hD16 : va_D A [(ad0, ob 11 15 (vup (vup fn0 1 (.int 17)) 1 (.int 18))), (ad1, ari (cy 1) 2000 (upd nc11 (18 : Int32).toNatClampNeg (vp_nar .char ((((((xi0 : Int32).toUInt32 >>> ((8 : Int32).toUInt32 &&& Int32.toUInt32 31)).toInt32) &&& 255 : Int32).toUInt32 % 65536).toInt32))))] := hD16r
  clear hP16r hD16r
  generalize (upd nc11 (18 : Int32).toNatClampNeg (vp_nar .char ((((((xi0 : Int32).toUInt32 >>> ((8 : Int32).toUInt32 &&& Int32.toUInt32 31)).toInt32) &&& 255 : Int32).toUInt32 % 65536).toInt32))) = nc17 at hP16 hD16
  clear hP12 hD12 hS12
  clear H12 lo12
  refine lv_aload_n (pc := 36) hx hb dX11_feedFour_36 rfl (lv_at hl13 1 rfl) ?_
  refine lv_dup (pc := 37) hx hb dX11_feedFour_37 rfl ?_
  refine ob_get (pc := 38) (v := .int 18) (ci := 11) (C := RX11) (T := TX11) (N := 15) hx hb hG in_X11 hown hK hP16 0 rfl rfl 1 (by decide) (hG _ g_90) rfl rfl dX11_feedFour_38 ?_
  refine lv_iconst (pc := 41) (v := 1) hx hb dX11_feedFour_41 (by decide) ?_
  refine lv_iadd (pc := 42) hx hb dX11_feedFour_42 ?_
  refine tp_i (y := 19) (by decide) ?_
  refine ob_put (pc := 43) (v := .int 19) (ci := 11) (C := RX11) (T := TX11) (N := 15) hx hb hG in_X11 tyX11 tyX11_ok nmX11 hown hK hP16 hD16 hS16 0 rfl rfl 1 (by decide) (hG _ g_90) rfl rfl rfl rfl dX11_feedFour_43 (ws' := [(ad0, ob 11 15 (vup (vup (vup fn0 1 (.int 17)) 1 (.int 18)) 1 (.int 19))), (ad1, ari (cy 1) 2000 nc17)]) rfl (fun H18 lo18 hP18 hD18 hS18 => ?_)
  clear hP16 hD16 hS16
  clear H16 lo16
  refine lv_iinc (pc := 46) (v := 0) (lv' := [(2, .int 0), (0, .ref ad0), (1, .int xi0)]) hx hb dX11_feedFour_46 hl13 (k := 0) rfl (by decide) (by decide) rfl (fun ls19 hl19 => ?_)
  clear hl13 ls13
  refine lv_goto (pc := 49) (tgt := 3) hx hb dX11_feedFour_49 (by decide) ?_
  refine lv_iload_n (pc := 3) hx hb dX11_feedFour_3 rfl (lv_at hl19 0 rfl) ?_
  refine lv_if_lt (pc := 4) (tgt := 52) hx hb dX11_feedFour_4 (by decide) (fun c20 => absurd c20 (by decide)) (fun c20 => ?_)
  refine lv_aload_n (pc := 7) hx hb dX11_feedFour_7 rfl (lv_at hl19 1 rfl) ?_
  refine ob_get (pc := 8) (v := .int 19) (ci := 11) (C := RX11) (T := TX11) (N := 15) hx hb hG in_X11 hown hK hP18 0 rfl rfl 1 (by decide) (hG _ g_90) rfl rfl dX11_feedFour_8 ?_
  refine lv_aload_n (pc := 11) hx hb dX11_feedFour_11 rfl (lv_at hl19 1 rfl) ?_
  refine ob_get (pc := 12) (v := .ref ad1) (ci := 11) (C := RX11) (T := TX11) (N := 15) hx hb hG in_X11 hown hK hP18 0 rfl rfl 0 (by decide) (hG _ g_89) rfl h0_0 dX11_feedFour_12 ?_
  refine va_alen (pc := 15) hx hb hK hP18 1 1 rfl rfl (v := 2000) (show Int32.ofNat 2000 = 2000 by decide) dX11_feedFour_15 ?_
  refine lv_icmp_ge (pc := 16) (tgt := 52) hx hb dX11_feedFour_16 (by decide) (fun c21 => absurd c21 (by decide)) (fun c21 => ?_)
  refine lv_aload_n (pc := 19) hx hb dX11_feedFour_19 rfl (lv_at hl19 1 rfl) ?_
  refine ob_get (pc := 20) (v := .ref ad1) (ci := 11) (C := RX11) (T := TX11) (N := 15) hx hb hG in_X11 hown hK hP18 0 rfl rfl 0 (by decide) (hG _ g_89) rfl h0_0 dX11_feedFour_20 ?_
  refine lv_aload_n (pc := 23) hx hb dX11_feedFour_23 rfl (lv_at hl19 1 rfl) ?_
  refine ob_get (pc := 24) (v := .int 19) (ci := 11) (C := RX11) (T := TX11) (N := 15) hx hb hG in_X11 hown hK hP18 0 rfl rfl 1 (by decide) (hG _ g_90) rfl rfl dX11_feedFour_24 ?_
  refine lv_iload_n (pc := 27) hx hb dX11_feedFour_27 rfl (lv_at hl19 2 rfl) ?_
  refine lv_iload_n (pc := 28) hx hb dX11_feedFour_28 rfl (lv_at hl19 0 rfl) ?_
  refine lv_iushr (pc := 29) (v := ((xi0 : Int32).toUInt32 >>> ((0 : Int32).toUInt32 &&& Int32.toUInt32 31)).toInt32) hx hb dX11_feedFour_29 rfl ?_
  refine lv_sipush (pc := 30) (v := 255) hx hb dX11_feedFour_30 (by decide) ?_
  refine lv_iand (pc := 33) hx hb dX11_feedFour_33 ?_
  refine lv_i2c (pc := 34) (v := (((((xi0 : Int32).toUInt32 >>> ((0 : Int32).toUInt32 &&& Int32.toUInt32 31)).toInt32) &&& 255 : Int32).toUInt32 % 65536).toInt32) hx hb dX11_feedFour_34 rfl ?_
  refine va_cast (pc := 35) hx hb hK hP18 hD18 hS18 1 1 rfl rfl (show ¬ ((19 : Int32) < 0 ∨ 2000 ≤ (19 : Int32).toNatClampNeg) by decide) dX11_feedFour_35 (fun H22 lo22 hP22r hD22r hS22 => ?_)
  have hP22 : va_P D classes [(ad0, ob 11 15 (vup (vup (vup fn0 1 (.int 17)) 1 (.int 18)) 1 (.int 19))), (ad1, ari (cy 1) 2000 (upd nc17 (19 : Int32).toNatClampNeg (vp_nar .char ((((((xi0 : Int32).toUInt32 >>> ((0 : Int32).toUInt32 &&& Int32.toUInt32 31)).toInt32) &&& 255 : Int32).toUInt32 % 65536).toInt32))))] H22 := hP22r
  have hD22 : va_D A [(ad0, ob 11 15 (vup (vup (vup fn0 1 (.int 17)) 1 (.int 18)) 1 (.int 19))), (ad1, ari (cy 1) 2000 (upd nc17 (19 : Int32).toNatClampNeg (vp_nar .char ((((((xi0 : Int32).toUInt32 >>> ((0 : Int32).toUInt32 &&& Int32.toUInt32 31)).toInt32) &&& 255 : Int32).toUInt32 % 65536).toInt32))))] := hD22r
  clear hP22r hD22r
  generalize (upd nc17 (19 : Int32).toNatClampNeg (vp_nar .char ((((((xi0 : Int32).toUInt32 >>> ((0 : Int32).toUInt32 &&& Int32.toUInt32 31)).toInt32) &&& 255 : Int32).toUInt32 % 65536).toInt32))) = nc23 at hP22 hD22
  clear hP18 hD18 hS18
  clear H18 lo18
  refine lv_aload_n (pc := 36) hx hb dX11_feedFour_36 rfl (lv_at hl19 1 rfl) ?_
  refine lv_dup (pc := 37) hx hb dX11_feedFour_37 rfl ?_
  refine ob_get (pc := 38) (v := .int 19) (ci := 11) (C := RX11) (T := TX11) (N := 15) hx hb hG in_X11 hown hK hP22 0 rfl rfl 1 (by decide) (hG _ g_90) rfl rfl dX11_feedFour_38 ?_
  refine lv_iconst (pc := 41) (v := 1) hx hb dX11_feedFour_41 (by decide) ?_
  refine lv_iadd (pc := 42) hx hb dX11_feedFour_42 ?_
  refine tp_i (y := 20) (by decide) ?_
  refine ob_put (pc := 43) (v := .int 20) (ci := 11) (C := RX11) (T := TX11) (N := 15) hx hb hG in_X11 tyX11 tyX11_ok nmX11 hown hK hP22 hD22 hS22 0 rfl rfl 1 (by decide) (hG _ g_90) rfl rfl rfl rfl dX11_feedFour_43 (ws' := [(ad0, ob 11 15 (vup (vup (vup (vup fn0 1 (.int 17)) 1 (.int 18)) 1 (.int 19)) 1 (.int 20))), (ad1, ari (cy 1) 2000 nc23)]) rfl (fun H24 lo24 hP24 hD24 hS24 => ?_)
  clear hP22 hD22 hS22
  clear H22 lo22
  refine lv_iinc (pc := 46) (v := (-8)) (lv' := [(2, .int (-8)), (0, .ref ad0), (1, .int xi0)]) hx hb dX11_feedFour_46 hl19 (k := 0) rfl (by decide) (by decide) rfl (fun ls25 hl25 => ?_)
  clear hl19 ls19
  refine lv_goto (pc := 49) (tgt := 3) hx hb dX11_feedFour_49 (by decide) ?_
  refine lv_iload_n (pc := 3) hx hb dX11_feedFour_3 rfl (lv_at hl25 0 rfl) ?_
  refine lv_if_lt (pc := 4) (tgt := 52) hx hb dX11_feedFour_4 (by decide) (fun c26 => ?_) (fun c26 => absurd (by decide) c26)
  exact W.vret (pc := 52) hx hb hr (fun t ht hW => ⟨⟨(), rfl, trivial, _, ⟨nc23, rfl⟩, by rw [ht]; exact hP24, hD24⟩, hS24.F ht⟩) hS24.2.2 dX11_feedFour_52
set_option maxHeartbeats 4000000 in
set_option maxRecDepth 100000 in
/-- X11_feed -/
theorem c_feed (l : Launch) (D : va_G) (cy : Nat → ClassId) (kv : KV) (sz : Nat) (ad0 : Nat) (xi0 : Int32) (xi1 : Int32) (xi2 : Int32) (xi3 : Int32) (xi4 : Int32) (fn0 : Nat → Value) (ad1 : Nat) (ct1 : Nat → Int32) (h0_0 : fn0 0 = .ref ad1) (h0_1 : fn0 1 = .int 0) : Met l yX11_feed (Cond.code yX11_feed cX11_feed 6 (some .int) :: GW) ({ frames := 9, cells := 0, slots := 0, locals := 160 } : Room) (va_Pc [.ref ad0, .int xi0, .int xi1, .int xi2, .int xi3, .int xi4] (pcq D cy kv sz [(ad0, ob 11 15 fn0), (ad1, ari (cy 1) 2000 ct1)])) (va_Qi (fun r (_ : Unit) => r = 20) (fun _ t => bq D (fun w => ∃ (nc900 : Nat → Int32) (nc901 : Nat → Value), w = [(ad0, ob 11 15 nc901), (ad1, ari (cy 1) 2000 nc900)]) (va_A [(ad0, ob 11 15 fn0), (ad1, ari (cy 1) 2000 ct1)] sz) t) (va_A [(ad0, ob 11 15 fn0), (ad1, ari (cy 1) 2000 ct1)] sz)) 0 0 (va_A [(ad0, ob 11 15 fn0), (ad1, ari (cy 1) 2000 ct1)] sz) := by
  refine Met.ofW (cc := cX11_feed) (maxL := 6) (ret := (some .int)) (by decide) rfl ?_
  intro p e s m args below meth c s₁ B hml hv
  obtain ⟨rfl, hsz, hP, hK, hD0, hE⟩ := hv
  have hx := B.exec
  have hb := B.bytes
  have hr := B.returns
  have hG : ∀ w ∈ GW, w.before ([.ref ad0, .int xi0, .int xi1, .int xi2, .int xi3, .int xi4] : List Value).toArray s = true := fun w h => atoms_spec (ws := Cond.code yX11_feed cX11_feed 6 (some .int) :: GW) B.pre w (List.mem_cons_of_mem _ h)
  have hown : s.vm.findClass RX11 = some m.cls := findClass_of_methodNamed B.named
  have hlocks := B.notSynchronized
  subst hsz
  have hD := hD0.self (sz := s.heap.size)
  generalize hAe : va_A [(ad0, ob 11 15 fn0), (ad1, ari (cy 1) 2000 ct1)] s.heap.size = A at hD hE ⊢
  have hA : ∀ q : Nat, s.heap.size ≤ q → A q := fun q h => by rw [← hAe]; exact Or.inr h
  have hS : va_S A s.heap s.heap [] := va_S.rf
  clear hAe hD0
  have hl0 := lv_entry ([.ref ad0, .int xi0, .int xi1, .int xi2, .int xi3, .int xi4]) (n := 6) (Nat.le_of_ble_eq_true rfl)
  rw [lg_entry_eq]
  generalize (lg_sl ([.ref ad0, .int xi0, .int xi1, .int xi2, .int xi3, .int xi4]) ++ List.replicate (6 - (lg_sl ([.ref ad0, .int xi0, .int xi1, .int xi2, .int xi3, .int xi4])).length) Slot.unset).toArray = ls at hl0 ⊢
  have hl : lv_has ls 6 [(0, .ref ad0), (1, .int xi0), (2, .int xi1), (3, .int xi2), (4, .int xi3), (5, .int xi4)] := hl0
  clear hl0
  refine lv_aload_n (pc := 0) hx hb dX11_feed_0 rfl (lv_at hl 0 rfl) ?_
  refine ob_get (pc := 1) (v := .int 0) (ci := 11) (C := RX11) (T := TX11) (N := 15) hx hb hG in_X11 hown hK hP 0 rfl rfl 1 (by decide) (hG _ g_90) rfl h0_1 dX11_feed_1 ?_
  refine lv_bipush (pc := 4) (v := 20) hx hb dX11_feed_4 (by decide) ?_
  refine lv_iadd (pc := 6) hx hb dX11_feed_6 ?_
  refine tp_i (y := 20) (by decide) ?_
  refine lv_sipush (pc := 7) (v := 2000) hx hb dX11_feed_7 (by decide) ?_
  refine lv_icmp_le (pc := 10) (tgt := 15) hx hb dX11_feed_10 (by decide) (fun c1 => ?_) (fun c1 => absurd (by decide) c1)
  refine lv_aload_n (pc := 15) hx hb dX11_feed_15 rfl (lv_at hl 0 rfl) ?_
  refine lv_iload_n (pc := 16) hx hb dX11_feed_16 rfl (lv_at hl 1 rfl) ?_
  refine cq_v (pc := 17) (wr := []) (k2 := 0) (n2 := 0) (va_runV (As := [.int xi0]) (rest := []) ⟨hx, hb, hml, hown, hG⟩ (c_feedFour0 l D cy kv s.heap.size ad0 xi0 fn0 ad1 ct1 h0_0 h0_1) (cwV 1 hG (gi_V g_140 g_141 g_142 g_143 g_139) rfl rfl rfl (by decide +kernel) ⟨Nat.le_of_ble_eq_true rfl, Nat.le_of_ble_eq_true rfl⟩) ⟨pq_blind, (va_recv hK hP (ci := 11) (q0 := 0) rfl rfl), (pq_pass hP hD hK hE hS hA [0, 1] rfl (by decide))⟩ rfl rfl hl.1 rfl (lv_room (Nat.le_of_ble_eq_true rfl)) dX11_feed_17 ⟨Nat.le_of_ble_eq_true rfl, Nat.le_of_ble_eq_true rfl⟩) hP hD hS hA [0, 1] [] rfl rfl (by decide) (by decide) (by decide) (by decide) (fun w2 H2 lo2 hR2 hP2r hD2r hS2 => ?_)
  obtain ⟨nc2000, rfl⟩ := hR2
  have hP2 : va_P D classes [(ad0, ob 11 15 (vup (vup (vup (vup fn0 1 (.int 1)) 1 (.int 2)) 1 (.int 3)) 1 (.int 4))), (ad1, ari (cy 1) 2000 nc2000)] H2 := hP2r
  have hD2 : va_D A [(ad0, ob 11 15 (vup (vup (vup (vup fn0 1 (.int 1)) 1 (.int 2)) 1 (.int 3)) 1 (.int 4))), (ad1, ari (cy 1) 2000 nc2000)] := hD2r
  clear hP2r hD2r
  clear hP hD hS
  refine lv_aload_n (pc := 20) hx hb dX11_feed_20 rfl (lv_at hl 0 rfl) ?_
  refine lv_iload_n (pc := 21) hx hb dX11_feed_21 rfl (lv_at hl 2 rfl) ?_
  refine cq_v (pc := 22) (wr := []) (k2 := 0) (n2 := 0) (va_runV (As := [.int xi1]) (rest := []) ⟨hx, hb, hml, hown, hG⟩ (c_feedFour4 l D cy kv H2.size ad0 xi1 (vup (vup (vup (vup fn0 1 (.int 1)) 1 (.int 2)) 1 (.int 3)) 1 (.int 4)) ad1 nc2000 h0_0 rfl) (cwV 1 hG (gi_V g_140 g_141 g_142 g_143 g_139) rfl rfl rfl (by decide +kernel) ⟨Nat.le_of_ble_eq_true rfl, Nat.le_of_ble_eq_true rfl⟩) ⟨pq_blind, (va_recv hK hP2 (ci := 11) (q0 := 0) rfl rfl), (pq_pass hP2 hD2 hK hE hS2 hA [0, 1] rfl (by decide))⟩ rfl rfl hl.1 rfl (lv_room (Nat.le_of_ble_eq_true rfl)) dX11_feed_22 ⟨Nat.le_of_ble_eq_true rfl, Nat.le_of_ble_eq_true rfl⟩) hP2 hD2 hS2 hA [0, 1] [] rfl rfl (by decide) (by decide) (by decide) (by decide) (fun w3 H3 lo3 hR3 hP3r hD3r hS3 => ?_)
  obtain ⟨nc3000, rfl⟩ := hR3
  have hP3 : va_P D classes [(ad0, ob 11 15 (vup (vup (vup (vup (vup (vup (vup (vup fn0 1 (.int 1)) 1 (.int 2)) 1 (.int 3)) 1 (.int 4)) 1 (.int 5)) 1 (.int 6)) 1 (.int 7)) 1 (.int 8))), (ad1, ari (cy 1) 2000 nc3000)] H3 := hP3r
  have hD3 : va_D A [(ad0, ob 11 15 (vup (vup (vup (vup (vup (vup (vup (vup fn0 1 (.int 1)) 1 (.int 2)) 1 (.int 3)) 1 (.int 4)) 1 (.int 5)) 1 (.int 6)) 1 (.int 7)) 1 (.int 8))), (ad1, ari (cy 1) 2000 nc3000)] := hD3r
  clear hP3r hD3r
  clear hP2 hD2 hS2
  clear H2 lo2
  refine lv_aload_n (pc := 25) hx hb dX11_feed_25 rfl (lv_at hl 0 rfl) ?_
  refine lv_iload_n (pc := 26) hx hb dX11_feed_26 rfl (lv_at hl 3 rfl) ?_
  refine cq_v (pc := 27) (wr := []) (k2 := 0) (n2 := 0) (va_runV (As := [.int xi2]) (rest := []) ⟨hx, hb, hml, hown, hG⟩ (c_feedFour8 l D cy kv H3.size ad0 xi2 (vup (vup (vup (vup (vup (vup (vup (vup fn0 1 (.int 1)) 1 (.int 2)) 1 (.int 3)) 1 (.int 4)) 1 (.int 5)) 1 (.int 6)) 1 (.int 7)) 1 (.int 8)) ad1 nc3000 h0_0 rfl) (cwV 1 hG (gi_V g_140 g_141 g_142 g_143 g_139) rfl rfl rfl (by decide +kernel) ⟨Nat.le_of_ble_eq_true rfl, Nat.le_of_ble_eq_true rfl⟩) ⟨pq_blind, (va_recv hK hP3 (ci := 11) (q0 := 0) rfl rfl), (pq_pass hP3 hD3 hK hE hS3 hA [0, 1] rfl (by decide))⟩ rfl rfl hl.1 rfl (lv_room (Nat.le_of_ble_eq_true rfl)) dX11_feed_27 ⟨Nat.le_of_ble_eq_true rfl, Nat.le_of_ble_eq_true rfl⟩) hP3 hD3 hS3 hA [0, 1] [] rfl rfl (by decide) (by decide) (by decide) (by decide) (fun w4 H4 lo4 hR4 hP4r hD4r hS4 => ?_)
  obtain ⟨nc4000, rfl⟩ := hR4
  have hP4 : va_P D classes [(ad0, ob 11 15 (vup (vup (vup (vup (vup (vup (vup (vup (vup (vup (vup (vup fn0 1 (.int 1)) 1 (.int 2)) 1 (.int 3)) 1 (.int 4)) 1 (.int 5)) 1 (.int 6)) 1 (.int 7)) 1 (.int 8)) 1 (.int 9)) 1 (.int 10)) 1 (.int 11)) 1 (.int 12))), (ad1, ari (cy 1) 2000 nc4000)] H4 := hP4r
  have hD4 : va_D A [(ad0, ob 11 15 (vup (vup (vup (vup (vup (vup (vup (vup (vup (vup (vup (vup fn0 1 (.int 1)) 1 (.int 2)) 1 (.int 3)) 1 (.int 4)) 1 (.int 5)) 1 (.int 6)) 1 (.int 7)) 1 (.int 8)) 1 (.int 9)) 1 (.int 10)) 1 (.int 11)) 1 (.int 12))), (ad1, ari (cy 1) 2000 nc4000)] := hD4r
  clear hP4r hD4r
  clear hP3 hD3 hS3
  clear H3 lo3
  refine lv_aload_n (pc := 30) hx hb dX11_feed_30 rfl (lv_at hl 0 rfl) ?_
  refine lv_iload (pc := 31) hx hb dX11_feed_31 (lv_at hl 4 rfl) ?_
  refine cq_v (pc := 33) (wr := []) (k2 := 0) (n2 := 0) (va_runV (As := [.int xi3]) (rest := []) ⟨hx, hb, hml, hown, hG⟩ (c_feedFour12 l D cy kv H4.size ad0 xi3 (vup (vup (vup (vup (vup (vup (vup (vup (vup (vup (vup (vup fn0 1 (.int 1)) 1 (.int 2)) 1 (.int 3)) 1 (.int 4)) 1 (.int 5)) 1 (.int 6)) 1 (.int 7)) 1 (.int 8)) 1 (.int 9)) 1 (.int 10)) 1 (.int 11)) 1 (.int 12)) ad1 nc4000 h0_0 rfl) (cwV 1 hG (gi_V g_140 g_141 g_142 g_143 g_139) rfl rfl rfl (by decide +kernel) ⟨Nat.le_of_ble_eq_true rfl, Nat.le_of_ble_eq_true rfl⟩) ⟨pq_blind, (va_recv hK hP4 (ci := 11) (q0 := 0) rfl rfl), (pq_pass hP4 hD4 hK hE hS4 hA [0, 1] rfl (by decide))⟩ rfl rfl hl.1 rfl (lv_room (Nat.le_of_ble_eq_true rfl)) dX11_feed_33 ⟨Nat.le_of_ble_eq_true rfl, Nat.le_of_ble_eq_true rfl⟩) hP4 hD4 hS4 hA [0, 1] [] rfl rfl (by decide) (by decide) (by decide) (by decide) (fun w5 H5 lo5 hR5 hP5r hD5r hS5 => ?_)
  obtain ⟨nc5000, rfl⟩ := hR5
  have hP5 : va_P D classes [(ad0, ob 11 15 (vup (vup (vup (vup (vup (vup (vup (vup (vup (vup (vup (vup (vup (vup (vup (vup fn0 1 (.int 1)) 1 (.int 2)) 1 (.int 3)) 1 (.int 4)) 1 (.int 5)) 1 (.int 6)) 1 (.int 7)) 1 (.int 8)) 1 (.int 9)) 1 (.int 10)) 1 (.int 11)) 1 (.int 12)) 1 (.int 13)) 1 (.int 14)) 1 (.int 15)) 1 (.int 16))), (ad1, ari (cy 1) 2000 nc5000)] H5 := hP5r
  have hD5 : va_D A [(ad0, ob 11 15 (vup (vup (vup (vup (vup (vup (vup (vup (vup (vup (vup (vup (vup (vup (vup (vup fn0 1 (.int 1)) 1 (.int 2)) 1 (.int 3)) 1 (.int 4)) 1 (.int 5)) 1 (.int 6)) 1 (.int 7)) 1 (.int 8)) 1 (.int 9)) 1 (.int 10)) 1 (.int 11)) 1 (.int 12)) 1 (.int 13)) 1 (.int 14)) 1 (.int 15)) 1 (.int 16))), (ad1, ari (cy 1) 2000 nc5000)] := hD5r
  clear hP5r hD5r
  clear hP4 hD4 hS4
  clear H4 lo4
  refine lv_aload_n (pc := 36) hx hb dX11_feed_36 rfl (lv_at hl 0 rfl) ?_
  refine lv_iload (pc := 37) hx hb dX11_feed_37 (lv_at hl 5 rfl) ?_
  refine cq_v (pc := 39) (wr := []) (k2 := 0) (n2 := 0) (va_runV (As := [.int xi4]) (rest := []) ⟨hx, hb, hml, hown, hG⟩ (c_feedFour16 l D cy kv H5.size ad0 xi4 (vup (vup (vup (vup (vup (vup (vup (vup (vup (vup (vup (vup (vup (vup (vup (vup fn0 1 (.int 1)) 1 (.int 2)) 1 (.int 3)) 1 (.int 4)) 1 (.int 5)) 1 (.int 6)) 1 (.int 7)) 1 (.int 8)) 1 (.int 9)) 1 (.int 10)) 1 (.int 11)) 1 (.int 12)) 1 (.int 13)) 1 (.int 14)) 1 (.int 15)) 1 (.int 16)) ad1 nc5000 h0_0 rfl) (cwV 1 hG (gi_V g_140 g_141 g_142 g_143 g_139) rfl rfl rfl (by decide +kernel) ⟨Nat.le_of_ble_eq_true rfl, Nat.le_of_ble_eq_true rfl⟩) ⟨pq_blind, (va_recv hK hP5 (ci := 11) (q0 := 0) rfl rfl), (pq_pass hP5 hD5 hK hE hS5 hA [0, 1] rfl (by decide))⟩ rfl rfl hl.1 rfl (lv_room (Nat.le_of_ble_eq_true rfl)) dX11_feed_39 ⟨Nat.le_of_ble_eq_true rfl, Nat.le_of_ble_eq_true rfl⟩) hP5 hD5 hS5 hA [0, 1] [] rfl rfl (by decide) (by decide) (by decide) (by decide) (fun w6 H6 lo6 hR6 hP6r hD6r hS6 => ?_)
  obtain ⟨nc6000, rfl⟩ := hR6
  have hP6 : va_P D classes [(ad0, ob 11 15 (vup (vup (vup (vup (vup (vup (vup (vup (vup (vup (vup (vup (vup (vup (vup (vup (vup (vup (vup (vup fn0 1 (.int 1)) 1 (.int 2)) 1 (.int 3)) 1 (.int 4)) 1 (.int 5)) 1 (.int 6)) 1 (.int 7)) 1 (.int 8)) 1 (.int 9)) 1 (.int 10)) 1 (.int 11)) 1 (.int 12)) 1 (.int 13)) 1 (.int 14)) 1 (.int 15)) 1 (.int 16)) 1 (.int 17)) 1 (.int 18)) 1 (.int 19)) 1 (.int 20))), (ad1, ari (cy 1) 2000 nc6000)] H6 := hP6r
  have hD6 : va_D A [(ad0, ob 11 15 (vup (vup (vup (vup (vup (vup (vup (vup (vup (vup (vup (vup (vup (vup (vup (vup (vup (vup (vup (vup fn0 1 (.int 1)) 1 (.int 2)) 1 (.int 3)) 1 (.int 4)) 1 (.int 5)) 1 (.int 6)) 1 (.int 7)) 1 (.int 8)) 1 (.int 9)) 1 (.int 10)) 1 (.int 11)) 1 (.int 12)) 1 (.int 13)) 1 (.int 14)) 1 (.int 15)) 1 (.int 16)) 1 (.int 17)) 1 (.int 18)) 1 (.int 19)) 1 (.int 20))), (ad1, ari (cy 1) 2000 nc6000)] := hD6r
  clear hP6r hD6r
  clear hP5 hD5 hS5
  clear H5 lo5
  refine lv_aload_n (pc := 42) hx hb dX11_feed_42 rfl (lv_at hl 0 rfl) ?_
  refine ob_get (pc := 43) (v := .int 20) (ci := 11) (C := RX11) (T := TX11) (N := 15) hx hb hG in_X11 hown hK hP6 0 rfl rfl 1 (by decide) (hG _ g_90) rfl rfl dX11_feed_43 ?_
  exact W.iret (pc := 46) (v := 20) hx hb hr (fun t ht hW => ⟨⟨20, (), rfl, rfl, _, ⟨nc6000, (vup (vup (vup (vup (vup (vup (vup (vup (vup (vup (vup (vup (vup (vup (vup (vup (vup (vup (vup (vup fn0 1 (.int 1)) 1 (.int 2)) 1 (.int 3)) 1 (.int 4)) 1 (.int 5)) 1 (.int 6)) 1 (.int 7)) 1 (.int 8)) 1 (.int 9)) 1 (.int 10)) 1 (.int 11)) 1 (.int 12)) 1 (.int 13)) 1 (.int 14)) 1 (.int 15)) 1 (.int 16)) 1 (.int 17)) 1 (.int 18)) 1 (.int 19)) 1 (.int 20)), rfl⟩, by rw [ht]; exact hP6, hD6⟩, hS6.F ht⟩) hS6.2.2 dX11_feed_46
set_option maxHeartbeats 4000000 in
set_option maxRecDepth 100000 in
/-- X11_isOnTape -/
theorem c_isOnTape_z (l : Launch) (D : va_G) (cy : Nat → ClassId) (kv : KV) (sz : Nat) (ad0 : Nat) (fn0 : Nat → Value) (h0_1 : fn0 1 = .int 0) : Met l yX11_isOnTape (Cond.code yX11_isOnTape cX11_isOnTape 2 (some .boolean) :: GW) ({ frames := 8, cells := 0, slots := 0, locals := 120 } : Room) (va_Pc [.ref ad0, .int 0] (pcq D cy kv sz [(ad0, ob 11 15 fn0)])) (va_Qi (fun r (_ : Unit) => r = 1) (fun _ t => bq D (fun w => w = [(ad0, ob 11 15 fn0)]) (va_A [(ad0, ob 11 15 fn0)] sz) t) (va_A [(ad0, ob 11 15 fn0)] sz)) 0 0 (va_A [(ad0, ob 11 15 fn0)] sz) := by
  refine Met.ofW (cc := cX11_isOnTape) (maxL := 2) (ret := (some .boolean)) (by decide) rfl ?_
  intro p e s m args below meth c s₁ B hml hv
  obtain ⟨rfl, hsz, hP, hK, hD0, hE⟩ := hv
  have hx := B.exec
  have hb := B.bytes
  have hr := B.returns
  have hG : ∀ w ∈ GW, w.before ([.ref ad0, .int 0] : List Value).toArray s = true := fun w h => atoms_spec (ws := Cond.code yX11_isOnTape cX11_isOnTape 2 (some .boolean) :: GW) B.pre w (List.mem_cons_of_mem _ h)
  have hown : s.vm.findClass RX11 = some m.cls := findClass_of_methodNamed B.named
  have hlocks := B.notSynchronized
  subst hsz
  have hD := hD0.self (sz := s.heap.size)
  generalize hAe : va_A [(ad0, ob 11 15 fn0)] s.heap.size = A at hD hE ⊢
  have hA : ∀ q : Nat, s.heap.size ≤ q → A q := fun q h => by rw [← hAe]; exact Or.inr h
  have hS : va_S A s.heap s.heap [] := va_S.rf
  clear hAe hD0
  have hl0 := lv_entry ([.ref ad0, .int 0]) (n := 2) (Nat.le_of_ble_eq_true rfl)
  rw [lg_entry_eq]
  generalize (lg_sl ([.ref ad0, .int 0]) ++ List.replicate (2 - (lg_sl ([.ref ad0, .int 0])).length) Slot.unset).toArray = ls at hl0 ⊢
  have hl : lv_has ls 2 [(0, .ref ad0), (1, .int 0)] := hl0
  clear hl0
  refine lv_iload_n (pc := 0) hx hb dX11_isOnTape_0 rfl (lv_at hl 1 rfl) ?_
  refine lv_if_lt (pc := 1) (tgt := 16) hx hb dX11_isOnTape_1 (by decide) (fun c1 => absurd c1 (by decide)) (fun c1 => ?_)
  refine lv_iload_n (pc := 4) hx hb dX11_isOnTape_4 rfl (lv_at hl 1 rfl) ?_
  refine lv_aload_n (pc := 5) hx hb dX11_isOnTape_5 rfl (lv_at hl 0 rfl) ?_
  refine ob_get (pc := 6) (v := .int 0) (ci := 11) (C := RX11) (T := TX11) (N := 15) hx hb hG in_X11 hown hK hP 0 rfl rfl 1 (by decide) (hG _ g_90) rfl h0_1 dX11_isOnTape_6 ?_
  refine lv_icmp_gt (pc := 9) (tgt := 16) hx hb dX11_isOnTape_9 (by decide) (fun c2 => absurd c2 (by decide)) (fun c2 => ?_)
  refine lv_iconst (pc := 12) (v := 1) hx hb dX11_isOnTape_12 (by decide) ?_
  refine lv_goto (pc := 13) (tgt := 17) hx hb dX11_isOnTape_13 (by decide) ?_
  exact W.zret (pc := 17) (v := 1) (ty := .boolean) hx hb hr rfl (fun t ht hW => ⟨⟨1, (), rfl, rfl, _, rfl, by rw [ht]; exact hP, hD⟩, hS.F ht⟩) hS.2.2 dX11_isOnTape_17
set_option maxHeartbeats 4000000 in
set_option maxRecDepth 100000 in
/-- X11_isOnTape -/
theorem c_isOnTape_n (l : Launch) (D : va_G) (cy : Nat → ClassId) (kv : KV) (sz : Nat) (ad0 : Nat) (xi0 : Int32) (fn0 : Nat → Value) (h0_1 : fn0 1 = .int 0) (hn : xi0 < 0) : Met l yX11_isOnTape (Cond.code yX11_isOnTape cX11_isOnTape 2 (some .boolean) :: GW) ({ frames := 8, cells := 0, slots := 0, locals := 120 } : Room) (va_Pc [.ref ad0, .int xi0] (pcq D cy kv sz [(ad0, ob 11 15 fn0)])) (va_Qi (fun r (_ : Unit) => r = 0) (fun _ t => bq D (fun w => w = [(ad0, ob 11 15 fn0)]) (va_A [(ad0, ob 11 15 fn0)] sz) t) (va_A [(ad0, ob 11 15 fn0)] sz)) 0 0 (va_A [(ad0, ob 11 15 fn0)] sz) := by
  refine Met.ofW (cc := cX11_isOnTape) (maxL := 2) (ret := (some .boolean)) (by decide) rfl ?_
  intro p e s m args below meth c s₁ B hml hv
  obtain ⟨rfl, hsz, hP, hK, hD0, hE⟩ := hv
  have hx := B.exec
  have hb := B.bytes
  have hr := B.returns
  have hG : ∀ w ∈ GW, w.before ([.ref ad0, .int xi0] : List Value).toArray s = true := fun w h => atoms_spec (ws := Cond.code yX11_isOnTape cX11_isOnTape 2 (some .boolean) :: GW) B.pre w (List.mem_cons_of_mem _ h)
  have hown : s.vm.findClass RX11 = some m.cls := findClass_of_methodNamed B.named
  have hlocks := B.notSynchronized
  subst hsz
  have hD := hD0.self (sz := s.heap.size)
  generalize hAe : va_A [(ad0, ob 11 15 fn0)] s.heap.size = A at hD hE ⊢
  have hA : ∀ q : Nat, s.heap.size ≤ q → A q := fun q h => by rw [← hAe]; exact Or.inr h
  have hS : va_S A s.heap s.heap [] := va_S.rf
  clear hAe hD0
  have hl0 := lv_entry ([.ref ad0, .int xi0]) (n := 2) (Nat.le_of_ble_eq_true rfl)
  rw [lg_entry_eq]
  generalize (lg_sl ([.ref ad0, .int xi0]) ++ List.replicate (2 - (lg_sl ([.ref ad0, .int xi0])).length) Slot.unset).toArray = ls at hl0 ⊢
  have hl : lv_has ls 2 [(0, .ref ad0), (1, .int xi0)] := hl0
  clear hl0
  refine lv_iload_n (pc := 0) hx hb dX11_isOnTape_0 rfl (lv_at hl 1 rfl) ?_
  refine lv_if_lt (pc := 1) (tgt := 16) hx hb dX11_isOnTape_1 (by decide) (fun c1 => ?_) (fun c1 => absurd hn c1)
  refine lv_iconst (pc := 16) (v := 0) hx hb dX11_isOnTape_16 (by decide) ?_
  exact W.zret (pc := 17) (v := 0) (ty := .boolean) hx hb hr rfl (fun t ht hW => ⟨⟨0, (), rfl, rfl, _, rfl, by rw [ht]; exact hP, hD⟩, hS.F ht⟩) hS.2.2 dX11_isOnTape_17
set_option maxHeartbeats 4000000 in
set_option maxRecDepth 100000 in
/-- X11_isOnTape -/
theorem c_isOnTape_p (l : Launch) (D : va_G) (cy : Nat → ClassId) (kv : KV) (sz : Nat) (ad0 : Nat) (xi0 : Int32) (fn0 : Nat → Value) (h0_1 : fn0 1 = .int 0) (hn : 0 < xi0) : Met l yX11_isOnTape (Cond.code yX11_isOnTape cX11_isOnTape 2 (some .boolean) :: GW) ({ frames := 8, cells := 0, slots := 0, locals := 120 } : Room) (va_Pc [.ref ad0, .int xi0] (pcq D cy kv sz [(ad0, ob 11 15 fn0)])) (va_Qi (fun r (_ : Unit) => r = 0) (fun _ t => bq D (fun w => w = [(ad0, ob 11 15 fn0)]) (va_A [(ad0, ob 11 15 fn0)] sz) t) (va_A [(ad0, ob 11 15 fn0)] sz)) 0 0 (va_A [(ad0, ob 11 15 fn0)] sz) := by
  refine Met.ofW (cc := cX11_isOnTape) (maxL := 2) (ret := (some .boolean)) (by decide) rfl ?_
  intro p e s m args below meth c s₁ B hml hv
  obtain ⟨rfl, hsz, hP, hK, hD0, hE⟩ := hv
  have hx := B.exec
  have hb := B.bytes
  have hr := B.returns
  have hG : ∀ w ∈ GW, w.before ([.ref ad0, .int xi0] : List Value).toArray s = true := fun w h => atoms_spec (ws := Cond.code yX11_isOnTape cX11_isOnTape 2 (some .boolean) :: GW) B.pre w (List.mem_cons_of_mem _ h)
  have hown : s.vm.findClass RX11 = some m.cls := findClass_of_methodNamed B.named
  have hlocks := B.notSynchronized
  subst hsz
  have hD := hD0.self (sz := s.heap.size)
  generalize hAe : va_A [(ad0, ob 11 15 fn0)] s.heap.size = A at hD hE ⊢
  have hA : ∀ q : Nat, s.heap.size ≤ q → A q := fun q h => by rw [← hAe]; exact Or.inr h
  have hS : va_S A s.heap s.heap [] := va_S.rf
  clear hAe hD0
  have hl0 := lv_entry ([.ref ad0, .int xi0]) (n := 2) (Nat.le_of_ble_eq_true rfl)
  rw [lg_entry_eq]
  generalize (lg_sl ([.ref ad0, .int xi0]) ++ List.replicate (2 - (lg_sl ([.ref ad0, .int xi0])).length) Slot.unset).toArray = ls at hl0 ⊢
  have hl : lv_has ls 2 [(0, .ref ad0), (1, .int xi0)] := hl0
  clear hl0
  refine lv_iload_n (pc := 0) hx hb dX11_isOnTape_0 rfl (lv_at hl 1 rfl) ?_
  refine lv_if_lt (pc := 1) (tgt := 16) hx hb dX11_isOnTape_1 (by decide) (fun c1 => absurd c1 (i_asym hn)) (fun c1 => ?_)
  refine lv_iload_n (pc := 4) hx hb dX11_isOnTape_4 rfl (lv_at hl 1 rfl) ?_
  refine lv_aload_n (pc := 5) hx hb dX11_isOnTape_5 rfl (lv_at hl 0 rfl) ?_
  refine ob_get (pc := 6) (v := .int 0) (ci := 11) (C := RX11) (T := TX11) (N := 15) hx hb hG in_X11 hown hK hP 0 rfl rfl 1 (by decide) (hG _ g_90) rfl h0_1 dX11_isOnTape_6 ?_
  refine lv_icmp_gt (pc := 9) (tgt := 16) hx hb dX11_isOnTape_9 (by decide) (fun c2 => ?_) (fun c2 => absurd hn c2)
  refine lv_iconst (pc := 16) (v := 0) hx hb dX11_isOnTape_16 (by decide) ?_
  exact W.zret (pc := 17) (v := 0) (ty := .boolean) hx hb hr rfl (fun t ht hW => ⟨⟨0, (), rfl, rfl, _, rfl, by rw [ht]; exact hP, hD⟩, hS.F ht⟩) hS.2.2 dX11_isOnTape_17
set_option maxHeartbeats 4000000 in
set_option maxRecDepth 100000 in
/-- X11_isLineOnTape -/
theorem c_isLine_z (l : Launch) (D : va_G) (cy : Nat → ClassId) (kv : KV) (sz : Nat) (ad0 : Nat) (fn0 : Nat → Value) (h0_1 : fn0 1 = .int 0) : Met l yX11_isLineOnTape (Cond.code yX11_isLineOnTape cX11_isLineOnTape 2 (some .boolean) :: GW) ({ frames := 9, cells := 0, slots := 0, locals := 160 } : Room) (va_Pc [.ref ad0, .int 0] (pcq D cy kv sz [(ad0, ob 11 15 fn0)])) (va_Qi (fun r (_ : Unit) => r = 1) (fun _ t => bq D (fun w => w = [(ad0, ob 11 15 fn0)]) (va_A [(ad0, ob 11 15 fn0)] sz) t) (va_A [(ad0, ob 11 15 fn0)] sz)) 0 0 (va_A [(ad0, ob 11 15 fn0)] sz) := by
  refine Met.ofW (cc := cX11_isLineOnTape) (maxL := 2) (ret := (some .boolean)) (by decide) rfl ?_
  intro p e s m args below meth c s₁ B hml hv
  obtain ⟨rfl, hsz, hP, hK, hD0, hE⟩ := hv
  have hx := B.exec
  have hb := B.bytes
  have hr := B.returns
  have hG : ∀ w ∈ GW, w.before ([.ref ad0, .int 0] : List Value).toArray s = true := fun w h => atoms_spec (ws := Cond.code yX11_isLineOnTape cX11_isLineOnTape 2 (some .boolean) :: GW) B.pre w (List.mem_cons_of_mem _ h)
  have hown : s.vm.findClass RX11 = some m.cls := findClass_of_methodNamed B.named
  have hlocks := B.notSynchronized
  subst hsz
  have hD := hD0.self (sz := s.heap.size)
  generalize hAe : va_A [(ad0, ob 11 15 fn0)] s.heap.size = A at hD hE ⊢
  have hA : ∀ q : Nat, s.heap.size ≤ q → A q := fun q h => by rw [← hAe]; exact Or.inr h
  have hS : va_S A s.heap s.heap [] := va_S.rf
  clear hAe hD0
  have hl0 := lv_entry ([.ref ad0, .int 0]) (n := 2) (Nat.le_of_ble_eq_true rfl)
  rw [lg_entry_eq]
  generalize (lg_sl ([.ref ad0, .int 0]) ++ List.replicate (2 - (lg_sl ([.ref ad0, .int 0])).length) Slot.unset).toArray = ls at hl0 ⊢
  have hl : lv_has ls 2 [(0, .ref ad0), (1, .int 0)] := hl0
  clear hl0
  refine lv_aload_n (pc := 0) hx hb dX11_isLineOnTape_0 rfl (lv_at hl 0 rfl) ?_
  refine lv_iload_n (pc := 1) hx hb dX11_isLineOnTape_1 rfl (lv_at hl 1 rfl) ?_
  refine cq_i (pc := 2) (wr := []) (k2 := 0) (n2 := 0) (va_runV (As := [.int 0]) (rest := []) ⟨hx, hb, hml, hown, hG⟩ (c_isOnTape_z l D cy kv s.heap.size ad0 fn0 h0_1) (cwV 1 hG (gi_V g_146 g_147 g_148 g_143 g_145) rfl rfl rfl (by decide +kernel) ⟨Nat.le_of_ble_eq_true rfl, Nat.le_of_ble_eq_true rfl⟩) ⟨pq_blind, (va_recv hK hP (ci := 11) (q0 := 0) rfl rfl), (pq_pass hP hD hK hE hS hA [0] rfl (by decide))⟩ rfl rfl hl.1 rfl (lv_room (Nat.le_of_ble_eq_true rfl)) dX11_isLineOnTape_2 ⟨Nat.le_of_ble_eq_true rfl, Nat.le_of_ble_eq_true rfl⟩) hP hD hS hA [0] [] rfl rfl (by decide) (by decide) (by decide) (by decide) (fun r1 w1 H1 lo1 e1 hR1 hP1r hD1r hS1 => ?_)
  subst hR1
  subst e1
  have hP1 : va_P D classes [(ad0, ob 11 15 fn0)] H1 := hP1r
  have hD1 : va_D A [(ad0, ob 11 15 fn0)] := hD1r
  clear hP1r hD1r
  clear hP hD hS
  refine lv_if_eq (pc := 5) (tgt := 19) hx hb dX11_isLineOnTape_5 (by decide) (fun c2 => absurd c2 (by decide)) (fun c2 => ?_)
  refine lv_iload_n (pc := 8) hx hb dX11_isLineOnTape_8 rfl (lv_at hl 1 rfl) ?_
  refine lv_sipush (pc := 9) (v := 400) hx hb dX11_isLineOnTape_9 (by decide) ?_
  refine lv_icmp_gt (pc := 12) (tgt := 19) hx hb dX11_isLineOnTape_12 (by decide) (fun c3 => absurd c3 (by decide)) (fun c3 => ?_)
  refine lv_iconst (pc := 15) (v := 1) hx hb dX11_isLineOnTape_15 (by decide) ?_
  refine lv_goto (pc := 16) (tgt := 20) hx hb dX11_isLineOnTape_16 (by decide) ?_
  exact W.zret (pc := 20) (v := 1) (ty := .boolean) hx hb hr rfl (fun t ht hW => ⟨⟨1, (), rfl, rfl, _, rfl, by rw [ht]; exact hP1, hD1⟩, hS1.F ht⟩) hS1.2.2 dX11_isLineOnTape_20
set_option maxHeartbeats 4000000 in
set_option maxRecDepth 100000 in
/-- X11_isLineOnTape -/
theorem c_isLine_n (l : Launch) (D : va_G) (cy : Nat → ClassId) (kv : KV) (sz : Nat) (ad0 : Nat) (xi0 : Int32) (fn0 : Nat → Value) (h0_1 : fn0 1 = .int 0) (hn : xi0 < 0) : Met l yX11_isLineOnTape (Cond.code yX11_isLineOnTape cX11_isLineOnTape 2 (some .boolean) :: GW) ({ frames := 9, cells := 0, slots := 0, locals := 160 } : Room) (va_Pc [.ref ad0, .int xi0] (pcq D cy kv sz [(ad0, ob 11 15 fn0)])) (va_Qi (fun r (_ : Unit) => r = 0) (fun _ t => bq D (fun w => w = [(ad0, ob 11 15 fn0)]) (va_A [(ad0, ob 11 15 fn0)] sz) t) (va_A [(ad0, ob 11 15 fn0)] sz)) 0 0 (va_A [(ad0, ob 11 15 fn0)] sz) := by
  refine Met.ofW (cc := cX11_isLineOnTape) (maxL := 2) (ret := (some .boolean)) (by decide) rfl ?_
  intro p e s m args below meth c s₁ B hml hv
  obtain ⟨rfl, hsz, hP, hK, hD0, hE⟩ := hv
  have hx := B.exec
  have hb := B.bytes
  have hr := B.returns
  have hG : ∀ w ∈ GW, w.before ([.ref ad0, .int xi0] : List Value).toArray s = true := fun w h => atoms_spec (ws := Cond.code yX11_isLineOnTape cX11_isLineOnTape 2 (some .boolean) :: GW) B.pre w (List.mem_cons_of_mem _ h)
  have hown : s.vm.findClass RX11 = some m.cls := findClass_of_methodNamed B.named
  have hlocks := B.notSynchronized
  subst hsz
  have hD := hD0.self (sz := s.heap.size)
  generalize hAe : va_A [(ad0, ob 11 15 fn0)] s.heap.size = A at hD hE ⊢
  have hA : ∀ q : Nat, s.heap.size ≤ q → A q := fun q h => by rw [← hAe]; exact Or.inr h
  have hS : va_S A s.heap s.heap [] := va_S.rf
  clear hAe hD0
  have hl0 := lv_entry ([.ref ad0, .int xi0]) (n := 2) (Nat.le_of_ble_eq_true rfl)
  rw [lg_entry_eq]
  generalize (lg_sl ([.ref ad0, .int xi0]) ++ List.replicate (2 - (lg_sl ([.ref ad0, .int xi0])).length) Slot.unset).toArray = ls at hl0 ⊢
  have hl : lv_has ls 2 [(0, .ref ad0), (1, .int xi0)] := hl0
  clear hl0
  refine lv_aload_n (pc := 0) hx hb dX11_isLineOnTape_0 rfl (lv_at hl 0 rfl) ?_
  refine lv_iload_n (pc := 1) hx hb dX11_isLineOnTape_1 rfl (lv_at hl 1 rfl) ?_
  refine cq_i (pc := 2) (wr := []) (k2 := 0) (n2 := 0) (va_runV (As := [.int xi0]) (rest := []) ⟨hx, hb, hml, hown, hG⟩ (c_isOnTape_n l D cy kv s.heap.size ad0 xi0 fn0 h0_1 hn) (cwV 1 hG (gi_V g_146 g_147 g_148 g_143 g_145) rfl rfl rfl (by decide +kernel) ⟨Nat.le_of_ble_eq_true rfl, Nat.le_of_ble_eq_true rfl⟩) ⟨pq_blind, (va_recv hK hP (ci := 11) (q0 := 0) rfl rfl), (pq_pass hP hD hK hE hS hA [0] rfl (by decide))⟩ rfl rfl hl.1 rfl (lv_room (Nat.le_of_ble_eq_true rfl)) dX11_isLineOnTape_2 ⟨Nat.le_of_ble_eq_true rfl, Nat.le_of_ble_eq_true rfl⟩) hP hD hS hA [0] [] rfl rfl (by decide) (by decide) (by decide) (by decide) (fun r1 w1 H1 lo1 e1 hR1 hP1r hD1r hS1 => ?_)
  subst hR1
  subst e1
  have hP1 : va_P D classes [(ad0, ob 11 15 fn0)] H1 := hP1r
  have hD1 : va_D A [(ad0, ob 11 15 fn0)] := hD1r
  clear hP1r hD1r
  clear hP hD hS
  refine lv_if_eq (pc := 5) (tgt := 19) hx hb dX11_isLineOnTape_5 (by decide) (fun c2 => ?_) (fun c2 => absurd (by decide) c2)
  refine lv_iconst (pc := 19) (v := 0) hx hb dX11_isLineOnTape_19 (by decide) ?_
  exact W.zret (pc := 20) (v := 0) (ty := .boolean) hx hb hr rfl (fun t ht hW => ⟨⟨0, (), rfl, rfl, _, rfl, by rw [ht]; exact hP1, hD1⟩, hS1.F ht⟩) hS1.2.2 dX11_isLineOnTape_20
set_option maxHeartbeats 4000000 in
set_option maxRecDepth 100000 in
/-- X11_isLineOnTape -/
theorem c_isLine_p (l : Launch) (D : va_G) (cy : Nat → ClassId) (kv : KV) (sz : Nat) (ad0 : Nat) (xi0 : Int32) (fn0 : Nat → Value) (h0_1 : fn0 1 = .int 0) (hn : 0 < xi0) : Met l yX11_isLineOnTape (Cond.code yX11_isLineOnTape cX11_isLineOnTape 2 (some .boolean) :: GW) ({ frames := 9, cells := 0, slots := 0, locals := 160 } : Room) (va_Pc [.ref ad0, .int xi0] (pcq D cy kv sz [(ad0, ob 11 15 fn0)])) (va_Qi (fun r (_ : Unit) => r = 0) (fun _ t => bq D (fun w => w = [(ad0, ob 11 15 fn0)]) (va_A [(ad0, ob 11 15 fn0)] sz) t) (va_A [(ad0, ob 11 15 fn0)] sz)) 0 0 (va_A [(ad0, ob 11 15 fn0)] sz) := by
  refine Met.ofW (cc := cX11_isLineOnTape) (maxL := 2) (ret := (some .boolean)) (by decide) rfl ?_
  intro p e s m args below meth c s₁ B hml hv
  obtain ⟨rfl, hsz, hP, hK, hD0, hE⟩ := hv
  have hx := B.exec
  have hb := B.bytes
  have hr := B.returns
  have hG : ∀ w ∈ GW, w.before ([.ref ad0, .int xi0] : List Value).toArray s = true := fun w h => atoms_spec (ws := Cond.code yX11_isLineOnTape cX11_isLineOnTape 2 (some .boolean) :: GW) B.pre w (List.mem_cons_of_mem _ h)
  have hown : s.vm.findClass RX11 = some m.cls := findClass_of_methodNamed B.named
  have hlocks := B.notSynchronized
  subst hsz
  have hD := hD0.self (sz := s.heap.size)
  generalize hAe : va_A [(ad0, ob 11 15 fn0)] s.heap.size = A at hD hE ⊢
  have hA : ∀ q : Nat, s.heap.size ≤ q → A q := fun q h => by rw [← hAe]; exact Or.inr h
  have hS : va_S A s.heap s.heap [] := va_S.rf
  clear hAe hD0
  have hl0 := lv_entry ([.ref ad0, .int xi0]) (n := 2) (Nat.le_of_ble_eq_true rfl)
  rw [lg_entry_eq]
  generalize (lg_sl ([.ref ad0, .int xi0]) ++ List.replicate (2 - (lg_sl ([.ref ad0, .int xi0])).length) Slot.unset).toArray = ls at hl0 ⊢
  have hl : lv_has ls 2 [(0, .ref ad0), (1, .int xi0)] := hl0
  clear hl0
  refine lv_aload_n (pc := 0) hx hb dX11_isLineOnTape_0 rfl (lv_at hl 0 rfl) ?_
  refine lv_iload_n (pc := 1) hx hb dX11_isLineOnTape_1 rfl (lv_at hl 1 rfl) ?_
  refine cq_i (pc := 2) (wr := []) (k2 := 0) (n2 := 0) (va_runV (As := [.int xi0]) (rest := []) ⟨hx, hb, hml, hown, hG⟩ (c_isOnTape_p l D cy kv s.heap.size ad0 xi0 fn0 h0_1 hn) (cwV 1 hG (gi_V g_146 g_147 g_148 g_143 g_145) rfl rfl rfl (by decide +kernel) ⟨Nat.le_of_ble_eq_true rfl, Nat.le_of_ble_eq_true rfl⟩) ⟨pq_blind, (va_recv hK hP (ci := 11) (q0 := 0) rfl rfl), (pq_pass hP hD hK hE hS hA [0] rfl (by decide))⟩ rfl rfl hl.1 rfl (lv_room (Nat.le_of_ble_eq_true rfl)) dX11_isLineOnTape_2 ⟨Nat.le_of_ble_eq_true rfl, Nat.le_of_ble_eq_true rfl⟩) hP hD hS hA [0] [] rfl rfl (by decide) (by decide) (by decide) (by decide) (fun r1 w1 H1 lo1 e1 hR1 hP1r hD1r hS1 => ?_)
  subst hR1
  subst e1
  have hP1 : va_P D classes [(ad0, ob 11 15 fn0)] H1 := hP1r
  have hD1 : va_D A [(ad0, ob 11 15 fn0)] := hD1r
  clear hP1r hD1r
  clear hP hD hS
  refine lv_if_eq (pc := 5) (tgt := 19) hx hb dX11_isLineOnTape_5 (by decide) (fun c2 => ?_) (fun c2 => absurd (by decide) c2)
  refine lv_iconst (pc := 19) (v := 0) hx hb dX11_isLineOnTape_19 (by decide) ?_
  exact W.zret (pc := 20) (v := 0) (ty := .boolean) hx hb hr rfl (fun t ht hW => ⟨⟨0, (), rfl, rfl, _, rfl, by rw [ht]; exact hP1, hD1⟩, hS1.F ht⟩) hS1.2.2 dX11_isLineOnTape_20
set_option maxHeartbeats 4000000 in
set_option maxRecDepth 100000 in
/-- X11_isSortOfRows -/
theorem c_isSort_n (l : Launch) (D : va_G) (cy : Nat → ClassId) (kv : KV) (sz : Nat) (xi0 : Int32) (hn : xi0 < 0) : Met l yX11_isSortOfRows (Cond.code yX11_isSortOfRows cX11_isSortOfRows 1 (some .boolean) :: GW) ({ frames := 8, cells := 0, slots := 0, locals := 120 } : Room) (va_Pc [.int xi0] (pcq D cy kv sz [])) (va_Qi (fun r (_ : Unit) => r = 0) (fun _ t => bq D (fun w => w = []) (va_A [] sz) t) (va_A [] sz)) 0 0 (va_A [] sz) := by
  refine Met.ofW (cc := cX11_isSortOfRows) (maxL := 1) (ret := (some .boolean)) (by decide) rfl ?_
  intro p e s m args below meth c s₁ B hml hv
  obtain ⟨rfl, hsz, hP, hK, hD0, hE⟩ := hv
  have hx := B.exec
  have hb := B.bytes
  have hr := B.returns
  have hG : ∀ w ∈ GW, w.before ([.int xi0] : List Value).toArray s = true := fun w h => atoms_spec (ws := Cond.code yX11_isSortOfRows cX11_isSortOfRows 1 (some .boolean) :: GW) B.pre w (List.mem_cons_of_mem _ h)
  have hown : s.vm.findClass RX11 = some m.cls := findClass_of_methodNamed B.named
  have hlocks := B.notSynchronized
  subst hsz
  have hD := hD0.self (sz := s.heap.size)
  generalize hAe : va_A [] s.heap.size = A at hD hE ⊢
  have hA : ∀ q : Nat, s.heap.size ≤ q → A q := fun q h => by rw [← hAe]; exact Or.inr h
  have hS : va_S A s.heap s.heap [] := va_S.rf
  clear hAe hD0
  have hl0 := lv_entry ([.int xi0]) (n := 1) (Nat.le_of_ble_eq_true rfl)
  rw [lg_entry_eq]
  generalize (lg_sl ([.int xi0]) ++ List.replicate (1 - (lg_sl ([.int xi0])).length) Slot.unset).toArray = ls at hl0 ⊢
  have hl : lv_has ls 1 [(0, .int xi0)] := hl0
  clear hl0
  refine lv_iload_n (pc := 0) hx hb dX11_isSortOfRows_0 rfl (lv_at hl 0 rfl) ?_
  refine lv_if_lt (pc := 1) (tgt := 13) hx hb dX11_isSortOfRows_1 (by decide) (fun c1 => ?_) (fun c1 => absurd hn c1)
  refine lv_iconst (pc := 13) (v := 0) hx hb dX11_isSortOfRows_13 (by decide) ?_
  exact W.zret (pc := 14) (v := 0) (ty := .boolean) hx hb hr rfl (fun t ht hW => ⟨⟨0, (), rfl, rfl, _, rfl, by rw [ht]; exact hP, hD⟩, hS.F ht⟩) hS.2.2 dX11_isSortOfRows_14
set_option maxHeartbeats 4000000 in
set_option maxRecDepth 100000 in
/-- X11_isSortOfRows -/
theorem c_isSort_b (l : Launch) (D : va_G) (cy : Nat → ClassId) (kv : KV) (sz : Nat) (xi0 : Int32) (hn : 3 ≤ xi0) : Met l yX11_isSortOfRows (Cond.code yX11_isSortOfRows cX11_isSortOfRows 1 (some .boolean) :: GW) ({ frames := 8, cells := 0, slots := 0, locals := 120 } : Room) (va_Pc [.int xi0] (pcq D cy kv sz [])) (va_Qi (fun r (_ : Unit) => r = 0) (fun _ t => bq D (fun w => w = []) (va_A [] sz) t) (va_A [] sz)) 0 0 (va_A [] sz) := by
  refine Met.ofW (cc := cX11_isSortOfRows) (maxL := 1) (ret := (some .boolean)) (by decide) rfl ?_
  intro p e s m args below meth c s₁ B hml hv
  obtain ⟨rfl, hsz, hP, hK, hD0, hE⟩ := hv
  have hx := B.exec
  have hb := B.bytes
  have hr := B.returns
  have hG : ∀ w ∈ GW, w.before ([.int xi0] : List Value).toArray s = true := fun w h => atoms_spec (ws := Cond.code yX11_isSortOfRows cX11_isSortOfRows 1 (some .boolean) :: GW) B.pre w (List.mem_cons_of_mem _ h)
  have hown : s.vm.findClass RX11 = some m.cls := findClass_of_methodNamed B.named
  have hlocks := B.notSynchronized
  subst hsz
  have hD := hD0.self (sz := s.heap.size)
  generalize hAe : va_A [] s.heap.size = A at hD hE ⊢
  have hA : ∀ q : Nat, s.heap.size ≤ q → A q := fun q h => by rw [← hAe]; exact Or.inr h
  have hS : va_S A s.heap s.heap [] := va_S.rf
  clear hAe hD0
  have hl0 := lv_entry ([.int xi0]) (n := 1) (Nat.le_of_ble_eq_true rfl)
  rw [lg_entry_eq]
  generalize (lg_sl ([.int xi0]) ++ List.replicate (1 - (lg_sl ([.int xi0])).length) Slot.unset).toArray = ls at hl0 ⊢
  have hl : lv_has ls 1 [(0, .int xi0)] := hl0
  clear hl0
  refine lv_iload_n (pc := 0) hx hb dX11_isSortOfRows_0 rfl (lv_at hl 0 rfl) ?_
  refine lv_if_lt (pc := 1) (tgt := 13) hx hb dX11_isSortOfRows_1 (by decide) (fun c1 => absurd c1 (i_ge3 hn)) (fun c1 => ?_)
  refine lv_iload_n (pc := 4) hx hb dX11_isSortOfRows_4 rfl (lv_at hl 0 rfl) ?_
  refine lv_iconst (pc := 5) (v := 3) hx hb dX11_isSortOfRows_5 (by decide) ?_
  refine lv_icmp_ge (pc := 6) (tgt := 13) hx hb dX11_isSortOfRows_6 (by decide) (fun c2 => ?_) (fun c2 => absurd hn c2)
  refine lv_iconst (pc := 13) (v := 0) hx hb dX11_isSortOfRows_13 (by decide) ?_
  exact W.zret (pc := 14) (v := 0) (ty := .boolean) hx hb hr rfl (fun t ht hW => ⟨⟨0, (), rfl, rfl, _, rfl, by rw [ht]; exact hP, hD⟩, hS.F ht⟩) hS.2.2 dX11_isSortOfRows_14
set_option maxHeartbeats 4000000 in
set_option maxRecDepth 100000 in
/-- X11_isSortOfRows -/
theorem c_isSort_k (l : Launch) (D : va_G) (cy : Nat → ClassId) (kv : KV) (sz : Nat) (xi0 : Int32) (hn : 0 ≤ xi0) (hm : xi0 < 3) : Met l yX11_isSortOfRows (Cond.code yX11_isSortOfRows cX11_isSortOfRows 1 (some .boolean) :: GW) ({ frames := 8, cells := 0, slots := 0, locals := 120 } : Room) (va_Pc [.int xi0] (pcq D cy kv sz [])) (va_Qi (fun r (_ : Unit) => r = 1) (fun _ t => bq D (fun w => w = []) (va_A [] sz) t) (va_A [] sz)) 0 0 (va_A [] sz) := by
  refine Met.ofW (cc := cX11_isSortOfRows) (maxL := 1) (ret := (some .boolean)) (by decide) rfl ?_
  intro p e s m args below meth c s₁ B hml hv
  obtain ⟨rfl, hsz, hP, hK, hD0, hE⟩ := hv
  have hx := B.exec
  have hb := B.bytes
  have hr := B.returns
  have hG : ∀ w ∈ GW, w.before ([.int xi0] : List Value).toArray s = true := fun w h => atoms_spec (ws := Cond.code yX11_isSortOfRows cX11_isSortOfRows 1 (some .boolean) :: GW) B.pre w (List.mem_cons_of_mem _ h)
  have hown : s.vm.findClass RX11 = some m.cls := findClass_of_methodNamed B.named
  have hlocks := B.notSynchronized
  subst hsz
  have hD := hD0.self (sz := s.heap.size)
  generalize hAe : va_A [] s.heap.size = A at hD hE ⊢
  have hA : ∀ q : Nat, s.heap.size ≤ q → A q := fun q h => by rw [← hAe]; exact Or.inr h
  have hS : va_S A s.heap s.heap [] := va_S.rf
  clear hAe hD0
  have hl0 := lv_entry ([.int xi0]) (n := 1) (Nat.le_of_ble_eq_true rfl)
  rw [lg_entry_eq]
  generalize (lg_sl ([.int xi0]) ++ List.replicate (1 - (lg_sl ([.int xi0])).length) Slot.unset).toArray = ls at hl0 ⊢
  have hl : lv_has ls 1 [(0, .int xi0)] := hl0
  clear hl0
  refine lv_iload_n (pc := 0) hx hb dX11_isSortOfRows_0 rfl (lv_at hl 0 rfl) ?_
  refine lv_if_lt (pc := 1) (tgt := 13) hx hb dX11_isSortOfRows_1 (by decide) (fun c1 => absurd c1 (i_nlt hn)) (fun c1 => ?_)
  refine lv_iload_n (pc := 4) hx hb dX11_isSortOfRows_4 rfl (lv_at hl 0 rfl) ?_
  refine lv_iconst (pc := 5) (v := 3) hx hb dX11_isSortOfRows_5 (by decide) ?_
  refine lv_icmp_ge (pc := 6) (tgt := 13) hx hb dX11_isSortOfRows_6 (by decide) (fun c2 => absurd c2 (i_nle hm)) (fun c2 => ?_)
  refine lv_iconst (pc := 9) (v := 1) hx hb dX11_isSortOfRows_9 (by decide) ?_
  refine lv_goto (pc := 10) (tgt := 14) hx hb dX11_isSortOfRows_10 (by decide) ?_
  exact W.zret (pc := 14) (v := 1) (ty := .boolean) hx hb hr rfl (fun t ht hW => ⟨⟨1, (), rfl, rfl, _, rfl, by rw [ht]; exact hP, hD⟩, hS.F ht⟩) hS.2.2 dX11_isSortOfRows_14
set_option maxHeartbeats 4000000 in
set_option maxRecDepth 100000 in
/-- X11_describe throws -/
theorem x_describe_n (l : Launch) (hst0 : l.stackTraces = false) (D : va_G) (cy : Nat → ClassId) (kv : KV) (sz : Nat) (ad0 : Nat) (xi0 : Int32) (fn0 : Nat → Value) (h0_1 : fn0 1 = .int 0) (hn : xi0 < 0) : vx_Met l yX11_describe (Cond.code yX11_describe cX11_describe 2 (some .int) :: GW) ({ frames := 10, cells := 1, slots := 6, locals := 200 } : Room) (va_Pc [.ref ad0, .int xi0] (pcq D cy kv sz [(ad0, ob 11 15 fn0)])) (va_Qv (fun (_ : Unit) => False) (fun _ _ => True) (fun _ => False)) (vx_X (fun (_ : Unit) => True) (fun E _ t => E = "java/lang/IllegalArgumentException" ∧ bq D (fun w => w = [(ad0, ob 11 15 fn0)]) (va_A [(ad0, ob 11 15 fn0)] sz) t) (va_A [(ad0, ob 11 15 fn0)] sz)) 1 6 (va_A [(ad0, ob 11 15 fn0)] sz) := by
  refine vx_ofW (cc := cX11_describe) (maxL := 2) (ret := (some .int)) (by decide) rfl ?_
  intro p e s m args below meth c s₁ B hml htb hv
  obtain ⟨rfl, hsz, hP, hK, hD0, hE⟩ := hv
  have hx := B.exec
  have hb := B.bytes
  have hr := B.returns
  have hG : ∀ w ∈ GW, w.before ([.ref ad0, .int xi0] : List Value).toArray s = true := fun w h => atoms_spec (ws := Cond.code yX11_describe cX11_describe 2 (some .int) :: GW) B.pre w (List.mem_cons_of_mem _ h)
  have hown : s.vm.findClass RX11 = some m.cls := findClass_of_methodNamed B.named
  have hlocks := B.notSynchronized
  subst hsz
  have hD := hD0.self (sz := s.heap.size)
  generalize hAe : va_A [(ad0, ob 11 15 fn0)] s.heap.size = A at hD hE ⊢
  have hA : ∀ q : Nat, s.heap.size ≤ q → A q := fun q h => by rw [← hAe]; exact Or.inr h
  have hS : va_S A s.heap s.heap [] := va_S.rf
  clear hAe hD0
  have hl0 := lv_entry ([.ref ad0, .int xi0]) (n := 2) (Nat.le_of_ble_eq_true rfl)
  rw [lg_entry_eq]
  generalize (lg_sl ([.ref ad0, .int xi0]) ++ List.replicate (2 - (lg_sl ([.ref ad0, .int xi0])).length) Slot.unset).toArray = ls at hl0 ⊢
  have hl : lv_has ls 2 [(0, .ref ad0), (1, .int xi0)] := hl0
  clear hl0
  refine lv_aload_n (pc := 0) hx hb dX11_describe_0 rfl (lv_at hl 0 rfl) ?_
  refine lv_iload_n (pc := 1) hx hb dX11_describe_1 rfl (lv_at hl 1 rfl) ?_
  refine cq_i (pc := 2) (wr := []) (k2 := 0) (n2 := 0) (va_runV (As := [.int xi0]) (rest := []) ⟨hx, hb, hml, hown, hG⟩ (c_isOnTape_n l D cy kv s.heap.size ad0 xi0 fn0 h0_1 hn) (cwV 1 hG (gi_V g_146 g_147 g_148 g_143 g_145) rfl rfl rfl (by decide +kernel) ⟨Nat.le_of_ble_eq_true rfl, Nat.le_of_ble_eq_true rfl⟩) ⟨pq_blind, (va_recv hK hP (ci := 11) (q0 := 0) rfl rfl), (pq_pass hP hD hK hE hS hA [0] rfl (by decide))⟩ rfl rfl hl.1 rfl (lv_room (Nat.le_of_ble_eq_true rfl)) dX11_describe_2 ⟨Nat.le_of_ble_eq_true rfl, Nat.le_of_ble_eq_true rfl⟩) hP hD hS hA [0] [] rfl rfl (by decide) (by decide) (by decide) (by decide) (fun r1 w1 H1 lo1 e1 hR1 hP1r hD1r hS1 => ?_)
  subst hR1
  subst e1
  have hP1 : va_P D classes [(ad0, ob 11 15 fn0)] H1 := hP1r
  have hD1 : va_D A [(ad0, ob 11 15 fn0)] := hD1r
  clear hP1r hD1r
  clear hP hD hS
  refine lv_if_ne (pc := 5) (tgt := 16) hx hb dX11_describe_5 (by decide) (fun c2 => absurd (by decide) c2) (fun c2 => ?_)
  exact vx_throw0 (pc := 8) (own := RX11) (cls := "java/lang/IllegalArgumentException") (names := XN) (ik := 101) (ic := 103) hx hb hst0 hown (by decide) (by decide) (hG _ g_151) (hG _ g_152) (vx_hat (B := [Cond.declares ⟨"java/lang/RuntimeException", "<init>", "()V"⟩, Cond.declares ⟨"java/lang/Exception", "<init>", "()V"⟩, Cond.declares ⟨"java/lang/Throwable", "<init>", "()V"⟩, Cond.castable "java/lang/IllegalArgumentException" "java/lang/IllegalArgumentException"]) (fun w hw => hG w (in_x0 w hw)) (by decide +kernel) (vx_c (va_Nw.use rfl (nw_at hE n_7)) (vx_c (va_Nw.use rfl (nw_at hE n_8)) (vx_c (va_Nw.use rfl (nw_at hE n_9)) (vx_c (va_Nw.use rfl (nw_at hE n_10)) vx_n))))) (by decide +kernel) hE.2.2.1 hE.2.2.2.1 hS1 (by rw [hml]; exact hl.1) dX11_describe_8 dX11_describe_11 dX11_describe_12 dX11_describe_15 (fun x hx9 => (htb x hx9).elim) (Nat.le_of_ble_eq_true rfl) (Nat.le_of_ble_eq_true rfl) (Nat.le_of_ble_eq_true rfl) (Nat.le_of_ble_eq_true rfl) hlocks (xq_of (E := "java/lang/IllegalArgumentException") (Rw := (fun w => w = [(ad0, ob 11 15 fn0)])) rfl hP1 hD1 hS1) hS1.2.2 (by decide) (by decide)
set_option maxHeartbeats 4000000 in
set_option maxRecDepth 100000 in
/-- X11_describe throws -/
theorem x_describe_p (l : Launch) (hst0 : l.stackTraces = false) (D : va_G) (cy : Nat → ClassId) (kv : KV) (sz : Nat) (ad0 : Nat) (xi0 : Int32) (fn0 : Nat → Value) (h0_1 : fn0 1 = .int 0) (hn : 0 < xi0) : vx_Met l yX11_describe (Cond.code yX11_describe cX11_describe 2 (some .int) :: GW) ({ frames := 10, cells := 1, slots := 6, locals := 200 } : Room) (va_Pc [.ref ad0, .int xi0] (pcq D cy kv sz [(ad0, ob 11 15 fn0)])) (va_Qv (fun (_ : Unit) => False) (fun _ _ => True) (fun _ => False)) (vx_X (fun (_ : Unit) => True) (fun E _ t => E = "java/lang/IllegalArgumentException" ∧ bq D (fun w => w = [(ad0, ob 11 15 fn0)]) (va_A [(ad0, ob 11 15 fn0)] sz) t) (va_A [(ad0, ob 11 15 fn0)] sz)) 1 6 (va_A [(ad0, ob 11 15 fn0)] sz) := by
  refine vx_ofW (cc := cX11_describe) (maxL := 2) (ret := (some .int)) (by decide) rfl ?_
  intro p e s m args below meth c s₁ B hml htb hv
  obtain ⟨rfl, hsz, hP, hK, hD0, hE⟩ := hv
  have hx := B.exec
  have hb := B.bytes
  have hr := B.returns
  have hG : ∀ w ∈ GW, w.before ([.ref ad0, .int xi0] : List Value).toArray s = true := fun w h => atoms_spec (ws := Cond.code yX11_describe cX11_describe 2 (some .int) :: GW) B.pre w (List.mem_cons_of_mem _ h)
  have hown : s.vm.findClass RX11 = some m.cls := findClass_of_methodNamed B.named
  have hlocks := B.notSynchronized
  subst hsz
  have hD := hD0.self (sz := s.heap.size)
  generalize hAe : va_A [(ad0, ob 11 15 fn0)] s.heap.size = A at hD hE ⊢
  have hA : ∀ q : Nat, s.heap.size ≤ q → A q := fun q h => by rw [← hAe]; exact Or.inr h
  have hS : va_S A s.heap s.heap [] := va_S.rf
  clear hAe hD0
  have hl0 := lv_entry ([.ref ad0, .int xi0]) (n := 2) (Nat.le_of_ble_eq_true rfl)
  rw [lg_entry_eq]
  generalize (lg_sl ([.ref ad0, .int xi0]) ++ List.replicate (2 - (lg_sl ([.ref ad0, .int xi0])).length) Slot.unset).toArray = ls at hl0 ⊢
  have hl : lv_has ls 2 [(0, .ref ad0), (1, .int xi0)] := hl0
  clear hl0
  refine lv_aload_n (pc := 0) hx hb dX11_describe_0 rfl (lv_at hl 0 rfl) ?_
  refine lv_iload_n (pc := 1) hx hb dX11_describe_1 rfl (lv_at hl 1 rfl) ?_
  refine cq_i (pc := 2) (wr := []) (k2 := 0) (n2 := 0) (va_runV (As := [.int xi0]) (rest := []) ⟨hx, hb, hml, hown, hG⟩ (c_isOnTape_p l D cy kv s.heap.size ad0 xi0 fn0 h0_1 hn) (cwV 1 hG (gi_V g_146 g_147 g_148 g_143 g_145) rfl rfl rfl (by decide +kernel) ⟨Nat.le_of_ble_eq_true rfl, Nat.le_of_ble_eq_true rfl⟩) ⟨pq_blind, (va_recv hK hP (ci := 11) (q0 := 0) rfl rfl), (pq_pass hP hD hK hE hS hA [0] rfl (by decide))⟩ rfl rfl hl.1 rfl (lv_room (Nat.le_of_ble_eq_true rfl)) dX11_describe_2 ⟨Nat.le_of_ble_eq_true rfl, Nat.le_of_ble_eq_true rfl⟩) hP hD hS hA [0] [] rfl rfl (by decide) (by decide) (by decide) (by decide) (fun r1 w1 H1 lo1 e1 hR1 hP1r hD1r hS1 => ?_)
  subst hR1
  subst e1
  have hP1 : va_P D classes [(ad0, ob 11 15 fn0)] H1 := hP1r
  have hD1 : va_D A [(ad0, ob 11 15 fn0)] := hD1r
  clear hP1r hD1r
  clear hP hD hS
  refine lv_if_ne (pc := 5) (tgt := 16) hx hb dX11_describe_5 (by decide) (fun c2 => absurd (by decide) c2) (fun c2 => ?_)
  exact vx_throw0 (pc := 8) (own := RX11) (cls := "java/lang/IllegalArgumentException") (names := XN) (ik := 101) (ic := 103) hx hb hst0 hown (by decide) (by decide) (hG _ g_151) (hG _ g_152) (vx_hat (B := [Cond.declares ⟨"java/lang/RuntimeException", "<init>", "()V"⟩, Cond.declares ⟨"java/lang/Exception", "<init>", "()V"⟩, Cond.declares ⟨"java/lang/Throwable", "<init>", "()V"⟩, Cond.castable "java/lang/IllegalArgumentException" "java/lang/IllegalArgumentException"]) (fun w hw => hG w (in_x0 w hw)) (by decide +kernel) (vx_c (va_Nw.use rfl (nw_at hE n_7)) (vx_c (va_Nw.use rfl (nw_at hE n_8)) (vx_c (va_Nw.use rfl (nw_at hE n_9)) (vx_c (va_Nw.use rfl (nw_at hE n_10)) vx_n))))) (by decide +kernel) hE.2.2.1 hE.2.2.2.1 hS1 (by rw [hml]; exact hl.1) dX11_describe_8 dX11_describe_11 dX11_describe_12 dX11_describe_15 (fun x hx9 => (htb x hx9).elim) (Nat.le_of_ble_eq_true rfl) (Nat.le_of_ble_eq_true rfl) (Nat.le_of_ble_eq_true rfl) (Nat.le_of_ble_eq_true rfl) hlocks (xq_of (E := "java/lang/IllegalArgumentException") (Rw := (fun w => w = [(ad0, ob 11 15 fn0)])) rfl hP1 hD1 hS1) hS1.2.2 (by decide) (by decide)
set_option maxHeartbeats 4000000 in
set_option maxRecDepth 100000 in
/-- X8_addToken -/
theorem c_addToken (l : Launch) (D : va_G) (cy : Nat → ClassId) (kv : KV) (sz : Nat) (ad0 : Nat) (fn0 : Nat → Value) (ad1 : Nat) (ad2 : Nat) (ad3 : Nat) (ad4 : Nat) (ct1 : Nat → Int32) (ct2 : Nat → Int32) (ct3 : Nat → Int32) (ct4 : Nat → Int32) (h0_0 : fn0 0 = .ref ad1) (h0_1 : fn0 1 = .ref ad2) (h0_2 : fn0 2 = .ref ad3) (h0_3 : fn0 3 = .ref ad4) (h0_4 : fn0 4 = .int 0) : Met l yX8_addToken (Cond.code yX8_addToken cX8_addToken 5 (some .int) :: GW) ({ frames := 8, cells := 0, slots := 0, locals := 120 } : Room) (va_Pc [.ref ad0, .int 0, .int 0, .int 0, .int 0] (pcq D cy kv sz [(ad0, ob 8 7 fn0), (ad1, ari (cy 0) 2001 ct1), (ad2, ari (cy 0) 2001 ct2), (ad3, ari (cy 0) 2001 ct3), (ad4, ari (cy 0) 2001 ct4)])) (va_Qi (fun r (_ : Unit) => r = 0) (fun _ t => bq D (fun w => w = [(ad0, ob 8 7 (vup fn0 4 (.int 1))), (ad1, ari (cy 0) 2001 (upd ct1 (0 : Int32).toNatClampNeg 0)), (ad2, ari (cy 0) 2001 (upd ct2 (0 : Int32).toNatClampNeg 0)), (ad3, ari (cy 0) 2001 (upd ct3 (0 : Int32).toNatClampNeg 0)), (ad4, ari (cy 0) 2001 (upd ct4 (0 : Int32).toNatClampNeg 0))]) (va_A [(ad0, ob 8 7 fn0), (ad1, ari (cy 0) 2001 ct1), (ad2, ari (cy 0) 2001 ct2), (ad3, ari (cy 0) 2001 ct3), (ad4, ari (cy 0) 2001 ct4)] sz) t) (va_A [(ad0, ob 8 7 fn0), (ad1, ari (cy 0) 2001 ct1), (ad2, ari (cy 0) 2001 ct2), (ad3, ari (cy 0) 2001 ct3), (ad4, ari (cy 0) 2001 ct4)] sz)) 0 0 (va_A [(ad0, ob 8 7 fn0), (ad1, ari (cy 0) 2001 ct1), (ad2, ari (cy 0) 2001 ct2), (ad3, ari (cy 0) 2001 ct3), (ad4, ari (cy 0) 2001 ct4)] sz) := by
  refine Met.ofW (cc := cX8_addToken) (maxL := 5) (ret := (some .int)) (by decide) rfl ?_
  intro p e s m args below meth c s₁ B hml hv
  obtain ⟨rfl, hsz, hP, hK, hD0, hE⟩ := hv
  have hx := B.exec
  have hb := B.bytes
  have hr := B.returns
  have hG : ∀ w ∈ GW, w.before ([.ref ad0, .int 0, .int 0, .int 0, .int 0] : List Value).toArray s = true := fun w h => atoms_spec (ws := Cond.code yX8_addToken cX8_addToken 5 (some .int) :: GW) B.pre w (List.mem_cons_of_mem _ h)
  have hown : s.vm.findClass RX8 = some m.cls := findClass_of_methodNamed B.named
  have hlocks := B.notSynchronized
  subst hsz
  have hD := hD0.self (sz := s.heap.size)
  generalize hAe : va_A [(ad0, ob 8 7 fn0), (ad1, ari (cy 0) 2001 ct1), (ad2, ari (cy 0) 2001 ct2), (ad3, ari (cy 0) 2001 ct3), (ad4, ari (cy 0) 2001 ct4)] s.heap.size = A at hD hE ⊢
  have hA : ∀ q : Nat, s.heap.size ≤ q → A q := fun q h => by rw [← hAe]; exact Or.inr h
  have hS : va_S A s.heap s.heap [] := va_S.rf
  clear hAe hD0
  have hl0 := lv_entry ([.ref ad0, .int 0, .int 0, .int 0, .int 0]) (n := 5) (Nat.le_of_ble_eq_true rfl)
  rw [lg_entry_eq]
  generalize (lg_sl ([.ref ad0, .int 0, .int 0, .int 0, .int 0]) ++ List.replicate (5 - (lg_sl ([.ref ad0, .int 0, .int 0, .int 0, .int 0])).length) Slot.unset).toArray = ls at hl0 ⊢
  have hl : lv_has ls 5 [(0, .ref ad0), (1, .int 0), (2, .int 0), (3, .int 0), (4, .int 0)] := hl0
  clear hl0
  refine lv_aload_n (pc := 0) hx hb dX8_addToken_0 rfl (lv_at hl 0 rfl) ?_
  refine ob_get (pc := 1) (v := .int 0) (ci := 8) (C := RX8) (T := TX8) (N := 7) hx hb hG in_X8 hown hK hP 0 rfl rfl 4 (by decide) (hG _ g_154) rfl h0_4 dX8_addToken_1 ?_
  refine lv_aload_n (pc := 4) hx hb dX8_addToken_4 rfl (lv_at hl 0 rfl) ?_
  refine ob_get (pc := 5) (v := .ref ad1) (ci := 8) (C := RX8) (T := TX8) (N := 7) hx hb hG in_X8 hown hK hP 0 rfl rfl 0 (by decide) (hG _ g_23) rfl h0_0 dX8_addToken_5 ?_
  refine va_alen (pc := 8) hx hb hK hP 1 0 rfl rfl (v := 2001) (show Int32.ofNat 2001 = 2001 by decide) dX8_addToken_8 ?_
  refine lv_icmp_ge (pc := 9) (tgt := 63) hx hb dX8_addToken_9 (by decide) (fun c1 => absurd c1 (by decide)) (fun c1 => ?_)
  refine lv_aload_n (pc := 12) hx hb dX8_addToken_12 rfl (lv_at hl 0 rfl) ?_
  refine ob_get (pc := 13) (v := .ref ad1) (ci := 8) (C := RX8) (T := TX8) (N := 7) hx hb hG in_X8 hown hK hP 0 rfl rfl 0 (by decide) (hG _ g_23) rfl h0_0 dX8_addToken_13 ?_
  refine lv_aload_n (pc := 16) hx hb dX8_addToken_16 rfl (lv_at hl 0 rfl) ?_
  refine ob_get (pc := 17) (v := .int 0) (ci := 8) (C := RX8) (T := TX8) (N := 7) hx hb hG in_X8 hown hK hP 0 rfl rfl 4 (by decide) (hG _ g_154) rfl h0_4 dX8_addToken_17 ?_
  refine lv_iload_n (pc := 20) hx hb dX8_addToken_20 rfl (lv_at hl 1 rfl) ?_
  refine va_iast (pc := 21) hx hb hK hP hD hS 1 0 rfl rfl (show ¬ ((0 : Int32) < 0 ∨ 2001 ≤ (0 : Int32).toNatClampNeg) by decide) dX8_addToken_21 (fun H2 lo2 hP2r hD2r hS2 => ?_)
  have hP2 : va_P D classes [(ad0, ob 8 7 fn0), (ad1, ari (cy 0) 2001 (upd ct1 (0 : Int32).toNatClampNeg 0)), (ad2, ari (cy 0) 2001 ct2), (ad3, ari (cy 0) 2001 ct3), (ad4, ari (cy 0) 2001 ct4)] H2 := hP2r
  have hD2 : va_D A [(ad0, ob 8 7 fn0), (ad1, ari (cy 0) 2001 (upd ct1 (0 : Int32).toNatClampNeg 0)), (ad2, ari (cy 0) 2001 ct2), (ad3, ari (cy 0) 2001 ct3), (ad4, ari (cy 0) 2001 ct4)] := hD2r
  clear hP2r hD2r
  clear hP hD hS
  refine lv_aload_n (pc := 22) hx hb dX8_addToken_22 rfl (lv_at hl 0 rfl) ?_
  refine ob_get (pc := 23) (v := .ref ad2) (ci := 8) (C := RX8) (T := TX8) (N := 7) hx hb hG in_X8 hown hK hP2 0 rfl rfl 1 (by decide) (hG _ g_24) rfl h0_1 dX8_addToken_23 ?_
  refine lv_aload_n (pc := 26) hx hb dX8_addToken_26 rfl (lv_at hl 0 rfl) ?_
  refine ob_get (pc := 27) (v := .int 0) (ci := 8) (C := RX8) (T := TX8) (N := 7) hx hb hG in_X8 hown hK hP2 0 rfl rfl 4 (by decide) (hG _ g_154) rfl h0_4 dX8_addToken_27 ?_
  refine lv_iload_n (pc := 30) hx hb dX8_addToken_30 rfl (lv_at hl 2 rfl) ?_
  refine va_iast (pc := 31) hx hb hK hP2 hD2 hS2 2 0 rfl rfl (show ¬ ((0 : Int32) < 0 ∨ 2001 ≤ (0 : Int32).toNatClampNeg) by decide) dX8_addToken_31 (fun H3 lo3 hP3r hD3r hS3 => ?_)
  have hP3 : va_P D classes [(ad0, ob 8 7 fn0), (ad1, ari (cy 0) 2001 (upd ct1 (0 : Int32).toNatClampNeg 0)), (ad2, ari (cy 0) 2001 (upd ct2 (0 : Int32).toNatClampNeg 0)), (ad3, ari (cy 0) 2001 ct3), (ad4, ari (cy 0) 2001 ct4)] H3 := hP3r
  have hD3 : va_D A [(ad0, ob 8 7 fn0), (ad1, ari (cy 0) 2001 (upd ct1 (0 : Int32).toNatClampNeg 0)), (ad2, ari (cy 0) 2001 (upd ct2 (0 : Int32).toNatClampNeg 0)), (ad3, ari (cy 0) 2001 ct3), (ad4, ari (cy 0) 2001 ct4)] := hD3r
  clear hP3r hD3r
  clear hP2 hD2 hS2
  clear H2 lo2
  refine lv_aload_n (pc := 32) hx hb dX8_addToken_32 rfl (lv_at hl 0 rfl) ?_
  refine ob_get (pc := 33) (v := .ref ad3) (ci := 8) (C := RX8) (T := TX8) (N := 7) hx hb hG in_X8 hown hK hP3 0 rfl rfl 2 (by decide) (hG _ g_25) rfl h0_2 dX8_addToken_33 ?_
  refine lv_aload_n (pc := 36) hx hb dX8_addToken_36 rfl (lv_at hl 0 rfl) ?_
  refine ob_get (pc := 37) (v := .int 0) (ci := 8) (C := RX8) (T := TX8) (N := 7) hx hb hG in_X8 hown hK hP3 0 rfl rfl 4 (by decide) (hG _ g_154) rfl h0_4 dX8_addToken_37 ?_
  refine lv_iload_n (pc := 40) hx hb dX8_addToken_40 rfl (lv_at hl 3 rfl) ?_
  refine va_iast (pc := 41) hx hb hK hP3 hD3 hS3 3 0 rfl rfl (show ¬ ((0 : Int32) < 0 ∨ 2001 ≤ (0 : Int32).toNatClampNeg) by decide) dX8_addToken_41 (fun H4 lo4 hP4r hD4r hS4 => ?_)
  have hP4 : va_P D classes [(ad0, ob 8 7 fn0), (ad1, ari (cy 0) 2001 (upd ct1 (0 : Int32).toNatClampNeg 0)), (ad2, ari (cy 0) 2001 (upd ct2 (0 : Int32).toNatClampNeg 0)), (ad3, ari (cy 0) 2001 (upd ct3 (0 : Int32).toNatClampNeg 0)), (ad4, ari (cy 0) 2001 ct4)] H4 := hP4r
  have hD4 : va_D A [(ad0, ob 8 7 fn0), (ad1, ari (cy 0) 2001 (upd ct1 (0 : Int32).toNatClampNeg 0)), (ad2, ari (cy 0) 2001 (upd ct2 (0 : Int32).toNatClampNeg 0)), (ad3, ari (cy 0) 2001 (upd ct3 (0 : Int32).toNatClampNeg 0)), (ad4, ari (cy 0) 2001 ct4)] := hD4r
  clear hP4r hD4r
  clear hP3 hD3 hS3
  clear H3 lo3
  refine lv_aload_n (pc := 42) hx hb dX8_addToken_42 rfl (lv_at hl 0 rfl) ?_
  refine ob_get (pc := 43) (v := .ref ad4) (ci := 8) (C := RX8) (T := TX8) (N := 7) hx hb hG in_X8 hown hK hP4 0 rfl rfl 3 (by decide) (hG _ g_26) rfl h0_3 dX8_addToken_43 ?_
  refine lv_aload_n (pc := 46) hx hb dX8_addToken_46 rfl (lv_at hl 0 rfl) ?_
  refine ob_get (pc := 47) (v := .int 0) (ci := 8) (C := RX8) (T := TX8) (N := 7) hx hb hG in_X8 hown hK hP4 0 rfl rfl 4 (by decide) (hG _ g_154) rfl h0_4 dX8_addToken_47 ?_
  refine lv_iload (pc := 50) hx hb dX8_addToken_50 (lv_at hl 4 rfl) ?_
  refine va_iast (pc := 52) hx hb hK hP4 hD4 hS4 4 0 rfl rfl (show ¬ ((0 : Int32) < 0 ∨ 2001 ≤ (0 : Int32).toNatClampNeg) by decide) dX8_addToken_52 (fun H5 lo5 hP5r hD5r hS5 => ?_)
  have hP5 : va_P D classes [(ad0, ob 8 7 fn0), (ad1, ari (cy 0) 2001 (upd ct1 (0 : Int32).toNatClampNeg 0)), (ad2, ari (cy 0) 2001 (upd ct2 (0 : Int32).toNatClampNeg 0)), (ad3, ari (cy 0) 2001 (upd ct3 (0 : Int32).toNatClampNeg 0)), (ad4, ari (cy 0) 2001 (upd ct4 (0 : Int32).toNatClampNeg 0))] H5 := hP5r
  have hD5 : va_D A [(ad0, ob 8 7 fn0), (ad1, ari (cy 0) 2001 (upd ct1 (0 : Int32).toNatClampNeg 0)), (ad2, ari (cy 0) 2001 (upd ct2 (0 : Int32).toNatClampNeg 0)), (ad3, ari (cy 0) 2001 (upd ct3 (0 : Int32).toNatClampNeg 0)), (ad4, ari (cy 0) 2001 (upd ct4 (0 : Int32).toNatClampNeg 0))] := hD5r
  clear hP5r hD5r
  clear hP4 hD4 hS4
  clear H4 lo4
  refine lv_aload_n (pc := 53) hx hb dX8_addToken_53 rfl (lv_at hl 0 rfl) ?_
  refine lv_dup (pc := 54) hx hb dX8_addToken_54 rfl ?_
  refine ob_get (pc := 55) (v := .int 0) (ci := 8) (C := RX8) (T := TX8) (N := 7) hx hb hG in_X8 hown hK hP5 0 rfl rfl 4 (by decide) (hG _ g_154) rfl h0_4 dX8_addToken_55 ?_
  refine lv_iconst (pc := 58) (v := 1) hx hb dX8_addToken_58 (by decide) ?_
  refine lv_iadd (pc := 59) hx hb dX8_addToken_59 ?_
  refine tp_i (y := 1) (by decide) ?_
  refine ob_put (pc := 60) (v := .int 1) (ci := 8) (C := RX8) (T := TX8) (N := 7) hx hb hG in_X8 tyX8 tyX8_ok nmX8 hown hK hP5 hD5 hS5 0 rfl rfl 4 (by decide) (hG _ g_154) rfl rfl rfl rfl dX8_addToken_60 (ws' := [(ad0, ob 8 7 (vup fn0 4 (.int 1))), (ad1, ari (cy 0) 2001 (upd ct1 (0 : Int32).toNatClampNeg 0)), (ad2, ari (cy 0) 2001 (upd ct2 (0 : Int32).toNatClampNeg 0)), (ad3, ari (cy 0) 2001 (upd ct3 (0 : Int32).toNatClampNeg 0)), (ad4, ari (cy 0) 2001 (upd ct4 (0 : Int32).toNatClampNeg 0))]) rfl (fun H6 lo6 hP6 hD6 hS6 => ?_)
  clear hP5 hD5 hS5
  clear H5 lo5
  refine lv_iload_n (pc := 63) hx hb dX8_addToken_63 rfl (lv_at hl 3 rfl) ?_
  exact W.iret (pc := 64) (v := 0) hx hb hr (fun t ht hW => ⟨⟨0, (), rfl, rfl, _, rfl, by rw [ht]; exact hP6, hD6⟩, hS6.F ht⟩) hS6.2.2 dX8_addToken_64
set_option maxHeartbeats 4000000 in
set_option maxRecDepth 100000 in
/-- X8_scan -/
theorem c_scan (l : Launch) (D : va_G) (cy : Nat → ClassId) (kv : KV) (sz : Nat) (ad0 : Nat) (ad5 : Nat) (fn0 : Nat → Value) (ad1 : Nat) (ad2 : Nat) (ad3 : Nat) (ad4 : Nat) (ct1 : Nat → Int32) (ct2 : Nat → Int32) (ct3 : Nat → Int32) (ct4 : Nat → Int32) (ct5 : Nat → Int32) (h0_0 : fn0 0 = .ref ad1) (h0_1 : fn0 1 = .ref ad2) (h0_2 : fn0 2 = .ref ad3) (h0_3 : fn0 3 = .ref ad4) : Met l yX8_scan (Cond.code yX8_scan cX8_scan 5 none :: GW) ({ frames := 9, cells := 0, slots := 0, locals := 160 } : Room) (va_Pc [.ref ad0, .ref ad5, .int 0] (pcq D cy kv sz [(ad0, ob 8 7 fn0), (ad1, ari (cy 0) 2001 ct1), (ad2, ari (cy 0) 2001 ct2), (ad3, ari (cy 0) 2001 ct3), (ad4, ari (cy 0) 2001 ct4), (ad5, ari (cy 1) 2000 ct5)])) (va_Qv (fun (_ : Unit) => True) (fun _ t => bq D (fun w => w = [(ad5, ari (cy 1) 2000 ct5), (ad0, ob 8 7 (vup (vup (vup (vup fn0 5 (.ref ad5)) 6 (.int 0)) 4 (.int 0)) 4 (.int 1))), (ad1, ari (cy 0) 2001 (upd ct1 (0 : Int32).toNatClampNeg 0)), (ad2, ari (cy 0) 2001 (upd ct2 (0 : Int32).toNatClampNeg 0)), (ad3, ari (cy 0) 2001 (upd ct3 (0 : Int32).toNatClampNeg 0)), (ad4, ari (cy 0) 2001 (upd ct4 (0 : Int32).toNatClampNeg 0))]) (va_A [(ad0, ob 8 7 fn0), (ad1, ari (cy 0) 2001 ct1), (ad2, ari (cy 0) 2001 ct2), (ad3, ari (cy 0) 2001 ct3), (ad4, ari (cy 0) 2001 ct4), (ad5, ari (cy 1) 2000 ct5)] sz) t) (va_A [(ad0, ob 8 7 fn0), (ad1, ari (cy 0) 2001 ct1), (ad2, ari (cy 0) 2001 ct2), (ad3, ari (cy 0) 2001 ct3), (ad4, ari (cy 0) 2001 ct4), (ad5, ari (cy 1) 2000 ct5)] sz)) 0 0 (va_A [(ad0, ob 8 7 fn0), (ad1, ari (cy 0) 2001 ct1), (ad2, ari (cy 0) 2001 ct2), (ad3, ari (cy 0) 2001 ct3), (ad4, ari (cy 0) 2001 ct4), (ad5, ari (cy 1) 2000 ct5)] sz) := by
  refine Met.ofW (cc := cX8_scan) (maxL := 5) (ret := none) (by decide) rfl ?_
  intro p e s m args below meth c s₁ B hml hv
  obtain ⟨rfl, hsz, hP, hK, hD0, hE⟩ := hv
  have hx := B.exec
  have hb := B.bytes
  have hr := B.returns
  have hG : ∀ w ∈ GW, w.before ([.ref ad0, .ref ad5, .int 0] : List Value).toArray s = true := fun w h => atoms_spec (ws := Cond.code yX8_scan cX8_scan 5 none :: GW) B.pre w (List.mem_cons_of_mem _ h)
  have hown : s.vm.findClass RX8 = some m.cls := findClass_of_methodNamed B.named
  have hlocks := B.notSynchronized
  subst hsz
  have hD := hD0.self (sz := s.heap.size)
  generalize hAe : va_A [(ad0, ob 8 7 fn0), (ad1, ari (cy 0) 2001 ct1), (ad2, ari (cy 0) 2001 ct2), (ad3, ari (cy 0) 2001 ct3), (ad4, ari (cy 0) 2001 ct4), (ad5, ari (cy 1) 2000 ct5)] s.heap.size = A at hD hE ⊢
  have hA : ∀ q : Nat, s.heap.size ≤ q → A q := fun q h => by rw [← hAe]; exact Or.inr h
  have hS : va_S A s.heap s.heap [] := va_S.rf
  clear hAe hD0
  have hl0 := lv_entry ([.ref ad0, .ref ad5, .int 0]) (n := 5) (Nat.le_of_ble_eq_true rfl)
  rw [lg_entry_eq]
  generalize (lg_sl ([.ref ad0, .ref ad5, .int 0]) ++ List.replicate (5 - (lg_sl ([.ref ad0, .ref ad5, .int 0])).length) Slot.unset).toArray = ls at hl0 ⊢
  have hl : lv_has ls 5 [(0, .ref ad0), (1, .ref ad5), (2, .int 0)] := hl0
  clear hl0
  refine lv_aload_n (pc := 0) hx hb dX8_scan_0 rfl (lv_at hl 0 rfl) ?_
  refine lv_aload_n (pc := 1) hx hb dX8_scan_1 rfl (lv_at hl 1 rfl) ?_
  refine ob_put (pc := 2) (v := .ref ad5) (ci := 8) (C := RX8) (T := TX8) (N := 7) hx hb hG in_X8 tyX8 tyX8_ok nmX8 hown hK hP hD hS 0 rfl rfl 5 (by decide) (hG _ g_156) rfl rfl rfl rfl dX8_scan_2 (ws' := [(ad0, ob 8 7 (vup fn0 5 (.ref ad5))), (ad1, ari (cy 0) 2001 ct1), (ad2, ari (cy 0) 2001 ct2), (ad3, ari (cy 0) 2001 ct3), (ad4, ari (cy 0) 2001 ct4), (ad5, ari (cy 1) 2000 ct5)]) rfl (fun H1 lo1 hP1 hD1 hS1 => ?_)
  clear hP hD hS
  refine lv_aload_n (pc := 5) hx hb dX8_scan_5 rfl (lv_at hl 0 rfl) ?_
  refine lv_iload_n (pc := 6) hx hb dX8_scan_6 rfl (lv_at hl 2 rfl) ?_
  refine lv_aload_n (pc := 7) hx hb dX8_scan_7 rfl (lv_at hl 1 rfl) ?_
  refine va_alen (pc := 8) hx hb hK hP1 5 1 rfl rfl (v := 2000) (show Int32.ofNat 2000 = 2000 by decide) dX8_scan_8 ?_
  refine va_mmin (pc := 9) hx hb (by rw [hml, hl.1]) hown (hG _ g_157) (hG _ g_158) (hG _ g_159) (hG _ g_160) (Nat.le_of_ble_eq_true rfl) (Nat.le_of_ble_eq_true rfl) (Nat.le_of_ble_eq_true rfl) (Nat.le_of_ble_eq_true rfl) dX8_scan_9 ?_
  refine tp_i (y := 0) (by decide) ?_
  refine ob_put (pc := 12) (v := .int 0) (ci := 8) (C := RX8) (T := TX8) (N := 7) hx hb hG in_X8 tyX8 tyX8_ok nmX8 hown hK hP1 hD1 hS1 0 rfl rfl 6 (by decide) (hG _ g_161) rfl rfl rfl rfl dX8_scan_12 (ws' := [(ad0, ob 8 7 (vup (vup fn0 5 (.ref ad5)) 6 (.int 0))), (ad1, ari (cy 0) 2001 ct1), (ad2, ari (cy 0) 2001 ct2), (ad3, ari (cy 0) 2001 ct3), (ad4, ari (cy 0) 2001 ct4), (ad5, ari (cy 1) 2000 ct5)]) rfl (fun H2 lo2 hP2 hD2 hS2 => ?_)
  clear hP1 hD1 hS1
  clear H1 lo1
  refine lv_aload_n (pc := 15) hx hb dX8_scan_15 rfl (lv_at hl 0 rfl) ?_
  refine lv_iconst (pc := 16) (v := 0) hx hb dX8_scan_16 (by decide) ?_
  refine ob_put (pc := 17) (v := .int 0) (ci := 8) (C := RX8) (T := TX8) (N := 7) hx hb hG in_X8 tyX8 tyX8_ok nmX8 hown hK hP2 hD2 hS2 0 rfl rfl 4 (by decide) (hG _ g_154) rfl rfl rfl rfl dX8_scan_17 (ws' := [(ad0, ob 8 7 (vup (vup (vup fn0 5 (.ref ad5)) 6 (.int 0)) 4 (.int 0))), (ad1, ari (cy 0) 2001 ct1), (ad2, ari (cy 0) 2001 ct2), (ad3, ari (cy 0) 2001 ct3), (ad4, ari (cy 0) 2001 ct4), (ad5, ari (cy 1) 2000 ct5)]) rfl (fun H3 lo3 hP3 hD3 hS3 => ?_)
  clear hP2 hD2 hS2
  clear H2 lo2
  refine lv_iconst (pc := 20) (v := 0) hx hb dX8_scan_20 (by decide) ?_
  refine lv_istore_n (pc := 21) (lv' := [(3, .int 0), (0, .ref ad0), (1, .ref ad5), (2, .int 0)]) hx hb dX8_scan_21 rfl hl (by decide) rfl (fun ls4 hl4 => ?_)
  clear hl ls
  refine lv_iconst (pc := 22) (v := 0) hx hb dX8_scan_22 (by decide) ?_
  refine lv_istore (pc := 23) (lv' := [(4, .int 0), (3, .int 0), (0, .ref ad0), (1, .ref ad5), (2, .int 0)]) hx hb dX8_scan_23 hl4 (by decide) rfl (fun ls5 hl5 => ?_)
  clear hl4 ls4
  refine lv_iload (pc := 25) hx hb dX8_scan_25 (lv_at hl5 0 rfl) ?_
  refine lv_sipush (pc := 27) (v := 2000) hx hb dX8_scan_27 (by decide) ?_
  refine lv_icmp_gt (pc := 30) (tgt := 111) hx hb dX8_scan_30 (by decide) (fun c6 => absurd c6 (by decide)) (fun c6 => ?_)
  refine lv_iload_n (pc := 33) hx hb dX8_scan_33 rfl (lv_at hl5 1 rfl) ?_
  refine lv_aload_n (pc := 34) hx hb dX8_scan_34 rfl (lv_at hl5 2 rfl) ?_
  refine ob_get (pc := 35) (v := .int 0) (ci := 8) (C := RX8) (T := TX8) (N := 7) hx hb hG in_X8 hown hK hP3 0 rfl rfl 6 (by decide) (hG _ g_161) rfl rfl dX8_scan_35 ?_
  refine lv_icmp_ge (pc := 38) (tgt := 59) hx hb dX8_scan_38 (by decide) (fun c7 => ?_) (fun c7 => absurd (by decide) c7)
  refine lv_iload_n (pc := 59) hx hb dX8_scan_59 rfl (lv_at hl5 1 rfl) ?_
  refine lv_aload_n (pc := 60) hx hb dX8_scan_60 rfl (lv_at hl5 2 rfl) ?_
  refine ob_get (pc := 61) (v := .int 0) (ci := 8) (C := RX8) (T := TX8) (N := 7) hx hb hG in_X8 hown hK hP3 0 rfl rfl 6 (by decide) (hG _ g_161) rfl rfl dX8_scan_61 ?_
  refine lv_icmp_lt (pc := 64) (tgt := 83) hx hb dX8_scan_64 (by decide) (fun c8 => absurd c8 (by decide)) (fun c8 => ?_)
  refine lv_aload_n (pc := 67) hx hb dX8_scan_67 rfl (lv_at hl5 2 rfl) ?_
  refine lv_iconst (pc := 68) (v := 0) hx hb dX8_scan_68 (by decide) ?_
  refine lv_aload_n (pc := 69) hx hb dX8_scan_69 rfl (lv_at hl5 2 rfl) ?_
  refine ob_get (pc := 70) (v := .int 0) (ci := 8) (C := RX8) (T := TX8) (N := 7) hx hb hG in_X8 hown hK hP3 0 rfl rfl 6 (by decide) (hG _ g_161) rfl rfl dX8_scan_70 ?_
  refine lv_aload_n (pc := 73) hx hb dX8_scan_73 rfl (lv_at hl5 2 rfl) ?_
  refine ob_get (pc := 74) (v := .int 0) (ci := 8) (C := RX8) (T := TX8) (N := 7) hx hb hG in_X8 hown hK hP3 0 rfl rfl 6 (by decide) (hG _ g_161) rfl rfl dX8_scan_74 ?_
  refine lv_iconst (pc := 77) (v := 0) hx hb dX8_scan_77 (by decide) ?_
  refine cq_i (pc := 78) (wr := [(ad5, ari (cy 1) 2000 ct5)]) (k2 := 0) (n2 := 0) (va_runV (As := [.int 0, .int 0, .int 0, .int 0]) (rest := []) ⟨hx, hb, hml, hown, hG⟩ (c_addToken l D cy kv H3.size ad0 (vup (vup (vup fn0 5 (.ref ad5)) 6 (.int 0)) 4 (.int 0)) ad1 ad2 ad3 ad4 ct1 ct2 ct3 ct4 h0_0 h0_1 h0_2 h0_3 rfl) (cwV 4 hG (gi_V g_162 g_163 g_164 g_31 g_155) rfl rfl rfl (by decide +kernel) ⟨Nat.le_of_ble_eq_true rfl, Nat.le_of_ble_eq_true rfl⟩) ⟨pq_blind, (va_recv hK hP3 (ci := 8) (q0 := 0) rfl rfl), (pq_pass hP3 hD3 hK hE hS3 hA [0, 1, 2, 3, 4] rfl (by decide))⟩ rfl rfl hl5.1 rfl (lv_room (Nat.le_of_ble_eq_true rfl)) dX8_scan_78 ⟨Nat.le_of_ble_eq_true rfl, Nat.le_of_ble_eq_true rfl⟩) hP3 hD3 hS3 hA [0, 1, 2, 3, 4] [5] rfl rfl (by decide) (by decide) (by decide) (by decide) (fun r9 w9 H9 lo9 e9 hR9 hP9r hD9r hS9 => ?_)
  subst hR9
  subst e9
  have hP9 : va_P D classes [(ad5, ari (cy 1) 2000 ct5), (ad0, ob 8 7 (vup (vup (vup (vup fn0 5 (.ref ad5)) 6 (.int 0)) 4 (.int 0)) 4 (.int 1))), (ad1, ari (cy 0) 2001 (upd ct1 (0 : Int32).toNatClampNeg 0)), (ad2, ari (cy 0) 2001 (upd ct2 (0 : Int32).toNatClampNeg 0)), (ad3, ari (cy 0) 2001 (upd ct3 (0 : Int32).toNatClampNeg 0)), (ad4, ari (cy 0) 2001 (upd ct4 (0 : Int32).toNatClampNeg 0))] H9 := hP9r
  have hD9 : va_D A [(ad5, ari (cy 1) 2000 ct5), (ad0, ob 8 7 (vup (vup (vup (vup fn0 5 (.ref ad5)) 6 (.int 0)) 4 (.int 0)) 4 (.int 1))), (ad1, ari (cy 0) 2001 (upd ct1 (0 : Int32).toNatClampNeg 0)), (ad2, ari (cy 0) 2001 (upd ct2 (0 : Int32).toNatClampNeg 0)), (ad3, ari (cy 0) 2001 (upd ct3 (0 : Int32).toNatClampNeg 0)), (ad4, ari (cy 0) 2001 (upd ct4 (0 : Int32).toNatClampNeg 0))] := hD9r
  clear hP9r hD9r
  clear hP3 hD3 hS3
  clear H3 lo3
  refine lv_pop (pc := 81) hx hb dX8_scan_81 rfl ?_
  exact W.vret (pc := 82) hx hb hr (fun t ht hW => ⟨⟨(), rfl, trivial, _, rfl, by rw [ht]; exact hP9, hD9⟩, hS9.F ht⟩) hS9.2.2 dX8_scan_82
set_option maxHeartbeats 4000000 in
set_option maxRecDepth 100000 in
/-- X10_forget -/
theorem c_forget (l : Launch) (D : va_G) (cy : Nat → ClassId) (kv : KV) (sz : Nat) (ad0 : Nat) (fn0 : Nat → Value) : Met l yX10_forget (Cond.code yX10_forget cX10_forget 1 none :: GW) ({ frames := 8, cells := 0, slots := 0, locals := 120 } : Room) (va_Pc [.ref ad0] (pcq D cy kv sz [(ad0, ob 10 5 fn0)])) (va_Qv (fun (_ : Unit) => True) (fun _ t => bq D (fun w => w = [(ad0, ob 10 5 (vup (vup fn0 2 (.int 0)) 4 (.int 0)))]) (va_A [(ad0, ob 10 5 fn0)] sz) t) (va_A [(ad0, ob 10 5 fn0)] sz)) 0 0 (va_A [(ad0, ob 10 5 fn0)] sz) := by
  refine Met.ofW (cc := cX10_forget) (maxL := 1) (ret := none) (by decide) rfl ?_
  intro p e s m args below meth c s₁ B hml hv
  obtain ⟨rfl, hsz, hP, hK, hD0, hE⟩ := hv
  have hx := B.exec
  have hb := B.bytes
  have hr := B.returns
  have hG : ∀ w ∈ GW, w.before ([.ref ad0] : List Value).toArray s = true := fun w h => atoms_spec (ws := Cond.code yX10_forget cX10_forget 1 none :: GW) B.pre w (List.mem_cons_of_mem _ h)
  have hown : s.vm.findClass RX10 = some m.cls := findClass_of_methodNamed B.named
  have hlocks := B.notSynchronized
  subst hsz
  have hD := hD0.self (sz := s.heap.size)
  generalize hAe : va_A [(ad0, ob 10 5 fn0)] s.heap.size = A at hD hE ⊢
  have hA : ∀ q : Nat, s.heap.size ≤ q → A q := fun q h => by rw [← hAe]; exact Or.inr h
  have hS : va_S A s.heap s.heap [] := va_S.rf
  clear hAe hD0
  have hl0 := lv_entry ([.ref ad0]) (n := 1) (Nat.le_of_ble_eq_true rfl)
  rw [lg_entry_eq]
  generalize (lg_sl ([.ref ad0]) ++ List.replicate (1 - (lg_sl ([.ref ad0])).length) Slot.unset).toArray = ls at hl0 ⊢
  have hl : lv_has ls 1 [(0, .ref ad0)] := hl0
  clear hl0
  refine lv_aload_n (pc := 0) hx hb dX10_forget_0 rfl (lv_at hl 0 rfl) ?_
  refine lv_iconst (pc := 1) (v := 0) hx hb dX10_forget_1 (by decide) ?_
  refine ob_put (pc := 2) (v := .int 0) (ci := 10) (C := RX10) (T := TX10) (N := 5) hx hb hG in_X10 tyX10 tyX10_ok nmX10 hown hK hP hD hS 0 rfl rfl 2 (by decide) (hG _ g_16) rfl rfl rfl rfl dX10_forget_2 (ws' := [(ad0, ob 10 5 (vup fn0 2 (.int 0)))]) rfl (fun H1 lo1 hP1 hD1 hS1 => ?_)
  clear hP hD hS
  refine lv_aload_n (pc := 5) hx hb dX10_forget_5 rfl (lv_at hl 0 rfl) ?_
  refine lv_iconst (pc := 6) (v := 0) hx hb dX10_forget_6 (by decide) ?_
  refine ob_put (pc := 7) (v := .int 0) (ci := 10) (C := RX10) (T := TX10) (N := 5) hx hb hG in_X10 tyX10 tyX10_ok nmX10 hown hK hP1 hD1 hS1 0 rfl rfl 4 (by decide) (hG _ g_19) rfl rfl rfl rfl dX10_forget_7 (ws' := [(ad0, ob 10 5 (vup (vup fn0 2 (.int 0)) 4 (.int 0)))]) rfl (fun H2 lo2 hP2 hD2 hS2 => ?_)
  clear hP1 hD1 hS1
  clear H1 lo1
  exact W.vret (pc := 10) hx hb hr (fun t ht hW => ⟨⟨(), rfl, trivial, _, rfl, by rw [ht]; exact hP2, hD2⟩, hS2.F ht⟩) hS2.2.2 dX10_forget_10
set_option maxHeartbeats 4000000 in
set_option maxRecDepth 100000 in
/-- X1_kindHere -/
theorem c_kindHere (l : Launch) (D : va_G) (cy : Nat → ClassId) (kv : KV) (sz : Nat) (ad0 : Nat) (fn0 : Nat → Value) (ad1 : Nat) (fn1 : Nat → Value) (ad2 : Nat) (ct2 : Nat → Int32) (h0_0 : fn0 0 = .ref ad1) (h0_2 : fn0 2 = .int 0) (h1_0 : fn1 0 = .ref ad2) (h1_4 : fn1 4 = .int 1) (k2_0 : ct2 0 = 0) : Met l yX1_kindHere (Cond.code yX1_kindHere cX1_kindHere 1 (some .int) :: GW) ({ frames := 8, cells := 0, slots := 0, locals := 120 } : Room) (va_Pc [.ref ad0] (pcq D cy kv sz [(ad0, ob 1 15 fn0), (ad1, ob 8 7 fn1), (ad2, ari (cy 0) 2001 ct2)])) (va_Qi (fun r (_ : Unit) => r = 0) (fun _ t => bq D (fun w => w = [(ad0, ob 1 15 fn0), (ad1, ob 8 7 fn1), (ad2, ari (cy 0) 2001 ct2)]) (va_A [(ad0, ob 1 15 fn0), (ad1, ob 8 7 fn1), (ad2, ari (cy 0) 2001 ct2)] sz) t) (va_A [(ad0, ob 1 15 fn0), (ad1, ob 8 7 fn1), (ad2, ari (cy 0) 2001 ct2)] sz)) 0 0 (va_A [(ad0, ob 1 15 fn0), (ad1, ob 8 7 fn1), (ad2, ari (cy 0) 2001 ct2)] sz) := by
  refine Met.ofW (cc := cX1_kindHere) (maxL := 1) (ret := (some .int)) (by decide) rfl ?_
  intro p e s m args below meth c s₁ B hml hv
  obtain ⟨rfl, hsz, hP, hK, hD0, hE⟩ := hv
  have hx := B.exec
  have hb := B.bytes
  have hr := B.returns
  have hG : ∀ w ∈ GW, w.before ([.ref ad0] : List Value).toArray s = true := fun w h => atoms_spec (ws := Cond.code yX1_kindHere cX1_kindHere 1 (some .int) :: GW) B.pre w (List.mem_cons_of_mem _ h)
  have hown : s.vm.findClass RX1 = some m.cls := findClass_of_methodNamed B.named
  have hlocks := B.notSynchronized
  subst hsz
  have hD := hD0.self (sz := s.heap.size)
  generalize hAe : va_A [(ad0, ob 1 15 fn0), (ad1, ob 8 7 fn1), (ad2, ari (cy 0) 2001 ct2)] s.heap.size = A at hD hE ⊢
  have hA : ∀ q : Nat, s.heap.size ≤ q → A q := fun q h => by rw [← hAe]; exact Or.inr h
  have hS : va_S A s.heap s.heap [] := va_S.rf
  clear hAe hD0
  have hl0 := lv_entry ([.ref ad0]) (n := 1) (Nat.le_of_ble_eq_true rfl)
  rw [lg_entry_eq]
  generalize (lg_sl ([.ref ad0]) ++ List.replicate (1 - (lg_sl ([.ref ad0])).length) Slot.unset).toArray = ls at hl0 ⊢
  have hl : lv_has ls 1 [(0, .ref ad0)] := hl0
  clear hl0
  refine lv_aload_n (pc := 0) hx hb dX1_kindHere_0 rfl (lv_at hl 0 rfl) ?_
  refine ob_get (pc := 1) (v := .int 0) (ci := 1) (C := RX1) (T := TX1) (N := 15) hx hb hG in_X1 hown hK hP 0 rfl rfl 2 (by decide) (hG _ g_167) rfl h0_2 dX1_kindHere_1 ?_
  refine lv_aload_n (pc := 4) hx hb dX1_kindHere_4 rfl (lv_at hl 0 rfl) ?_
  refine ob_get (pc := 5) (v := .ref ad1) (ci := 1) (C := RX1) (T := TX1) (N := 15) hx hb hG in_X1 hown hK hP 0 rfl rfl 0 (by decide) (hG _ g_33) rfl h0_0 dX1_kindHere_5 ?_
  refine ob_getN (pc := 8) (v := .int 1) (ci := 8) (C := RX8) (T := TX8) (N := 7) hx hb hG in_X8 hown hK hP 1 rfl rfl 4 (by decide) (nw_at hE n_11) rfl h1_4 dX1_kindHere_8 ?_
  refine lv_icmp_ge (pc := 11) (tgt := 29) hx hb dX1_kindHere_11 (by decide) (fun c1 => absurd c1 (by decide)) (fun c1 => ?_)
  refine lv_aload_n (pc := 14) hx hb dX1_kindHere_14 rfl (lv_at hl 0 rfl) ?_
  refine ob_get (pc := 15) (v := .ref ad1) (ci := 1) (C := RX1) (T := TX1) (N := 15) hx hb hG in_X1 hown hK hP 0 rfl rfl 0 (by decide) (hG _ g_33) rfl h0_0 dX1_kindHere_15 ?_
  refine ob_getN (pc := 18) (v := .ref ad2) (ci := 8) (C := RX8) (T := TX8) (N := 7) hx hb hG in_X8 hown hK hP 1 rfl rfl 0 (by decide) (nw_at hE n_12) rfl h1_0 dX1_kindHere_18 ?_
  refine lv_aload_n (pc := 21) hx hb dX1_kindHere_21 rfl (lv_at hl 0 rfl) ?_
  refine ob_get (pc := 22) (v := .int 0) (ci := 1) (C := RX1) (T := TX1) (N := 15) hx hb hG in_X1 hown hK hP 0 rfl rfl 2 (by decide) (hG _ g_167) rfl h0_2 dX1_kindHere_22 ?_
  refine va_iald (pc := 25) hx hb hK hP 2 0 rfl rfl (show ¬ ((0 : Int32) < 0 ∨ 2001 ≤ (0 : Int32).toNatClampNeg) by decide) dX1_kindHere_25 ?_
  refine tp_i (y := 0) k2_0 ?_
  refine lv_goto (pc := 26) (tgt := 30) hx hb dX1_kindHere_26 (by decide) ?_
  exact W.iret (pc := 30) (v := 0) hx hb hr (fun t ht hW => ⟨⟨0, (), rfl, rfl, _, rfl, by rw [ht]; exact hP, hD⟩, hS.F ht⟩) hS.2.2 dX1_kindHere_30
set_option maxHeartbeats 4000000 in
set_option maxRecDepth 100000 in
/-- X1_wordHere -/
theorem c_wordHere (l : Launch) (D : va_G) (cy : Nat → ClassId) (kv : KV) (sz : Nat) (ad0 : Nat) (fn0 : Nat → Value) (ad1 : Nat) (fn1 : Nat → Value) (ad2 : Nat) (ct2 : Nat → Int32) (h0_0 : fn0 0 = .ref ad1) (h0_2 : fn0 2 = .int 0) (h1_0 : fn1 0 = .ref ad2) (h1_4 : fn1 4 = .int 1) (k2_0 : ct2 0 = 0) : Met l yX1_wordHere (Cond.code yX1_wordHere cX1_wordHere 1 (some .int) :: GW) ({ frames := 9, cells := 0, slots := 0, locals := 160 } : Room) (va_Pc [.ref ad0] (pcq D cy kv sz [(ad0, ob 1 15 fn0), (ad1, ob 8 7 fn1), (ad2, ari (cy 0) 2001 ct2)])) (va_Qi (fun r (_ : Unit) => r = (-1)) (fun _ t => bq D (fun w => w = [(ad0, ob 1 15 fn0), (ad1, ob 8 7 fn1), (ad2, ari (cy 0) 2001 ct2)]) (va_A [(ad0, ob 1 15 fn0), (ad1, ob 8 7 fn1), (ad2, ari (cy 0) 2001 ct2)] sz) t) (va_A [(ad0, ob 1 15 fn0), (ad1, ob 8 7 fn1), (ad2, ari (cy 0) 2001 ct2)] sz)) 0 0 (va_A [(ad0, ob 1 15 fn0), (ad1, ob 8 7 fn1), (ad2, ari (cy 0) 2001 ct2)] sz) := by
  refine Met.ofW (cc := cX1_wordHere) (maxL := 1) (ret := (some .int)) (by decide) rfl ?_
  intro p e s m args below meth c s₁ B hml hv
  obtain ⟨rfl, hsz, hP, hK, hD0, hE⟩ := hv
  have hx := B.exec
  have hb := B.bytes
  have hr := B.returns
  have hG : ∀ w ∈ GW, w.before ([.ref ad0] : List Value).toArray s = true := fun w h => atoms_spec (ws := Cond.code yX1_wordHere cX1_wordHere 1 (some .int) :: GW) B.pre w (List.mem_cons_of_mem _ h)
  have hown : s.vm.findClass RX1 = some m.cls := findClass_of_methodNamed B.named
  have hlocks := B.notSynchronized
  subst hsz
  have hD := hD0.self (sz := s.heap.size)
  generalize hAe : va_A [(ad0, ob 1 15 fn0), (ad1, ob 8 7 fn1), (ad2, ari (cy 0) 2001 ct2)] s.heap.size = A at hD hE ⊢
  have hA : ∀ q : Nat, s.heap.size ≤ q → A q := fun q h => by rw [← hAe]; exact Or.inr h
  have hS : va_S A s.heap s.heap [] := va_S.rf
  clear hAe hD0
  have hl0 := lv_entry ([.ref ad0]) (n := 1) (Nat.le_of_ble_eq_true rfl)
  rw [lg_entry_eq]
  generalize (lg_sl ([.ref ad0]) ++ List.replicate (1 - (lg_sl ([.ref ad0])).length) Slot.unset).toArray = ls at hl0 ⊢
  have hl : lv_has ls 1 [(0, .ref ad0)] := hl0
  clear hl0
  refine lv_aload_n (pc := 0) hx hb dX1_wordHere_0 rfl (lv_at hl 0 rfl) ?_
  refine cq_i (pc := 1) (wr := []) (k2 := 0) (n2 := 0) (va_runV (As := []) (rest := []) ⟨hx, hb, hml, hown, hG⟩ (c_kindHere l D cy kv s.heap.size ad0 fn0 ad1 fn1 ad2 ct2 h0_0 h0_2 h1_0 h1_4 k2_0) (cwV 0 hG (gi_V g_169 g_170 g_171 g_106 g_168) rfl rfl rfl (by decide +kernel) ⟨Nat.le_of_ble_eq_true rfl, Nat.le_of_ble_eq_true rfl⟩) ⟨pq_blind, (va_recv hK hP (ci := 1) (q0 := 0) rfl rfl), (pq_pass hP hD hK hE hS hA [0, 1, 2] rfl (by decide))⟩ rfl rfl hl.1 rfl (lv_room (Nat.le_of_ble_eq_true rfl)) dX1_wordHere_1 ⟨Nat.le_of_ble_eq_true rfl, Nat.le_of_ble_eq_true rfl⟩) hP hD hS hA [0, 1, 2] [] rfl rfl (by decide) (by decide) (by decide) (by decide) (fun r1 w1 H1 lo1 e1 hR1 hP1r hD1r hS1 => ?_)
  subst hR1
  subst e1
  have hP1 : va_P D classes [(ad0, ob 1 15 fn0), (ad1, ob 8 7 fn1), (ad2, ari (cy 0) 2001 ct2)] H1 := hP1r
  have hD1 : va_D A [(ad0, ob 1 15 fn0), (ad1, ob 8 7 fn1), (ad2, ari (cy 0) 2001 ct2)] := hD1r
  clear hP1r hD1r
  clear hP hD hS
  refine lv_iconst (pc := 4) (v := 3) hx hb dX1_wordHere_4 (by decide) ?_
  refine lv_icmp_ne (pc := 5) (tgt := 15) hx hb dX1_wordHere_5 (by decide) (fun c2 => ?_) (fun c2 => absurd c2 (by decide))
  refine lv_iconst (pc := 15) (v := (-1)) hx hb dX1_wordHere_15 (by decide) ?_
  exact W.iret (pc := 16) (v := (-1)) hx hb hr (fun t ht hW => ⟨⟨(-1), (), rfl, rfl, _, rfl, by rw [ht]; exact hP1, hD1⟩, hS1.F ht⟩) hS1.2.2 dX1_wordHere_16
set_option maxHeartbeats 4000000 in
set_option maxRecDepth 100000 in
/-- X1_startHere -/
theorem c_startHere (l : Launch) (D : va_G) (cy : Nat → ClassId) (kv : KV) (sz : Nat) (ad0 : Nat) (fn0 : Nat → Value) (ad1 : Nat) (fn1 : Nat → Value) (ad2 : Nat) (ct2 : Nat → Int32) (h0_0 : fn0 0 = .ref ad1) (h0_2 : fn0 2 = .int 0) (h1_1 : fn1 1 = .ref ad2) (h1_4 : fn1 4 = .int 1) (k2_0 : ct2 0 = 0) : Met l yX1_startHere (Cond.code yX1_startHere cX1_startHere 1 (some .int) :: GW) ({ frames := 8, cells := 0, slots := 0, locals := 120 } : Room) (va_Pc [.ref ad0] (pcq D cy kv sz [(ad0, ob 1 15 fn0), (ad1, ob 8 7 fn1), (ad2, ari (cy 0) 2001 ct2)])) (va_Qi (fun r (_ : Unit) => r = 0) (fun _ t => bq D (fun w => w = [(ad0, ob 1 15 fn0), (ad1, ob 8 7 fn1), (ad2, ari (cy 0) 2001 ct2)]) (va_A [(ad0, ob 1 15 fn0), (ad1, ob 8 7 fn1), (ad2, ari (cy 0) 2001 ct2)] sz) t) (va_A [(ad0, ob 1 15 fn0), (ad1, ob 8 7 fn1), (ad2, ari (cy 0) 2001 ct2)] sz)) 0 0 (va_A [(ad0, ob 1 15 fn0), (ad1, ob 8 7 fn1), (ad2, ari (cy 0) 2001 ct2)] sz) := by
  refine Met.ofW (cc := cX1_startHere) (maxL := 1) (ret := (some .int)) (by decide) rfl ?_
  intro p e s m args below meth c s₁ B hml hv
  obtain ⟨rfl, hsz, hP, hK, hD0, hE⟩ := hv
  have hx := B.exec
  have hb := B.bytes
  have hr := B.returns
  have hG : ∀ w ∈ GW, w.before ([.ref ad0] : List Value).toArray s = true := fun w h => atoms_spec (ws := Cond.code yX1_startHere cX1_startHere 1 (some .int) :: GW) B.pre w (List.mem_cons_of_mem _ h)
  have hown : s.vm.findClass RX1 = some m.cls := findClass_of_methodNamed B.named
  have hlocks := B.notSynchronized
  subst hsz
  have hD := hD0.self (sz := s.heap.size)
  generalize hAe : va_A [(ad0, ob 1 15 fn0), (ad1, ob 8 7 fn1), (ad2, ari (cy 0) 2001 ct2)] s.heap.size = A at hD hE ⊢
  have hA : ∀ q : Nat, s.heap.size ≤ q → A q := fun q h => by rw [← hAe]; exact Or.inr h
  have hS : va_S A s.heap s.heap [] := va_S.rf
  clear hAe hD0
  have hl0 := lv_entry ([.ref ad0]) (n := 1) (Nat.le_of_ble_eq_true rfl)
  rw [lg_entry_eq]
  generalize (lg_sl ([.ref ad0]) ++ List.replicate (1 - (lg_sl ([.ref ad0])).length) Slot.unset).toArray = ls at hl0 ⊢
  have hl : lv_has ls 1 [(0, .ref ad0)] := hl0
  clear hl0
  refine lv_aload_n (pc := 0) hx hb dX1_startHere_0 rfl (lv_at hl 0 rfl) ?_
  refine ob_get (pc := 1) (v := .int 0) (ci := 1) (C := RX1) (T := TX1) (N := 15) hx hb hG in_X1 hown hK hP 0 rfl rfl 2 (by decide) (hG _ g_167) rfl h0_2 dX1_startHere_1 ?_
  refine lv_aload_n (pc := 4) hx hb dX1_startHere_4 rfl (lv_at hl 0 rfl) ?_
  refine ob_get (pc := 5) (v := .ref ad1) (ci := 1) (C := RX1) (T := TX1) (N := 15) hx hb hG in_X1 hown hK hP 0 rfl rfl 0 (by decide) (hG _ g_33) rfl h0_0 dX1_startHere_5 ?_
  refine ob_getN (pc := 8) (v := .int 1) (ci := 8) (C := RX8) (T := TX8) (N := 7) hx hb hG in_X8 hown hK hP 1 rfl rfl 4 (by decide) (nw_at hE n_11) rfl h1_4 dX1_startHere_8 ?_
  refine lv_icmp_ge (pc := 11) (tgt := 29) hx hb dX1_startHere_11 (by decide) (fun c1 => absurd c1 (by decide)) (fun c1 => ?_)
  refine lv_aload_n (pc := 14) hx hb dX1_startHere_14 rfl (lv_at hl 0 rfl) ?_
  refine ob_get (pc := 15) (v := .ref ad1) (ci := 1) (C := RX1) (T := TX1) (N := 15) hx hb hG in_X1 hown hK hP 0 rfl rfl 0 (by decide) (hG _ g_33) rfl h0_0 dX1_startHere_15 ?_
  refine ob_getN (pc := 18) (v := .ref ad2) (ci := 8) (C := RX8) (T := TX8) (N := 7) hx hb hG in_X8 hown hK hP 1 rfl rfl 1 (by decide) (nw_at hE n_13) rfl h1_1 dX1_startHere_18 ?_
  refine lv_aload_n (pc := 21) hx hb dX1_startHere_21 rfl (lv_at hl 0 rfl) ?_
  refine ob_get (pc := 22) (v := .int 0) (ci := 1) (C := RX1) (T := TX1) (N := 15) hx hb hG in_X1 hown hK hP 0 rfl rfl 2 (by decide) (hG _ g_167) rfl h0_2 dX1_startHere_22 ?_
  refine va_iald (pc := 25) hx hb hK hP 2 0 rfl rfl (show ¬ ((0 : Int32) < 0 ∨ 2001 ≤ (0 : Int32).toNatClampNeg) by decide) dX1_startHere_25 ?_
  refine tp_i (y := 0) k2_0 ?_
  refine lv_goto (pc := 26) (tgt := 36) hx hb dX1_startHere_26 (by decide) ?_
  exact W.iret (pc := 36) (v := 0) hx hb hr (fun t ht hW => ⟨⟨0, (), rfl, rfl, _, rfl, by rw [ht]; exact hP, hD⟩, hS.F ht⟩) hS.2.2 dX1_startHere_36
set_option maxHeartbeats 4000000 in
set_option maxRecDepth 100000 in
/-- X1_fail -/
theorem c_fail (l : Launch) (D : va_G) (cy : Nat → ClassId) (kv : KV) (sz : Nat) (ad0 : Nat) (fn0 : Nat → Value) (ad1 : Nat) (fn1 : Nat → Value) (ad2 : Nat) (ct2 : Nat → Int32) (h0_0 : fn0 0 = .ref ad1) (h0_2 : fn0 2 = .int 0) (h1_1 : fn1 1 = .ref ad2) (h1_4 : fn1 4 = .int 1) (k2_0 : ct2 0 = 0) : Met l yX1_fail (Cond.code yX1_fail cX1_fail 2 (some .boolean) :: GW) ({ frames := 9, cells := 0, slots := 0, locals := 160 } : Room) (va_Pc [.ref ad0, .int 1] (pcq D cy kv sz [(ad0, ob 1 15 fn0), (ad1, ob 8 7 fn1), (ad2, ari (cy 0) 2001 ct2)])) (va_Qi (fun r (_ : Unit) => r = 0) (fun _ t => bq D (fun w => w = [(ad0, ob 1 15 (vup (vup fn0 7 (.int 1)) 8 (.int 0))), (ad1, ob 8 7 fn1), (ad2, ari (cy 0) 2001 ct2)]) (va_A [(ad0, ob 1 15 fn0), (ad1, ob 8 7 fn1), (ad2, ari (cy 0) 2001 ct2)] sz) t) (va_A [(ad0, ob 1 15 fn0), (ad1, ob 8 7 fn1), (ad2, ari (cy 0) 2001 ct2)] sz)) 0 0 (va_A [(ad0, ob 1 15 fn0), (ad1, ob 8 7 fn1), (ad2, ari (cy 0) 2001 ct2)] sz) := by
  refine Met.ofW (cc := cX1_fail) (maxL := 2) (ret := (some .boolean)) (by decide) rfl ?_
  intro p e s m args below meth c s₁ B hml hv
  obtain ⟨rfl, hsz, hP, hK, hD0, hE⟩ := hv
  have hx := B.exec
  have hb := B.bytes
  have hr := B.returns
  have hG : ∀ w ∈ GW, w.before ([.ref ad0, .int 1] : List Value).toArray s = true := fun w h => atoms_spec (ws := Cond.code yX1_fail cX1_fail 2 (some .boolean) :: GW) B.pre w (List.mem_cons_of_mem _ h)
  have hown : s.vm.findClass RX1 = some m.cls := findClass_of_methodNamed B.named
  have hlocks := B.notSynchronized
  subst hsz
  have hD := hD0.self (sz := s.heap.size)
  generalize hAe : va_A [(ad0, ob 1 15 fn0), (ad1, ob 8 7 fn1), (ad2, ari (cy 0) 2001 ct2)] s.heap.size = A at hD hE ⊢
  have hA : ∀ q : Nat, s.heap.size ≤ q → A q := fun q h => by rw [← hAe]; exact Or.inr h
  have hS : va_S A s.heap s.heap [] := va_S.rf
  clear hAe hD0
  have hl0 := lv_entry ([.ref ad0, .int 1]) (n := 2) (Nat.le_of_ble_eq_true rfl)
  rw [lg_entry_eq]
  generalize (lg_sl ([.ref ad0, .int 1]) ++ List.replicate (2 - (lg_sl ([.ref ad0, .int 1])).length) Slot.unset).toArray = ls at hl0 ⊢
  have hl : lv_has ls 2 [(0, .ref ad0), (1, .int 1)] := hl0
  clear hl0
  refine lv_aload_n (pc := 0) hx hb dX1_fail_0 rfl (lv_at hl 0 rfl) ?_
  refine lv_iload_n (pc := 1) hx hb dX1_fail_1 rfl (lv_at hl 1 rfl) ?_
  refine ob_put (pc := 2) (v := .int 1) (ci := 1) (C := RX1) (T := TX1) (N := 15) hx hb hG in_X1 tyX1 tyX1_ok nmX1 hown hK hP hD hS 0 rfl rfl 7 (by decide) (hG _ g_34) rfl rfl rfl rfl dX1_fail_2 (ws' := [(ad0, ob 1 15 (vup fn0 7 (.int 1))), (ad1, ob 8 7 fn1), (ad2, ari (cy 0) 2001 ct2)]) rfl (fun H1 lo1 hP1 hD1 hS1 => ?_)
  clear hP hD hS
  refine lv_aload_n (pc := 5) hx hb dX1_fail_5 rfl (lv_at hl 0 rfl) ?_
  refine lv_aload_n (pc := 6) hx hb dX1_fail_6 rfl (lv_at hl 0 rfl) ?_
  refine cq_i (pc := 7) (wr := []) (k2 := 0) (n2 := 0) (va_runV (As := []) (rest := [.ref ad0]) ⟨hx, hb, hml, hown, hG⟩ (c_startHere l D cy kv H1.size ad0 (vup fn0 7 (.int 1)) ad1 fn1 ad2 ct2 h0_0 h0_2 h1_1 h1_4 k2_0) (cwV 0 hG (gi_V g_174 g_175 g_176 g_106 g_173) rfl rfl rfl (by decide +kernel) ⟨Nat.le_of_ble_eq_true rfl, Nat.le_of_ble_eq_true rfl⟩) ⟨pq_blind, (va_recv hK hP1 (ci := 1) (q0 := 0) rfl rfl), (pq_pass hP1 hD1 hK hE hS1 hA [0, 1, 2] rfl (by decide))⟩ rfl rfl hl.1 rfl (lv_room (Nat.le_of_ble_eq_true rfl)) dX1_fail_7 ⟨Nat.le_of_ble_eq_true rfl, Nat.le_of_ble_eq_true rfl⟩) hP1 hD1 hS1 hA [0, 1, 2] [] rfl rfl (by decide) (by decide) (by decide) (by decide) (fun r2 w2 H2 lo2 e2 hR2 hP2r hD2r hS2 => ?_)
  subst hR2
  subst e2
  have hP2 : va_P D classes [(ad0, ob 1 15 (vup fn0 7 (.int 1))), (ad1, ob 8 7 fn1), (ad2, ari (cy 0) 2001 ct2)] H2 := hP2r
  have hD2 : va_D A [(ad0, ob 1 15 (vup fn0 7 (.int 1))), (ad1, ob 8 7 fn1), (ad2, ari (cy 0) 2001 ct2)] := hD2r
  clear hP2r hD2r
  clear hP1 hD1 hS1
  clear H1 lo1
  refine ob_put (pc := 10) (v := .int 0) (ci := 1) (C := RX1) (T := TX1) (N := 15) hx hb hG in_X1 tyX1 tyX1_ok nmX1 hown hK hP2 hD2 hS2 0 rfl rfl 8 (by decide) (hG _ g_35) rfl rfl rfl rfl dX1_fail_10 (ws' := [(ad0, ob 1 15 (vup (vup fn0 7 (.int 1)) 8 (.int 0))), (ad1, ob 8 7 fn1), (ad2, ari (cy 0) 2001 ct2)]) rfl (fun H3 lo3 hP3 hD3 hS3 => ?_)
  clear hP2 hD2 hS2
  clear H2 lo2
  refine lv_iconst (pc := 13) (v := 0) hx hb dX1_fail_13 (by decide) ?_
  exact W.zret (pc := 14) (v := 0) (ty := .boolean) hx hb hr rfl (fun t ht hW => ⟨⟨0, (), rfl, rfl, _, rfl, by rw [ht]; exact hP3, hD3⟩, hS3.F ht⟩) hS3.2.2 dX1_fail_14
set_option maxHeartbeats 4000000 in
set_option maxRecDepth 100000 in
/-- X1_takeWord -/
theorem c_takeWord (l : Launch) (D : va_G) (cy : Nat → ClassId) (kv : KV) (sz : Nat) (ad0 : Nat) (fn0 : Nat → Value) (ad1 : Nat) (fn1 : Nat → Value) (ad2 : Nat) (ad3 : Nat) (ct2 : Nat → Int32) (ct3 : Nat → Int32) (h0_0 : fn0 0 = .ref ad1) (h0_2 : fn0 2 = .int 0) (h1_0 : fn1 0 = .ref ad2) (h1_1 : fn1 1 = .ref ad3) (h1_4 : fn1 4 = .int 1) (k2_0 : ct2 0 = 0) (k3_0 : ct3 0 = 0) : Met l yX1_takeWord (Cond.code yX1_takeWord cX1_takeWord 2 (some .boolean) :: GW) ({ frames := 10, cells := 0, slots := 0, locals := 200 } : Room) (va_Pc [.ref ad0, .int 0] (pcq D cy kv sz [(ad0, ob 1 15 fn0), (ad1, ob 8 7 fn1), (ad2, ari (cy 0) 2001 ct2), (ad3, ari (cy 0) 2001 ct3)])) (va_Qi (fun r (_ : Unit) => r = 0) (fun _ t => bq D (fun w => w = [(ad2, ari (cy 0) 2001 ct2), (ad0, ob 1 15 (vup (vup fn0 7 (.int 1)) 8 (.int 0))), (ad1, ob 8 7 fn1), (ad3, ari (cy 0) 2001 ct3)]) (va_A [(ad0, ob 1 15 fn0), (ad1, ob 8 7 fn1), (ad2, ari (cy 0) 2001 ct2), (ad3, ari (cy 0) 2001 ct3)] sz) t) (va_A [(ad0, ob 1 15 fn0), (ad1, ob 8 7 fn1), (ad2, ari (cy 0) 2001 ct2), (ad3, ari (cy 0) 2001 ct3)] sz)) 0 0 (va_A [(ad0, ob 1 15 fn0), (ad1, ob 8 7 fn1), (ad2, ari (cy 0) 2001 ct2), (ad3, ari (cy 0) 2001 ct3)] sz) := by
  refine Met.ofW (cc := cX1_takeWord) (maxL := 2) (ret := (some .boolean)) (by decide) rfl ?_
  intro p e s m args below meth c s₁ B hml hv
  obtain ⟨rfl, hsz, hP, hK, hD0, hE⟩ := hv
  have hx := B.exec
  have hb := B.bytes
  have hr := B.returns
  have hG : ∀ w ∈ GW, w.before ([.ref ad0, .int 0] : List Value).toArray s = true := fun w h => atoms_spec (ws := Cond.code yX1_takeWord cX1_takeWord 2 (some .boolean) :: GW) B.pre w (List.mem_cons_of_mem _ h)
  have hown : s.vm.findClass RX1 = some m.cls := findClass_of_methodNamed B.named
  have hlocks := B.notSynchronized
  subst hsz
  have hD := hD0.self (sz := s.heap.size)
  generalize hAe : va_A [(ad0, ob 1 15 fn0), (ad1, ob 8 7 fn1), (ad2, ari (cy 0) 2001 ct2), (ad3, ari (cy 0) 2001 ct3)] s.heap.size = A at hD hE ⊢
  have hA : ∀ q : Nat, s.heap.size ≤ q → A q := fun q h => by rw [← hAe]; exact Or.inr h
  have hS : va_S A s.heap s.heap [] := va_S.rf
  clear hAe hD0
  have hl0 := lv_entry ([.ref ad0, .int 0]) (n := 2) (Nat.le_of_ble_eq_true rfl)
  rw [lg_entry_eq]
  generalize (lg_sl ([.ref ad0, .int 0]) ++ List.replicate (2 - (lg_sl ([.ref ad0, .int 0])).length) Slot.unset).toArray = ls at hl0 ⊢
  have hl : lv_has ls 2 [(0, .ref ad0), (1, .int 0)] := hl0
  clear hl0
  refine lv_aload_n (pc := 0) hx hb dX1_takeWord_0 rfl (lv_at hl 0 rfl) ?_
  refine cq_i (pc := 1) (wr := [(ad3, ari (cy 0) 2001 ct3)]) (k2 := 0) (n2 := 0) (va_runV (As := []) (rest := []) ⟨hx, hb, hml, hown, hG⟩ (c_wordHere l D cy kv s.heap.size ad0 fn0 ad1 fn1 ad2 ct2 h0_0 h0_2 h1_0 h1_4 k2_0) (cwV 0 hG (gi_V g_178 g_179 g_180 g_106 g_172) rfl rfl rfl (by decide +kernel) ⟨Nat.le_of_ble_eq_true rfl, Nat.le_of_ble_eq_true rfl⟩) ⟨pq_blind, (va_recv hK hP (ci := 1) (q0 := 0) rfl rfl), (pq_pass hP hD hK hE hS hA [0, 1, 2] rfl (by decide))⟩ rfl rfl hl.1 rfl (lv_room (Nat.le_of_ble_eq_true rfl)) dX1_takeWord_1 ⟨Nat.le_of_ble_eq_true rfl, Nat.le_of_ble_eq_true rfl⟩) hP hD hS hA [0, 1, 2] [3] rfl rfl (by decide) (by decide) (by decide) (by decide) (fun r1 w1 H1 lo1 e1 hR1 hP1r hD1r hS1 => ?_)
  subst hR1
  subst e1
  have hP1 : va_P D classes [(ad3, ari (cy 0) 2001 ct3), (ad0, ob 1 15 fn0), (ad1, ob 8 7 fn1), (ad2, ari (cy 0) 2001 ct2)] H1 := hP1r
  have hD1 : va_D A [(ad3, ari (cy 0) 2001 ct3), (ad0, ob 1 15 fn0), (ad1, ob 8 7 fn1), (ad2, ari (cy 0) 2001 ct2)] := hD1r
  clear hP1r hD1r
  clear hP hD hS
  refine lv_iload_n (pc := 4) hx hb dX1_takeWord_4 rfl (lv_at hl 1 rfl) ?_
  refine lv_icmp_eq (pc := 5) (tgt := 14) hx hb dX1_takeWord_5 (by decide) (fun c2 => absurd c2 (by decide)) (fun c2 => ?_)
  refine lv_aload_n (pc := 8) hx hb dX1_takeWord_8 rfl (lv_at hl 0 rfl) ?_
  refine lv_iconst (pc := 9) (v := 1) hx hb dX1_takeWord_9 (by decide) ?_
  refine cq_i (pc := 10) (wr := [(ad2, ari (cy 0) 2001 ct2)]) (k2 := 0) (n2 := 0) (va_runV (As := [.int 1]) (rest := []) ⟨hx, hb, hml, hown, hG⟩ (c_fail l D cy kv H1.size ad0 fn0 ad1 fn1 ad3 ct3 h0_0 h0_2 h1_1 h1_4 k3_0) (cwV 1 hG (gi_V g_181 g_182 g_183 g_106 g_177) rfl rfl rfl (by decide +kernel) ⟨Nat.le_of_ble_eq_true rfl, Nat.le_of_ble_eq_true rfl⟩) ⟨pq_blind, (va_recv hK hP1 (ci := 1) (q0 := 1) rfl rfl), (pq_pass hP1 hD1 hK hE hS1 hA [1, 2, 0] rfl (by decide))⟩ rfl rfl hl.1 rfl (lv_room (Nat.le_of_ble_eq_true rfl)) dX1_takeWord_10 ⟨Nat.le_of_ble_eq_true rfl, Nat.le_of_ble_eq_true rfl⟩) hP1 hD1 hS1 hA [1, 2, 0] [3] rfl rfl (by decide) (by decide) (by decide) (by decide) (fun r3 w3 H3 lo3 e3 hR3 hP3r hD3r hS3 => ?_)
  subst hR3
  subst e3
  have hP3 : va_P D classes [(ad2, ari (cy 0) 2001 ct2), (ad0, ob 1 15 (vup (vup fn0 7 (.int 1)) 8 (.int 0))), (ad1, ob 8 7 fn1), (ad3, ari (cy 0) 2001 ct3)] H3 := hP3r
  have hD3 : va_D A [(ad2, ari (cy 0) 2001 ct2), (ad0, ob 1 15 (vup (vup fn0 7 (.int 1)) 8 (.int 0))), (ad1, ob 8 7 fn1), (ad3, ari (cy 0) 2001 ct3)] := hD3r
  clear hP3r hD3r
  clear hP1 hD1 hS1
  clear H1 lo1
  exact W.zret (pc := 13) (v := 0) (ty := .boolean) hx hb hr rfl (fun t ht hW => ⟨⟨0, (), rfl, rfl, _, rfl, by rw [ht]; exact hP3, hD3⟩, hS3.F ht⟩) hS3.2.2 dX1_takeWord_13
set_option maxHeartbeats 4000000 in
set_option maxRecDepth 100000 in
/-- X1_readDescription -/
theorem c_readDesc (l : Launch) (D : va_G) (cy : Nat → ClassId) (kv : KV) (sz : Nat) (ad0 : Nat) (ad6 : Nat) (ad7 : Nat) (ad8 : Nat) (fn0 : Nat → Value) (ad1 : Nat) (fn1 : Nat → Value) (ad2 : Nat) (ad3 : Nat) (ad4 : Nat) (ad5 : Nat) (ct2 : Nat → Int32) (ct3 : Nat → Int32) (ct4 : Nat → Int32) (ct5 : Nat → Int32) (ct6 : Nat → Int32) (fn8 : Nat → Value) (h0_0 : fn0 0 = .ref ad1) (h1_0 : fn1 0 = .ref ad2) (h1_1 : fn1 1 = .ref ad3) (h1_2 : fn1 2 = .ref ad4) (h1_3 : fn1 3 = .ref ad5) : Met l yX1_readDescription (Cond.code yX1_readDescription cX1_readDescription 8 (some .boolean) :: GW) ({ frames := 11, cells := 0, slots := 0, locals := 240 } : Room) (va_Pc [.ref ad0, .ref ad6, .int 0, .ref ad7, .int 0, .ref ad8] (pcq D cy kv sz [(ad0, ob 1 15 fn0), (ad1, ob 8 7 fn1), (ad2, ari (cy 0) 2001 ct2), (ad3, ari (cy 0) 2001 ct3), (ad4, ari (cy 0) 2001 ct4), (ad5, ari (cy 0) 2001 ct5), (ad6, ari (cy 1) 2000 ct6), (ad8, ob 10 5 fn8)])) (va_Qi (fun r (_ : Unit) => r = 0) (fun _ t => bq D (fun w => ∃ (nc900 : Nat → Value), w = [(ad0, ob 1 15 nc900)] ∧ nc900 7 = .int 1) (va_A [(ad0, ob 1 15 fn0), (ad1, ob 8 7 fn1), (ad2, ari (cy 0) 2001 ct2), (ad3, ari (cy 0) 2001 ct3), (ad4, ari (cy 0) 2001 ct4), (ad5, ari (cy 0) 2001 ct5), (ad6, ari (cy 1) 2000 ct6), (ad8, ob 10 5 fn8)] sz) t) (va_A [(ad0, ob 1 15 fn0), (ad1, ob 8 7 fn1), (ad2, ari (cy 0) 2001 ct2), (ad3, ari (cy 0) 2001 ct3), (ad4, ari (cy 0) 2001 ct4), (ad5, ari (cy 0) 2001 ct5), (ad6, ari (cy 1) 2000 ct6), (ad8, ob 10 5 fn8)] sz)) 0 0 (va_A [(ad0, ob 1 15 fn0), (ad1, ob 8 7 fn1), (ad2, ari (cy 0) 2001 ct2), (ad3, ari (cy 0) 2001 ct3), (ad4, ari (cy 0) 2001 ct4), (ad5, ari (cy 0) 2001 ct5), (ad6, ari (cy 1) 2000 ct6), (ad8, ob 10 5 fn8)] sz) := by
  refine Met.ofW (cc := cX1_readDescription) (maxL := 8) (ret := (some .boolean)) (by decide) rfl ?_
  intro p e s m args below meth c s₁ B hml hv
  obtain ⟨rfl, hsz, hP, hK, hD0, hE⟩ := hv
  have hx := B.exec
  have hb := B.bytes
  have hr := B.returns
  have hG : ∀ w ∈ GW, w.before ([.ref ad0, .ref ad6, .int 0, .ref ad7, .int 0, .ref ad8] : List Value).toArray s = true := fun w h => atoms_spec (ws := Cond.code yX1_readDescription cX1_readDescription 8 (some .boolean) :: GW) B.pre w (List.mem_cons_of_mem _ h)
  have hown : s.vm.findClass RX1 = some m.cls := findClass_of_methodNamed B.named
  have hlocks := B.notSynchronized
  subst hsz
  have hD := hD0.self (sz := s.heap.size)
  generalize hAe : va_A [(ad0, ob 1 15 fn0), (ad1, ob 8 7 fn1), (ad2, ari (cy 0) 2001 ct2), (ad3, ari (cy 0) 2001 ct3), (ad4, ari (cy 0) 2001 ct4), (ad5, ari (cy 0) 2001 ct5), (ad6, ari (cy 1) 2000 ct6), (ad8, ob 10 5 fn8)] s.heap.size = A at hD hE ⊢
  have hA : ∀ q : Nat, s.heap.size ≤ q → A q := fun q h => by rw [← hAe]; exact Or.inr h
  have hS : va_S A s.heap s.heap [] := va_S.rf
  clear hAe hD0
  have hl0 := lv_entry ([.ref ad0, .ref ad6, .int 0, .ref ad7, .int 0, .ref ad8]) (n := 8) (Nat.le_of_ble_eq_true rfl)
  rw [lg_entry_eq]
  generalize (lg_sl ([.ref ad0, .ref ad6, .int 0, .ref ad7, .int 0, .ref ad8]) ++ List.replicate (8 - (lg_sl ([.ref ad0, .ref ad6, .int 0, .ref ad7, .int 0, .ref ad8])).length) Slot.unset).toArray = ls at hl0 ⊢
  have hl : lv_has ls 8 [(0, .ref ad0), (1, .ref ad6), (2, .int 0), (3, .ref ad7), (4, .int 0), (5, .ref ad8)] := hl0
  clear hl0
  refine lv_aload_n (pc := 0) hx hb dX1_readDescription_0 rfl (lv_at hl 0 rfl) ?_
  refine lv_iconst (pc := 1) (v := 0) hx hb dX1_readDescription_1 (by decide) ?_
  refine ob_put (pc := 2) (v := .int 0) (ci := 1) (C := RX1) (T := TX1) (N := 15) hx hb hG in_X1 tyX1 tyX1_ok nmX1 hown hK hP hD hS 0 rfl rfl 7 (by decide) (hG _ g_34) rfl rfl rfl rfl dX1_readDescription_2 (ws' := [(ad0, ob 1 15 (vup fn0 7 (.int 0))), (ad1, ob 8 7 fn1), (ad2, ari (cy 0) 2001 ct2), (ad3, ari (cy 0) 2001 ct3), (ad4, ari (cy 0) 2001 ct4), (ad5, ari (cy 0) 2001 ct5), (ad6, ari (cy 1) 2000 ct6), (ad8, ob 10 5 fn8)]) rfl (fun H1 lo1 hP1 hD1 hS1 => ?_)
  clear hP hD hS
  refine lv_aload_n (pc := 5) hx hb dX1_readDescription_5 rfl (lv_at hl 0 rfl) ?_
  refine lv_iconst (pc := 6) (v := (-1)) hx hb dX1_readDescription_6 (by decide) ?_
  refine ob_put (pc := 7) (v := .int (-1)) (ci := 1) (C := RX1) (T := TX1) (N := 15) hx hb hG in_X1 tyX1 tyX1_ok nmX1 hown hK hP1 hD1 hS1 0 rfl rfl 8 (by decide) (hG _ g_35) rfl rfl rfl rfl dX1_readDescription_7 (ws' := [(ad0, ob 1 15 (vup (vup fn0 7 (.int 0)) 8 (.int (-1)))), (ad1, ob 8 7 fn1), (ad2, ari (cy 0) 2001 ct2), (ad3, ari (cy 0) 2001 ct3), (ad4, ari (cy 0) 2001 ct4), (ad5, ari (cy 0) 2001 ct5), (ad6, ari (cy 1) 2000 ct6), (ad8, ob 10 5 fn8)]) rfl (fun H2 lo2 hP2 hD2 hS2 => ?_)
  clear hP1 hD1 hS1
  clear H1 lo1
  refine lv_aload_n (pc := 10) hx hb dX1_readDescription_10 rfl (lv_at hl 0 rfl) ?_
  refine lv_aload_n (pc := 11) hx hb dX1_readDescription_11 rfl (lv_at hl 1 rfl) ?_
  refine ob_put (pc := 12) (v := .ref ad6) (ci := 1) (C := RX1) (T := TX1) (N := 15) hx hb hG in_X1 tyX1 tyX1_ok nmX1 hown hK hP2 hD2 hS2 0 rfl rfl 1 (by decide) (hG _ g_185) rfl rfl rfl rfl dX1_readDescription_12 (ws' := [(ad0, ob 1 15 (vup (vup (vup fn0 7 (.int 0)) 8 (.int (-1))) 1 (.ref ad6))), (ad1, ob 8 7 fn1), (ad2, ari (cy 0) 2001 ct2), (ad3, ari (cy 0) 2001 ct3), (ad4, ari (cy 0) 2001 ct4), (ad5, ari (cy 0) 2001 ct5), (ad6, ari (cy 1) 2000 ct6), (ad8, ob 10 5 fn8)]) rfl (fun H3 lo3 hP3 hD3 hS3 => ?_)
  clear hP2 hD2 hS2
  clear H2 lo2
  refine lv_aload_n (pc := 15) hx hb dX1_readDescription_15 rfl (lv_at hl 0 rfl) ?_
  refine ob_get (pc := 16) (v := .ref ad1) (ci := 1) (C := RX1) (T := TX1) (N := 15) hx hb hG in_X1 hown hK hP3 0 rfl rfl 0 (by decide) (hG _ g_33) rfl h0_0 dX1_readDescription_16 ?_
  refine lv_aload_n (pc := 19) hx hb dX1_readDescription_19 rfl (lv_at hl 1 rfl) ?_
  refine lv_iload_n (pc := 20) hx hb dX1_readDescription_20 rfl (lv_at hl 2 rfl) ?_
  refine cq_v (pc := 21) (wr := [(ad0, ob 1 15 (vup (vup (vup fn0 7 (.int 0)) 8 (.int (-1))) 1 (.ref ad6))), (ad8, ob 10 5 fn8)]) (k2 := 0) (n2 := 0) (va_runV (As := [.ref ad6, .int 0]) (rest := []) ⟨hx, hb, hml, hown, hG⟩ (c_scan l D cy kv H3.size ad1 ad6 fn1 ad2 ad3 ad4 ad5 ct2 ct3 ct4 ct5 ct6 h1_0 h1_1 h1_2 h1_3) (cwV 2 hG (gi_V g_186 g_187 g_188 g_31 g_165) rfl rfl rfl (by decide +kernel) ⟨Nat.le_of_ble_eq_true rfl, Nat.le_of_ble_eq_true rfl⟩) ⟨pq_blind, (va_recv hK hP3 (ci := 8) (q0 := 1) rfl rfl), (pq_pass hP3 hD3 hK hE hS3 hA [1, 2, 3, 4, 5, 6] rfl (by decide))⟩ rfl rfl hl.1 rfl (lv_room (Nat.le_of_ble_eq_true rfl)) dX1_readDescription_21 ⟨Nat.le_of_ble_eq_true rfl, Nat.le_of_ble_eq_true rfl⟩) hP3 hD3 hS3 hA [1, 2, 3, 4, 5, 6] [0, 7] rfl rfl (by decide) (by decide) (by decide) (by decide) (fun w4 H4 lo4 hR4 hP4r hD4r hS4 => ?_)
  subst hR4
  have hP4 : va_P D classes [(ad0, ob 1 15 (vup (vup (vup fn0 7 (.int 0)) 8 (.int (-1))) 1 (.ref ad6))), (ad8, ob 10 5 fn8), (ad6, ari (cy 1) 2000 ct6), (ad1, ob 8 7 (vup (vup (vup (vup fn1 5 (.ref ad6)) 6 (.int 0)) 4 (.int 0)) 4 (.int 1))), (ad2, ari (cy 0) 2001 (upd ct2 (0 : Int32).toNatClampNeg 0)), (ad3, ari (cy 0) 2001 (upd ct3 (0 : Int32).toNatClampNeg 0)), (ad4, ari (cy 0) 2001 (upd ct4 (0 : Int32).toNatClampNeg 0)), (ad5, ari (cy 0) 2001 (upd ct5 (0 : Int32).toNatClampNeg 0))] H4 := hP4r
  have hD4 : va_D A [(ad0, ob 1 15 (vup (vup (vup fn0 7 (.int 0)) 8 (.int (-1))) 1 (.ref ad6))), (ad8, ob 10 5 fn8), (ad6, ari (cy 1) 2000 ct6), (ad1, ob 8 7 (vup (vup (vup (vup fn1 5 (.ref ad6)) 6 (.int 0)) 4 (.int 0)) 4 (.int 1))), (ad2, ari (cy 0) 2001 (upd ct2 (0 : Int32).toNatClampNeg 0)), (ad3, ari (cy 0) 2001 (upd ct3 (0 : Int32).toNatClampNeg 0)), (ad4, ari (cy 0) 2001 (upd ct4 (0 : Int32).toNatClampNeg 0)), (ad5, ari (cy 0) 2001 (upd ct5 (0 : Int32).toNatClampNeg 0))] := hD4r
  clear hP4r hD4r
  clear hP3 hD3 hS3
  clear H3 lo3
  refine lv_aload_n (pc := 24) hx hb dX1_readDescription_24 rfl (lv_at hl 0 rfl) ?_
  refine lv_iconst (pc := 25) (v := 0) hx hb dX1_readDescription_25 (by decide) ?_
  refine ob_put (pc := 26) (v := .int 0) (ci := 1) (C := RX1) (T := TX1) (N := 15) hx hb hG in_X1 tyX1 tyX1_ok nmX1 hown hK hP4 hD4 hS4 0 rfl rfl 2 (by decide) (hG _ g_167) rfl rfl rfl rfl dX1_readDescription_26 (ws' := [(ad0, ob 1 15 (vup (vup (vup (vup fn0 7 (.int 0)) 8 (.int (-1))) 1 (.ref ad6)) 2 (.int 0))), (ad8, ob 10 5 fn8), (ad6, ari (cy 1) 2000 ct6), (ad1, ob 8 7 (vup (vup (vup (vup fn1 5 (.ref ad6)) 6 (.int 0)) 4 (.int 0)) 4 (.int 1))), (ad2, ari (cy 0) 2001 (upd ct2 (0 : Int32).toNatClampNeg 0)), (ad3, ari (cy 0) 2001 (upd ct3 (0 : Int32).toNatClampNeg 0)), (ad4, ari (cy 0) 2001 (upd ct4 (0 : Int32).toNatClampNeg 0)), (ad5, ari (cy 0) 2001 (upd ct5 (0 : Int32).toNatClampNeg 0))]) rfl (fun H5 lo5 hP5 hD5 hS5 => ?_)
  clear hP4 hD4 hS4
  clear H4 lo4
  refine lv_aload_n (pc := 29) hx hb dX1_readDescription_29 rfl (lv_at hl 0 rfl) ?_
  refine lv_iconst (pc := 30) (v := 0) hx hb dX1_readDescription_30 (by decide) ?_
  refine ob_put (pc := 31) (v := .int 0) (ci := 1) (C := RX1) (T := TX1) (N := 15) hx hb hG in_X1 tyX1 tyX1_ok nmX1 hown hK hP5 hD5 hS5 0 rfl rfl 14 (by decide) (hG _ g_189) rfl rfl rfl rfl dX1_readDescription_31 (ws' := [(ad0, ob 1 15 (vup (vup (vup (vup (vup fn0 7 (.int 0)) 8 (.int (-1))) 1 (.ref ad6)) 2 (.int 0)) 14 (.int 0))), (ad8, ob 10 5 fn8), (ad6, ari (cy 1) 2000 ct6), (ad1, ob 8 7 (vup (vup (vup (vup fn1 5 (.ref ad6)) 6 (.int 0)) 4 (.int 0)) 4 (.int 1))), (ad2, ari (cy 0) 2001 (upd ct2 (0 : Int32).toNatClampNeg 0)), (ad3, ari (cy 0) 2001 (upd ct3 (0 : Int32).toNatClampNeg 0)), (ad4, ari (cy 0) 2001 (upd ct4 (0 : Int32).toNatClampNeg 0)), (ad5, ari (cy 0) 2001 (upd ct5 (0 : Int32).toNatClampNeg 0))]) rfl (fun H6 lo6 hP6 hD6 hS6 => ?_)
  clear hP5 hD5 hS5
  clear H5 lo5
  refine lv_aload_n (pc := 34) hx hb dX1_readDescription_34 rfl (lv_at hl 0 rfl) ?_
  refine lv_aload (pc := 35) hx hb dX1_readDescription_35 (lv_at hl 5 rfl) ?_
  refine ob_put (pc := 37) (v := .ref ad8) (ci := 1) (C := RX1) (T := TX1) (N := 15) hx hb hG in_X1 tyX1 tyX1_ok nmX1 hown hK hP6 hD6 hS6 0 rfl rfl 4 (by decide) (hG _ g_190) rfl rfl rfl rfl dX1_readDescription_37 (ws' := [(ad0, ob 1 15 (vup (vup (vup (vup (vup (vup fn0 7 (.int 0)) 8 (.int (-1))) 1 (.ref ad6)) 2 (.int 0)) 14 (.int 0)) 4 (.ref ad8))), (ad8, ob 10 5 fn8), (ad6, ari (cy 1) 2000 ct6), (ad1, ob 8 7 (vup (vup (vup (vup fn1 5 (.ref ad6)) 6 (.int 0)) 4 (.int 0)) 4 (.int 1))), (ad2, ari (cy 0) 2001 (upd ct2 (0 : Int32).toNatClampNeg 0)), (ad3, ari (cy 0) 2001 (upd ct3 (0 : Int32).toNatClampNeg 0)), (ad4, ari (cy 0) 2001 (upd ct4 (0 : Int32).toNatClampNeg 0)), (ad5, ari (cy 0) 2001 (upd ct5 (0 : Int32).toNatClampNeg 0))]) rfl (fun H7 lo7 hP7 hD7 hS7 => ?_)
  clear hP6 hD6 hS6
  clear H6 lo6
  refine lv_aload_n (pc := 40) hx hb dX1_readDescription_40 rfl (lv_at hl 0 rfl) ?_
  refine ob_get (pc := 41) (v := .ref ad8) (ci := 1) (C := RX1) (T := TX1) (N := 15) hx hb hG in_X1 hown hK hP7 0 rfl rfl 4 (by decide) (hG _ g_190) rfl rfl dX1_readDescription_41 ?_
  refine cq_v (pc := 44) (wr := [(ad0, ob 1 15 (vup (vup (vup (vup (vup (vup fn0 7 (.int 0)) 8 (.int (-1))) 1 (.ref ad6)) 2 (.int 0)) 14 (.int 0)) 4 (.ref ad8))), (ad6, ari (cy 1) 2000 ct6), (ad1, ob 8 7 (vup (vup (vup (vup fn1 5 (.ref ad6)) 6 (.int 0)) 4 (.int 0)) 4 (.int 1))), (ad2, ari (cy 0) 2001 (upd ct2 (0 : Int32).toNatClampNeg 0)), (ad3, ari (cy 0) 2001 (upd ct3 (0 : Int32).toNatClampNeg 0)), (ad4, ari (cy 0) 2001 (upd ct4 (0 : Int32).toNatClampNeg 0)), (ad5, ari (cy 0) 2001 (upd ct5 (0 : Int32).toNatClampNeg 0))]) (k2 := 0) (n2 := 0) (va_runV (As := []) (rest := []) ⟨hx, hb, hml, hown, hG⟩ (c_forget l D cy kv H7.size ad8 fn8) (cwV 0 hG (gi_V g_191 g_192 g_193 g_101 g_166) rfl rfl rfl (by decide +kernel) ⟨Nat.le_of_ble_eq_true rfl, Nat.le_of_ble_eq_true rfl⟩) ⟨pq_blind, (va_recv hK hP7 (ci := 10) (q0 := 1) rfl rfl), (pq_pass hP7 hD7 hK hE hS7 hA [1] rfl (by decide))⟩ rfl rfl hl.1 rfl (lv_room (Nat.le_of_ble_eq_true rfl)) dX1_readDescription_44 ⟨Nat.le_of_ble_eq_true rfl, Nat.le_of_ble_eq_true rfl⟩) hP7 hD7 hS7 hA [1] [0, 2, 3, 4, 5, 6, 7] rfl rfl (by decide) (by decide) (by decide) (by decide) (fun w8 H8 lo8 hR8 hP8r hD8r hS8 => ?_)
  subst hR8
  have hP8 : va_P D classes [(ad0, ob 1 15 (vup (vup (vup (vup (vup (vup fn0 7 (.int 0)) 8 (.int (-1))) 1 (.ref ad6)) 2 (.int 0)) 14 (.int 0)) 4 (.ref ad8))), (ad6, ari (cy 1) 2000 ct6), (ad1, ob 8 7 (vup (vup (vup (vup fn1 5 (.ref ad6)) 6 (.int 0)) 4 (.int 0)) 4 (.int 1))), (ad2, ari (cy 0) 2001 (upd ct2 (0 : Int32).toNatClampNeg 0)), (ad3, ari (cy 0) 2001 (upd ct3 (0 : Int32).toNatClampNeg 0)), (ad4, ari (cy 0) 2001 (upd ct4 (0 : Int32).toNatClampNeg 0)), (ad5, ari (cy 0) 2001 (upd ct5 (0 : Int32).toNatClampNeg 0)), (ad8, ob 10 5 (vup (vup fn8 2 (.int 0)) 4 (.int 0)))] H8 := hP8r
  have hD8 : va_D A [(ad0, ob 1 15 (vup (vup (vup (vup (vup (vup fn0 7 (.int 0)) 8 (.int (-1))) 1 (.ref ad6)) 2 (.int 0)) 14 (.int 0)) 4 (.ref ad8))), (ad6, ari (cy 1) 2000 ct6), (ad1, ob 8 7 (vup (vup (vup (vup fn1 5 (.ref ad6)) 6 (.int 0)) 4 (.int 0)) 4 (.int 1))), (ad2, ari (cy 0) 2001 (upd ct2 (0 : Int32).toNatClampNeg 0)), (ad3, ari (cy 0) 2001 (upd ct3 (0 : Int32).toNatClampNeg 0)), (ad4, ari (cy 0) 2001 (upd ct4 (0 : Int32).toNatClampNeg 0)), (ad5, ari (cy 0) 2001 (upd ct5 (0 : Int32).toNatClampNeg 0)), (ad8, ob 10 5 (vup (vup fn8 2 (.int 0)) 4 (.int 0)))] := hD8r
  clear hP8r hD8r
  clear hP7 hD7 hS7
  clear H7 lo7
  refine lv_aload_n (pc := 47) hx hb dX1_readDescription_47 rfl (lv_at hl 0 rfl) ?_
  refine lv_iconst (pc := 48) (v := 0) hx hb dX1_readDescription_48 (by decide) ?_
  refine ob_put (pc := 49) (v := .int 0) (ci := 1) (C := RX1) (T := TX1) (N := 15) hx hb hG in_X1 tyX1 tyX1_ok nmX1 hown hK hP8 hD8 hS8 0 rfl rfl 3 (by decide) (hG _ g_194) rfl rfl rfl rfl dX1_readDescription_49 (ws' := [(ad0, ob 1 15 (vup (vup (vup (vup (vup (vup (vup fn0 7 (.int 0)) 8 (.int (-1))) 1 (.ref ad6)) 2 (.int 0)) 14 (.int 0)) 4 (.ref ad8)) 3 (.int 0))), (ad6, ari (cy 1) 2000 ct6), (ad1, ob 8 7 (vup (vup (vup (vup fn1 5 (.ref ad6)) 6 (.int 0)) 4 (.int 0)) 4 (.int 1))), (ad2, ari (cy 0) 2001 (upd ct2 (0 : Int32).toNatClampNeg 0)), (ad3, ari (cy 0) 2001 (upd ct3 (0 : Int32).toNatClampNeg 0)), (ad4, ari (cy 0) 2001 (upd ct4 (0 : Int32).toNatClampNeg 0)), (ad5, ari (cy 0) 2001 (upd ct5 (0 : Int32).toNatClampNeg 0)), (ad8, ob 10 5 (vup (vup fn8 2 (.int 0)) 4 (.int 0)))]) rfl (fun H9 lo9 hP9 hD9 hS9 => ?_)
  clear hP8 hD8 hS8
  clear H8 lo8
  refine lv_aload_n (pc := 52) hx hb dX1_readDescription_52 rfl (lv_at hl 0 rfl) ?_
  refine lv_iconst (pc := 53) (v := 0) hx hb dX1_readDescription_53 (by decide) ?_
  refine cq_i (pc := 54) (wr := [(ad6, ari (cy 1) 2000 ct6), (ad4, ari (cy 0) 2001 (upd ct4 (0 : Int32).toNatClampNeg 0)), (ad5, ari (cy 0) 2001 (upd ct5 (0 : Int32).toNatClampNeg 0)), (ad8, ob 10 5 (vup (vup fn8 2 (.int 0)) 4 (.int 0)))]) (k2 := 0) (n2 := 0) (va_runV (As := [.int 0]) (rest := []) ⟨hx, hb, hml, hown, hG⟩ (c_takeWord l D cy kv H9.size ad0 (vup (vup (vup (vup (vup (vup (vup fn0 7 (.int 0)) 8 (.int (-1))) 1 (.ref ad6)) 2 (.int 0)) 14 (.int 0)) 4 (.ref ad8)) 3 (.int 0)) ad1 (vup (vup (vup (vup fn1 5 (.ref ad6)) 6 (.int 0)) 4 (.int 0)) 4 (.int 1)) ad2 ad3 (upd ct2 (0 : Int32).toNatClampNeg 0) (upd ct3 (0 : Int32).toNatClampNeg 0) h0_0 rfl h1_0 h1_1 rfl rfl rfl) (cwV 1 hG (gi_V g_195 g_196 g_197 g_106 g_184) rfl rfl rfl (by decide +kernel) ⟨Nat.le_of_ble_eq_true rfl, Nat.le_of_ble_eq_true rfl⟩) ⟨pq_blind, (va_recv hK hP9 (ci := 1) (q0 := 0) rfl rfl), (pq_pass hP9 hD9 hK hE hS9 hA [0, 2, 3, 4] rfl (by decide))⟩ rfl rfl hl.1 rfl (lv_room (Nat.le_of_ble_eq_true rfl)) dX1_readDescription_54 ⟨Nat.le_of_ble_eq_true rfl, Nat.le_of_ble_eq_true rfl⟩) hP9 hD9 hS9 hA [0, 2, 3, 4] [1, 5, 6, 7] rfl rfl (by decide) (by decide) (by decide) (by decide) (fun r10 w10 H10 lo10 e10 hR10 hP10r hD10r hS10 => ?_)
  subst hR10
  subst e10
  have hP10 : va_P D classes [(ad6, ari (cy 1) 2000 ct6), (ad4, ari (cy 0) 2001 (upd ct4 (0 : Int32).toNatClampNeg 0)), (ad5, ari (cy 0) 2001 (upd ct5 (0 : Int32).toNatClampNeg 0)), (ad8, ob 10 5 (vup (vup fn8 2 (.int 0)) 4 (.int 0))), (ad2, ari (cy 0) 2001 (upd ct2 (0 : Int32).toNatClampNeg 0)), (ad0, ob 1 15 (vup (vup (vup (vup (vup (vup (vup (vup (vup fn0 7 (.int 0)) 8 (.int (-1))) 1 (.ref ad6)) 2 (.int 0)) 14 (.int 0)) 4 (.ref ad8)) 3 (.int 0)) 7 (.int 1)) 8 (.int 0))), (ad1, ob 8 7 (vup (vup (vup (vup fn1 5 (.ref ad6)) 6 (.int 0)) 4 (.int 0)) 4 (.int 1))), (ad3, ari (cy 0) 2001 (upd ct3 (0 : Int32).toNatClampNeg 0))] H10 := hP10r
  have hD10 : va_D A [(ad6, ari (cy 1) 2000 ct6), (ad4, ari (cy 0) 2001 (upd ct4 (0 : Int32).toNatClampNeg 0)), (ad5, ari (cy 0) 2001 (upd ct5 (0 : Int32).toNatClampNeg 0)), (ad8, ob 10 5 (vup (vup fn8 2 (.int 0)) 4 (.int 0))), (ad2, ari (cy 0) 2001 (upd ct2 (0 : Int32).toNatClampNeg 0)), (ad0, ob 1 15 (vup (vup (vup (vup (vup (vup (vup (vup (vup fn0 7 (.int 0)) 8 (.int (-1))) 1 (.ref ad6)) 2 (.int 0)) 14 (.int 0)) 4 (.ref ad8)) 3 (.int 0)) 7 (.int 1)) 8 (.int 0))), (ad1, ob 8 7 (vup (vup (vup (vup fn1 5 (.ref ad6)) 6 (.int 0)) 4 (.int 0)) 4 (.int 1))), (ad3, ari (cy 0) 2001 (upd ct3 (0 : Int32).toNatClampNeg 0))] := hD10r
  clear hP10r hD10r
  clear hP9 hD9 hS9
  clear H9 lo9
  refine lv_if_eq (pc := 57) (tgt := 70) hx hb dX1_readDescription_57 (by decide) (fun c11 => ?_) (fun c11 => absurd (by decide) c11)
  refine lv_iconst (pc := 70) (v := 0) hx hb dX1_readDescription_70 (by decide) ?_
  have hP99 := hP10.sub (ws' := [(ad0, ob 1 15 (vup (vup (vup (vup (vup (vup (vup (vup (vup fn0 7 (.int 0)) 8 (.int (-1))) 1 (.ref ad6)) 2 (.int 0)) 14 (.int 0)) 4 (.ref ad8)) 3 (.int 0)) 7 (.int 1)) 8 (.int 0)))]) [5] rfl
  have hD99 := hD10.sub (ws' := [(ad0, ob 1 15 (vup (vup (vup (vup (vup (vup (vup (vup (vup fn0 7 (.int 0)) 8 (.int (-1))) 1 (.ref ad6)) 2 (.int 0)) 14 (.int 0)) 4 (.ref ad8)) 3 (.int 0)) 7 (.int 1)) 8 (.int 0)))]) [5] (by decide) rfl
  exact W.zret (pc := 71) (v := 0) (ty := .boolean) hx hb hr rfl (fun t ht hW => ⟨⟨0, (), rfl, rfl, _, ⟨(vup (vup (vup (vup (vup (vup (vup (vup (vup fn0 7 (.int 0)) 8 (.int (-1))) 1 (.ref ad6)) 2 (.int 0)) 14 (.int 0)) 4 (.ref ad8)) 3 (.int 0)) 7 (.int 1)) 8 (.int 0)), rfl, rfl⟩, by rw [ht]; exact hP99, hD99⟩, hS10.F ht⟩) hS10.2.2 dX1_readDescription_71
set_option maxHeartbeats 4000000 in
set_option maxRecDepth 100000 in
/-- X11_describe -/
theorem c_describe_z (l : Launch) (D : va_G) (cy : Nat → ClassId) (kv : KV) (sz : Nat) (ad0 : Nat) (fn0 : Nat → Value) (ad6 : Nat) (ad7 : Nat) (ad8 : Nat) (ad9 : Nat) (fn9 : Nat → Value) (ad1 : Nat) (fn1 : Nat → Value) (ad2 : Nat) (ad3 : Nat) (ad4 : Nat) (ad5 : Nat) (ct2 : Nat → Int32) (ct3 : Nat → Int32) (ct4 : Nat → Int32) (ct5 : Nat → Int32) (ct6 : Nat → Int32) (fn8 : Nat → Value) (h0_0 : fn0 0 = .ref ad6) (h0_1 : fn0 1 = .int 0) (h0_3 : fn0 3 = .ref ad7) (h0_4 : fn0 4 = .int 0) (h0_5 : fn0 5 = .ref ad8) (h0_6 : fn0 6 = .ref ad9) (h1_0 : fn9 0 = .ref ad1) (h2_0 : fn1 0 = .ref ad2) (h2_1 : fn1 1 = .ref ad3) (h2_2 : fn1 2 = .ref ad4) (h2_3 : fn1 3 = .ref ad5) : Met l yX11_describe (Cond.code yX11_describe cX11_describe 2 (some .int) :: GW) ({ frames := 12, cells := 0, slots := 0, locals := 280 } : Room) (va_Pc [.ref ad0, .int 0] (pcq D cy kv sz [(ad0, ob 11 15 fn0), (ad9, ob 1 15 fn9), (ad1, ob 8 7 fn1), (ad2, ari (cy 0) 2001 ct2), (ad3, ari (cy 0) 2001 ct3), (ad4, ari (cy 0) 2001 ct4), (ad5, ari (cy 0) 2001 ct5), (ad6, ari (cy 1) 2000 ct6), (ad8, ob 10 5 fn8)])) (va_Qi (fun r (_ : Unit) => r = (-9)) (fun _ t => bq D (fun w => w = []) (va_A [(ad0, ob 11 15 fn0), (ad9, ob 1 15 fn9), (ad1, ob 8 7 fn1), (ad2, ari (cy 0) 2001 ct2), (ad3, ari (cy 0) 2001 ct3), (ad4, ari (cy 0) 2001 ct4), (ad5, ari (cy 0) 2001 ct5), (ad6, ari (cy 1) 2000 ct6), (ad8, ob 10 5 fn8)] sz) t) (va_A [(ad0, ob 11 15 fn0), (ad9, ob 1 15 fn9), (ad1, ob 8 7 fn1), (ad2, ari (cy 0) 2001 ct2), (ad3, ari (cy 0) 2001 ct3), (ad4, ari (cy 0) 2001 ct4), (ad5, ari (cy 0) 2001 ct5), (ad6, ari (cy 1) 2000 ct6), (ad8, ob 10 5 fn8)] sz)) 0 0 (va_A [(ad0, ob 11 15 fn0), (ad9, ob 1 15 fn9), (ad1, ob 8 7 fn1), (ad2, ari (cy 0) 2001 ct2), (ad3, ari (cy 0) 2001 ct3), (ad4, ari (cy 0) 2001 ct4), (ad5, ari (cy 0) 2001 ct5), (ad6, ari (cy 1) 2000 ct6), (ad8, ob 10 5 fn8)] sz) := by
  refine Met.ofW (cc := cX11_describe) (maxL := 2) (ret := (some .int)) (by decide) rfl ?_
  intro p e s m args below meth c s₁ B hml hv
  obtain ⟨rfl, hsz, hP, hK, hD0, hE⟩ := hv
  have hx := B.exec
  have hb := B.bytes
  have hr := B.returns
  have hG : ∀ w ∈ GW, w.before ([.ref ad0, .int 0] : List Value).toArray s = true := fun w h => atoms_spec (ws := Cond.code yX11_describe cX11_describe 2 (some .int) :: GW) B.pre w (List.mem_cons_of_mem _ h)
  have hown : s.vm.findClass RX11 = some m.cls := findClass_of_methodNamed B.named
  have hlocks := B.notSynchronized
  subst hsz
  have hD := hD0.self (sz := s.heap.size)
  generalize hAe : va_A [(ad0, ob 11 15 fn0), (ad9, ob 1 15 fn9), (ad1, ob 8 7 fn1), (ad2, ari (cy 0) 2001 ct2), (ad3, ari (cy 0) 2001 ct3), (ad4, ari (cy 0) 2001 ct4), (ad5, ari (cy 0) 2001 ct5), (ad6, ari (cy 1) 2000 ct6), (ad8, ob 10 5 fn8)] s.heap.size = A at hD hE ⊢
  have hA : ∀ q : Nat, s.heap.size ≤ q → A q := fun q h => by rw [← hAe]; exact Or.inr h
  have hS : va_S A s.heap s.heap [] := va_S.rf
  clear hAe hD0
  have hl0 := lv_entry ([.ref ad0, .int 0]) (n := 2) (Nat.le_of_ble_eq_true rfl)
  rw [lg_entry_eq]
  generalize (lg_sl ([.ref ad0, .int 0]) ++ List.replicate (2 - (lg_sl ([.ref ad0, .int 0])).length) Slot.unset).toArray = ls at hl0 ⊢
  have hl : lv_has ls 2 [(0, .ref ad0), (1, .int 0)] := hl0
  clear hl0
  refine lv_aload_n (pc := 0) hx hb dX11_describe_0 rfl (lv_at hl 0 rfl) ?_
  refine lv_iload_n (pc := 1) hx hb dX11_describe_1 rfl (lv_at hl 1 rfl) ?_
  refine cq_i (pc := 2) (wr := [(ad9, ob 1 15 fn9), (ad1, ob 8 7 fn1), (ad2, ari (cy 0) 2001 ct2), (ad3, ari (cy 0) 2001 ct3), (ad4, ari (cy 0) 2001 ct4), (ad5, ari (cy 0) 2001 ct5), (ad6, ari (cy 1) 2000 ct6), (ad8, ob 10 5 fn8)]) (k2 := 0) (n2 := 0) (va_runV (As := [.int 0]) (rest := []) ⟨hx, hb, hml, hown, hG⟩ (c_isOnTape_z l D cy kv s.heap.size ad0 fn0 h0_1) (cwV 1 hG (gi_V g_146 g_147 g_148 g_143 g_145) rfl rfl rfl (by decide +kernel) ⟨Nat.le_of_ble_eq_true rfl, Nat.le_of_ble_eq_true rfl⟩) ⟨pq_blind, (va_recv hK hP (ci := 11) (q0 := 0) rfl rfl), (pq_pass hP hD hK hE hS hA [0] rfl (by decide))⟩ rfl rfl hl.1 rfl (lv_room (Nat.le_of_ble_eq_true rfl)) dX11_describe_2 ⟨Nat.le_of_ble_eq_true rfl, Nat.le_of_ble_eq_true rfl⟩) hP hD hS hA [0] [1, 2, 3, 4, 5, 6, 7, 8] rfl rfl (by decide) (by decide) (by decide) (by decide) (fun r1 w1 H1 lo1 e1 hR1 hP1r hD1r hS1 => ?_)
  subst hR1
  subst e1
  have hP1 : va_P D classes [(ad9, ob 1 15 fn9), (ad1, ob 8 7 fn1), (ad2, ari (cy 0) 2001 ct2), (ad3, ari (cy 0) 2001 ct3), (ad4, ari (cy 0) 2001 ct4), (ad5, ari (cy 0) 2001 ct5), (ad6, ari (cy 1) 2000 ct6), (ad8, ob 10 5 fn8), (ad0, ob 11 15 fn0)] H1 := hP1r
  have hD1 : va_D A [(ad9, ob 1 15 fn9), (ad1, ob 8 7 fn1), (ad2, ari (cy 0) 2001 ct2), (ad3, ari (cy 0) 2001 ct3), (ad4, ari (cy 0) 2001 ct4), (ad5, ari (cy 0) 2001 ct5), (ad6, ari (cy 1) 2000 ct6), (ad8, ob 10 5 fn8), (ad0, ob 11 15 fn0)] := hD1r
  clear hP1r hD1r
  clear hP hD hS
  refine lv_if_ne (pc := 5) (tgt := 16) hx hb dX11_describe_5 (by decide) (fun c2 => ?_) (fun c2 => absurd c2 (by decide))
  refine lv_aload_n (pc := 16) hx hb dX11_describe_16 rfl (lv_at hl 0 rfl) ?_
  refine lv_iconst (pc := 17) (v := 0) hx hb dX11_describe_17 (by decide) ?_
  refine ob_put (pc := 18) (v := .int 0) (ci := 11) (C := RX11) (T := TX11) (N := 15) hx hb hG in_X11 tyX11 tyX11_ok nmX11 hown hK hP1 hD1 hS1 8 rfl rfl 1 (by decide) (hG _ g_90) rfl rfl rfl rfl dX11_describe_18 (ws' := [(ad9, ob 1 15 fn9), (ad1, ob 8 7 fn1), (ad2, ari (cy 0) 2001 ct2), (ad3, ari (cy 0) 2001 ct3), (ad4, ari (cy 0) 2001 ct4), (ad5, ari (cy 0) 2001 ct5), (ad6, ari (cy 1) 2000 ct6), (ad8, ob 10 5 fn8), (ad0, ob 11 15 (vup fn0 1 (.int 0)))]) rfl (fun H3 lo3 hP3 hD3 hS3 => ?_)
  clear hP1 hD1 hS1
  clear H1 lo1
  refine lv_aload_n (pc := 21) hx hb dX11_describe_21 rfl (lv_at hl 0 rfl) ?_
  refine ob_get (pc := 22) (v := .ref ad9) (ci := 11) (C := RX11) (T := TX11) (N := 15) hx hb hG in_X11 hown hK hP3 8 rfl rfl 6 (by decide) (hG _ g_108) rfl h0_6 dX11_describe_22 ?_
  refine lv_aload_n (pc := 25) hx hb dX11_describe_25 rfl (lv_at hl 0 rfl) ?_
  refine ob_get (pc := 26) (v := .ref ad6) (ci := 11) (C := RX11) (T := TX11) (N := 15) hx hb hG in_X11 hown hK hP3 8 rfl rfl 0 (by decide) (hG _ g_89) rfl h0_0 dX11_describe_26 ?_
  refine lv_iload_n (pc := 29) hx hb dX11_describe_29 rfl (lv_at hl 1 rfl) ?_
  refine lv_aload_n (pc := 30) hx hb dX11_describe_30 rfl (lv_at hl 0 rfl) ?_
  refine ob_get (pc := 31) (v := .ref ad7) (ci := 11) (C := RX11) (T := TX11) (N := 15) hx hb hG in_X11 hown hK hP3 8 rfl rfl 3 (by decide) (hG _ g_98) rfl h0_3 dX11_describe_31 ?_
  refine lv_aload_n (pc := 34) hx hb dX11_describe_34 rfl (lv_at hl 0 rfl) ?_
  refine ob_get (pc := 35) (v := .int 0) (ci := 11) (C := RX11) (T := TX11) (N := 15) hx hb hG in_X11 hown hK hP3 8 rfl rfl 4 (by decide) (hG _ g_99) rfl h0_4 dX11_describe_35 ?_
  refine lv_aload_n (pc := 38) hx hb dX11_describe_38 rfl (lv_at hl 0 rfl) ?_
  refine ob_get (pc := 39) (v := .ref ad8) (ci := 11) (C := RX11) (T := TX11) (N := 15) hx hb hG in_X11 hown hK hP3 8 rfl rfl 5 (by decide) (hG _ g_103) rfl h0_5 dX11_describe_39 ?_
  refine cq_i (pc := 42) (wr := [(ad0, ob 11 15 (vup fn0 1 (.int 0)))]) (k2 := 0) (n2 := 0) (va_runV (As := [.ref ad6, .int 0, .ref ad7, .int 0, .ref ad8]) (rest := []) ⟨hx, hb, hml, hown, hG⟩ (c_readDesc l D cy kv H3.size ad9 ad6 ad7 ad8 fn9 ad1 fn1 ad2 ad3 ad4 ad5 ct2 ct3 ct4 ct5 ct6 fn8 h1_0 h2_0 h2_1 h2_2 h2_3) (cwV 5 hG (gi_V g_199 g_200 g_201 g_106 g_198) rfl rfl rfl (by decide +kernel) ⟨Nat.le_of_ble_eq_true rfl, Nat.le_of_ble_eq_true rfl⟩) ⟨pq_blind, (va_recv hK hP3 (ci := 1) (q0 := 0) rfl rfl), (pq_pass hP3 hD3 hK hE hS3 hA [0, 1, 2, 3, 4, 5, 6, 7] rfl (by decide))⟩ rfl rfl hl.1 rfl (lv_room (Nat.le_of_ble_eq_true rfl)) dX11_describe_42 ⟨Nat.le_of_ble_eq_true rfl, Nat.le_of_ble_eq_true rfl⟩) hP3 hD3 hS3 hA [0, 1, 2, 3, 4, 5, 6, 7] [8] rfl rfl (by decide) (by decide) (by decide) (by decide) (fun r4 w4 H4 lo4 e4 hR4 hP4r hD4r hS4 => ?_)
  obtain ⟨nc4000, rfl, hf4_0⟩ := hR4
  subst e4
  have hP4 : va_P D classes [(ad0, ob 11 15 (vup fn0 1 (.int 0))), (ad9, ob 1 15 nc4000)] H4 := hP4r
  have hD4 : va_D A [(ad0, ob 11 15 (vup fn0 1 (.int 0))), (ad9, ob 1 15 nc4000)] := hD4r
  clear hP4r hD4r
  clear hP3 hD3 hS3
  clear H3 lo3
  refine lv_if_ne (pc := 45) (tgt := 59) hx hb dX11_describe_45 (by decide) (fun c5 => absurd (by decide) c5) (fun c5 => ?_)
  refine lv_aload_n (pc := 48) hx hb dX11_describe_48 rfl (lv_at hl 0 rfl) ?_
  refine ob_get (pc := 49) (v := .ref ad9) (ci := 11) (C := RX11) (T := TX11) (N := 15) hx hb hG in_X11 hown hK hP4 0 rfl rfl 6 (by decide) (hG _ g_108) rfl h0_6 dX11_describe_49 ?_
  refine ob_getN (pc := 52) (v := .int 1) (ci := 1) (C := RX1) (T := TX1) (N := 15) hx hb hG in_X1 hown hK hP4 1 rfl rfl 7 (by decide) (nw_at hE n_14) rfl hf4_0 dX11_describe_52 ?_
  refine lv_bipush (pc := 55) (v := 10) hx hb dX11_describe_55 (by decide) ?_
  refine lv_isub (pc := 57) hx hb dX11_describe_57 ?_
  refine tp_i (y := (-9)) (by decide) ?_
  have hP99 := hP4.sub (ws' := []) [] rfl
  have hD99 := hD4.sub (ws' := []) [] (by decide) rfl
  exact W.iret (pc := 58) (v := (-9)) hx hb hr (fun t ht hW => ⟨⟨(-9), (), rfl, rfl, _, rfl, by rw [ht]; exact hP99, hD99⟩, hS4.F ht⟩) hS4.2.2 dX11_describe_58
set_option maxHeartbeats 4000000 in
set_option maxRecDepth 100000 in
/-- X11_fault -/
theorem c_fault (l : Launch) (D : va_G) (cy : Nat → ClassId) (kv : KV) (sz : Nat) (ad0 : Nat) (fn0 : Nat → Value) (ad1 : Nat) (fn1 : Nat → Value) (h0_6 : fn0 6 = .ref ad1) (h1_8 : fn1 8 = .int (-1)) : Met l yX11_fault (Cond.code yX11_fault cX11_fault 1 (some .int) :: GW) ({ frames := 8, cells := 0, slots := 0, locals := 120 } : Room) (va_Pc [.ref ad0] (pcq D cy kv sz [(ad0, ob 11 15 fn0), (ad1, ob 1 15 fn1)])) (va_Qi (fun r (_ : Unit) => r = (-1)) (fun _ t => bq D (fun w => w = [(ad0, ob 11 15 fn0), (ad1, ob 1 15 fn1)]) (va_A [(ad0, ob 11 15 fn0), (ad1, ob 1 15 fn1)] sz) t) (va_A [(ad0, ob 11 15 fn0), (ad1, ob 1 15 fn1)] sz)) 0 0 (va_A [(ad0, ob 11 15 fn0), (ad1, ob 1 15 fn1)] sz) := by
  refine Met.ofW (cc := cX11_fault) (maxL := 1) (ret := (some .int)) (by decide) rfl ?_
  intro p e s m args below meth c s₁ B hml hv
  obtain ⟨rfl, hsz, hP, hK, hD0, hE⟩ := hv
  have hx := B.exec
  have hb := B.bytes
  have hr := B.returns
  have hG : ∀ w ∈ GW, w.before ([.ref ad0] : List Value).toArray s = true := fun w h => atoms_spec (ws := Cond.code yX11_fault cX11_fault 1 (some .int) :: GW) B.pre w (List.mem_cons_of_mem _ h)
  have hown : s.vm.findClass RX11 = some m.cls := findClass_of_methodNamed B.named
  have hlocks := B.notSynchronized
  subst hsz
  have hD := hD0.self (sz := s.heap.size)
  generalize hAe : va_A [(ad0, ob 11 15 fn0), (ad1, ob 1 15 fn1)] s.heap.size = A at hD hE ⊢
  have hA : ∀ q : Nat, s.heap.size ≤ q → A q := fun q h => by rw [← hAe]; exact Or.inr h
  have hS : va_S A s.heap s.heap [] := va_S.rf
  clear hAe hD0
  have hl0 := lv_entry ([.ref ad0]) (n := 1) (Nat.le_of_ble_eq_true rfl)
  rw [lg_entry_eq]
  generalize (lg_sl ([.ref ad0]) ++ List.replicate (1 - (lg_sl ([.ref ad0])).length) Slot.unset).toArray = ls at hl0 ⊢
  have hl : lv_has ls 1 [(0, .ref ad0)] := hl0
  clear hl0
  refine lv_aload_n (pc := 0) hx hb dX11_fault_0 rfl (lv_at hl 0 rfl) ?_
  refine ob_get (pc := 1) (v := .ref ad1) (ci := 11) (C := RX11) (T := TX11) (N := 15) hx hb hG in_X11 hown hK hP 0 rfl rfl 6 (by decide) (hG _ g_108) rfl h0_6 dX11_fault_1 ?_
  refine ob_getN (pc := 4) (v := .int (-1)) (ci := 1) (C := RX1) (T := TX1) (N := 15) hx hb hG in_X1 hown hK hP 1 rfl rfl 8 (by decide) (nw_at hE n_15) rfl h1_8 dX11_fault_4 ?_
  exact W.iret (pc := 7) (v := (-1)) hx hb hr (fun t ht hW => ⟨⟨(-1), (), rfl, rfl, _, rfl, by rw [ht]; exact hP, hD⟩, hS.F ht⟩) hS.2.2 dX11_fault_7
set_option maxHeartbeats 4000000 in
set_option maxRecDepth 100000 in
/-- X11_put throws -/
theorem x_put_n (l : Launch) (hst0 : l.stackTraces = false) (D : va_G) (cy : Nat → ClassId) (kv : KV) (sz : Nat) (ad0 : Nat) (xi1 : Int32) (xi0 : Int32) (fn0 : Nat → Value) (h0_1 : fn0 1 = .int 0) (hn : xi0 < 0) : vx_Met l yX11_put (Cond.code yX11_put cX11_put 5 (some .int) :: GW) ({ frames := 10, cells := 1, slots := 6, locals := 200 } : Room) (va_Pc [.ref ad0, .int xi1, .int xi0] (pcq D cy kv sz [(ad0, ob 11 15 fn0)])) (va_Qv (fun (_ : Unit) => False) (fun _ _ => True) (fun _ => False)) (vx_X (fun (_ : Unit) => True) (fun E _ t => E = "java/lang/IllegalArgumentException" ∧ bq D (fun w => w = [(ad0, ob 11 15 fn0)]) (va_A [(ad0, ob 11 15 fn0)] sz) t) (va_A [(ad0, ob 11 15 fn0)] sz)) 1 6 (va_A [(ad0, ob 11 15 fn0)] sz) := by
  refine vx_ofW (cc := cX11_put) (maxL := 5) (ret := (some .int)) (by decide) rfl ?_
  intro p e s m args below meth c s₁ B hml htb hv
  obtain ⟨rfl, hsz, hP, hK, hD0, hE⟩ := hv
  have hx := B.exec
  have hb := B.bytes
  have hr := B.returns
  have hG : ∀ w ∈ GW, w.before ([.ref ad0, .int xi1, .int xi0] : List Value).toArray s = true := fun w h => atoms_spec (ws := Cond.code yX11_put cX11_put 5 (some .int) :: GW) B.pre w (List.mem_cons_of_mem _ h)
  have hown : s.vm.findClass RX11 = some m.cls := findClass_of_methodNamed B.named
  have hlocks := B.notSynchronized
  subst hsz
  have hD := hD0.self (sz := s.heap.size)
  generalize hAe : va_A [(ad0, ob 11 15 fn0)] s.heap.size = A at hD hE ⊢
  have hA : ∀ q : Nat, s.heap.size ≤ q → A q := fun q h => by rw [← hAe]; exact Or.inr h
  have hS : va_S A s.heap s.heap [] := va_S.rf
  clear hAe hD0
  have hl0 := lv_entry ([.ref ad0, .int xi1, .int xi0]) (n := 5) (Nat.le_of_ble_eq_true rfl)
  rw [lg_entry_eq]
  generalize (lg_sl ([.ref ad0, .int xi1, .int xi0]) ++ List.replicate (5 - (lg_sl ([.ref ad0, .int xi1, .int xi0])).length) Slot.unset).toArray = ls at hl0 ⊢
  have hl : lv_has ls 5 [(0, .ref ad0), (1, .int xi1), (2, .int xi0)] := hl0
  clear hl0
  refine lv_aload_n (pc := 0) hx hb dX11_put_0 rfl (lv_at hl 0 rfl) ?_
  refine lv_iload_n (pc := 1) hx hb dX11_put_1 rfl (lv_at hl 2 rfl) ?_
  refine cq_i (pc := 2) (wr := []) (k2 := 0) (n2 := 0) (va_runV (As := [.int xi0]) (rest := []) ⟨hx, hb, hml, hown, hG⟩ (c_isOnTape_n l D cy kv s.heap.size ad0 xi0 fn0 h0_1 hn) (cwV 1 hG (gi_V g_146 g_147 g_148 g_143 g_145) rfl rfl rfl (by decide +kernel) ⟨Nat.le_of_ble_eq_true rfl, Nat.le_of_ble_eq_true rfl⟩) ⟨pq_blind, (va_recv hK hP (ci := 11) (q0 := 0) rfl rfl), (pq_pass hP hD hK hE hS hA [0] rfl (by decide))⟩ rfl rfl hl.1 rfl (lv_room (Nat.le_of_ble_eq_true rfl)) dX11_put_2 ⟨Nat.le_of_ble_eq_true rfl, Nat.le_of_ble_eq_true rfl⟩) hP hD hS hA [0] [] rfl rfl (by decide) (by decide) (by decide) (by decide) (fun r1 w1 H1 lo1 e1 hR1 hP1r hD1r hS1 => ?_)
  subst hR1
  subst e1
  have hP1 : va_P D classes [(ad0, ob 11 15 fn0)] H1 := hP1r
  have hD1 : va_D A [(ad0, ob 11 15 fn0)] := hD1r
  clear hP1r hD1r
  clear hP hD hS
  refine lv_if_eq (pc := 5) (tgt := 15) hx hb dX11_put_5 (by decide) (fun c2 => ?_) (fun c2 => absurd (by decide) c2)
  exact vx_throw0 (pc := 15) (own := RX11) (cls := "java/lang/IllegalArgumentException") (names := XN) (ik := 101) (ic := 103) hx hb hst0 hown (by decide) (by decide) (hG _ g_151) (hG _ g_152) (vx_hat (B := [Cond.declares ⟨"java/lang/RuntimeException", "<init>", "()V"⟩, Cond.declares ⟨"java/lang/Exception", "<init>", "()V"⟩, Cond.declares ⟨"java/lang/Throwable", "<init>", "()V"⟩, Cond.castable "java/lang/IllegalArgumentException" "java/lang/IllegalArgumentException"]) (fun w hw => hG w (in_x0 w hw)) (by decide +kernel) (vx_c (va_Nw.use rfl (nw_at hE n_7)) (vx_c (va_Nw.use rfl (nw_at hE n_8)) (vx_c (va_Nw.use rfl (nw_at hE n_9)) (vx_c (va_Nw.use rfl (nw_at hE n_10)) vx_n))))) (by decide +kernel) hE.2.2.1 hE.2.2.2.1 hS1 (by rw [hml]; exact hl.1) dX11_put_15 dX11_put_18 dX11_put_19 dX11_put_22 (fun x hx9 => (htb x hx9).elim) (Nat.le_of_ble_eq_true rfl) (Nat.le_of_ble_eq_true rfl) (Nat.le_of_ble_eq_true rfl) (Nat.le_of_ble_eq_true rfl) hlocks (xq_of (E := "java/lang/IllegalArgumentException") (Rw := (fun w => w = [(ad0, ob 11 15 fn0)])) rfl hP1 hD1 hS1) hS1.2.2 (by decide) (by decide)
set_option maxHeartbeats 4000000 in
set_option maxRecDepth 100000 in
/-- X11_put throws -/
theorem x_put_p (l : Launch) (hst0 : l.stackTraces = false) (D : va_G) (cy : Nat → ClassId) (kv : KV) (sz : Nat) (ad0 : Nat) (xi1 : Int32) (xi0 : Int32) (fn0 : Nat → Value) (h0_1 : fn0 1 = .int 0) (hn : 0 < xi0) : vx_Met l yX11_put (Cond.code yX11_put cX11_put 5 (some .int) :: GW) ({ frames := 10, cells := 1, slots := 6, locals := 200 } : Room) (va_Pc [.ref ad0, .int xi1, .int xi0] (pcq D cy kv sz [(ad0, ob 11 15 fn0)])) (va_Qv (fun (_ : Unit) => False) (fun _ _ => True) (fun _ => False)) (vx_X (fun (_ : Unit) => True) (fun E _ t => E = "java/lang/IllegalArgumentException" ∧ bq D (fun w => w = [(ad0, ob 11 15 fn0)]) (va_A [(ad0, ob 11 15 fn0)] sz) t) (va_A [(ad0, ob 11 15 fn0)] sz)) 1 6 (va_A [(ad0, ob 11 15 fn0)] sz) := by
  refine vx_ofW (cc := cX11_put) (maxL := 5) (ret := (some .int)) (by decide) rfl ?_
  intro p e s m args below meth c s₁ B hml htb hv
  obtain ⟨rfl, hsz, hP, hK, hD0, hE⟩ := hv
  have hx := B.exec
  have hb := B.bytes
  have hr := B.returns
  have hG : ∀ w ∈ GW, w.before ([.ref ad0, .int xi1, .int xi0] : List Value).toArray s = true := fun w h => atoms_spec (ws := Cond.code yX11_put cX11_put 5 (some .int) :: GW) B.pre w (List.mem_cons_of_mem _ h)
  have hown : s.vm.findClass RX11 = some m.cls := findClass_of_methodNamed B.named
  have hlocks := B.notSynchronized
  subst hsz
  have hD := hD0.self (sz := s.heap.size)
  generalize hAe : va_A [(ad0, ob 11 15 fn0)] s.heap.size = A at hD hE ⊢
  have hA : ∀ q : Nat, s.heap.size ≤ q → A q := fun q h => by rw [← hAe]; exact Or.inr h
  have hS : va_S A s.heap s.heap [] := va_S.rf
  clear hAe hD0
  have hl0 := lv_entry ([.ref ad0, .int xi1, .int xi0]) (n := 5) (Nat.le_of_ble_eq_true rfl)
  rw [lg_entry_eq]
  generalize (lg_sl ([.ref ad0, .int xi1, .int xi0]) ++ List.replicate (5 - (lg_sl ([.ref ad0, .int xi1, .int xi0])).length) Slot.unset).toArray = ls at hl0 ⊢
  have hl : lv_has ls 5 [(0, .ref ad0), (1, .int xi1), (2, .int xi0)] := hl0
  clear hl0
  refine lv_aload_n (pc := 0) hx hb dX11_put_0 rfl (lv_at hl 0 rfl) ?_
  refine lv_iload_n (pc := 1) hx hb dX11_put_1 rfl (lv_at hl 2 rfl) ?_
  refine cq_i (pc := 2) (wr := []) (k2 := 0) (n2 := 0) (va_runV (As := [.int xi0]) (rest := []) ⟨hx, hb, hml, hown, hG⟩ (c_isOnTape_p l D cy kv s.heap.size ad0 xi0 fn0 h0_1 hn) (cwV 1 hG (gi_V g_146 g_147 g_148 g_143 g_145) rfl rfl rfl (by decide +kernel) ⟨Nat.le_of_ble_eq_true rfl, Nat.le_of_ble_eq_true rfl⟩) ⟨pq_blind, (va_recv hK hP (ci := 11) (q0 := 0) rfl rfl), (pq_pass hP hD hK hE hS hA [0] rfl (by decide))⟩ rfl rfl hl.1 rfl (lv_room (Nat.le_of_ble_eq_true rfl)) dX11_put_2 ⟨Nat.le_of_ble_eq_true rfl, Nat.le_of_ble_eq_true rfl⟩) hP hD hS hA [0] [] rfl rfl (by decide) (by decide) (by decide) (by decide) (fun r1 w1 H1 lo1 e1 hR1 hP1r hD1r hS1 => ?_)
  subst hR1
  subst e1
  have hP1 : va_P D classes [(ad0, ob 11 15 fn0)] H1 := hP1r
  have hD1 : va_D A [(ad0, ob 11 15 fn0)] := hD1r
  clear hP1r hD1r
  clear hP hD hS
  refine lv_if_eq (pc := 5) (tgt := 15) hx hb dX11_put_5 (by decide) (fun c2 => ?_) (fun c2 => absurd (by decide) c2)
  exact vx_throw0 (pc := 15) (own := RX11) (cls := "java/lang/IllegalArgumentException") (names := XN) (ik := 101) (ic := 103) hx hb hst0 hown (by decide) (by decide) (hG _ g_151) (hG _ g_152) (vx_hat (B := [Cond.declares ⟨"java/lang/RuntimeException", "<init>", "()V"⟩, Cond.declares ⟨"java/lang/Exception", "<init>", "()V"⟩, Cond.declares ⟨"java/lang/Throwable", "<init>", "()V"⟩, Cond.castable "java/lang/IllegalArgumentException" "java/lang/IllegalArgumentException"]) (fun w hw => hG w (in_x0 w hw)) (by decide +kernel) (vx_c (va_Nw.use rfl (nw_at hE n_7)) (vx_c (va_Nw.use rfl (nw_at hE n_8)) (vx_c (va_Nw.use rfl (nw_at hE n_9)) (vx_c (va_Nw.use rfl (nw_at hE n_10)) vx_n))))) (by decide +kernel) hE.2.2.1 hE.2.2.2.1 hS1 (by rw [hml]; exact hl.1) dX11_put_15 dX11_put_18 dX11_put_19 dX11_put_22 (fun x hx9 => (htb x hx9).elim) (Nat.le_of_ble_eq_true rfl) (Nat.le_of_ble_eq_true rfl) (Nat.le_of_ble_eq_true rfl) (Nat.le_of_ble_eq_true rfl) hlocks (xq_of (E := "java/lang/IllegalArgumentException") (Rw := (fun w => w = [(ad0, ob 11 15 fn0)])) rfl hP1 hD1 hS1) hS1.2.2 (by decide) (by decide)
set_option maxHeartbeats 4000000 in
set_option maxRecDepth 100000 in
/-- X11_put throws -/
theorem x_put_sn (l : Launch) (hst0 : l.stackTraces = false) (D : va_G) (cy : Nat → ClassId) (kv : KV) (sz : Nat) (ad0 : Nat) (xi0 : Int32) (fn0 : Nat → Value) (h0_1 : fn0 1 = .int 0) (hn : xi0 < 0) : vx_Met l yX11_put (Cond.code yX11_put cX11_put 5 (some .int) :: GW) ({ frames := 10, cells := 1, slots := 6, locals := 200 } : Room) (va_Pc [.ref ad0, .int xi0, .int 0] (pcq D cy kv sz [(ad0, ob 11 15 fn0)])) (va_Qv (fun (_ : Unit) => False) (fun _ _ => True) (fun _ => False)) (vx_X (fun (_ : Unit) => True) (fun E _ t => E = "java/lang/IllegalArgumentException" ∧ bq D (fun w => w = [(ad0, ob 11 15 fn0)]) (va_A [(ad0, ob 11 15 fn0)] sz) t) (va_A [(ad0, ob 11 15 fn0)] sz)) 1 6 (va_A [(ad0, ob 11 15 fn0)] sz) := by
  refine vx_ofW (cc := cX11_put) (maxL := 5) (ret := (some .int)) (by decide) rfl ?_
  intro p e s m args below meth c s₁ B hml htb hv
  obtain ⟨rfl, hsz, hP, hK, hD0, hE⟩ := hv
  have hx := B.exec
  have hb := B.bytes
  have hr := B.returns
  have hG : ∀ w ∈ GW, w.before ([.ref ad0, .int xi0, .int 0] : List Value).toArray s = true := fun w h => atoms_spec (ws := Cond.code yX11_put cX11_put 5 (some .int) :: GW) B.pre w (List.mem_cons_of_mem _ h)
  have hown : s.vm.findClass RX11 = some m.cls := findClass_of_methodNamed B.named
  have hlocks := B.notSynchronized
  subst hsz
  have hD := hD0.self (sz := s.heap.size)
  generalize hAe : va_A [(ad0, ob 11 15 fn0)] s.heap.size = A at hD hE ⊢
  have hA : ∀ q : Nat, s.heap.size ≤ q → A q := fun q h => by rw [← hAe]; exact Or.inr h
  have hS : va_S A s.heap s.heap [] := va_S.rf
  clear hAe hD0
  have hl0 := lv_entry ([.ref ad0, .int xi0, .int 0]) (n := 5) (Nat.le_of_ble_eq_true rfl)
  rw [lg_entry_eq]
  generalize (lg_sl ([.ref ad0, .int xi0, .int 0]) ++ List.replicate (5 - (lg_sl ([.ref ad0, .int xi0, .int 0])).length) Slot.unset).toArray = ls at hl0 ⊢
  have hl : lv_has ls 5 [(0, .ref ad0), (1, .int xi0), (2, .int 0)] := hl0
  clear hl0
  refine lv_aload_n (pc := 0) hx hb dX11_put_0 rfl (lv_at hl 0 rfl) ?_
  refine lv_iload_n (pc := 1) hx hb dX11_put_1 rfl (lv_at hl 2 rfl) ?_
  refine cq_i (pc := 2) (wr := []) (k2 := 0) (n2 := 0) (va_runV (As := [.int 0]) (rest := []) ⟨hx, hb, hml, hown, hG⟩ (c_isOnTape_z l D cy kv s.heap.size ad0 fn0 h0_1) (cwV 1 hG (gi_V g_146 g_147 g_148 g_143 g_145) rfl rfl rfl (by decide +kernel) ⟨Nat.le_of_ble_eq_true rfl, Nat.le_of_ble_eq_true rfl⟩) ⟨pq_blind, (va_recv hK hP (ci := 11) (q0 := 0) rfl rfl), (pq_pass hP hD hK hE hS hA [0] rfl (by decide))⟩ rfl rfl hl.1 rfl (lv_room (Nat.le_of_ble_eq_true rfl)) dX11_put_2 ⟨Nat.le_of_ble_eq_true rfl, Nat.le_of_ble_eq_true rfl⟩) hP hD hS hA [0] [] rfl rfl (by decide) (by decide) (by decide) (by decide) (fun r1 w1 H1 lo1 e1 hR1 hP1r hD1r hS1 => ?_)
  subst hR1
  subst e1
  have hP1 : va_P D classes [(ad0, ob 11 15 fn0)] H1 := hP1r
  have hD1 : va_D A [(ad0, ob 11 15 fn0)] := hD1r
  clear hP1r hD1r
  clear hP hD hS
  refine lv_if_eq (pc := 5) (tgt := 15) hx hb dX11_put_5 (by decide) (fun c2 => absurd c2 (by decide)) (fun c2 => ?_)
  refine lv_iload_n (pc := 8) hx hb dX11_put_8 rfl (lv_at hl 1 rfl) ?_
  refine cq_i (pc := 9) (wr := [(ad0, ob 11 15 fn0)]) (k2 := 0) (n2 := 0) (va_runS (As := [.int xi0]) (rest := []) ⟨hx, hb, hml, hown, hG⟩ (c_isSort_n l D cy kv H1.size xi0 hn) (va_cwS 1 hG (gi_S g_204 g_205 g_143 g_150) rfl rfl rfl (by decide +kernel) ⟨Nat.le_of_ble_eq_true rfl, Nat.le_of_ble_eq_true rfl⟩) ⟨pq_blind, (pq_pass hP1 hD1 hK hE hS1 hA [] rfl (by decide))⟩ rfl rfl hl.1 rfl (lv_room (Nat.le_of_ble_eq_true rfl)) dX11_put_9 ⟨Nat.le_of_ble_eq_true rfl, Nat.le_of_ble_eq_true rfl⟩) hP1 hD1 hS1 hA [] [0] rfl rfl (by decide) (by decide) (by decide) (by decide) (fun r3 w3 H3 lo3 e3 hR3 hP3r hD3r hS3 => ?_)
  subst hR3
  subst e3
  have hP3 : va_P D classes [(ad0, ob 11 15 fn0)] H3 := hP3r
  have hD3 : va_D A [(ad0, ob 11 15 fn0)] := hD3r
  clear hP3r hD3r
  clear hP1 hD1 hS1
  clear H1 lo1
  refine lv_if_ne (pc := 12) (tgt := 23) hx hb dX11_put_12 (by decide) (fun c4 => absurd (by decide) c4) (fun c4 => ?_)
  exact vx_throw0 (pc := 15) (own := RX11) (cls := "java/lang/IllegalArgumentException") (names := XN) (ik := 101) (ic := 103) hx hb hst0 hown (by decide) (by decide) (hG _ g_151) (hG _ g_152) (vx_hat (B := [Cond.declares ⟨"java/lang/RuntimeException", "<init>", "()V"⟩, Cond.declares ⟨"java/lang/Exception", "<init>", "()V"⟩, Cond.declares ⟨"java/lang/Throwable", "<init>", "()V"⟩, Cond.castable "java/lang/IllegalArgumentException" "java/lang/IllegalArgumentException"]) (fun w hw => hG w (in_x0 w hw)) (by decide +kernel) (vx_c (va_Nw.use rfl (nw_at hE n_7)) (vx_c (va_Nw.use rfl (nw_at hE n_8)) (vx_c (va_Nw.use rfl (nw_at hE n_9)) (vx_c (va_Nw.use rfl (nw_at hE n_10)) vx_n))))) (by decide +kernel) hE.2.2.1 hE.2.2.2.1 hS3 (by rw [hml]; exact hl.1) dX11_put_15 dX11_put_18 dX11_put_19 dX11_put_22 (fun x hx9 => (htb x hx9).elim) (Nat.le_of_ble_eq_true rfl) (Nat.le_of_ble_eq_true rfl) (Nat.le_of_ble_eq_true rfl) (Nat.le_of_ble_eq_true rfl) hlocks (xq_of (E := "java/lang/IllegalArgumentException") (Rw := (fun w => w = [(ad0, ob 11 15 fn0)])) rfl hP3 hD3 hS3) hS3.2.2 (by decide) (by decide)
set_option maxHeartbeats 4000000 in
set_option maxRecDepth 100000 in
/-- X11_put throws -/
theorem x_put_sb (l : Launch) (hst0 : l.stackTraces = false) (D : va_G) (cy : Nat → ClassId) (kv : KV) (sz : Nat) (ad0 : Nat) (xi0 : Int32) (fn0 : Nat → Value) (h0_1 : fn0 1 = .int 0) (hn : 3 ≤ xi0) : vx_Met l yX11_put (Cond.code yX11_put cX11_put 5 (some .int) :: GW) ({ frames := 10, cells := 1, slots := 6, locals := 200 } : Room) (va_Pc [.ref ad0, .int xi0, .int 0] (pcq D cy kv sz [(ad0, ob 11 15 fn0)])) (va_Qv (fun (_ : Unit) => False) (fun _ _ => True) (fun _ => False)) (vx_X (fun (_ : Unit) => True) (fun E _ t => E = "java/lang/IllegalArgumentException" ∧ bq D (fun w => w = [(ad0, ob 11 15 fn0)]) (va_A [(ad0, ob 11 15 fn0)] sz) t) (va_A [(ad0, ob 11 15 fn0)] sz)) 1 6 (va_A [(ad0, ob 11 15 fn0)] sz) := by
  refine vx_ofW (cc := cX11_put) (maxL := 5) (ret := (some .int)) (by decide) rfl ?_
  intro p e s m args below meth c s₁ B hml htb hv
  obtain ⟨rfl, hsz, hP, hK, hD0, hE⟩ := hv
  have hx := B.exec
  have hb := B.bytes
  have hr := B.returns
  have hG : ∀ w ∈ GW, w.before ([.ref ad0, .int xi0, .int 0] : List Value).toArray s = true := fun w h => atoms_spec (ws := Cond.code yX11_put cX11_put 5 (some .int) :: GW) B.pre w (List.mem_cons_of_mem _ h)
  have hown : s.vm.findClass RX11 = some m.cls := findClass_of_methodNamed B.named
  have hlocks := B.notSynchronized
  subst hsz
  have hD := hD0.self (sz := s.heap.size)
  generalize hAe : va_A [(ad0, ob 11 15 fn0)] s.heap.size = A at hD hE ⊢
  have hA : ∀ q : Nat, s.heap.size ≤ q → A q := fun q h => by rw [← hAe]; exact Or.inr h
  have hS : va_S A s.heap s.heap [] := va_S.rf
  clear hAe hD0
  have hl0 := lv_entry ([.ref ad0, .int xi0, .int 0]) (n := 5) (Nat.le_of_ble_eq_true rfl)
  rw [lg_entry_eq]
  generalize (lg_sl ([.ref ad0, .int xi0, .int 0]) ++ List.replicate (5 - (lg_sl ([.ref ad0, .int xi0, .int 0])).length) Slot.unset).toArray = ls at hl0 ⊢
  have hl : lv_has ls 5 [(0, .ref ad0), (1, .int xi0), (2, .int 0)] := hl0
  clear hl0
  refine lv_aload_n (pc := 0) hx hb dX11_put_0 rfl (lv_at hl 0 rfl) ?_
  refine lv_iload_n (pc := 1) hx hb dX11_put_1 rfl (lv_at hl 2 rfl) ?_
  refine cq_i (pc := 2) (wr := []) (k2 := 0) (n2 := 0) (va_runV (As := [.int 0]) (rest := []) ⟨hx, hb, hml, hown, hG⟩ (c_isOnTape_z l D cy kv s.heap.size ad0 fn0 h0_1) (cwV 1 hG (gi_V g_146 g_147 g_148 g_143 g_145) rfl rfl rfl (by decide +kernel) ⟨Nat.le_of_ble_eq_true rfl, Nat.le_of_ble_eq_true rfl⟩) ⟨pq_blind, (va_recv hK hP (ci := 11) (q0 := 0) rfl rfl), (pq_pass hP hD hK hE hS hA [0] rfl (by decide))⟩ rfl rfl hl.1 rfl (lv_room (Nat.le_of_ble_eq_true rfl)) dX11_put_2 ⟨Nat.le_of_ble_eq_true rfl, Nat.le_of_ble_eq_true rfl⟩) hP hD hS hA [0] [] rfl rfl (by decide) (by decide) (by decide) (by decide) (fun r1 w1 H1 lo1 e1 hR1 hP1r hD1r hS1 => ?_)
  subst hR1
  subst e1
  have hP1 : va_P D classes [(ad0, ob 11 15 fn0)] H1 := hP1r
  have hD1 : va_D A [(ad0, ob 11 15 fn0)] := hD1r
  clear hP1r hD1r
  clear hP hD hS
  refine lv_if_eq (pc := 5) (tgt := 15) hx hb dX11_put_5 (by decide) (fun c2 => absurd c2 (by decide)) (fun c2 => ?_)
  refine lv_iload_n (pc := 8) hx hb dX11_put_8 rfl (lv_at hl 1 rfl) ?_
  refine cq_i (pc := 9) (wr := [(ad0, ob 11 15 fn0)]) (k2 := 0) (n2 := 0) (va_runS (As := [.int xi0]) (rest := []) ⟨hx, hb, hml, hown, hG⟩ (c_isSort_b l D cy kv H1.size xi0 hn) (va_cwS 1 hG (gi_S g_204 g_205 g_143 g_150) rfl rfl rfl (by decide +kernel) ⟨Nat.le_of_ble_eq_true rfl, Nat.le_of_ble_eq_true rfl⟩) ⟨pq_blind, (pq_pass hP1 hD1 hK hE hS1 hA [] rfl (by decide))⟩ rfl rfl hl.1 rfl (lv_room (Nat.le_of_ble_eq_true rfl)) dX11_put_9 ⟨Nat.le_of_ble_eq_true rfl, Nat.le_of_ble_eq_true rfl⟩) hP1 hD1 hS1 hA [] [0] rfl rfl (by decide) (by decide) (by decide) (by decide) (fun r3 w3 H3 lo3 e3 hR3 hP3r hD3r hS3 => ?_)
  subst hR3
  subst e3
  have hP3 : va_P D classes [(ad0, ob 11 15 fn0)] H3 := hP3r
  have hD3 : va_D A [(ad0, ob 11 15 fn0)] := hD3r
  clear hP3r hD3r
  clear hP1 hD1 hS1
  clear H1 lo1
  refine lv_if_ne (pc := 12) (tgt := 23) hx hb dX11_put_12 (by decide) (fun c4 => absurd (by decide) c4) (fun c4 => ?_)
  exact vx_throw0 (pc := 15) (own := RX11) (cls := "java/lang/IllegalArgumentException") (names := XN) (ik := 101) (ic := 103) hx hb hst0 hown (by decide) (by decide) (hG _ g_151) (hG _ g_152) (vx_hat (B := [Cond.declares ⟨"java/lang/RuntimeException", "<init>", "()V"⟩, Cond.declares ⟨"java/lang/Exception", "<init>", "()V"⟩, Cond.declares ⟨"java/lang/Throwable", "<init>", "()V"⟩, Cond.castable "java/lang/IllegalArgumentException" "java/lang/IllegalArgumentException"]) (fun w hw => hG w (in_x0 w hw)) (by decide +kernel) (vx_c (va_Nw.use rfl (nw_at hE n_7)) (vx_c (va_Nw.use rfl (nw_at hE n_8)) (vx_c (va_Nw.use rfl (nw_at hE n_9)) (vx_c (va_Nw.use rfl (nw_at hE n_10)) vx_n))))) (by decide +kernel) hE.2.2.1 hE.2.2.2.1 hS3 (by rw [hml]; exact hl.1) dX11_put_15 dX11_put_18 dX11_put_19 dX11_put_22 (fun x hx9 => (htb x hx9).elim) (Nat.le_of_ble_eq_true rfl) (Nat.le_of_ble_eq_true rfl) (Nat.le_of_ble_eq_true rfl) (Nat.le_of_ble_eq_true rfl) hlocks (xq_of (E := "java/lang/IllegalArgumentException") (Rw := (fun w => w = [(ad0, ob 11 15 fn0)])) rfl hP3 hD3 hS3) hS3.2.2 (by decide) (by decide)
set_option maxHeartbeats 4000000 in
set_option maxRecDepth 100000 in
/-- X11_put -/
theorem c_put_k (l : Launch) (D : va_G) (cy : Nat → ClassId) (kv : KV) (sz : Nat) (ad0 : Nat) (xi0 : Int32) (fn0 : Nat → Value) (h0_1 : fn0 1 = .int 0) (hn : 0 ≤ xi0) (hm : xi0 < 3) : Met l yX11_put (Cond.code yX11_put cX11_put 5 (some .int) :: GW) ({ frames := 9, cells := 0, slots := 0, locals := 160 } : Room) (va_Pc [.ref ad0, .int xi0, .int 0] (pcq D cy kv sz [(ad0, ob 11 15 fn0)])) (va_Qi (fun r (_ : Unit) => r = 0) (fun _ t => bq D (fun w => w = [(ad0, ob 11 15 (vup fn0 1 (.int 0)))]) (va_A [(ad0, ob 11 15 fn0)] sz) t) (va_A [(ad0, ob 11 15 fn0)] sz)) 0 0 (va_A [(ad0, ob 11 15 fn0)] sz) := by
  refine Met.ofW (cc := cX11_put) (maxL := 5) (ret := (some .int)) (by decide) rfl ?_
  intro p e s m args below meth c s₁ B hml hv
  obtain ⟨rfl, hsz, hP, hK, hD0, hE⟩ := hv
  have hx := B.exec
  have hb := B.bytes
  have hr := B.returns
  have hG : ∀ w ∈ GW, w.before ([.ref ad0, .int xi0, .int 0] : List Value).toArray s = true := fun w h => atoms_spec (ws := Cond.code yX11_put cX11_put 5 (some .int) :: GW) B.pre w (List.mem_cons_of_mem _ h)
  have hown : s.vm.findClass RX11 = some m.cls := findClass_of_methodNamed B.named
  have hlocks := B.notSynchronized
  subst hsz
  have hD := hD0.self (sz := s.heap.size)
  generalize hAe : va_A [(ad0, ob 11 15 fn0)] s.heap.size = A at hD hE ⊢
  have hA : ∀ q : Nat, s.heap.size ≤ q → A q := fun q h => by rw [← hAe]; exact Or.inr h
  have hS : va_S A s.heap s.heap [] := va_S.rf
  clear hAe hD0
  have hl0 := lv_entry ([.ref ad0, .int xi0, .int 0]) (n := 5) (Nat.le_of_ble_eq_true rfl)
  rw [lg_entry_eq]
  generalize (lg_sl ([.ref ad0, .int xi0, .int 0]) ++ List.replicate (5 - (lg_sl ([.ref ad0, .int xi0, .int 0])).length) Slot.unset).toArray = ls at hl0 ⊢
  have hl : lv_has ls 5 [(0, .ref ad0), (1, .int xi0), (2, .int 0)] := hl0
  clear hl0
  refine lv_aload_n (pc := 0) hx hb dX11_put_0 rfl (lv_at hl 0 rfl) ?_
  refine lv_iload_n (pc := 1) hx hb dX11_put_1 rfl (lv_at hl 2 rfl) ?_
  refine cq_i (pc := 2) (wr := []) (k2 := 0) (n2 := 0) (va_runV (As := [.int 0]) (rest := []) ⟨hx, hb, hml, hown, hG⟩ (c_isOnTape_z l D cy kv s.heap.size ad0 fn0 h0_1) (cwV 1 hG (gi_V g_146 g_147 g_148 g_143 g_145) rfl rfl rfl (by decide +kernel) ⟨Nat.le_of_ble_eq_true rfl, Nat.le_of_ble_eq_true rfl⟩) ⟨pq_blind, (va_recv hK hP (ci := 11) (q0 := 0) rfl rfl), (pq_pass hP hD hK hE hS hA [0] rfl (by decide))⟩ rfl rfl hl.1 rfl (lv_room (Nat.le_of_ble_eq_true rfl)) dX11_put_2 ⟨Nat.le_of_ble_eq_true rfl, Nat.le_of_ble_eq_true rfl⟩) hP hD hS hA [0] [] rfl rfl (by decide) (by decide) (by decide) (by decide) (fun r1 w1 H1 lo1 e1 hR1 hP1r hD1r hS1 => ?_)
  subst hR1
  subst e1
  have hP1 : va_P D classes [(ad0, ob 11 15 fn0)] H1 := hP1r
  have hD1 : va_D A [(ad0, ob 11 15 fn0)] := hD1r
  clear hP1r hD1r
  clear hP hD hS
  refine lv_if_eq (pc := 5) (tgt := 15) hx hb dX11_put_5 (by decide) (fun c2 => absurd c2 (by decide)) (fun c2 => ?_)
  refine lv_iload_n (pc := 8) hx hb dX11_put_8 rfl (lv_at hl 1 rfl) ?_
  refine cq_i (pc := 9) (wr := [(ad0, ob 11 15 fn0)]) (k2 := 0) (n2 := 0) (va_runS (As := [.int xi0]) (rest := []) ⟨hx, hb, hml, hown, hG⟩ (c_isSort_k l D cy kv H1.size xi0 hn hm) (va_cwS 1 hG (gi_S g_204 g_205 g_143 g_150) rfl rfl rfl (by decide +kernel) ⟨Nat.le_of_ble_eq_true rfl, Nat.le_of_ble_eq_true rfl⟩) ⟨pq_blind, (pq_pass hP1 hD1 hK hE hS1 hA [] rfl (by decide))⟩ rfl rfl hl.1 rfl (lv_room (Nat.le_of_ble_eq_true rfl)) dX11_put_9 ⟨Nat.le_of_ble_eq_true rfl, Nat.le_of_ble_eq_true rfl⟩) hP1 hD1 hS1 hA [] [0] rfl rfl (by decide) (by decide) (by decide) (by decide) (fun r3 w3 H3 lo3 e3 hR3 hP3r hD3r hS3 => ?_)
  subst hR3
  subst e3
  have hP3 : va_P D classes [(ad0, ob 11 15 fn0)] H3 := hP3r
  have hD3 : va_D A [(ad0, ob 11 15 fn0)] := hD3r
  clear hP3r hD3r
  clear hP1 hD1 hS1
  clear H1 lo1
  refine lv_if_ne (pc := 12) (tgt := 23) hx hb dX11_put_12 (by decide) (fun c4 => ?_) (fun c4 => absurd c4 (by decide))
  refine lv_aload_n (pc := 23) hx hb dX11_put_23 rfl (lv_at hl 0 rfl) ?_
  refine lv_iconst (pc := 24) (v := 0) hx hb dX11_put_24 (by decide) ?_
  refine ob_put (pc := 25) (v := .int 0) (ci := 11) (C := RX11) (T := TX11) (N := 15) hx hb hG in_X11 tyX11 tyX11_ok nmX11 hown hK hP3 hD3 hS3 0 rfl rfl 1 (by decide) (hG _ g_90) rfl rfl rfl rfl dX11_put_25 (ws' := [(ad0, ob 11 15 (vup fn0 1 (.int 0)))]) rfl (fun H5 lo5 hP5 hD5 hS5 => ?_)
  clear hP3 hD3 hS3
  clear H3 lo3
  refine lv_iconst (pc := 28) (v := 0) hx hb dX11_put_28 (by decide) ?_
  refine lv_istore_n (pc := 29) (lv' := [(3, .int 0), (0, .ref ad0), (1, .int xi0), (2, .int 0)]) hx hb dX11_put_29 rfl hl (by decide) rfl (fun ls6 hl6 => ?_)
  clear hl ls
  refine lv_iload_n (pc := 30) hx hb dX11_put_30 rfl (lv_at hl6 0 rfl) ?_
  refine lv_iload_n (pc := 31) hx hb dX11_put_31 rfl (lv_at hl6 3 rfl) ?_
  refine lv_icmp_ge (pc := 32) (tgt := 52) hx hb dX11_put_32 (by decide) (fun c7 => ?_) (fun c7 => absurd (by decide) c7)
  refine lv_iload_n (pc := 52) hx hb dX11_put_52 rfl (lv_at hl6 0 rfl) ?_
  refine lv_iload_n (pc := 53) hx hb dX11_put_53 rfl (lv_at hl6 3 rfl) ?_
  refine lv_icmp_ge (pc := 54) (tgt := 77) hx hb dX11_put_54 (by decide) (fun c8 => ?_) (fun c8 => absurd (by decide) c8)
  refine lv_iconst (pc := 77) (v := 0) hx hb dX11_put_77 (by decide) ?_
  exact W.iret (pc := 78) (v := 0) hx hb hr (fun t ht hW => ⟨⟨0, (), rfl, rfl, _, rfl, by rw [ht]; exact hP5, hD5⟩, hS5.F ht⟩) hS5.2.2 dX11_put_78
set_option maxHeartbeats 4000000 in
set_option maxRecDepth 100000 in
/-- X11_clear throws -/
theorem x_clear_n (l : Launch) (hst0 : l.stackTraces = false) (D : va_G) (cy : Nat → ClassId) (kv : KV) (sz : Nat) (ad0 : Nat) (xi0 : Int32) (fn0 : Nat → Value) (hn : xi0 < 0) : vx_Met l yX11_clear (Cond.code yX11_clear cX11_clear 3 (some .int) :: GW) ({ frames := 10, cells := 1, slots := 6, locals := 200 } : Room) (va_Pc [.ref ad0, .int xi0] (pcq D cy kv sz [(ad0, ob 11 15 fn0)])) (va_Qv (fun (_ : Unit) => False) (fun _ _ => True) (fun _ => False)) (vx_X (fun (_ : Unit) => True) (fun E _ t => E = "java/lang/IllegalArgumentException" ∧ bq D (fun w => w = [(ad0, ob 11 15 fn0)]) (va_A [(ad0, ob 11 15 fn0)] sz) t) (va_A [(ad0, ob 11 15 fn0)] sz)) 1 6 (va_A [(ad0, ob 11 15 fn0)] sz) := by
  refine vx_ofW (cc := cX11_clear) (maxL := 3) (ret := (some .int)) (by decide) rfl ?_
  intro p e s m args below meth c s₁ B hml htb hv
  obtain ⟨rfl, hsz, hP, hK, hD0, hE⟩ := hv
  have hx := B.exec
  have hb := B.bytes
  have hr := B.returns
  have hG : ∀ w ∈ GW, w.before ([.ref ad0, .int xi0] : List Value).toArray s = true := fun w h => atoms_spec (ws := Cond.code yX11_clear cX11_clear 3 (some .int) :: GW) B.pre w (List.mem_cons_of_mem _ h)
  have hown : s.vm.findClass RX11 = some m.cls := findClass_of_methodNamed B.named
  have hlocks := B.notSynchronized
  subst hsz
  have hD := hD0.self (sz := s.heap.size)
  generalize hAe : va_A [(ad0, ob 11 15 fn0)] s.heap.size = A at hD hE ⊢
  have hA : ∀ q : Nat, s.heap.size ≤ q → A q := fun q h => by rw [← hAe]; exact Or.inr h
  have hS : va_S A s.heap s.heap [] := va_S.rf
  clear hAe hD0
  have hl0 := lv_entry ([.ref ad0, .int xi0]) (n := 3) (Nat.le_of_ble_eq_true rfl)
  rw [lg_entry_eq]
  generalize (lg_sl ([.ref ad0, .int xi0]) ++ List.replicate (3 - (lg_sl ([.ref ad0, .int xi0])).length) Slot.unset).toArray = ls at hl0 ⊢
  have hl : lv_has ls 3 [(0, .ref ad0), (1, .int xi0)] := hl0
  clear hl0
  refine lv_iload_n (pc := 0) hx hb dX11_clear_0 rfl (lv_at hl 1 rfl) ?_
  refine cq_i (pc := 1) (wr := [(ad0, ob 11 15 fn0)]) (k2 := 0) (n2 := 0) (va_runS (As := [.int xi0]) (rest := []) ⟨hx, hb, hml, hown, hG⟩ (c_isSort_n l D cy kv s.heap.size xi0 hn) (va_cwS 1 hG (gi_S g_204 g_205 g_143 g_150) rfl rfl rfl (by decide +kernel) ⟨Nat.le_of_ble_eq_true rfl, Nat.le_of_ble_eq_true rfl⟩) ⟨pq_blind, (pq_pass hP hD hK hE hS hA [] rfl (by decide))⟩ rfl rfl hl.1 rfl (lv_room (Nat.le_of_ble_eq_true rfl)) dX11_clear_1 ⟨Nat.le_of_ble_eq_true rfl, Nat.le_of_ble_eq_true rfl⟩) hP hD hS hA [] [0] rfl rfl (by decide) (by decide) (by decide) (by decide) (fun r1 w1 H1 lo1 e1 hR1 hP1r hD1r hS1 => ?_)
  subst hR1
  subst e1
  have hP1 : va_P D classes [(ad0, ob 11 15 fn0)] H1 := hP1r
  have hD1 : va_D A [(ad0, ob 11 15 fn0)] := hD1r
  clear hP1r hD1r
  clear hP hD hS
  refine lv_if_ne (pc := 4) (tgt := 15) hx hb dX11_clear_4 (by decide) (fun c2 => absurd (by decide) c2) (fun c2 => ?_)
  exact vx_throw0 (pc := 7) (own := RX11) (cls := "java/lang/IllegalArgumentException") (names := XN) (ik := 101) (ic := 103) hx hb hst0 hown (by decide) (by decide) (hG _ g_151) (hG _ g_152) (vx_hat (B := [Cond.declares ⟨"java/lang/RuntimeException", "<init>", "()V"⟩, Cond.declares ⟨"java/lang/Exception", "<init>", "()V"⟩, Cond.declares ⟨"java/lang/Throwable", "<init>", "()V"⟩, Cond.castable "java/lang/IllegalArgumentException" "java/lang/IllegalArgumentException"]) (fun w hw => hG w (in_x0 w hw)) (by decide +kernel) (vx_c (va_Nw.use rfl (nw_at hE n_7)) (vx_c (va_Nw.use rfl (nw_at hE n_8)) (vx_c (va_Nw.use rfl (nw_at hE n_9)) (vx_c (va_Nw.use rfl (nw_at hE n_10)) vx_n))))) (by decide +kernel) hE.2.2.1 hE.2.2.2.1 hS1 (by rw [hml]; exact hl.1) dX11_clear_7 dX11_clear_10 dX11_clear_11 dX11_clear_14 (fun x hx9 => (htb x hx9).elim) (Nat.le_of_ble_eq_true rfl) (Nat.le_of_ble_eq_true rfl) (Nat.le_of_ble_eq_true rfl) (Nat.le_of_ble_eq_true rfl) hlocks (xq_of (E := "java/lang/IllegalArgumentException") (Rw := (fun w => w = [(ad0, ob 11 15 fn0)])) rfl hP1 hD1 hS1) hS1.2.2 (by decide) (by decide)
set_option maxHeartbeats 4000000 in
set_option maxRecDepth 100000 in
/-- X11_clear throws -/
theorem x_clear_b (l : Launch) (hst0 : l.stackTraces = false) (D : va_G) (cy : Nat → ClassId) (kv : KV) (sz : Nat) (ad0 : Nat) (xi0 : Int32) (fn0 : Nat → Value) (hn : 3 ≤ xi0) : vx_Met l yX11_clear (Cond.code yX11_clear cX11_clear 3 (some .int) :: GW) ({ frames := 10, cells := 1, slots := 6, locals := 200 } : Room) (va_Pc [.ref ad0, .int xi0] (pcq D cy kv sz [(ad0, ob 11 15 fn0)])) (va_Qv (fun (_ : Unit) => False) (fun _ _ => True) (fun _ => False)) (vx_X (fun (_ : Unit) => True) (fun E _ t => E = "java/lang/IllegalArgumentException" ∧ bq D (fun w => w = [(ad0, ob 11 15 fn0)]) (va_A [(ad0, ob 11 15 fn0)] sz) t) (va_A [(ad0, ob 11 15 fn0)] sz)) 1 6 (va_A [(ad0, ob 11 15 fn0)] sz) := by
  refine vx_ofW (cc := cX11_clear) (maxL := 3) (ret := (some .int)) (by decide) rfl ?_
  intro p e s m args below meth c s₁ B hml htb hv
  obtain ⟨rfl, hsz, hP, hK, hD0, hE⟩ := hv
  have hx := B.exec
  have hb := B.bytes
  have hr := B.returns
  have hG : ∀ w ∈ GW, w.before ([.ref ad0, .int xi0] : List Value).toArray s = true := fun w h => atoms_spec (ws := Cond.code yX11_clear cX11_clear 3 (some .int) :: GW) B.pre w (List.mem_cons_of_mem _ h)
  have hown : s.vm.findClass RX11 = some m.cls := findClass_of_methodNamed B.named
  have hlocks := B.notSynchronized
  subst hsz
  have hD := hD0.self (sz := s.heap.size)
  generalize hAe : va_A [(ad0, ob 11 15 fn0)] s.heap.size = A at hD hE ⊢
  have hA : ∀ q : Nat, s.heap.size ≤ q → A q := fun q h => by rw [← hAe]; exact Or.inr h
  have hS : va_S A s.heap s.heap [] := va_S.rf
  clear hAe hD0
  have hl0 := lv_entry ([.ref ad0, .int xi0]) (n := 3) (Nat.le_of_ble_eq_true rfl)
  rw [lg_entry_eq]
  generalize (lg_sl ([.ref ad0, .int xi0]) ++ List.replicate (3 - (lg_sl ([.ref ad0, .int xi0])).length) Slot.unset).toArray = ls at hl0 ⊢
  have hl : lv_has ls 3 [(0, .ref ad0), (1, .int xi0)] := hl0
  clear hl0
  refine lv_iload_n (pc := 0) hx hb dX11_clear_0 rfl (lv_at hl 1 rfl) ?_
  refine cq_i (pc := 1) (wr := [(ad0, ob 11 15 fn0)]) (k2 := 0) (n2 := 0) (va_runS (As := [.int xi0]) (rest := []) ⟨hx, hb, hml, hown, hG⟩ (c_isSort_b l D cy kv s.heap.size xi0 hn) (va_cwS 1 hG (gi_S g_204 g_205 g_143 g_150) rfl rfl rfl (by decide +kernel) ⟨Nat.le_of_ble_eq_true rfl, Nat.le_of_ble_eq_true rfl⟩) ⟨pq_blind, (pq_pass hP hD hK hE hS hA [] rfl (by decide))⟩ rfl rfl hl.1 rfl (lv_room (Nat.le_of_ble_eq_true rfl)) dX11_clear_1 ⟨Nat.le_of_ble_eq_true rfl, Nat.le_of_ble_eq_true rfl⟩) hP hD hS hA [] [0] rfl rfl (by decide) (by decide) (by decide) (by decide) (fun r1 w1 H1 lo1 e1 hR1 hP1r hD1r hS1 => ?_)
  subst hR1
  subst e1
  have hP1 : va_P D classes [(ad0, ob 11 15 fn0)] H1 := hP1r
  have hD1 : va_D A [(ad0, ob 11 15 fn0)] := hD1r
  clear hP1r hD1r
  clear hP hD hS
  refine lv_if_ne (pc := 4) (tgt := 15) hx hb dX11_clear_4 (by decide) (fun c2 => absurd (by decide) c2) (fun c2 => ?_)
  exact vx_throw0 (pc := 7) (own := RX11) (cls := "java/lang/IllegalArgumentException") (names := XN) (ik := 101) (ic := 103) hx hb hst0 hown (by decide) (by decide) (hG _ g_151) (hG _ g_152) (vx_hat (B := [Cond.declares ⟨"java/lang/RuntimeException", "<init>", "()V"⟩, Cond.declares ⟨"java/lang/Exception", "<init>", "()V"⟩, Cond.declares ⟨"java/lang/Throwable", "<init>", "()V"⟩, Cond.castable "java/lang/IllegalArgumentException" "java/lang/IllegalArgumentException"]) (fun w hw => hG w (in_x0 w hw)) (by decide +kernel) (vx_c (va_Nw.use rfl (nw_at hE n_7)) (vx_c (va_Nw.use rfl (nw_at hE n_8)) (vx_c (va_Nw.use rfl (nw_at hE n_9)) (vx_c (va_Nw.use rfl (nw_at hE n_10)) vx_n))))) (by decide +kernel) hE.2.2.1 hE.2.2.2.1 hS1 (by rw [hml]; exact hl.1) dX11_clear_7 dX11_clear_10 dX11_clear_11 dX11_clear_14 (fun x hx9 => (htb x hx9).elim) (Nat.le_of_ble_eq_true rfl) (Nat.le_of_ble_eq_true rfl) (Nat.le_of_ble_eq_true rfl) (Nat.le_of_ble_eq_true rfl) hlocks (xq_of (E := "java/lang/IllegalArgumentException") (Rw := (fun w => w = [(ad0, ob 11 15 fn0)])) rfl hP1 hD1 hS1) hS1.2.2 (by decide) (by decide)
set_option maxHeartbeats 4000000 in
set_option maxRecDepth 100000 in
/-- X11_isSortOfRows -/
theorem c_isSort_0 (l : Launch) (D : va_G) (cy : Nat → ClassId) (kv : KV) (sz : Nat) : Met l yX11_isSortOfRows (Cond.code yX11_isSortOfRows cX11_isSortOfRows 1 (some .boolean) :: GW) ({ frames := 8, cells := 0, slots := 0, locals := 120 } : Room) (va_Pc [.int 0] (pcq D cy kv sz [])) (va_Qi (fun r (_ : Unit) => r = 1) (fun _ t => bq D (fun w => w = []) (va_A [] sz) t) (va_A [] sz)) 0 0 (va_A [] sz) := by
  refine Met.ofW (cc := cX11_isSortOfRows) (maxL := 1) (ret := (some .boolean)) (by decide) rfl ?_
  intro p e s m args below meth c s₁ B hml hv
  obtain ⟨rfl, hsz, hP, hK, hD0, hE⟩ := hv
  have hx := B.exec
  have hb := B.bytes
  have hr := B.returns
  have hG : ∀ w ∈ GW, w.before ([.int 0] : List Value).toArray s = true := fun w h => atoms_spec (ws := Cond.code yX11_isSortOfRows cX11_isSortOfRows 1 (some .boolean) :: GW) B.pre w (List.mem_cons_of_mem _ h)
  have hown : s.vm.findClass RX11 = some m.cls := findClass_of_methodNamed B.named
  have hlocks := B.notSynchronized
  subst hsz
  have hD := hD0.self (sz := s.heap.size)
  generalize hAe : va_A [] s.heap.size = A at hD hE ⊢
  have hA : ∀ q : Nat, s.heap.size ≤ q → A q := fun q h => by rw [← hAe]; exact Or.inr h
  have hS : va_S A s.heap s.heap [] := va_S.rf
  clear hAe hD0
  have hl0 := lv_entry ([.int 0]) (n := 1) (Nat.le_of_ble_eq_true rfl)
  rw [lg_entry_eq]
  generalize (lg_sl ([.int 0]) ++ List.replicate (1 - (lg_sl ([.int 0])).length) Slot.unset).toArray = ls at hl0 ⊢
  have hl : lv_has ls 1 [(0, .int 0)] := hl0
  clear hl0
  refine lv_iload_n (pc := 0) hx hb dX11_isSortOfRows_0 rfl (lv_at hl 0 rfl) ?_
  refine lv_if_lt (pc := 1) (tgt := 13) hx hb dX11_isSortOfRows_1 (by decide) (fun c1 => absurd c1 (by decide)) (fun c1 => ?_)
  refine lv_iload_n (pc := 4) hx hb dX11_isSortOfRows_4 rfl (lv_at hl 0 rfl) ?_
  refine lv_iconst (pc := 5) (v := 3) hx hb dX11_isSortOfRows_5 (by decide) ?_
  refine lv_icmp_ge (pc := 6) (tgt := 13) hx hb dX11_isSortOfRows_6 (by decide) (fun c2 => absurd c2 (by decide)) (fun c2 => ?_)
  refine lv_iconst (pc := 9) (v := 1) hx hb dX11_isSortOfRows_9 (by decide) ?_
  refine lv_goto (pc := 10) (tgt := 14) hx hb dX11_isSortOfRows_10 (by decide) ?_
  exact W.zret (pc := 14) (v := 1) (ty := .boolean) hx hb hr rfl (fun t ht hW => ⟨⟨1, (), rfl, rfl, _, rfl, by rw [ht]; exact hP, hD⟩, hS.F ht⟩) hS.2.2 dX11_isSortOfRows_14
set_option maxHeartbeats 4000000 in
set_option maxRecDepth 100000 in
/-- X11_clear -/
theorem c_clear_0 (l : Launch) (D : va_G) (cy : Nat → ClassId) (kv : KV) (sz : Nat) (ad0 : Nat) (fn0 : Nat → Value) (ad1 : Nat) (ad2 : Nat) (ad3 : Nat) (ad4 : Nat) (fn2 : Nat → Value) (h0_7 : fn0 7 = .ref ad1) (h2_5 : fn2 5 = .int 0) : Met l yX11_clear (Cond.code yX11_clear cX11_clear 3 (some .int) :: GW) ({ frames := 9, cells := 0, slots := 0, locals := 160 } : Room) (va_Pc [.ref ad0, .int 0] (pcq D cy kv sz [(ad0, ob 11 15 fn0), (ad1, arq (cy 6) 3 (va_up (va_up (va_up (fun _ => none) (0 : Int32).toNatClampNeg (some ad2)) (1 : Int32).toNatClampNeg (some ad3)) (2 : Int32).toNatClampNeg (some ad4))), (ad2, ob 7 6 fn2)])) (va_Qi (fun r (_ : Unit) => r = 0) (fun _ t => bq D (fun w => w = []) (va_A [(ad0, ob 11 15 fn0), (ad1, arq (cy 6) 3 (va_up (va_up (va_up (fun _ => none) (0 : Int32).toNatClampNeg (some ad2)) (1 : Int32).toNatClampNeg (some ad3)) (2 : Int32).toNatClampNeg (some ad4))), (ad2, ob 7 6 fn2)] sz) t) (va_A [(ad0, ob 11 15 fn0), (ad1, arq (cy 6) 3 (va_up (va_up (va_up (fun _ => none) (0 : Int32).toNatClampNeg (some ad2)) (1 : Int32).toNatClampNeg (some ad3)) (2 : Int32).toNatClampNeg (some ad4))), (ad2, ob 7 6 fn2)] sz)) 0 0 (va_A [(ad0, ob 11 15 fn0), (ad1, arq (cy 6) 3 (va_up (va_up (va_up (fun _ => none) (0 : Int32).toNatClampNeg (some ad2)) (1 : Int32).toNatClampNeg (some ad3)) (2 : Int32).toNatClampNeg (some ad4))), (ad2, ob 7 6 fn2)] sz) := by
  refine Met.ofW (cc := cX11_clear) (maxL := 3) (ret := (some .int)) (by decide) rfl ?_
  intro p e s m args below meth c s₁ B hml hv
  obtain ⟨rfl, hsz, hP, hK, hD0, hE⟩ := hv
  have hx := B.exec
  have hb := B.bytes
  have hr := B.returns
  have hG : ∀ w ∈ GW, w.before ([.ref ad0, .int 0] : List Value).toArray s = true := fun w h => atoms_spec (ws := Cond.code yX11_clear cX11_clear 3 (some .int) :: GW) B.pre w (List.mem_cons_of_mem _ h)
  have hown : s.vm.findClass RX11 = some m.cls := findClass_of_methodNamed B.named
  have hlocks := B.notSynchronized
  subst hsz
  have hD := hD0.self (sz := s.heap.size)
  generalize hAe : va_A [(ad0, ob 11 15 fn0), (ad1, arq (cy 6) 3 (va_up (va_up (va_up (fun _ => none) (0 : Int32).toNatClampNeg (some ad2)) (1 : Int32).toNatClampNeg (some ad3)) (2 : Int32).toNatClampNeg (some ad4))), (ad2, ob 7 6 fn2)] s.heap.size = A at hD hE ⊢
  have hA : ∀ q : Nat, s.heap.size ≤ q → A q := fun q h => by rw [← hAe]; exact Or.inr h
  have hS : va_S A s.heap s.heap [] := va_S.rf
  clear hAe hD0
  have hl0 := lv_entry ([.ref ad0, .int 0]) (n := 3) (Nat.le_of_ble_eq_true rfl)
  rw [lg_entry_eq]
  generalize (lg_sl ([.ref ad0, .int 0]) ++ List.replicate (3 - (lg_sl ([.ref ad0, .int 0])).length) Slot.unset).toArray = ls at hl0 ⊢
  have hl : lv_has ls 3 [(0, .ref ad0), (1, .int 0)] := hl0
  clear hl0
  refine lv_iload_n (pc := 0) hx hb dX11_clear_0 rfl (lv_at hl 1 rfl) ?_
  refine cq_i (pc := 1) (wr := [(ad0, ob 11 15 fn0), (ad1, arq (cy 6) 3 (va_up (va_up (va_up (fun _ => none) (0 : Int32).toNatClampNeg (some ad2)) (1 : Int32).toNatClampNeg (some ad3)) (2 : Int32).toNatClampNeg (some ad4))), (ad2, ob 7 6 fn2)]) (k2 := 0) (n2 := 0) (va_runS (As := [.int 0]) (rest := []) ⟨hx, hb, hml, hown, hG⟩ (c_isSort_k l D cy kv s.heap.size 0 (by decide) (by decide)) (va_cwS 1 hG (gi_S g_204 g_205 g_143 g_150) rfl rfl rfl (by decide +kernel) ⟨Nat.le_of_ble_eq_true rfl, Nat.le_of_ble_eq_true rfl⟩) ⟨pq_blind, (pq_pass hP hD hK hE hS hA [] rfl (by decide))⟩ rfl rfl hl.1 rfl (lv_room (Nat.le_of_ble_eq_true rfl)) dX11_clear_1 ⟨Nat.le_of_ble_eq_true rfl, Nat.le_of_ble_eq_true rfl⟩) hP hD hS hA [] [0, 1, 2] rfl rfl (by decide) (by decide) (by decide) (by decide) (fun r1 w1 H1 lo1 e1 hR1 hP1r hD1r hS1 => ?_)
  subst hR1
  subst e1
  have hP1 : va_P D classes [(ad0, ob 11 15 fn0), (ad1, arq (cy 6) 3 (va_up (va_up (va_up (fun _ => none) (0 : Int32).toNatClampNeg (some ad2)) (1 : Int32).toNatClampNeg (some ad3)) (2 : Int32).toNatClampNeg (some ad4))), (ad2, ob 7 6 fn2)] H1 := hP1r
  have hD1 : va_D A [(ad0, ob 11 15 fn0), (ad1, arq (cy 6) 3 (va_up (va_up (va_up (fun _ => none) (0 : Int32).toNatClampNeg (some ad2)) (1 : Int32).toNatClampNeg (some ad3)) (2 : Int32).toNatClampNeg (some ad4))), (ad2, ob 7 6 fn2)] := hD1r
  clear hP1r hD1r
  clear hP hD hS
  refine lv_if_ne (pc := 4) (tgt := 15) hx hb dX11_clear_4 (by decide) (fun c2 => ?_) (fun c2 => absurd c2 (by decide))
  refine lv_aload_n (pc := 15) hx hb dX11_clear_15 rfl (lv_at hl 0 rfl) ?_
  refine ob_get (pc := 16) (v := .ref ad1) (ci := 11) (C := RX11) (T := TX11) (N := 15) hx hb hG in_X11 hown hK hP1 0 rfl rfl 7 (by decide) (hG _ g_110) rfl h0_7 dX11_clear_16 ?_
  refine lv_iload_n (pc := 19) hx hb dX11_clear_19 rfl (lv_at hl 1 rfl) ?_
  refine va_aldq (pc := 20) hx hb hK hP1 1 6 rfl rfl (show ¬ ((0 : Int32) < 0 ∨ 3 ≤ (0 : Int32).toNatClampNeg) by decide) dX11_clear_20 ?_
  refine tp_v (y := .ref ad2) rfl ?_
  refine ob_getN (pc := 21) (v := .int 0) (ci := 7) (C := RX7) (T := TX7) (N := 6) hx hb hG in_X7 hown hK hP1 2 rfl rfl 5 (by decide) (nw_at hE n_16) rfl h2_5 dX11_clear_21 ?_
  refine lv_istore_n (pc := 24) (lv' := [(2, .int 0), (0, .ref ad0), (1, .int 0)]) hx hb dX11_clear_24 rfl hl (by decide) rfl (fun ls3 hl3 => ?_)
  clear hl ls
  refine lv_aload_n (pc := 25) hx hb dX11_clear_25 rfl (lv_at hl3 1 rfl) ?_
  refine ob_get (pc := 26) (v := .ref ad1) (ci := 11) (C := RX11) (T := TX11) (N := 15) hx hb hG in_X11 hown hK hP1 0 rfl rfl 7 (by decide) (hG _ g_110) rfl h0_7 dX11_clear_26 ?_
  refine lv_iload_n (pc := 29) hx hb dX11_clear_29 rfl (lv_at hl3 2 rfl) ?_
  refine va_aldq (pc := 30) hx hb hK hP1 1 6 rfl rfl (show ¬ ((0 : Int32) < 0 ∨ 3 ≤ (0 : Int32).toNatClampNeg) by decide) dX11_clear_30 ?_
  refine tp_v (y := .ref ad2) rfl ?_
  refine lv_iconst (pc := 31) (v := 0) hx hb dX11_clear_31 (by decide) ?_
  refine ob_putN (pc := 32) (v := .int 0) (ci := 7) (C := RX7) (T := TX7) (N := 6) hx hb hG in_X7 tyX7 tyX7_ok nmX7 hown hK hP1 hD1 hS1 2 rfl rfl 5 (by decide) (nw_at hE n_16) rfl rfl rfl rfl dX11_clear_32 (ws' := [(ad0, ob 11 15 fn0), (ad1, arq (cy 6) 3 (va_up (va_up (va_up (fun _ => none) (0 : Int32).toNatClampNeg (some ad2)) (1 : Int32).toNatClampNeg (some ad3)) (2 : Int32).toNatClampNeg (some ad4))), (ad2, ob 7 6 (vup fn2 5 (.int 0)))]) rfl (fun H4 lo4 hP4 hD4 hS4 => ?_)
  clear hP1 hD1 hS1
  clear H1 lo1
  refine lv_iload_n (pc := 35) hx hb dX11_clear_35 rfl (lv_at hl3 0 rfl) ?_
  have hP99 := hP4.sub (ws' := []) [] rfl
  have hD99 := hD4.sub (ws' := []) [] (by decide) rfl
  exact W.iret (pc := 36) (v := 0) hx hb hr (fun t ht hW => ⟨⟨0, (), rfl, rfl, _, rfl, by rw [ht]; exact hP99, hD99⟩, hS4.F ht⟩) hS4.2.2 dX11_clear_36
set_option maxHeartbeats 4000000 in
set_option maxRecDepth 100000 in
/-- X11_isSortOfRows -/
theorem c_isSort_1 (l : Launch) (D : va_G) (cy : Nat → ClassId) (kv : KV) (sz : Nat) : Met l yX11_isSortOfRows (Cond.code yX11_isSortOfRows cX11_isSortOfRows 1 (some .boolean) :: GW) ({ frames := 8, cells := 0, slots := 0, locals := 120 } : Room) (va_Pc [.int 1] (pcq D cy kv sz [])) (va_Qi (fun r (_ : Unit) => r = 1) (fun _ t => bq D (fun w => w = []) (va_A [] sz) t) (va_A [] sz)) 0 0 (va_A [] sz) := by
  refine Met.ofW (cc := cX11_isSortOfRows) (maxL := 1) (ret := (some .boolean)) (by decide) rfl ?_
  intro p e s m args below meth c s₁ B hml hv
  obtain ⟨rfl, hsz, hP, hK, hD0, hE⟩ := hv
  have hx := B.exec
  have hb := B.bytes
  have hr := B.returns
  have hG : ∀ w ∈ GW, w.before ([.int 1] : List Value).toArray s = true := fun w h => atoms_spec (ws := Cond.code yX11_isSortOfRows cX11_isSortOfRows 1 (some .boolean) :: GW) B.pre w (List.mem_cons_of_mem _ h)
  have hown : s.vm.findClass RX11 = some m.cls := findClass_of_methodNamed B.named
  have hlocks := B.notSynchronized
  subst hsz
  have hD := hD0.self (sz := s.heap.size)
  generalize hAe : va_A [] s.heap.size = A at hD hE ⊢
  have hA : ∀ q : Nat, s.heap.size ≤ q → A q := fun q h => by rw [← hAe]; exact Or.inr h
  have hS : va_S A s.heap s.heap [] := va_S.rf
  clear hAe hD0
  have hl0 := lv_entry ([.int 1]) (n := 1) (Nat.le_of_ble_eq_true rfl)
  rw [lg_entry_eq]
  generalize (lg_sl ([.int 1]) ++ List.replicate (1 - (lg_sl ([.int 1])).length) Slot.unset).toArray = ls at hl0 ⊢
  have hl : lv_has ls 1 [(0, .int 1)] := hl0
  clear hl0
  refine lv_iload_n (pc := 0) hx hb dX11_isSortOfRows_0 rfl (lv_at hl 0 rfl) ?_
  refine lv_if_lt (pc := 1) (tgt := 13) hx hb dX11_isSortOfRows_1 (by decide) (fun c1 => absurd c1 (by decide)) (fun c1 => ?_)
  refine lv_iload_n (pc := 4) hx hb dX11_isSortOfRows_4 rfl (lv_at hl 0 rfl) ?_
  refine lv_iconst (pc := 5) (v := 3) hx hb dX11_isSortOfRows_5 (by decide) ?_
  refine lv_icmp_ge (pc := 6) (tgt := 13) hx hb dX11_isSortOfRows_6 (by decide) (fun c2 => absurd c2 (by decide)) (fun c2 => ?_)
  refine lv_iconst (pc := 9) (v := 1) hx hb dX11_isSortOfRows_9 (by decide) ?_
  refine lv_goto (pc := 10) (tgt := 14) hx hb dX11_isSortOfRows_10 (by decide) ?_
  exact W.zret (pc := 14) (v := 1) (ty := .boolean) hx hb hr rfl (fun t ht hW => ⟨⟨1, (), rfl, rfl, _, rfl, by rw [ht]; exact hP, hD⟩, hS.F ht⟩) hS.2.2 dX11_isSortOfRows_14
set_option maxHeartbeats 4000000 in
set_option maxRecDepth 100000 in
/-- X11_clear -/
theorem c_clear_1 (l : Launch) (D : va_G) (cy : Nat → ClassId) (kv : KV) (sz : Nat) (ad0 : Nat) (fn0 : Nat → Value) (ad1 : Nat) (ad2 : Nat) (ad3 : Nat) (ad4 : Nat) (fn3 : Nat → Value) (h0_7 : fn0 7 = .ref ad1) (h2_5 : fn3 5 = .int 0) : Met l yX11_clear (Cond.code yX11_clear cX11_clear 3 (some .int) :: GW) ({ frames := 9, cells := 0, slots := 0, locals := 160 } : Room) (va_Pc [.ref ad0, .int 1] (pcq D cy kv sz [(ad0, ob 11 15 fn0), (ad1, arq (cy 6) 3 (va_up (va_up (va_up (fun _ => none) (0 : Int32).toNatClampNeg (some ad2)) (1 : Int32).toNatClampNeg (some ad3)) (2 : Int32).toNatClampNeg (some ad4))), (ad3, ob 7 6 fn3)])) (va_Qi (fun r (_ : Unit) => r = 0) (fun _ t => bq D (fun w => w = []) (va_A [(ad0, ob 11 15 fn0), (ad1, arq (cy 6) 3 (va_up (va_up (va_up (fun _ => none) (0 : Int32).toNatClampNeg (some ad2)) (1 : Int32).toNatClampNeg (some ad3)) (2 : Int32).toNatClampNeg (some ad4))), (ad3, ob 7 6 fn3)] sz) t) (va_A [(ad0, ob 11 15 fn0), (ad1, arq (cy 6) 3 (va_up (va_up (va_up (fun _ => none) (0 : Int32).toNatClampNeg (some ad2)) (1 : Int32).toNatClampNeg (some ad3)) (2 : Int32).toNatClampNeg (some ad4))), (ad3, ob 7 6 fn3)] sz)) 0 0 (va_A [(ad0, ob 11 15 fn0), (ad1, arq (cy 6) 3 (va_up (va_up (va_up (fun _ => none) (0 : Int32).toNatClampNeg (some ad2)) (1 : Int32).toNatClampNeg (some ad3)) (2 : Int32).toNatClampNeg (some ad4))), (ad3, ob 7 6 fn3)] sz) := by
  refine Met.ofW (cc := cX11_clear) (maxL := 3) (ret := (some .int)) (by decide) rfl ?_
  intro p e s m args below meth c s₁ B hml hv
  obtain ⟨rfl, hsz, hP, hK, hD0, hE⟩ := hv
  have hx := B.exec
  have hb := B.bytes
  have hr := B.returns
  have hG : ∀ w ∈ GW, w.before ([.ref ad0, .int 1] : List Value).toArray s = true := fun w h => atoms_spec (ws := Cond.code yX11_clear cX11_clear 3 (some .int) :: GW) B.pre w (List.mem_cons_of_mem _ h)
  have hown : s.vm.findClass RX11 = some m.cls := findClass_of_methodNamed B.named
  have hlocks := B.notSynchronized
  subst hsz
  have hD := hD0.self (sz := s.heap.size)
  generalize hAe : va_A [(ad0, ob 11 15 fn0), (ad1, arq (cy 6) 3 (va_up (va_up (va_up (fun _ => none) (0 : Int32).toNatClampNeg (some ad2)) (1 : Int32).toNatClampNeg (some ad3)) (2 : Int32).toNatClampNeg (some ad4))), (ad3, ob 7 6 fn3)] s.heap.size = A at hD hE ⊢
  have hA : ∀ q : Nat, s.heap.size ≤ q → A q := fun q h => by rw [← hAe]; exact Or.inr h
  have hS : va_S A s.heap s.heap [] := va_S.rf
  clear hAe hD0
  have hl0 := lv_entry ([.ref ad0, .int 1]) (n := 3) (Nat.le_of_ble_eq_true rfl)
  rw [lg_entry_eq]
  generalize (lg_sl ([.ref ad0, .int 1]) ++ List.replicate (3 - (lg_sl ([.ref ad0, .int 1])).length) Slot.unset).toArray = ls at hl0 ⊢
  have hl : lv_has ls 3 [(0, .ref ad0), (1, .int 1)] := hl0
  clear hl0
  refine lv_iload_n (pc := 0) hx hb dX11_clear_0 rfl (lv_at hl 1 rfl) ?_
  refine cq_i (pc := 1) (wr := [(ad0, ob 11 15 fn0), (ad1, arq (cy 6) 3 (va_up (va_up (va_up (fun _ => none) (0 : Int32).toNatClampNeg (some ad2)) (1 : Int32).toNatClampNeg (some ad3)) (2 : Int32).toNatClampNeg (some ad4))), (ad3, ob 7 6 fn3)]) (k2 := 0) (n2 := 0) (va_runS (As := [.int 1]) (rest := []) ⟨hx, hb, hml, hown, hG⟩ (c_isSort_k l D cy kv s.heap.size 1 (by decide) (by decide)) (va_cwS 1 hG (gi_S g_204 g_205 g_143 g_150) rfl rfl rfl (by decide +kernel) ⟨Nat.le_of_ble_eq_true rfl, Nat.le_of_ble_eq_true rfl⟩) ⟨pq_blind, (pq_pass hP hD hK hE hS hA [] rfl (by decide))⟩ rfl rfl hl.1 rfl (lv_room (Nat.le_of_ble_eq_true rfl)) dX11_clear_1 ⟨Nat.le_of_ble_eq_true rfl, Nat.le_of_ble_eq_true rfl⟩) hP hD hS hA [] [0, 1, 2] rfl rfl (by decide) (by decide) (by decide) (by decide) (fun r1 w1 H1 lo1 e1 hR1 hP1r hD1r hS1 => ?_)
  subst hR1
  subst e1
  have hP1 : va_P D classes [(ad0, ob 11 15 fn0), (ad1, arq (cy 6) 3 (va_up (va_up (va_up (fun _ => none) (0 : Int32).toNatClampNeg (some ad2)) (1 : Int32).toNatClampNeg (some ad3)) (2 : Int32).toNatClampNeg (some ad4))), (ad3, ob 7 6 fn3)] H1 := hP1r
  have hD1 : va_D A [(ad0, ob 11 15 fn0), (ad1, arq (cy 6) 3 (va_up (va_up (va_up (fun _ => none) (0 : Int32).toNatClampNeg (some ad2)) (1 : Int32).toNatClampNeg (some ad3)) (2 : Int32).toNatClampNeg (some ad4))), (ad3, ob 7 6 fn3)] := hD1r
  clear hP1r hD1r
  clear hP hD hS
  refine lv_if_ne (pc := 4) (tgt := 15) hx hb dX11_clear_4 (by decide) (fun c2 => ?_) (fun c2 => absurd c2 (by decide))
  refine lv_aload_n (pc := 15) hx hb dX11_clear_15 rfl (lv_at hl 0 rfl) ?_
  refine ob_get (pc := 16) (v := .ref ad1) (ci := 11) (C := RX11) (T := TX11) (N := 15) hx hb hG in_X11 hown hK hP1 0 rfl rfl 7 (by decide) (hG _ g_110) rfl h0_7 dX11_clear_16 ?_
  refine lv_iload_n (pc := 19) hx hb dX11_clear_19 rfl (lv_at hl 1 rfl) ?_
  refine va_aldq (pc := 20) hx hb hK hP1 1 6 rfl rfl (show ¬ ((1 : Int32) < 0 ∨ 3 ≤ (1 : Int32).toNatClampNeg) by decide) dX11_clear_20 ?_
  refine tp_v (y := .ref ad3) rfl ?_
  refine ob_getN (pc := 21) (v := .int 0) (ci := 7) (C := RX7) (T := TX7) (N := 6) hx hb hG in_X7 hown hK hP1 2 rfl rfl 5 (by decide) (nw_at hE n_16) rfl h2_5 dX11_clear_21 ?_
  refine lv_istore_n (pc := 24) (lv' := [(2, .int 0), (0, .ref ad0), (1, .int 1)]) hx hb dX11_clear_24 rfl hl (by decide) rfl (fun ls3 hl3 => ?_)
  clear hl ls
  refine lv_aload_n (pc := 25) hx hb dX11_clear_25 rfl (lv_at hl3 1 rfl) ?_
  refine ob_get (pc := 26) (v := .ref ad1) (ci := 11) (C := RX11) (T := TX11) (N := 15) hx hb hG in_X11 hown hK hP1 0 rfl rfl 7 (by decide) (hG _ g_110) rfl h0_7 dX11_clear_26 ?_
  refine lv_iload_n (pc := 29) hx hb dX11_clear_29 rfl (lv_at hl3 2 rfl) ?_
  refine va_aldq (pc := 30) hx hb hK hP1 1 6 rfl rfl (show ¬ ((1 : Int32) < 0 ∨ 3 ≤ (1 : Int32).toNatClampNeg) by decide) dX11_clear_30 ?_
  refine tp_v (y := .ref ad3) rfl ?_
  refine lv_iconst (pc := 31) (v := 0) hx hb dX11_clear_31 (by decide) ?_
  refine ob_putN (pc := 32) (v := .int 0) (ci := 7) (C := RX7) (T := TX7) (N := 6) hx hb hG in_X7 tyX7 tyX7_ok nmX7 hown hK hP1 hD1 hS1 2 rfl rfl 5 (by decide) (nw_at hE n_16) rfl rfl rfl rfl dX11_clear_32 (ws' := [(ad0, ob 11 15 fn0), (ad1, arq (cy 6) 3 (va_up (va_up (va_up (fun _ => none) (0 : Int32).toNatClampNeg (some ad2)) (1 : Int32).toNatClampNeg (some ad3)) (2 : Int32).toNatClampNeg (some ad4))), (ad3, ob 7 6 (vup fn3 5 (.int 0)))]) rfl (fun H4 lo4 hP4 hD4 hS4 => ?_)
  clear hP1 hD1 hS1
  clear H1 lo1
  refine lv_iload_n (pc := 35) hx hb dX11_clear_35 rfl (lv_at hl3 0 rfl) ?_
  have hP99 := hP4.sub (ws' := []) [] rfl
  have hD99 := hD4.sub (ws' := []) [] (by decide) rfl
  exact W.iret (pc := 36) (v := 0) hx hb hr (fun t ht hW => ⟨⟨0, (), rfl, rfl, _, rfl, by rw [ht]; exact hP99, hD99⟩, hS4.F ht⟩) hS4.2.2 dX11_clear_36
set_option maxHeartbeats 4000000 in
set_option maxRecDepth 100000 in
/-- X11_isSortOfRows -/
theorem c_isSort_2 (l : Launch) (D : va_G) (cy : Nat → ClassId) (kv : KV) (sz : Nat) : Met l yX11_isSortOfRows (Cond.code yX11_isSortOfRows cX11_isSortOfRows 1 (some .boolean) :: GW) ({ frames := 8, cells := 0, slots := 0, locals := 120 } : Room) (va_Pc [.int 2] (pcq D cy kv sz [])) (va_Qi (fun r (_ : Unit) => r = 1) (fun _ t => bq D (fun w => w = []) (va_A [] sz) t) (va_A [] sz)) 0 0 (va_A [] sz) := by
  refine Met.ofW (cc := cX11_isSortOfRows) (maxL := 1) (ret := (some .boolean)) (by decide) rfl ?_
  intro p e s m args below meth c s₁ B hml hv
  obtain ⟨rfl, hsz, hP, hK, hD0, hE⟩ := hv
  have hx := B.exec
  have hb := B.bytes
  have hr := B.returns
  have hG : ∀ w ∈ GW, w.before ([.int 2] : List Value).toArray s = true := fun w h => atoms_spec (ws := Cond.code yX11_isSortOfRows cX11_isSortOfRows 1 (some .boolean) :: GW) B.pre w (List.mem_cons_of_mem _ h)
  have hown : s.vm.findClass RX11 = some m.cls := findClass_of_methodNamed B.named
  have hlocks := B.notSynchronized
  subst hsz
  have hD := hD0.self (sz := s.heap.size)
  generalize hAe : va_A [] s.heap.size = A at hD hE ⊢
  have hA : ∀ q : Nat, s.heap.size ≤ q → A q := fun q h => by rw [← hAe]; exact Or.inr h
  have hS : va_S A s.heap s.heap [] := va_S.rf
  clear hAe hD0
  have hl0 := lv_entry ([.int 2]) (n := 1) (Nat.le_of_ble_eq_true rfl)
  rw [lg_entry_eq]
  generalize (lg_sl ([.int 2]) ++ List.replicate (1 - (lg_sl ([.int 2])).length) Slot.unset).toArray = ls at hl0 ⊢
  have hl : lv_has ls 1 [(0, .int 2)] := hl0
  clear hl0
  refine lv_iload_n (pc := 0) hx hb dX11_isSortOfRows_0 rfl (lv_at hl 0 rfl) ?_
  refine lv_if_lt (pc := 1) (tgt := 13) hx hb dX11_isSortOfRows_1 (by decide) (fun c1 => absurd c1 (by decide)) (fun c1 => ?_)
  refine lv_iload_n (pc := 4) hx hb dX11_isSortOfRows_4 rfl (lv_at hl 0 rfl) ?_
  refine lv_iconst (pc := 5) (v := 3) hx hb dX11_isSortOfRows_5 (by decide) ?_
  refine lv_icmp_ge (pc := 6) (tgt := 13) hx hb dX11_isSortOfRows_6 (by decide) (fun c2 => absurd c2 (by decide)) (fun c2 => ?_)
  refine lv_iconst (pc := 9) (v := 1) hx hb dX11_isSortOfRows_9 (by decide) ?_
  refine lv_goto (pc := 10) (tgt := 14) hx hb dX11_isSortOfRows_10 (by decide) ?_
  exact W.zret (pc := 14) (v := 1) (ty := .boolean) hx hb hr rfl (fun t ht hW => ⟨⟨1, (), rfl, rfl, _, rfl, by rw [ht]; exact hP, hD⟩, hS.F ht⟩) hS.2.2 dX11_isSortOfRows_14
set_option maxHeartbeats 4000000 in
set_option maxRecDepth 100000 in
/-- X11_clear -/
theorem c_clear_2 (l : Launch) (D : va_G) (cy : Nat → ClassId) (kv : KV) (sz : Nat) (ad0 : Nat) (fn0 : Nat → Value) (ad1 : Nat) (ad2 : Nat) (ad3 : Nat) (ad4 : Nat) (fn4 : Nat → Value) (h0_7 : fn0 7 = .ref ad1) (h2_5 : fn4 5 = .int 0) : Met l yX11_clear (Cond.code yX11_clear cX11_clear 3 (some .int) :: GW) ({ frames := 9, cells := 0, slots := 0, locals := 160 } : Room) (va_Pc [.ref ad0, .int 2] (pcq D cy kv sz [(ad0, ob 11 15 fn0), (ad1, arq (cy 6) 3 (va_up (va_up (va_up (fun _ => none) (0 : Int32).toNatClampNeg (some ad2)) (1 : Int32).toNatClampNeg (some ad3)) (2 : Int32).toNatClampNeg (some ad4))), (ad4, ob 7 6 fn4)])) (va_Qi (fun r (_ : Unit) => r = 0) (fun _ t => bq D (fun w => w = []) (va_A [(ad0, ob 11 15 fn0), (ad1, arq (cy 6) 3 (va_up (va_up (va_up (fun _ => none) (0 : Int32).toNatClampNeg (some ad2)) (1 : Int32).toNatClampNeg (some ad3)) (2 : Int32).toNatClampNeg (some ad4))), (ad4, ob 7 6 fn4)] sz) t) (va_A [(ad0, ob 11 15 fn0), (ad1, arq (cy 6) 3 (va_up (va_up (va_up (fun _ => none) (0 : Int32).toNatClampNeg (some ad2)) (1 : Int32).toNatClampNeg (some ad3)) (2 : Int32).toNatClampNeg (some ad4))), (ad4, ob 7 6 fn4)] sz)) 0 0 (va_A [(ad0, ob 11 15 fn0), (ad1, arq (cy 6) 3 (va_up (va_up (va_up (fun _ => none) (0 : Int32).toNatClampNeg (some ad2)) (1 : Int32).toNatClampNeg (some ad3)) (2 : Int32).toNatClampNeg (some ad4))), (ad4, ob 7 6 fn4)] sz) := by
  refine Met.ofW (cc := cX11_clear) (maxL := 3) (ret := (some .int)) (by decide) rfl ?_
  intro p e s m args below meth c s₁ B hml hv
  obtain ⟨rfl, hsz, hP, hK, hD0, hE⟩ := hv
  have hx := B.exec
  have hb := B.bytes
  have hr := B.returns
  have hG : ∀ w ∈ GW, w.before ([.ref ad0, .int 2] : List Value).toArray s = true := fun w h => atoms_spec (ws := Cond.code yX11_clear cX11_clear 3 (some .int) :: GW) B.pre w (List.mem_cons_of_mem _ h)
  have hown : s.vm.findClass RX11 = some m.cls := findClass_of_methodNamed B.named
  have hlocks := B.notSynchronized
  subst hsz
  have hD := hD0.self (sz := s.heap.size)
  generalize hAe : va_A [(ad0, ob 11 15 fn0), (ad1, arq (cy 6) 3 (va_up (va_up (va_up (fun _ => none) (0 : Int32).toNatClampNeg (some ad2)) (1 : Int32).toNatClampNeg (some ad3)) (2 : Int32).toNatClampNeg (some ad4))), (ad4, ob 7 6 fn4)] s.heap.size = A at hD hE ⊢
  have hA : ∀ q : Nat, s.heap.size ≤ q → A q := fun q h => by rw [← hAe]; exact Or.inr h
  have hS : va_S A s.heap s.heap [] := va_S.rf
  clear hAe hD0
  have hl0 := lv_entry ([.ref ad0, .int 2]) (n := 3) (Nat.le_of_ble_eq_true rfl)
  rw [lg_entry_eq]
  generalize (lg_sl ([.ref ad0, .int 2]) ++ List.replicate (3 - (lg_sl ([.ref ad0, .int 2])).length) Slot.unset).toArray = ls at hl0 ⊢
  have hl : lv_has ls 3 [(0, .ref ad0), (1, .int 2)] := hl0
  clear hl0
  refine lv_iload_n (pc := 0) hx hb dX11_clear_0 rfl (lv_at hl 1 rfl) ?_
  refine cq_i (pc := 1) (wr := [(ad0, ob 11 15 fn0), (ad1, arq (cy 6) 3 (va_up (va_up (va_up (fun _ => none) (0 : Int32).toNatClampNeg (some ad2)) (1 : Int32).toNatClampNeg (some ad3)) (2 : Int32).toNatClampNeg (some ad4))), (ad4, ob 7 6 fn4)]) (k2 := 0) (n2 := 0) (va_runS (As := [.int 2]) (rest := []) ⟨hx, hb, hml, hown, hG⟩ (c_isSort_k l D cy kv s.heap.size 2 (by decide) (by decide)) (va_cwS 1 hG (gi_S g_204 g_205 g_143 g_150) rfl rfl rfl (by decide +kernel) ⟨Nat.le_of_ble_eq_true rfl, Nat.le_of_ble_eq_true rfl⟩) ⟨pq_blind, (pq_pass hP hD hK hE hS hA [] rfl (by decide))⟩ rfl rfl hl.1 rfl (lv_room (Nat.le_of_ble_eq_true rfl)) dX11_clear_1 ⟨Nat.le_of_ble_eq_true rfl, Nat.le_of_ble_eq_true rfl⟩) hP hD hS hA [] [0, 1, 2] rfl rfl (by decide) (by decide) (by decide) (by decide) (fun r1 w1 H1 lo1 e1 hR1 hP1r hD1r hS1 => ?_)
  subst hR1
  subst e1
  have hP1 : va_P D classes [(ad0, ob 11 15 fn0), (ad1, arq (cy 6) 3 (va_up (va_up (va_up (fun _ => none) (0 : Int32).toNatClampNeg (some ad2)) (1 : Int32).toNatClampNeg (some ad3)) (2 : Int32).toNatClampNeg (some ad4))), (ad4, ob 7 6 fn4)] H1 := hP1r
  have hD1 : va_D A [(ad0, ob 11 15 fn0), (ad1, arq (cy 6) 3 (va_up (va_up (va_up (fun _ => none) (0 : Int32).toNatClampNeg (some ad2)) (1 : Int32).toNatClampNeg (some ad3)) (2 : Int32).toNatClampNeg (some ad4))), (ad4, ob 7 6 fn4)] := hD1r
  clear hP1r hD1r
  clear hP hD hS
  refine lv_if_ne (pc := 4) (tgt := 15) hx hb dX11_clear_4 (by decide) (fun c2 => ?_) (fun c2 => absurd c2 (by decide))
  refine lv_aload_n (pc := 15) hx hb dX11_clear_15 rfl (lv_at hl 0 rfl) ?_
  refine ob_get (pc := 16) (v := .ref ad1) (ci := 11) (C := RX11) (T := TX11) (N := 15) hx hb hG in_X11 hown hK hP1 0 rfl rfl 7 (by decide) (hG _ g_110) rfl h0_7 dX11_clear_16 ?_
  refine lv_iload_n (pc := 19) hx hb dX11_clear_19 rfl (lv_at hl 1 rfl) ?_
  refine va_aldq (pc := 20) hx hb hK hP1 1 6 rfl rfl (show ¬ ((2 : Int32) < 0 ∨ 3 ≤ (2 : Int32).toNatClampNeg) by decide) dX11_clear_20 ?_
  refine tp_v (y := .ref ad4) rfl ?_
  refine ob_getN (pc := 21) (v := .int 0) (ci := 7) (C := RX7) (T := TX7) (N := 6) hx hb hG in_X7 hown hK hP1 2 rfl rfl 5 (by decide) (nw_at hE n_16) rfl h2_5 dX11_clear_21 ?_
  refine lv_istore_n (pc := 24) (lv' := [(2, .int 0), (0, .ref ad0), (1, .int 2)]) hx hb dX11_clear_24 rfl hl (by decide) rfl (fun ls3 hl3 => ?_)
  clear hl ls
  refine lv_aload_n (pc := 25) hx hb dX11_clear_25 rfl (lv_at hl3 1 rfl) ?_
  refine ob_get (pc := 26) (v := .ref ad1) (ci := 11) (C := RX11) (T := TX11) (N := 15) hx hb hG in_X11 hown hK hP1 0 rfl rfl 7 (by decide) (hG _ g_110) rfl h0_7 dX11_clear_26 ?_
  refine lv_iload_n (pc := 29) hx hb dX11_clear_29 rfl (lv_at hl3 2 rfl) ?_
  refine va_aldq (pc := 30) hx hb hK hP1 1 6 rfl rfl (show ¬ ((2 : Int32) < 0 ∨ 3 ≤ (2 : Int32).toNatClampNeg) by decide) dX11_clear_30 ?_
  refine tp_v (y := .ref ad4) rfl ?_
  refine lv_iconst (pc := 31) (v := 0) hx hb dX11_clear_31 (by decide) ?_
  refine ob_putN (pc := 32) (v := .int 0) (ci := 7) (C := RX7) (T := TX7) (N := 6) hx hb hG in_X7 tyX7 tyX7_ok nmX7 hown hK hP1 hD1 hS1 2 rfl rfl 5 (by decide) (nw_at hE n_16) rfl rfl rfl rfl dX11_clear_32 (ws' := [(ad0, ob 11 15 fn0), (ad1, arq (cy 6) 3 (va_up (va_up (va_up (fun _ => none) (0 : Int32).toNatClampNeg (some ad2)) (1 : Int32).toNatClampNeg (some ad3)) (2 : Int32).toNatClampNeg (some ad4))), (ad4, ob 7 6 (vup fn4 5 (.int 0)))]) rfl (fun H4 lo4 hP4 hD4 hS4 => ?_)
  clear hP1 hD1 hS1
  clear H1 lo1
  refine lv_iload_n (pc := 35) hx hb dX11_clear_35 rfl (lv_at hl3 0 rfl) ?_
  have hP99 := hP4.sub (ws' := []) [] rfl
  have hD99 := hD4.sub (ws' := []) [] (by decide) rfl
  exact W.iret (pc := 36) (v := 0) hx hb hr (fun t ht hW => ⟨⟨0, (), rfl, rfl, _, rfl, by rw [ht]; exact hP99, hD99⟩, hS4.F ht⟩) hS4.2.2 dX11_clear_36
set_option maxHeartbeats 4000000 in
set_option maxRecDepth 100000 in
/-- X11_run throws -/
theorem x_run_n (l : Launch) (hst0 : l.stackTraces = false) (D : va_G) (cy : Nat → ClassId) (kv : KV) (sz : Nat) (ad0 : Nat) (xi0 : Int32) (fn0 : Nat → Value) (h0_1 : fn0 1 = .int 0) (hn : xi0 < 0) : vx_Met l yX11_run (Cond.code yX11_run cX11_run 2 (some .int) :: GW) ({ frames := 11, cells := 1, slots := 6, locals := 240 } : Room) (va_Pc [.ref ad0, .int xi0] (pcq D cy kv sz [(ad0, ob 11 15 fn0)])) (va_Qv (fun (_ : Unit) => False) (fun _ _ => True) (fun _ => False)) (vx_X (fun (_ : Unit) => True) (fun E _ t => E = "java/lang/IllegalArgumentException" ∧ bq D (fun w => w = [(ad0, ob 11 15 fn0)]) (va_A [(ad0, ob 11 15 fn0)] sz) t) (va_A [(ad0, ob 11 15 fn0)] sz)) 1 6 (va_A [(ad0, ob 11 15 fn0)] sz) := by
  refine vx_ofW (cc := cX11_run) (maxL := 2) (ret := (some .int)) (by decide) rfl ?_
  intro p e s m args below meth c s₁ B hml htb hv
  obtain ⟨rfl, hsz, hP, hK, hD0, hE⟩ := hv
  have hx := B.exec
  have hb := B.bytes
  have hr := B.returns
  have hG : ∀ w ∈ GW, w.before ([.ref ad0, .int xi0] : List Value).toArray s = true := fun w h => atoms_spec (ws := Cond.code yX11_run cX11_run 2 (some .int) :: GW) B.pre w (List.mem_cons_of_mem _ h)
  have hown : s.vm.findClass RX11 = some m.cls := findClass_of_methodNamed B.named
  have hlocks := B.notSynchronized
  subst hsz
  have hD := hD0.self (sz := s.heap.size)
  generalize hAe : va_A [(ad0, ob 11 15 fn0)] s.heap.size = A at hD hE ⊢
  have hA : ∀ q : Nat, s.heap.size ≤ q → A q := fun q h => by rw [← hAe]; exact Or.inr h
  have hS : va_S A s.heap s.heap [] := va_S.rf
  clear hAe hD0
  have hl0 := lv_entry ([.ref ad0, .int xi0]) (n := 2) (Nat.le_of_ble_eq_true rfl)
  rw [lg_entry_eq]
  generalize (lg_sl ([.ref ad0, .int xi0]) ++ List.replicate (2 - (lg_sl ([.ref ad0, .int xi0])).length) Slot.unset).toArray = ls at hl0 ⊢
  have hl : lv_has ls 2 [(0, .ref ad0), (1, .int xi0)] := hl0
  clear hl0
  refine lv_aload_n (pc := 0) hx hb dX11_run_0 rfl (lv_at hl 0 rfl) ?_
  refine lv_iload_n (pc := 1) hx hb dX11_run_1 rfl (lv_at hl 1 rfl) ?_
  refine cq_i (pc := 2) (wr := []) (k2 := 0) (n2 := 0) (va_runV (As := [.int xi0]) (rest := []) ⟨hx, hb, hml, hown, hG⟩ (c_isLine_n l D cy kv s.heap.size ad0 xi0 fn0 h0_1 hn) (cwV 1 hG (gi_V g_207 g_208 g_209 g_143 g_149) rfl rfl rfl (by decide +kernel) ⟨Nat.le_of_ble_eq_true rfl, Nat.le_of_ble_eq_true rfl⟩) ⟨pq_blind, (va_recv hK hP (ci := 11) (q0 := 0) rfl rfl), (pq_pass hP hD hK hE hS hA [0] rfl (by decide))⟩ rfl rfl hl.1 rfl (lv_room (Nat.le_of_ble_eq_true rfl)) dX11_run_2 ⟨Nat.le_of_ble_eq_true rfl, Nat.le_of_ble_eq_true rfl⟩) hP hD hS hA [0] [] rfl rfl (by decide) (by decide) (by decide) (by decide) (fun r1 w1 H1 lo1 e1 hR1 hP1r hD1r hS1 => ?_)
  subst hR1
  subst e1
  have hP1 : va_P D classes [(ad0, ob 11 15 fn0)] H1 := hP1r
  have hD1 : va_D A [(ad0, ob 11 15 fn0)] := hD1r
  clear hP1r hD1r
  clear hP hD hS
  refine lv_if_ne (pc := 5) (tgt := 16) hx hb dX11_run_5 (by decide) (fun c2 => absurd (by decide) c2) (fun c2 => ?_)
  exact vx_throw0 (pc := 8) (own := RX11) (cls := "java/lang/IllegalArgumentException") (names := XN) (ik := 101) (ic := 103) hx hb hst0 hown (by decide) (by decide) (hG _ g_151) (hG _ g_152) (vx_hat (B := [Cond.declares ⟨"java/lang/RuntimeException", "<init>", "()V"⟩, Cond.declares ⟨"java/lang/Exception", "<init>", "()V"⟩, Cond.declares ⟨"java/lang/Throwable", "<init>", "()V"⟩, Cond.castable "java/lang/IllegalArgumentException" "java/lang/IllegalArgumentException"]) (fun w hw => hG w (in_x0 w hw)) (by decide +kernel) (vx_c (va_Nw.use rfl (nw_at hE n_7)) (vx_c (va_Nw.use rfl (nw_at hE n_8)) (vx_c (va_Nw.use rfl (nw_at hE n_9)) (vx_c (va_Nw.use rfl (nw_at hE n_10)) vx_n))))) (by decide +kernel) hE.2.2.1 hE.2.2.2.1 hS1 (by rw [hml]; exact hl.1) dX11_run_8 dX11_run_11 dX11_run_12 dX11_run_15 (fun x hx9 => (htb x hx9).elim) (Nat.le_of_ble_eq_true rfl) (Nat.le_of_ble_eq_true rfl) (Nat.le_of_ble_eq_true rfl) (Nat.le_of_ble_eq_true rfl) hlocks (xq_of (E := "java/lang/IllegalArgumentException") (Rw := (fun w => w = [(ad0, ob 11 15 fn0)])) rfl hP1 hD1 hS1) hS1.2.2 (by decide) (by decide)
set_option maxHeartbeats 4000000 in
set_option maxRecDepth 100000 in
/-- X11_run throws -/
theorem x_run_p (l : Launch) (hst0 : l.stackTraces = false) (D : va_G) (cy : Nat → ClassId) (kv : KV) (sz : Nat) (ad0 : Nat) (xi0 : Int32) (fn0 : Nat → Value) (h0_1 : fn0 1 = .int 0) (hn : 0 < xi0) : vx_Met l yX11_run (Cond.code yX11_run cX11_run 2 (some .int) :: GW) ({ frames := 11, cells := 1, slots := 6, locals := 240 } : Room) (va_Pc [.ref ad0, .int xi0] (pcq D cy kv sz [(ad0, ob 11 15 fn0)])) (va_Qv (fun (_ : Unit) => False) (fun _ _ => True) (fun _ => False)) (vx_X (fun (_ : Unit) => True) (fun E _ t => E = "java/lang/IllegalArgumentException" ∧ bq D (fun w => w = [(ad0, ob 11 15 fn0)]) (va_A [(ad0, ob 11 15 fn0)] sz) t) (va_A [(ad0, ob 11 15 fn0)] sz)) 1 6 (va_A [(ad0, ob 11 15 fn0)] sz) := by
  refine vx_ofW (cc := cX11_run) (maxL := 2) (ret := (some .int)) (by decide) rfl ?_
  intro p e s m args below meth c s₁ B hml htb hv
  obtain ⟨rfl, hsz, hP, hK, hD0, hE⟩ := hv
  have hx := B.exec
  have hb := B.bytes
  have hr := B.returns
  have hG : ∀ w ∈ GW, w.before ([.ref ad0, .int xi0] : List Value).toArray s = true := fun w h => atoms_spec (ws := Cond.code yX11_run cX11_run 2 (some .int) :: GW) B.pre w (List.mem_cons_of_mem _ h)
  have hown : s.vm.findClass RX11 = some m.cls := findClass_of_methodNamed B.named
  have hlocks := B.notSynchronized
  subst hsz
  have hD := hD0.self (sz := s.heap.size)
  generalize hAe : va_A [(ad0, ob 11 15 fn0)] s.heap.size = A at hD hE ⊢
  have hA : ∀ q : Nat, s.heap.size ≤ q → A q := fun q h => by rw [← hAe]; exact Or.inr h
  have hS : va_S A s.heap s.heap [] := va_S.rf
  clear hAe hD0
  have hl0 := lv_entry ([.ref ad0, .int xi0]) (n := 2) (Nat.le_of_ble_eq_true rfl)
  rw [lg_entry_eq]
  generalize (lg_sl ([.ref ad0, .int xi0]) ++ List.replicate (2 - (lg_sl ([.ref ad0, .int xi0])).length) Slot.unset).toArray = ls at hl0 ⊢
  have hl : lv_has ls 2 [(0, .ref ad0), (1, .int xi0)] := hl0
  clear hl0
  refine lv_aload_n (pc := 0) hx hb dX11_run_0 rfl (lv_at hl 0 rfl) ?_
  refine lv_iload_n (pc := 1) hx hb dX11_run_1 rfl (lv_at hl 1 rfl) ?_
  refine cq_i (pc := 2) (wr := []) (k2 := 0) (n2 := 0) (va_runV (As := [.int xi0]) (rest := []) ⟨hx, hb, hml, hown, hG⟩ (c_isLine_p l D cy kv s.heap.size ad0 xi0 fn0 h0_1 hn) (cwV 1 hG (gi_V g_207 g_208 g_209 g_143 g_149) rfl rfl rfl (by decide +kernel) ⟨Nat.le_of_ble_eq_true rfl, Nat.le_of_ble_eq_true rfl⟩) ⟨pq_blind, (va_recv hK hP (ci := 11) (q0 := 0) rfl rfl), (pq_pass hP hD hK hE hS hA [0] rfl (by decide))⟩ rfl rfl hl.1 rfl (lv_room (Nat.le_of_ble_eq_true rfl)) dX11_run_2 ⟨Nat.le_of_ble_eq_true rfl, Nat.le_of_ble_eq_true rfl⟩) hP hD hS hA [0] [] rfl rfl (by decide) (by decide) (by decide) (by decide) (fun r1 w1 H1 lo1 e1 hR1 hP1r hD1r hS1 => ?_)
  subst hR1
  subst e1
  have hP1 : va_P D classes [(ad0, ob 11 15 fn0)] H1 := hP1r
  have hD1 : va_D A [(ad0, ob 11 15 fn0)] := hD1r
  clear hP1r hD1r
  clear hP hD hS
  refine lv_if_ne (pc := 5) (tgt := 16) hx hb dX11_run_5 (by decide) (fun c2 => absurd (by decide) c2) (fun c2 => ?_)
  exact vx_throw0 (pc := 8) (own := RX11) (cls := "java/lang/IllegalArgumentException") (names := XN) (ik := 101) (ic := 103) hx hb hst0 hown (by decide) (by decide) (hG _ g_151) (hG _ g_152) (vx_hat (B := [Cond.declares ⟨"java/lang/RuntimeException", "<init>", "()V"⟩, Cond.declares ⟨"java/lang/Exception", "<init>", "()V"⟩, Cond.declares ⟨"java/lang/Throwable", "<init>", "()V"⟩, Cond.castable "java/lang/IllegalArgumentException" "java/lang/IllegalArgumentException"]) (fun w hw => hG w (in_x0 w hw)) (by decide +kernel) (vx_c (va_Nw.use rfl (nw_at hE n_7)) (vx_c (va_Nw.use rfl (nw_at hE n_8)) (vx_c (va_Nw.use rfl (nw_at hE n_9)) (vx_c (va_Nw.use rfl (nw_at hE n_10)) vx_n))))) (by decide +kernel) hE.2.2.1 hE.2.2.2.1 hS1 (by rw [hml]; exact hl.1) dX11_run_8 dX11_run_11 dX11_run_12 dX11_run_15 (fun x hx9 => (htb x hx9).elim) (Nat.le_of_ble_eq_true rfl) (Nat.le_of_ble_eq_true rfl) (Nat.le_of_ble_eq_true rfl) (Nat.le_of_ble_eq_true rfl) hlocks (xq_of (E := "java/lang/IllegalArgumentException") (Rw := (fun w => w = [(ad0, ob 11 15 fn0)])) rfl hP1 hD1 hS1) hS1.2.2 (by decide) (by decide)
set_option maxHeartbeats 4000000 in
set_option maxRecDepth 100000 in
/-- X11_ends throws -/
theorem x_ends_n (l : Launch) (hst0 : l.stackTraces = false) (D : va_G) (cy : Nat → ClassId) (kv : KV) (sz : Nat) (ad0 : Nat) (xi0 : Int32) (fn0 : Nat → Value) (h0_1 : fn0 1 = .int 0) (hn : xi0 < 0) : vx_Met l yX11_ends (Cond.code yX11_ends cX11_ends 3 (some .int) :: GW) ({ frames := 11, cells := 1, slots := 6, locals := 240 } : Room) (va_Pc [.ref ad0, .int xi0] (pcq D cy kv sz [(ad0, ob 11 15 fn0)])) (va_Qv (fun (_ : Unit) => False) (fun _ _ => True) (fun _ => False)) (vx_X (fun (_ : Unit) => True) (fun E _ t => E = "java/lang/IllegalArgumentException" ∧ bq D (fun w => w = [(ad0, ob 11 15 fn0)]) (va_A [(ad0, ob 11 15 fn0)] sz) t) (va_A [(ad0, ob 11 15 fn0)] sz)) 1 6 (va_A [(ad0, ob 11 15 fn0)] sz) := by
  refine vx_ofW (cc := cX11_ends) (maxL := 3) (ret := (some .int)) (by decide) rfl ?_
  intro p e s m args below meth c s₁ B hml htb hv
  obtain ⟨rfl, hsz, hP, hK, hD0, hE⟩ := hv
  have hx := B.exec
  have hb := B.bytes
  have hr := B.returns
  have hG : ∀ w ∈ GW, w.before ([.ref ad0, .int xi0] : List Value).toArray s = true := fun w h => atoms_spec (ws := Cond.code yX11_ends cX11_ends 3 (some .int) :: GW) B.pre w (List.mem_cons_of_mem _ h)
  have hown : s.vm.findClass RX11 = some m.cls := findClass_of_methodNamed B.named
  have hlocks := B.notSynchronized
  subst hsz
  have hD := hD0.self (sz := s.heap.size)
  generalize hAe : va_A [(ad0, ob 11 15 fn0)] s.heap.size = A at hD hE ⊢
  have hA : ∀ q : Nat, s.heap.size ≤ q → A q := fun q h => by rw [← hAe]; exact Or.inr h
  have hS : va_S A s.heap s.heap [] := va_S.rf
  clear hAe hD0
  have hl0 := lv_entry ([.ref ad0, .int xi0]) (n := 3) (Nat.le_of_ble_eq_true rfl)
  rw [lg_entry_eq]
  generalize (lg_sl ([.ref ad0, .int xi0]) ++ List.replicate (3 - (lg_sl ([.ref ad0, .int xi0])).length) Slot.unset).toArray = ls at hl0 ⊢
  have hl : lv_has ls 3 [(0, .ref ad0), (1, .int xi0)] := hl0
  clear hl0
  refine lv_aload_n (pc := 0) hx hb dX11_ends_0 rfl (lv_at hl 0 rfl) ?_
  refine lv_iload_n (pc := 1) hx hb dX11_ends_1 rfl (lv_at hl 1 rfl) ?_
  refine cq_i (pc := 2) (wr := []) (k2 := 0) (n2 := 0) (va_runV (As := [.int xi0]) (rest := []) ⟨hx, hb, hml, hown, hG⟩ (c_isLine_n l D cy kv s.heap.size ad0 xi0 fn0 h0_1 hn) (cwV 1 hG (gi_V g_207 g_208 g_209 g_143 g_149) rfl rfl rfl (by decide +kernel) ⟨Nat.le_of_ble_eq_true rfl, Nat.le_of_ble_eq_true rfl⟩) ⟨pq_blind, (va_recv hK hP (ci := 11) (q0 := 0) rfl rfl), (pq_pass hP hD hK hE hS hA [0] rfl (by decide))⟩ rfl rfl hl.1 rfl (lv_room (Nat.le_of_ble_eq_true rfl)) dX11_ends_2 ⟨Nat.le_of_ble_eq_true rfl, Nat.le_of_ble_eq_true rfl⟩) hP hD hS hA [0] [] rfl rfl (by decide) (by decide) (by decide) (by decide) (fun r1 w1 H1 lo1 e1 hR1 hP1r hD1r hS1 => ?_)
  subst hR1
  subst e1
  have hP1 : va_P D classes [(ad0, ob 11 15 fn0)] H1 := hP1r
  have hD1 : va_D A [(ad0, ob 11 15 fn0)] := hD1r
  clear hP1r hD1r
  clear hP hD hS
  refine lv_if_ne (pc := 5) (tgt := 16) hx hb dX11_ends_5 (by decide) (fun c2 => absurd (by decide) c2) (fun c2 => ?_)
  exact vx_throw0 (pc := 8) (own := RX11) (cls := "java/lang/IllegalArgumentException") (names := XN) (ik := 101) (ic := 103) hx hb hst0 hown (by decide) (by decide) (hG _ g_151) (hG _ g_152) (vx_hat (B := [Cond.declares ⟨"java/lang/RuntimeException", "<init>", "()V"⟩, Cond.declares ⟨"java/lang/Exception", "<init>", "()V"⟩, Cond.declares ⟨"java/lang/Throwable", "<init>", "()V"⟩, Cond.castable "java/lang/IllegalArgumentException" "java/lang/IllegalArgumentException"]) (fun w hw => hG w (in_x0 w hw)) (by decide +kernel) (vx_c (va_Nw.use rfl (nw_at hE n_7)) (vx_c (va_Nw.use rfl (nw_at hE n_8)) (vx_c (va_Nw.use rfl (nw_at hE n_9)) (vx_c (va_Nw.use rfl (nw_at hE n_10)) vx_n))))) (by decide +kernel) hE.2.2.1 hE.2.2.2.1 hS1 (by rw [hml]; exact hl.1) dX11_ends_8 dX11_ends_11 dX11_ends_12 dX11_ends_15 (fun x hx9 => (htb x hx9).elim) (Nat.le_of_ble_eq_true rfl) (Nat.le_of_ble_eq_true rfl) (Nat.le_of_ble_eq_true rfl) (Nat.le_of_ble_eq_true rfl) hlocks (xq_of (E := "java/lang/IllegalArgumentException") (Rw := (fun w => w = [(ad0, ob 11 15 fn0)])) rfl hP1 hD1 hS1) hS1.2.2 (by decide) (by decide)
set_option maxHeartbeats 4000000 in
set_option maxRecDepth 100000 in
/-- X11_ends throws -/
theorem x_ends_p (l : Launch) (hst0 : l.stackTraces = false) (D : va_G) (cy : Nat → ClassId) (kv : KV) (sz : Nat) (ad0 : Nat) (xi0 : Int32) (fn0 : Nat → Value) (h0_1 : fn0 1 = .int 0) (hn : 0 < xi0) : vx_Met l yX11_ends (Cond.code yX11_ends cX11_ends 3 (some .int) :: GW) ({ frames := 11, cells := 1, slots := 6, locals := 240 } : Room) (va_Pc [.ref ad0, .int xi0] (pcq D cy kv sz [(ad0, ob 11 15 fn0)])) (va_Qv (fun (_ : Unit) => False) (fun _ _ => True) (fun _ => False)) (vx_X (fun (_ : Unit) => True) (fun E _ t => E = "java/lang/IllegalArgumentException" ∧ bq D (fun w => w = [(ad0, ob 11 15 fn0)]) (va_A [(ad0, ob 11 15 fn0)] sz) t) (va_A [(ad0, ob 11 15 fn0)] sz)) 1 6 (va_A [(ad0, ob 11 15 fn0)] sz) := by
  refine vx_ofW (cc := cX11_ends) (maxL := 3) (ret := (some .int)) (by decide) rfl ?_
  intro p e s m args below meth c s₁ B hml htb hv
  obtain ⟨rfl, hsz, hP, hK, hD0, hE⟩ := hv
  have hx := B.exec
  have hb := B.bytes
  have hr := B.returns
  have hG : ∀ w ∈ GW, w.before ([.ref ad0, .int xi0] : List Value).toArray s = true := fun w h => atoms_spec (ws := Cond.code yX11_ends cX11_ends 3 (some .int) :: GW) B.pre w (List.mem_cons_of_mem _ h)
  have hown : s.vm.findClass RX11 = some m.cls := findClass_of_methodNamed B.named
  have hlocks := B.notSynchronized
  subst hsz
  have hD := hD0.self (sz := s.heap.size)
  generalize hAe : va_A [(ad0, ob 11 15 fn0)] s.heap.size = A at hD hE ⊢
  have hA : ∀ q : Nat, s.heap.size ≤ q → A q := fun q h => by rw [← hAe]; exact Or.inr h
  have hS : va_S A s.heap s.heap [] := va_S.rf
  clear hAe hD0
  have hl0 := lv_entry ([.ref ad0, .int xi0]) (n := 3) (Nat.le_of_ble_eq_true rfl)
  rw [lg_entry_eq]
  generalize (lg_sl ([.ref ad0, .int xi0]) ++ List.replicate (3 - (lg_sl ([.ref ad0, .int xi0])).length) Slot.unset).toArray = ls at hl0 ⊢
  have hl : lv_has ls 3 [(0, .ref ad0), (1, .int xi0)] := hl0
  clear hl0
  refine lv_aload_n (pc := 0) hx hb dX11_ends_0 rfl (lv_at hl 0 rfl) ?_
  refine lv_iload_n (pc := 1) hx hb dX11_ends_1 rfl (lv_at hl 1 rfl) ?_
  refine cq_i (pc := 2) (wr := []) (k2 := 0) (n2 := 0) (va_runV (As := [.int xi0]) (rest := []) ⟨hx, hb, hml, hown, hG⟩ (c_isLine_p l D cy kv s.heap.size ad0 xi0 fn0 h0_1 hn) (cwV 1 hG (gi_V g_207 g_208 g_209 g_143 g_149) rfl rfl rfl (by decide +kernel) ⟨Nat.le_of_ble_eq_true rfl, Nat.le_of_ble_eq_true rfl⟩) ⟨pq_blind, (va_recv hK hP (ci := 11) (q0 := 0) rfl rfl), (pq_pass hP hD hK hE hS hA [0] rfl (by decide))⟩ rfl rfl hl.1 rfl (lv_room (Nat.le_of_ble_eq_true rfl)) dX11_ends_2 ⟨Nat.le_of_ble_eq_true rfl, Nat.le_of_ble_eq_true rfl⟩) hP hD hS hA [0] [] rfl rfl (by decide) (by decide) (by decide) (by decide) (fun r1 w1 H1 lo1 e1 hR1 hP1r hD1r hS1 => ?_)
  subst hR1
  subst e1
  have hP1 : va_P D classes [(ad0, ob 11 15 fn0)] H1 := hP1r
  have hD1 : va_D A [(ad0, ob 11 15 fn0)] := hD1r
  clear hP1r hD1r
  clear hP hD hS
  refine lv_if_ne (pc := 5) (tgt := 16) hx hb dX11_ends_5 (by decide) (fun c2 => absurd (by decide) c2) (fun c2 => ?_)
  exact vx_throw0 (pc := 8) (own := RX11) (cls := "java/lang/IllegalArgumentException") (names := XN) (ik := 101) (ic := 103) hx hb hst0 hown (by decide) (by decide) (hG _ g_151) (hG _ g_152) (vx_hat (B := [Cond.declares ⟨"java/lang/RuntimeException", "<init>", "()V"⟩, Cond.declares ⟨"java/lang/Exception", "<init>", "()V"⟩, Cond.declares ⟨"java/lang/Throwable", "<init>", "()V"⟩, Cond.castable "java/lang/IllegalArgumentException" "java/lang/IllegalArgumentException"]) (fun w hw => hG w (in_x0 w hw)) (by decide +kernel) (vx_c (va_Nw.use rfl (nw_at hE n_7)) (vx_c (va_Nw.use rfl (nw_at hE n_8)) (vx_c (va_Nw.use rfl (nw_at hE n_9)) (vx_c (va_Nw.use rfl (nw_at hE n_10)) vx_n))))) (by decide +kernel) hE.2.2.1 hE.2.2.2.1 hS1 (by rw [hml]; exact hl.1) dX11_ends_8 dX11_ends_11 dX11_ends_12 dX11_ends_15 (fun x hx9 => (htb x hx9).elim) (Nat.le_of_ble_eq_true rfl) (Nat.le_of_ble_eq_true rfl) (Nat.le_of_ble_eq_true rfl) (Nat.le_of_ble_eq_true rfl) hlocks (xq_of (E := "java/lang/IllegalArgumentException") (Rw := (fun w => w = [(ad0, ob 11 15 fn0)])) rfl hP1 hD1 hS1) hS1.2.2 (by decide) (by decide)
set_option maxHeartbeats 4000000 in
set_option maxRecDepth 100000 in
/-- X6_forget -/
theorem c_Pforget (l : Launch) (D : va_G) (cy : Nat → ClassId) (kv : KV) (sz : Nat) (ad0 : Nat) (fn0 : Nat → Value) : Met l yX6_forget (Cond.code yX6_forget cX6_forget 1 none :: GW) ({ frames := 8, cells := 0, slots := 0, locals := 120 } : Room) (va_Pc [.ref ad0] (pcq D cy kv sz [(ad0, ob 6 7 fn0)])) (va_Qv (fun (_ : Unit) => True) (fun _ t => bq D (fun w => w = [(ad0, ob 6 7 (vup (vup fn0 1 (.int 0)) 3 (.int 0)))]) (va_A [(ad0, ob 6 7 fn0)] sz) t) (va_A [(ad0, ob 6 7 fn0)] sz)) 0 0 (va_A [(ad0, ob 6 7 fn0)] sz) := by
  refine Met.ofW (cc := cX6_forget) (maxL := 1) (ret := none) (by decide) rfl ?_
  intro p e s m args below meth c s₁ B hml hv
  obtain ⟨rfl, hsz, hP, hK, hD0, hE⟩ := hv
  have hx := B.exec
  have hb := B.bytes
  have hr := B.returns
  have hG : ∀ w ∈ GW, w.before ([.ref ad0] : List Value).toArray s = true := fun w h => atoms_spec (ws := Cond.code yX6_forget cX6_forget 1 none :: GW) B.pre w (List.mem_cons_of_mem _ h)
  have hown : s.vm.findClass RX6 = some m.cls := findClass_of_methodNamed B.named
  have hlocks := B.notSynchronized
  subst hsz
  have hD := hD0.self (sz := s.heap.size)
  generalize hAe : va_A [(ad0, ob 6 7 fn0)] s.heap.size = A at hD hE ⊢
  have hA : ∀ q : Nat, s.heap.size ≤ q → A q := fun q h => by rw [← hAe]; exact Or.inr h
  have hS : va_S A s.heap s.heap [] := va_S.rf
  clear hAe hD0
  have hl0 := lv_entry ([.ref ad0]) (n := 1) (Nat.le_of_ble_eq_true rfl)
  rw [lg_entry_eq]
  generalize (lg_sl ([.ref ad0]) ++ List.replicate (1 - (lg_sl ([.ref ad0])).length) Slot.unset).toArray = ls at hl0 ⊢
  have hl : lv_has ls 1 [(0, .ref ad0)] := hl0
  clear hl0
  refine lv_aload_n (pc := 0) hx hb dX6_forget_0 rfl (lv_at hl 0 rfl) ?_
  refine lv_iconst (pc := 1) (v := 0) hx hb dX6_forget_1 (by decide) ?_
  refine ob_put (pc := 2) (v := .int 0) (ci := 6) (C := RX6) (T := TX6) (N := 7) hx hb hG in_X6 tyX6 tyX6_ok nmX6 hown hK hP hD hS 0 rfl rfl 1 (by decide) (hG _ g_65) rfl rfl rfl rfl dX6_forget_2 (ws' := [(ad0, ob 6 7 (vup fn0 1 (.int 0)))]) rfl (fun H1 lo1 hP1 hD1 hS1 => ?_)
  clear hP hD hS
  refine lv_aload_n (pc := 5) hx hb dX6_forget_5 rfl (lv_at hl 0 rfl) ?_
  refine lv_iconst (pc := 6) (v := 0) hx hb dX6_forget_6 (by decide) ?_
  refine ob_put (pc := 7) (v := .int 0) (ci := 6) (C := RX6) (T := TX6) (N := 7) hx hb hG in_X6 tyX6 tyX6_ok nmX6 hown hK hP1 hD1 hS1 0 rfl rfl 3 (by decide) (hG _ g_67) rfl rfl rfl rfl dX6_forget_7 (ws' := [(ad0, ob 6 7 (vup (vup fn0 1 (.int 0)) 3 (.int 0)))]) rfl (fun H2 lo2 hP2 hD2 hS2 => ?_)
  clear hP1 hD1 hS1
  clear H1 lo1
  exact W.vret (pc := 10) hx hb hr (fun t ht hW => ⟨⟨(), rfl, trivial, _, rfl, by rw [ht]; exact hP2, hD2⟩, hS2.F ht⟩) hS2.2.2 dX6_forget_10
set_option maxHeartbeats 4000000 in
set_option maxRecDepth 100000 in
/-- X3_cut -/
theorem c_cut (l : Launch) (D : va_G) (cy : Nat → ClassId) (kv : KV) (sz : Nat) (ad0 : Nat) (ad1 : Nat) (fn0 : Nat → Value) (ct1 : Nat → Int32) : Met l yX3_cut (Cond.code yX3_cut cX3_cut 5 (some .boolean) :: GW) ({ frames := 8, cells := 0, slots := 0, locals := 120 } : Room) (va_Pc [.ref ad0, .ref ad1, .int 0, .int 0] (pcq D cy kv sz [(ad0, ob 3 16 fn0), (ad1, ari (cy 1) 2000 ct1)])) (va_Qi (fun r (_ : Unit) => r = 1) (fun _ t => bq D (fun w => w = [(ad0, ob 3 16 (vup (vup (vup (vup (vup (vup (vup (vup fn0 1 (.int 0)) 2 (.int 0)) 3 (.int 0)) 4 (.int 0)) 9 (.ref ad1)) 10 (.int 0)) 11 (.int 0)) 12 (.int 0))), (ad1, ari (cy 1) 2000 ct1)]) (va_A [(ad0, ob 3 16 fn0), (ad1, ari (cy 1) 2000 ct1)] sz) t) (va_A [(ad0, ob 3 16 fn0), (ad1, ari (cy 1) 2000 ct1)] sz)) 0 0 (va_A [(ad0, ob 3 16 fn0), (ad1, ari (cy 1) 2000 ct1)] sz) := by
  refine Met.ofW (cc := cX3_cut) (maxL := 5) (ret := (some .boolean)) (by decide) rfl ?_
  intro p e s m args below meth c s₁ B hml hv
  obtain ⟨rfl, hsz, hP, hK, hD0, hE⟩ := hv
  have hx := B.exec
  have hb := B.bytes
  have hr := B.returns
  have hG : ∀ w ∈ GW, w.before ([.ref ad0, .ref ad1, .int 0, .int 0] : List Value).toArray s = true := fun w h => atoms_spec (ws := Cond.code yX3_cut cX3_cut 5 (some .boolean) :: GW) B.pre w (List.mem_cons_of_mem _ h)
  have hown : s.vm.findClass RX3 = some m.cls := findClass_of_methodNamed B.named
  have hlocks := B.notSynchronized
  subst hsz
  have hD := hD0.self (sz := s.heap.size)
  generalize hAe : va_A [(ad0, ob 3 16 fn0), (ad1, ari (cy 1) 2000 ct1)] s.heap.size = A at hD hE ⊢
  have hA : ∀ q : Nat, s.heap.size ≤ q → A q := fun q h => by rw [← hAe]; exact Or.inr h
  have hS : va_S A s.heap s.heap [] := va_S.rf
  clear hAe hD0
  have hl0 := lv_entry ([.ref ad0, .ref ad1, .int 0, .int 0]) (n := 5) (Nat.le_of_ble_eq_true rfl)
  rw [lg_entry_eq]
  generalize (lg_sl ([.ref ad0, .ref ad1, .int 0, .int 0]) ++ List.replicate (5 - (lg_sl ([.ref ad0, .ref ad1, .int 0, .int 0])).length) Slot.unset).toArray = ls at hl0 ⊢
  have hl : lv_has ls 5 [(0, .ref ad0), (1, .ref ad1), (2, .int 0), (3, .int 0)] := hl0
  clear hl0
  refine lv_aload_n (pc := 0) hx hb dX3_cut_0 rfl (lv_at hl 0 rfl) ?_
  refine lv_iconst (pc := 1) (v := 0) hx hb dX3_cut_1 (by decide) ?_
  refine ob_put (pc := 2) (v := .int 0) (ci := 3) (C := RX3) (T := TX3) (N := 16) hx hb hG in_X3 tyX3 tyX3_ok nmX3 hown hK hP hD hS 0 rfl rfl 1 (by decide) (hG _ g_46) rfl rfl rfl rfl dX3_cut_2 (ws' := [(ad0, ob 3 16 (vup fn0 1 (.int 0))), (ad1, ari (cy 1) 2000 ct1)]) rfl (fun H1 lo1 hP1 hD1 hS1 => ?_)
  clear hP hD hS
  refine lv_aload_n (pc := 5) hx hb dX3_cut_5 rfl (lv_at hl 0 rfl) ?_
  refine lv_iconst (pc := 6) (v := 0) hx hb dX3_cut_6 (by decide) ?_
  refine ob_put (pc := 7) (v := .int 0) (ci := 3) (C := RX3) (T := TX3) (N := 16) hx hb hG in_X3 tyX3 tyX3_ok nmX3 hown hK hP1 hD1 hS1 0 rfl rfl 2 (by decide) (hG _ g_47) rfl rfl rfl rfl dX3_cut_7 (ws' := [(ad0, ob 3 16 (vup (vup fn0 1 (.int 0)) 2 (.int 0))), (ad1, ari (cy 1) 2000 ct1)]) rfl (fun H2 lo2 hP2 hD2 hS2 => ?_)
  clear hP1 hD1 hS1
  clear H1 lo1
  refine lv_aload_n (pc := 10) hx hb dX3_cut_10 rfl (lv_at hl 0 rfl) ?_
  refine lv_iconst (pc := 11) (v := 0) hx hb dX3_cut_11 (by decide) ?_
  refine ob_put (pc := 12) (v := .int 0) (ci := 3) (C := RX3) (T := TX3) (N := 16) hx hb hG in_X3 tyX3 tyX3_ok nmX3 hown hK hP2 hD2 hS2 0 rfl rfl 3 (by decide) (hG _ g_48) rfl rfl rfl rfl dX3_cut_12 (ws' := [(ad0, ob 3 16 (vup (vup (vup fn0 1 (.int 0)) 2 (.int 0)) 3 (.int 0))), (ad1, ari (cy 1) 2000 ct1)]) rfl (fun H3 lo3 hP3 hD3 hS3 => ?_)
  clear hP2 hD2 hS2
  clear H2 lo2
  refine lv_aload_n (pc := 15) hx hb dX3_cut_15 rfl (lv_at hl 0 rfl) ?_
  refine lv_iconst (pc := 16) (v := 0) hx hb dX3_cut_16 (by decide) ?_
  refine ob_put (pc := 17) (v := .int 0) (ci := 3) (C := RX3) (T := TX3) (N := 16) hx hb hG in_X3 tyX3 tyX3_ok nmX3 hown hK hP3 hD3 hS3 0 rfl rfl 4 (by decide) (hG _ g_49) rfl rfl rfl rfl dX3_cut_17 (ws' := [(ad0, ob 3 16 (vup (vup (vup (vup fn0 1 (.int 0)) 2 (.int 0)) 3 (.int 0)) 4 (.int 0))), (ad1, ari (cy 1) 2000 ct1)]) rfl (fun H4 lo4 hP4 hD4 hS4 => ?_)
  clear hP3 hD3 hS3
  clear H3 lo3
  refine lv_aload_n (pc := 20) hx hb dX3_cut_20 rfl (lv_at hl 0 rfl) ?_
  refine lv_aload_n (pc := 21) hx hb dX3_cut_21 rfl (lv_at hl 1 rfl) ?_
  refine ob_put (pc := 22) (v := .ref ad1) (ci := 3) (C := RX3) (T := TX3) (N := 16) hx hb hG in_X3 tyX3 tyX3_ok nmX3 hown hK hP4 hD4 hS4 0 rfl rfl 9 (by decide) (hG _ g_213) rfl rfl rfl rfl dX3_cut_22 (ws' := [(ad0, ob 3 16 (vup (vup (vup (vup (vup fn0 1 (.int 0)) 2 (.int 0)) 3 (.int 0)) 4 (.int 0)) 9 (.ref ad1))), (ad1, ari (cy 1) 2000 ct1)]) rfl (fun H5 lo5 hP5 hD5 hS5 => ?_)
  clear hP4 hD4 hS4
  clear H4 lo4
  refine lv_aload_n (pc := 25) hx hb dX3_cut_25 rfl (lv_at hl 0 rfl) ?_
  refine lv_iload_n (pc := 26) hx hb dX3_cut_26 rfl (lv_at hl 2 rfl) ?_
  refine ob_put (pc := 27) (v := .int 0) (ci := 3) (C := RX3) (T := TX3) (N := 16) hx hb hG in_X3 tyX3 tyX3_ok nmX3 hown hK hP5 hD5 hS5 0 rfl rfl 10 (by decide) (hG _ g_214) rfl rfl rfl rfl dX3_cut_27 (ws' := [(ad0, ob 3 16 (vup (vup (vup (vup (vup (vup fn0 1 (.int 0)) 2 (.int 0)) 3 (.int 0)) 4 (.int 0)) 9 (.ref ad1)) 10 (.int 0))), (ad1, ari (cy 1) 2000 ct1)]) rfl (fun H6 lo6 hP6 hD6 hS6 => ?_)
  clear hP5 hD5 hS5
  clear H5 lo5
  refine lv_aload_n (pc := 30) hx hb dX3_cut_30 rfl (lv_at hl 0 rfl) ?_
  refine lv_iload_n (pc := 31) hx hb dX3_cut_31 rfl (lv_at hl 3 rfl) ?_
  refine lv_aload_n (pc := 32) hx hb dX3_cut_32 rfl (lv_at hl 1 rfl) ?_
  refine va_alen (pc := 33) hx hb hK hP6 1 1 rfl rfl (v := 2000) (show Int32.ofNat 2000 = 2000 by decide) dX3_cut_33 ?_
  refine va_mmin (pc := 34) hx hb (by rw [hml, hl.1]) hown (hG _ g_215) (hG _ g_158) (hG _ g_159) (hG _ g_160) (Nat.le_of_ble_eq_true rfl) (Nat.le_of_ble_eq_true rfl) (Nat.le_of_ble_eq_true rfl) (Nat.le_of_ble_eq_true rfl) dX3_cut_34 ?_
  refine tp_i (y := 0) (by decide) ?_
  refine ob_put (pc := 37) (v := .int 0) (ci := 3) (C := RX3) (T := TX3) (N := 16) hx hb hG in_X3 tyX3 tyX3_ok nmX3 hown hK hP6 hD6 hS6 0 rfl rfl 11 (by decide) (hG _ g_216) rfl rfl rfl rfl dX3_cut_37 (ws' := [(ad0, ob 3 16 (vup (vup (vup (vup (vup (vup (vup fn0 1 (.int 0)) 2 (.int 0)) 3 (.int 0)) 4 (.int 0)) 9 (.ref ad1)) 10 (.int 0)) 11 (.int 0))), (ad1, ari (cy 1) 2000 ct1)]) rfl (fun H7 lo7 hP7 hD7 hS7 => ?_)
  clear hP6 hD6 hS6
  clear H6 lo6
  refine lv_aload_n (pc := 40) hx hb dX3_cut_40 rfl (lv_at hl 0 rfl) ?_
  refine lv_iload_n (pc := 41) hx hb dX3_cut_41 rfl (lv_at hl 2 rfl) ?_
  refine ob_put (pc := 42) (v := .int 0) (ci := 3) (C := RX3) (T := TX3) (N := 16) hx hb hG in_X3 tyX3 tyX3_ok nmX3 hown hK hP7 hD7 hS7 0 rfl rfl 12 (by decide) (hG _ g_217) rfl rfl rfl rfl dX3_cut_42 (ws' := [(ad0, ob 3 16 (vup (vup (vup (vup (vup (vup (vup (vup fn0 1 (.int 0)) 2 (.int 0)) 3 (.int 0)) 4 (.int 0)) 9 (.ref ad1)) 10 (.int 0)) 11 (.int 0)) 12 (.int 0))), (ad1, ari (cy 1) 2000 ct1)]) rfl (fun H8 lo8 hP8 hD8 hS8 => ?_)
  clear hP7 hD7 hS7
  clear H7 lo7
  refine lv_iconst (pc := 45) (v := 0) hx hb dX3_cut_45 (by decide) ?_
  refine lv_istore (pc := 46) (lv' := [(4, .int 0), (0, .ref ad0), (1, .ref ad1), (2, .int 0), (3, .int 0)]) hx hb dX3_cut_46 hl (by decide) rfl (fun ls9 hl9 => ?_)
  clear hl ls
  refine lv_iload (pc := 48) hx hb dX3_cut_48 (lv_at hl9 0 rfl) ?_
  refine lv_sipush (pc := 50) (v := 400) hx hb dX3_cut_50 (by decide) ?_
  refine lv_icmp_gt (pc := 53) (tgt := 148) hx hb dX3_cut_53 (by decide) (fun c10 => absurd c10 (by decide)) (fun c10 => ?_)
  refine lv_aload_n (pc := 56) hx hb dX3_cut_56 rfl (lv_at hl9 1 rfl) ?_
  refine ob_get (pc := 57) (v := .int 0) (ci := 3) (C := RX3) (T := TX3) (N := 16) hx hb hG in_X3 hown hK hP8 0 rfl rfl 4 (by decide) (hG _ g_49) rfl rfl dX3_cut_57 ?_
  refine lv_if_ne (pc := 60) (tgt := 148) hx hb dX3_cut_60 (by decide) (fun c11 => absurd (by decide) c11) (fun c11 => ?_)
  refine lv_aload_n (pc := 63) hx hb dX3_cut_63 rfl (lv_at hl9 1 rfl) ?_
  refine ob_get (pc := 64) (v := .int 0) (ci := 3) (C := RX3) (T := TX3) (N := 16) hx hb hG in_X3 hown hK hP8 0 rfl rfl 12 (by decide) (hG _ g_217) rfl rfl dX3_cut_64 ?_
  refine lv_aload_n (pc := 67) hx hb dX3_cut_67 rfl (lv_at hl9 1 rfl) ?_
  refine ob_get (pc := 68) (v := .int 0) (ci := 3) (C := RX3) (T := TX3) (N := 16) hx hb hG in_X3 hown hK hP8 0 rfl rfl 11 (by decide) (hG _ g_216) rfl rfl dX3_cut_68 ?_
  refine lv_icmp_ge (pc := 71) (tgt := 102) hx hb dX3_cut_71 (by decide) (fun c12 => ?_) (fun c12 => absurd (by decide) c12)
  refine lv_aload_n (pc := 102) hx hb dX3_cut_102 rfl (lv_at hl9 1 rfl) ?_
  refine ob_get (pc := 103) (v := .int 0) (ci := 3) (C := RX3) (T := TX3) (N := 16) hx hb hG in_X3 hown hK hP8 0 rfl rfl 12 (by decide) (hG _ g_217) rfl rfl dX3_cut_103 ?_
  refine lv_aload_n (pc := 106) hx hb dX3_cut_106 rfl (lv_at hl9 1 rfl) ?_
  refine ob_get (pc := 107) (v := .int 0) (ci := 3) (C := RX3) (T := TX3) (N := 16) hx hb hG in_X3 hown hK hP8 0 rfl rfl 11 (by decide) (hG _ g_216) rfl rfl dX3_cut_107 ?_
  refine lv_icmp_lt (pc := 110) (tgt := 116) hx hb dX3_cut_110 (by decide) (fun c13 => absurd c13 (by decide)) (fun c13 => ?_)
  refine lv_goto (pc := 113) (tgt := 148) hx hb dX3_cut_113 (by decide) ?_
  refine lv_aload_n (pc := 148) hx hb dX3_cut_148 rfl (lv_at hl9 1 rfl) ?_
  refine ob_get (pc := 149) (v := .int 0) (ci := 3) (C := RX3) (T := TX3) (N := 16) hx hb hG in_X3 hown hK hP8 0 rfl rfl 4 (by decide) (hG _ g_49) rfl rfl dX3_cut_149 ?_
  refine lv_if_ne (pc := 152) (tgt := 159) hx hb dX3_cut_152 (by decide) (fun c14 => absurd (by decide) c14) (fun c14 => ?_)
  refine lv_iconst (pc := 155) (v := 1) hx hb dX3_cut_155 (by decide) ?_
  refine lv_goto (pc := 156) (tgt := 160) hx hb dX3_cut_156 (by decide) ?_
  exact W.zret (pc := 160) (v := 1) (ty := .boolean) hx hb hr rfl (fun t ht hW => ⟨⟨1, (), rfl, rfl, _, rfl, by rw [ht]; exact hP8, hD8⟩, hS8.F ht⟩) hS8.2.2 dX3_cut_160
set_option maxHeartbeats 4000000 in
set_option maxRecDepth 100000 in
/-- X11_takeLine -/
theorem c_takeLine (l : Launch) (D : va_G) (cy : Nat → ClassId) (kv : KV) (sz : Nat) (ad0 : Nat) (fn0 : Nat → Value) (ad1 : Nat) (ad2 : Nat) (ad3 : Nat) (ct1 : Nat → Int32) (fn2 : Nat → Value) (fn3 : Nat → Value) (h0_0 : fn0 0 = .ref ad1) (h0_9 : fn0 9 = .ref ad2) (h0_11 : fn0 11 = .ref ad3) : Met l yX11_takeLine (Cond.code yX11_takeLine cX11_takeLine 2 none :: GW) ({ frames := 9, cells := 0, slots := 0, locals := 160 } : Room) (va_Pc [.ref ad0, .int 0] (pcq D cy kv sz [(ad0, ob 11 15 fn0), (ad1, ari (cy 1) 2000 ct1), (ad2, ob 3 16 fn2), (ad3, ob 6 7 fn3)])) (va_Qv (fun (_ : Unit) => True) (fun _ t => bq D (fun w => w = [(ad0, ob 11 15 (vup fn0 1 (.int 0))), (ad3, ob 6 7 (vup (vup fn3 1 (.int 0)) 3 (.int 0))), (ad2, ob 3 16 (vup (vup (vup (vup (vup (vup (vup (vup fn2 1 (.int 0)) 2 (.int 0)) 3 (.int 0)) 4 (.int 0)) 9 (.ref ad1)) 10 (.int 0)) 11 (.int 0)) 12 (.int 0))), (ad1, ari (cy 1) 2000 ct1)]) (va_A [(ad0, ob 11 15 fn0), (ad1, ari (cy 1) 2000 ct1), (ad2, ob 3 16 fn2), (ad3, ob 6 7 fn3)] sz) t) (va_A [(ad0, ob 11 15 fn0), (ad1, ari (cy 1) 2000 ct1), (ad2, ob 3 16 fn2), (ad3, ob 6 7 fn3)] sz)) 0 0 (va_A [(ad0, ob 11 15 fn0), (ad1, ari (cy 1) 2000 ct1), (ad2, ob 3 16 fn2), (ad3, ob 6 7 fn3)] sz) := by
  refine Met.ofW (cc := cX11_takeLine) (maxL := 2) (ret := none) (by decide) rfl ?_
  intro p e s m args below meth c s₁ B hml hv
  obtain ⟨rfl, hsz, hP, hK, hD0, hE⟩ := hv
  have hx := B.exec
  have hb := B.bytes
  have hr := B.returns
  have hG : ∀ w ∈ GW, w.before ([.ref ad0, .int 0] : List Value).toArray s = true := fun w h => atoms_spec (ws := Cond.code yX11_takeLine cX11_takeLine 2 none :: GW) B.pre w (List.mem_cons_of_mem _ h)
  have hown : s.vm.findClass RX11 = some m.cls := findClass_of_methodNamed B.named
  have hlocks := B.notSynchronized
  subst hsz
  have hD := hD0.self (sz := s.heap.size)
  generalize hAe : va_A [(ad0, ob 11 15 fn0), (ad1, ari (cy 1) 2000 ct1), (ad2, ob 3 16 fn2), (ad3, ob 6 7 fn3)] s.heap.size = A at hD hE ⊢
  have hA : ∀ q : Nat, s.heap.size ≤ q → A q := fun q h => by rw [← hAe]; exact Or.inr h
  have hS : va_S A s.heap s.heap [] := va_S.rf
  clear hAe hD0
  have hl0 := lv_entry ([.ref ad0, .int 0]) (n := 2) (Nat.le_of_ble_eq_true rfl)
  rw [lg_entry_eq]
  generalize (lg_sl ([.ref ad0, .int 0]) ++ List.replicate (2 - (lg_sl ([.ref ad0, .int 0])).length) Slot.unset).toArray = ls at hl0 ⊢
  have hl : lv_has ls 2 [(0, .ref ad0), (1, .int 0)] := hl0
  clear hl0
  refine lv_aload_n (pc := 0) hx hb dX11_takeLine_0 rfl (lv_at hl 0 rfl) ?_
  refine lv_iconst (pc := 1) (v := 0) hx hb dX11_takeLine_1 (by decide) ?_
  refine ob_put (pc := 2) (v := .int 0) (ci := 11) (C := RX11) (T := TX11) (N := 15) hx hb hG in_X11 tyX11 tyX11_ok nmX11 hown hK hP hD hS 0 rfl rfl 1 (by decide) (hG _ g_90) rfl rfl rfl rfl dX11_takeLine_2 (ws' := [(ad0, ob 11 15 (vup fn0 1 (.int 0))), (ad1, ari (cy 1) 2000 ct1), (ad2, ob 3 16 fn2), (ad3, ob 6 7 fn3)]) rfl (fun H1 lo1 hP1 hD1 hS1 => ?_)
  clear hP hD hS
  refine lv_aload_n (pc := 5) hx hb dX11_takeLine_5 rfl (lv_at hl 0 rfl) ?_
  refine ob_get (pc := 6) (v := .ref ad3) (ci := 11) (C := RX11) (T := TX11) (N := 15) hx hb hG in_X11 hown hK hP1 0 rfl rfl 11 (by decide) (hG _ g_126) rfl h0_11 dX11_takeLine_6 ?_
  refine cq_v (pc := 9) (wr := [(ad0, ob 11 15 (vup fn0 1 (.int 0))), (ad1, ari (cy 1) 2000 ct1), (ad2, ob 3 16 fn2)]) (k2 := 0) (n2 := 0) (va_runV (As := []) (rest := []) ⟨hx, hb, hml, hown, hG⟩ (c_Pforget l D cy kv H1.size ad3 fn3) (cwV 0 hG (gi_V g_219 g_220 g_221 g_124 g_212) rfl rfl rfl (by decide +kernel) ⟨Nat.le_of_ble_eq_true rfl, Nat.le_of_ble_eq_true rfl⟩) ⟨pq_blind, (va_recv hK hP1 (ci := 6) (q0 := 3) rfl rfl), (pq_pass hP1 hD1 hK hE hS1 hA [3] rfl (by decide))⟩ rfl rfl hl.1 rfl (lv_room (Nat.le_of_ble_eq_true rfl)) dX11_takeLine_9 ⟨Nat.le_of_ble_eq_true rfl, Nat.le_of_ble_eq_true rfl⟩) hP1 hD1 hS1 hA [3] [0, 1, 2] rfl rfl (by decide) (by decide) (by decide) (by decide) (fun w2 H2 lo2 hR2 hP2r hD2r hS2 => ?_)
  subst hR2
  have hP2 : va_P D classes [(ad0, ob 11 15 (vup fn0 1 (.int 0))), (ad1, ari (cy 1) 2000 ct1), (ad2, ob 3 16 fn2), (ad3, ob 6 7 (vup (vup fn3 1 (.int 0)) 3 (.int 0)))] H2 := hP2r
  have hD2 : va_D A [(ad0, ob 11 15 (vup fn0 1 (.int 0))), (ad1, ari (cy 1) 2000 ct1), (ad2, ob 3 16 fn2), (ad3, ob 6 7 (vup (vup fn3 1 (.int 0)) 3 (.int 0)))] := hD2r
  clear hP2r hD2r
  clear hP1 hD1 hS1
  clear H1 lo1
  refine lv_aload_n (pc := 12) hx hb dX11_takeLine_12 rfl (lv_at hl 0 rfl) ?_
  refine ob_get (pc := 13) (v := .ref ad2) (ci := 11) (C := RX11) (T := TX11) (N := 15) hx hb hG in_X11 hown hK hP2 0 rfl rfl 9 (by decide) (hG _ g_116) rfl h0_9 dX11_takeLine_13 ?_
  refine lv_aload_n (pc := 16) hx hb dX11_takeLine_16 rfl (lv_at hl 0 rfl) ?_
  refine ob_get (pc := 17) (v := .ref ad1) (ci := 11) (C := RX11) (T := TX11) (N := 15) hx hb hG in_X11 hown hK hP2 0 rfl rfl 0 (by decide) (hG _ g_89) rfl h0_0 dX11_takeLine_17 ?_
  refine lv_iconst (pc := 20) (v := 0) hx hb dX11_takeLine_20 (by decide) ?_
  refine lv_iload_n (pc := 21) hx hb dX11_takeLine_21 rfl (lv_at hl 1 rfl) ?_
  refine cq_i (pc := 22) (wr := [(ad0, ob 11 15 (vup fn0 1 (.int 0))), (ad3, ob 6 7 (vup (vup fn3 1 (.int 0)) 3 (.int 0)))]) (k2 := 0) (n2 := 0) (va_runV (As := [.ref ad1, .int 0, .int 0]) (rest := []) ⟨hx, hb, hml, hown, hG⟩ (c_cut l D cy kv H2.size ad2 ad1 fn2 ct1) (cwV 3 hG (gi_V g_222 g_223 g_224 g_113 g_218) rfl rfl rfl (by decide +kernel) ⟨Nat.le_of_ble_eq_true rfl, Nat.le_of_ble_eq_true rfl⟩) ⟨pq_blind, (va_recv hK hP2 (ci := 3) (q0 := 2) rfl rfl), (pq_pass hP2 hD2 hK hE hS2 hA [2, 1] rfl (by decide))⟩ rfl rfl hl.1 rfl (lv_room (Nat.le_of_ble_eq_true rfl)) dX11_takeLine_22 ⟨Nat.le_of_ble_eq_true rfl, Nat.le_of_ble_eq_true rfl⟩) hP2 hD2 hS2 hA [2, 1] [0, 3] rfl rfl (by decide) (by decide) (by decide) (by decide) (fun r3 w3 H3 lo3 e3 hR3 hP3r hD3r hS3 => ?_)
  subst hR3
  subst e3
  have hP3 : va_P D classes [(ad0, ob 11 15 (vup fn0 1 (.int 0))), (ad3, ob 6 7 (vup (vup fn3 1 (.int 0)) 3 (.int 0))), (ad2, ob 3 16 (vup (vup (vup (vup (vup (vup (vup (vup fn2 1 (.int 0)) 2 (.int 0)) 3 (.int 0)) 4 (.int 0)) 9 (.ref ad1)) 10 (.int 0)) 11 (.int 0)) 12 (.int 0))), (ad1, ari (cy 1) 2000 ct1)] H3 := hP3r
  have hD3 : va_D A [(ad0, ob 11 15 (vup fn0 1 (.int 0))), (ad3, ob 6 7 (vup (vup fn3 1 (.int 0)) 3 (.int 0))), (ad2, ob 3 16 (vup (vup (vup (vup (vup (vup (vup (vup fn2 1 (.int 0)) 2 (.int 0)) 3 (.int 0)) 4 (.int 0)) 9 (.ref ad1)) 10 (.int 0)) 11 (.int 0)) 12 (.int 0))), (ad1, ari (cy 1) 2000 ct1)] := hD3r
  clear hP3r hD3r
  clear hP2 hD2 hS2
  clear H2 lo2
  refine lv_pop (pc := 25) hx hb dX11_takeLine_25 rfl ?_
  exact W.vret (pc := 26) hx hb hr (fun t ht hW => ⟨⟨(), rfl, trivial, _, rfl, by rw [ht]; exact hP3, hD3⟩, hS3.F ht⟩) hS3.2.2 dX11_takeLine_26
set_option maxHeartbeats 4000000 in
set_option maxRecDepth 100000 in
/-- X3_putAliases -/
theorem c_putAliases (l : Launch) (D : va_G) (cy : Nat → ClassId) (kv : KV) (sz : Nat) (ad0 : Nat) (ad1 : Nat) (xi0 : Int32) (fn0 : Nat → Value) (h0_1 : fn0 1 = .int 0) : Met l yX3_putAliases (Cond.code yX3_putAliases cX3_putAliases 6 none :: GW) ({ frames := 8, cells := 0, slots := 0, locals := 120 } : Room) (va_Pc [.ref ad0, .ref ad1, .int xi0] (pcq D cy kv sz [(ad0, ob 3 16 fn0)])) (va_Qv (fun (_ : Unit) => True) (fun _ t => bq D (fun w => w = [(ad0, ob 3 16 fn0)]) (va_A [(ad0, ob 3 16 fn0)] sz) t) (va_A [(ad0, ob 3 16 fn0)] sz)) 0 0 (va_A [(ad0, ob 3 16 fn0)] sz) := by
  refine Met.ofW (cc := cX3_putAliases) (maxL := 6) (ret := none) (by decide) rfl ?_
  intro p e s m args below meth c s₁ B hml hv
  obtain ⟨rfl, hsz, hP, hK, hD0, hE⟩ := hv
  have hx := B.exec
  have hb := B.bytes
  have hr := B.returns
  have hG : ∀ w ∈ GW, w.before ([.ref ad0, .ref ad1, .int xi0] : List Value).toArray s = true := fun w h => atoms_spec (ws := Cond.code yX3_putAliases cX3_putAliases 6 none :: GW) B.pre w (List.mem_cons_of_mem _ h)
  have hown : s.vm.findClass RX3 = some m.cls := findClass_of_methodNamed B.named
  have hlocks := B.notSynchronized
  subst hsz
  have hD := hD0.self (sz := s.heap.size)
  generalize hAe : va_A [(ad0, ob 3 16 fn0)] s.heap.size = A at hD hE ⊢
  have hA : ∀ q : Nat, s.heap.size ≤ q → A q := fun q h => by rw [← hAe]; exact Or.inr h
  have hS : va_S A s.heap s.heap [] := va_S.rf
  clear hAe hD0
  have hl0 := lv_entry ([.ref ad0, .ref ad1, .int xi0]) (n := 6) (Nat.le_of_ble_eq_true rfl)
  rw [lg_entry_eq]
  generalize (lg_sl ([.ref ad0, .ref ad1, .int xi0]) ++ List.replicate (6 - (lg_sl ([.ref ad0, .ref ad1, .int xi0])).length) Slot.unset).toArray = ls at hl0 ⊢
  have hl : lv_has ls 6 [(0, .ref ad0), (1, .ref ad1), (2, .int xi0)] := hl0
  clear hl0
  refine lv_iconst (pc := 0) (v := 0) hx hb dX3_putAliases_0 (by decide) ?_
  refine lv_istore_n (pc := 1) (lv' := [(3, .int 0), (0, .ref ad0), (1, .ref ad1), (2, .int xi0)]) hx hb dX3_putAliases_1 rfl hl (by decide) rfl (fun ls1 hl1 => ?_)
  clear hl ls
  refine lv_iconst (pc := 2) (v := 0) hx hb dX3_putAliases_2 (by decide) ?_
  refine lv_istore (pc := 3) (lv' := [(4, .int 0), (3, .int 0), (0, .ref ad0), (1, .ref ad1), (2, .int xi0)]) hx hb dX3_putAliases_3 hl1 (by decide) rfl (fun ls2 hl2 => ?_)
  clear hl1 ls1
  refine lv_iload (pc := 5) hx hb dX3_putAliases_5 (lv_at hl2 0 rfl) ?_
  refine lv_bipush (pc := 7) (v := 20) hx hb dX3_putAliases_7 (by decide) ?_
  refine lv_icmp_gt (pc := 9) (tgt := 78) hx hb dX3_putAliases_9 (by decide) (fun c3 => absurd c3 (by decide)) (fun c3 => ?_)
  refine lv_aload_n (pc := 12) hx hb dX3_putAliases_12 rfl (lv_at hl2 2 rfl) ?_
  refine ob_get (pc := 13) (v := .int 0) (ci := 3) (C := RX3) (T := TX3) (N := 16) hx hb hG in_X3 hown hK hP 0 rfl rfl 1 (by decide) (hG _ g_46) rfl h0_1 dX3_putAliases_13 ?_
  refine lv_if_le (pc := 16) (tgt := 78) hx hb dX3_putAliases_16 (by decide) (fun c4 => ?_) (fun c4 => absurd (by decide) c4)
  exact W.vret (pc := 78) hx hb hr (fun t ht hW => ⟨⟨(), rfl, trivial, _, rfl, by rw [ht]; exact hP, hD⟩, hS.F ht⟩) hS.2.2 dX3_putAliases_78
set_option maxHeartbeats 4000000 in
set_option maxRecDepth 100000 in
/-- X3_accuseWord -/
theorem c_accuseWord (l : Launch) (D : va_G) (cy : Nat → ClassId) (kv : KV) (sz : Nat) (ad0 : Nat) (fn0 : Nat → Value) : Met l yX3_accuseWord (Cond.code yX3_accuseWord cX3_accuseWord 5 none :: GW) ({ frames := 8, cells := 0, slots := 0, locals := 120 } : Room) (va_Pc [.ref ad0, .int 4, .int (-1), .int 0, .int (-1)] (pcq D cy kv sz [(ad0, ob 3 16 fn0)])) (va_Qv (fun (_ : Unit) => True) (fun _ t => bq D (fun w => w = [(ad0, ob 3 16 (vup (vup (vup (vup (vup fn0 4 (.int 4)) 5 (.int (-1))) 6 (.int 0)) 7 (.int (-1))) 8 (.int (-1))))]) (va_A [(ad0, ob 3 16 fn0)] sz) t) (va_A [(ad0, ob 3 16 fn0)] sz)) 0 0 (va_A [(ad0, ob 3 16 fn0)] sz) := by
  refine Met.ofW (cc := cX3_accuseWord) (maxL := 5) (ret := none) (by decide) rfl ?_
  intro p e s m args below meth c s₁ B hml hv
  obtain ⟨rfl, hsz, hP, hK, hD0, hE⟩ := hv
  have hx := B.exec
  have hb := B.bytes
  have hr := B.returns
  have hG : ∀ w ∈ GW, w.before ([.ref ad0, .int 4, .int (-1), .int 0, .int (-1)] : List Value).toArray s = true := fun w h => atoms_spec (ws := Cond.code yX3_accuseWord cX3_accuseWord 5 none :: GW) B.pre w (List.mem_cons_of_mem _ h)
  have hown : s.vm.findClass RX3 = some m.cls := findClass_of_methodNamed B.named
  have hlocks := B.notSynchronized
  subst hsz
  have hD := hD0.self (sz := s.heap.size)
  generalize hAe : va_A [(ad0, ob 3 16 fn0)] s.heap.size = A at hD hE ⊢
  have hA : ∀ q : Nat, s.heap.size ≤ q → A q := fun q h => by rw [← hAe]; exact Or.inr h
  have hS : va_S A s.heap s.heap [] := va_S.rf
  clear hAe hD0
  have hl0 := lv_entry ([.ref ad0, .int 4, .int (-1), .int 0, .int (-1)]) (n := 5) (Nat.le_of_ble_eq_true rfl)
  rw [lg_entry_eq]
  generalize (lg_sl ([.ref ad0, .int 4, .int (-1), .int 0, .int (-1)]) ++ List.replicate (5 - (lg_sl ([.ref ad0, .int 4, .int (-1), .int 0, .int (-1)])).length) Slot.unset).toArray = ls at hl0 ⊢
  have hl : lv_has ls 5 [(0, .ref ad0), (1, .int 4), (2, .int (-1)), (3, .int 0), (4, .int (-1))] := hl0
  clear hl0
  refine lv_aload_n (pc := 0) hx hb dX3_accuseWord_0 rfl (lv_at hl 0 rfl) ?_
  refine lv_iload_n (pc := 1) hx hb dX3_accuseWord_1 rfl (lv_at hl 1 rfl) ?_
  refine ob_put (pc := 2) (v := .int 4) (ci := 3) (C := RX3) (T := TX3) (N := 16) hx hb hG in_X3 tyX3 tyX3_ok nmX3 hown hK hP hD hS 0 rfl rfl 4 (by decide) (hG _ g_49) rfl rfl rfl rfl dX3_accuseWord_2 (ws' := [(ad0, ob 3 16 (vup fn0 4 (.int 4)))]) rfl (fun H1 lo1 hP1 hD1 hS1 => ?_)
  clear hP hD hS
  refine lv_aload_n (pc := 5) hx hb dX3_accuseWord_5 rfl (lv_at hl 0 rfl) ?_
  refine lv_iload_n (pc := 6) hx hb dX3_accuseWord_6 rfl (lv_at hl 2 rfl) ?_
  refine ob_put (pc := 7) (v := .int (-1)) (ci := 3) (C := RX3) (T := TX3) (N := 16) hx hb hG in_X3 tyX3 tyX3_ok nmX3 hown hK hP1 hD1 hS1 0 rfl rfl 5 (by decide) (hG _ g_50) rfl rfl rfl rfl dX3_accuseWord_7 (ws' := [(ad0, ob 3 16 (vup (vup fn0 4 (.int 4)) 5 (.int (-1))))]) rfl (fun H2 lo2 hP2 hD2 hS2 => ?_)
  clear hP1 hD1 hS1
  clear H1 lo1
  refine lv_aload_n (pc := 10) hx hb dX3_accuseWord_10 rfl (lv_at hl 0 rfl) ?_
  refine lv_iload_n (pc := 11) hx hb dX3_accuseWord_11 rfl (lv_at hl 3 rfl) ?_
  refine ob_put (pc := 12) (v := .int 0) (ci := 3) (C := RX3) (T := TX3) (N := 16) hx hb hG in_X3 tyX3 tyX3_ok nmX3 hown hK hP2 hD2 hS2 0 rfl rfl 6 (by decide) (hG _ g_51) rfl rfl rfl rfl dX3_accuseWord_12 (ws' := [(ad0, ob 3 16 (vup (vup (vup fn0 4 (.int 4)) 5 (.int (-1))) 6 (.int 0)))]) rfl (fun H3 lo3 hP3 hD3 hS3 => ?_)
  clear hP2 hD2 hS2
  clear H2 lo2
  refine lv_aload_n (pc := 15) hx hb dX3_accuseWord_15 rfl (lv_at hl 0 rfl) ?_
  refine lv_iload (pc := 16) hx hb dX3_accuseWord_16 (lv_at hl 4 rfl) ?_
  refine ob_put (pc := 18) (v := .int (-1)) (ci := 3) (C := RX3) (T := TX3) (N := 16) hx hb hG in_X3 tyX3 tyX3_ok nmX3 hown hK hP3 hD3 hS3 0 rfl rfl 7 (by decide) (hG _ g_52) rfl rfl rfl rfl dX3_accuseWord_18 (ws' := [(ad0, ob 3 16 (vup (vup (vup (vup fn0 4 (.int 4)) 5 (.int (-1))) 6 (.int 0)) 7 (.int (-1))))]) rfl (fun H4 lo4 hP4 hD4 hS4 => ?_)
  clear hP3 hD3 hS3
  clear H3 lo3
  refine lv_aload_n (pc := 21) hx hb dX3_accuseWord_21 rfl (lv_at hl 0 rfl) ?_
  refine lv_iconst (pc := 22) (v := (-1)) hx hb dX3_accuseWord_22 (by decide) ?_
  refine ob_put (pc := 23) (v := .int (-1)) (ci := 3) (C := RX3) (T := TX3) (N := 16) hx hb hG in_X3 tyX3 tyX3_ok nmX3 hown hK hP4 hD4 hS4 0 rfl rfl 8 (by decide) (hG _ g_53) rfl rfl rfl rfl dX3_accuseWord_23 (ws' := [(ad0, ob 3 16 (vup (vup (vup (vup (vup fn0 4 (.int 4)) 5 (.int (-1))) 6 (.int 0)) 7 (.int (-1))) 8 (.int (-1))))]) rfl (fun H5 lo5 hP5 hD5 hS5 => ?_)
  clear hP4 hD4 hS4
  clear H4 lo4
  exact W.vret (pc := 26) hx hb hr (fun t ht hW => ⟨⟨(), rfl, trivial, _, rfl, by rw [ht]; exact hP5, hD5⟩, hS5.F ht⟩) hS5.2.2 dX3_accuseWord_26
set_option maxHeartbeats 4000000 in
set_option maxRecDepth 100000 in
/-- X3_accuseLine -/
theorem c_accuseLine (l : Launch) (D : va_G) (cy : Nat → ClassId) (kv : KV) (sz : Nat) (ad0 : Nat) (fn0 : Nat → Value) : Met l yX3_accuseLine (Cond.code yX3_accuseLine cX3_accuseLine 3 none :: GW) ({ frames := 9, cells := 0, slots := 0, locals := 160 } : Room) (va_Pc [.ref ad0, .int 4, .int 0] (pcq D cy kv sz [(ad0, ob 3 16 fn0)])) (va_Qv (fun (_ : Unit) => True) (fun _ t => bq D (fun w => w = [(ad0, ob 3 16 (vup (vup (vup (vup (vup (vup fn0 1 (.int 0)) 4 (.int 4)) 5 (.int (-1))) 6 (.int 0)) 7 (.int (-1))) 8 (.int (-1))))]) (va_A [(ad0, ob 3 16 fn0)] sz) t) (va_A [(ad0, ob 3 16 fn0)] sz)) 0 0 (va_A [(ad0, ob 3 16 fn0)] sz) := by
  refine Met.ofW (cc := cX3_accuseLine) (maxL := 3) (ret := none) (by decide) rfl ?_
  intro p e s m args below meth c s₁ B hml hv
  obtain ⟨rfl, hsz, hP, hK, hD0, hE⟩ := hv
  have hx := B.exec
  have hb := B.bytes
  have hr := B.returns
  have hG : ∀ w ∈ GW, w.before ([.ref ad0, .int 4, .int 0] : List Value).toArray s = true := fun w h => atoms_spec (ws := Cond.code yX3_accuseLine cX3_accuseLine 3 none :: GW) B.pre w (List.mem_cons_of_mem _ h)
  have hown : s.vm.findClass RX3 = some m.cls := findClass_of_methodNamed B.named
  have hlocks := B.notSynchronized
  subst hsz
  have hD := hD0.self (sz := s.heap.size)
  generalize hAe : va_A [(ad0, ob 3 16 fn0)] s.heap.size = A at hD hE ⊢
  have hA : ∀ q : Nat, s.heap.size ≤ q → A q := fun q h => by rw [← hAe]; exact Or.inr h
  have hS : va_S A s.heap s.heap [] := va_S.rf
  clear hAe hD0
  have hl0 := lv_entry ([.ref ad0, .int 4, .int 0]) (n := 3) (Nat.le_of_ble_eq_true rfl)
  rw [lg_entry_eq]
  generalize (lg_sl ([.ref ad0, .int 4, .int 0]) ++ List.replicate (3 - (lg_sl ([.ref ad0, .int 4, .int 0])).length) Slot.unset).toArray = ls at hl0 ⊢
  have hl : lv_has ls 3 [(0, .ref ad0), (1, .int 4), (2, .int 0)] := hl0
  clear hl0
  refine lv_aload_n (pc := 0) hx hb dX3_accuseLine_0 rfl (lv_at hl 0 rfl) ?_
  refine lv_iconst (pc := 1) (v := 0) hx hb dX3_accuseLine_1 (by decide) ?_
  refine ob_put (pc := 2) (v := .int 0) (ci := 3) (C := RX3) (T := TX3) (N := 16) hx hb hG in_X3 tyX3 tyX3_ok nmX3 hown hK hP hD hS 0 rfl rfl 1 (by decide) (hG _ g_46) rfl rfl rfl rfl dX3_accuseLine_2 (ws' := [(ad0, ob 3 16 (vup fn0 1 (.int 0)))]) rfl (fun H1 lo1 hP1 hD1 hS1 => ?_)
  clear hP hD hS
  refine lv_aload_n (pc := 5) hx hb dX3_accuseLine_5 rfl (lv_at hl 0 rfl) ?_
  refine lv_iload_n (pc := 6) hx hb dX3_accuseLine_6 rfl (lv_at hl 1 rfl) ?_
  refine lv_iconst (pc := 7) (v := (-1)) hx hb dX3_accuseLine_7 (by decide) ?_
  refine lv_iload_n (pc := 8) hx hb dX3_accuseLine_8 rfl (lv_at hl 2 rfl) ?_
  refine lv_iconst (pc := 9) (v := (-1)) hx hb dX3_accuseLine_9 (by decide) ?_
  refine cq_v (pc := 10) (wr := []) (k2 := 0) (n2 := 0) (va_runV (As := [.int 4, .int (-1), .int 0, .int (-1)]) (rest := []) ⟨hx, hb, hml, hown, hG⟩ (c_accuseWord l D cy kv H1.size ad0 (vup fn0 1 (.int 0))) (cwV 4 hG (gi_V g_228 g_229 g_230 g_113 g_227) rfl rfl rfl (by decide +kernel) ⟨Nat.le_of_ble_eq_true rfl, Nat.le_of_ble_eq_true rfl⟩) ⟨pq_blind, (va_recv hK hP1 (ci := 3) (q0 := 0) rfl rfl), (pq_pass hP1 hD1 hK hE hS1 hA [0] rfl (by decide))⟩ rfl rfl hl.1 rfl (lv_room (Nat.le_of_ble_eq_true rfl)) dX3_accuseLine_10 ⟨Nat.le_of_ble_eq_true rfl, Nat.le_of_ble_eq_true rfl⟩) hP1 hD1 hS1 hA [0] [] rfl rfl (by decide) (by decide) (by decide) (by decide) (fun w2 H2 lo2 hR2 hP2r hD2r hS2 => ?_)
  subst hR2
  have hP2 : va_P D classes [(ad0, ob 3 16 (vup (vup (vup (vup (vup (vup fn0 1 (.int 0)) 4 (.int 4)) 5 (.int (-1))) 6 (.int 0)) 7 (.int (-1))) 8 (.int (-1))))] H2 := hP2r
  have hD2 : va_D A [(ad0, ob 3 16 (vup (vup (vup (vup (vup (vup fn0 1 (.int 0)) 4 (.int 4)) 5 (.int (-1))) 6 (.int 0)) 7 (.int (-1))) 8 (.int (-1))))] := hD2r
  clear hP2r hD2r
  clear hP1 hD1 hS1
  clear H1 lo1
  exact W.vret (pc := 13) hx hb hr (fun t ht hW => ⟨⟨(), rfl, trivial, _, rfl, by rw [ht]; exact hP2, hD2⟩, hS2.F ht⟩) hS2.2.2 dX3_accuseLine_13
set_option maxHeartbeats 4000000 in
set_option maxRecDepth 100000 in
/-- X11_findNear -/
theorem c_findNear (l : Launch) (D : va_G) (cy : Nat → ClassId) (kv : KV) (sz : Nat) (ad0 : Nat) (fn0 : Nat → Value) (ad1 : Nat) (fn1 : Nat → Value) (h0_9 : fn0 9 = .ref ad1) (h1_4 : fn1 4 = .int 4) : Met l yX11_findNear (Cond.code yX11_findNear cX11_findNear 1 none :: GW) ({ frames := 8, cells := 0, slots := 0, locals := 120 } : Room) (va_Pc [.ref ad0] (pcq D cy kv sz [(ad0, ob 11 15 fn0), (ad1, ob 3 16 fn1)])) (va_Qv (fun (_ : Unit) => True) (fun _ t => bq D (fun w => w = [(ad0, ob 11 15 fn0), (ad1, ob 3 16 fn1)]) (va_A [(ad0, ob 11 15 fn0), (ad1, ob 3 16 fn1)] sz) t) (va_A [(ad0, ob 11 15 fn0), (ad1, ob 3 16 fn1)] sz)) 0 0 (va_A [(ad0, ob 11 15 fn0), (ad1, ob 3 16 fn1)] sz) := by
  refine Met.ofW (cc := cX11_findNear) (maxL := 1) (ret := none) (by decide) rfl ?_
  intro p e s m args below meth c s₁ B hml hv
  obtain ⟨rfl, hsz, hP, hK, hD0, hE⟩ := hv
  have hx := B.exec
  have hb := B.bytes
  have hr := B.returns
  have hG : ∀ w ∈ GW, w.before ([.ref ad0] : List Value).toArray s = true := fun w h => atoms_spec (ws := Cond.code yX11_findNear cX11_findNear 1 none :: GW) B.pre w (List.mem_cons_of_mem _ h)
  have hown : s.vm.findClass RX11 = some m.cls := findClass_of_methodNamed B.named
  have hlocks := B.notSynchronized
  subst hsz
  have hD := hD0.self (sz := s.heap.size)
  generalize hAe : va_A [(ad0, ob 11 15 fn0), (ad1, ob 3 16 fn1)] s.heap.size = A at hD hE ⊢
  have hA : ∀ q : Nat, s.heap.size ≤ q → A q := fun q h => by rw [← hAe]; exact Or.inr h
  have hS : va_S A s.heap s.heap [] := va_S.rf
  clear hAe hD0
  have hl0 := lv_entry ([.ref ad0]) (n := 1) (Nat.le_of_ble_eq_true rfl)
  rw [lg_entry_eq]
  generalize (lg_sl ([.ref ad0]) ++ List.replicate (1 - (lg_sl ([.ref ad0])).length) Slot.unset).toArray = ls at hl0 ⊢
  have hl : lv_has ls 1 [(0, .ref ad0)] := hl0
  clear hl0
  refine lv_aload_n (pc := 0) hx hb dX11_findNear_0 rfl (lv_at hl 0 rfl) ?_
  refine ob_get (pc := 1) (v := .ref ad1) (ci := 11) (C := RX11) (T := TX11) (N := 15) hx hb hG in_X11 hown hK hP 0 rfl rfl 9 (by decide) (hG _ g_116) rfl h0_9 dX11_findNear_1 ?_
  refine ob_getN (pc := 4) (v := .int 4) (ci := 3) (C := RX3) (T := TX3) (N := 16) hx hb hG in_X3 hown hK hP 1 rfl rfl 4 (by decide) (nw_at hE n_17) rfl h1_4 dX11_findNear_4 ?_
  refine lv_iconst (pc := 7) (v := 5) hx hb dX11_findNear_7 (by decide) ?_
  refine lv_icmp_ne (pc := 8) (tgt := 45) hx hb dX11_findNear_8 (by decide) (fun c1 => ?_) (fun c1 => absurd c1 (by decide))
  refine lv_aload_n (pc := 45) hx hb dX11_findNear_45 rfl (lv_at hl 0 rfl) ?_
  refine ob_get (pc := 46) (v := .ref ad1) (ci := 11) (C := RX11) (T := TX11) (N := 15) hx hb hG in_X11 hown hK hP 0 rfl rfl 9 (by decide) (hG _ g_116) rfl h0_9 dX11_findNear_46 ?_
  refine ob_getN (pc := 49) (v := .int 4) (ci := 3) (C := RX3) (T := TX3) (N := 16) hx hb hG in_X3 hown hK hP 1 rfl rfl 4 (by decide) (nw_at hE n_17) rfl h1_4 dX11_findNear_49 ?_
  refine lv_bipush (pc := 52) (v := 6) hx hb dX11_findNear_52 (by decide) ?_
  refine lv_icmp_ne (pc := 54) (tgt := 95) hx hb dX11_findNear_54 (by decide) (fun c2 => ?_) (fun c2 => absurd c2 (by decide))
  exact W.vret (pc := 95) hx hb hr (fun t ht hW => ⟨⟨(), rfl, trivial, _, rfl, by rw [ht]; exact hP, hD⟩, hS.F ht⟩) hS.2.2 dX11_findNear_95
set_option maxHeartbeats 4000000 in
set_option maxRecDepth 100000 in
/-- X11_run -/
theorem c_run_z (l : Launch) (D : va_G) (cy : Nat → ClassId) (kv : KV) (sz : Nat) (ad0 : Nat) (fn0 : Nat → Value) (ad1 : Nat) (ad4 : Nat) (ad2 : Nat) (ad3 : Nat) (ad8 : Nat) (ct1 : Nat → Int32) (fn2 : Nat → Value) (fn3 : Nat → Value) (ad5 : Nat) (ad6 : Nat) (ad7 : Nat) (ct8 : Nat → Option Nat) (h0_0 : fn0 0 = .ref ad1) (h0_1 : fn0 1 = .int 0) (h0_7 : fn0 7 = .ref ad4) (h0_9 : fn0 9 = .ref ad2) (h0_11 : fn0 11 = .ref ad3) (h0_12 : fn0 12 = .ref ad8) (h0_13 : fn0 13 = .int 0) : Met l yX11_run (Cond.code yX11_run cX11_run 2 (some .int) :: GW) ({ frames := 10, cells := 0, slots := 0, locals := 200 } : Room) (va_Pc [.ref ad0, .int 0] (pcq D cy kv sz [(ad0, ob 11 15 fn0), (ad1, ari (cy 1) 2000 ct1), (ad2, ob 3 16 fn2), (ad3, ob 6 7 fn3), (ad4, arq (cy 6) 3 (va_up (va_up (va_up (fun _ => none) (0 : Int32).toNatClampNeg (some ad5)) (1 : Int32).toNatClampNeg (some ad6)) (2 : Int32).toNatClampNeg (some ad7))), (ad8, arq (cy 7) 40 ct8)])) (va_Qi (fun r (_ : Unit) => r = (-16)) (fun _ t => bq D (fun w => w = []) (va_A [(ad0, ob 11 15 fn0), (ad1, ari (cy 1) 2000 ct1), (ad2, ob 3 16 fn2), (ad3, ob 6 7 fn3), (ad4, arq (cy 6) 3 (va_up (va_up (va_up (fun _ => none) (0 : Int32).toNatClampNeg (some ad5)) (1 : Int32).toNatClampNeg (some ad6)) (2 : Int32).toNatClampNeg (some ad7))), (ad8, arq (cy 7) 40 ct8)] sz) t) (va_A [(ad0, ob 11 15 fn0), (ad1, ari (cy 1) 2000 ct1), (ad2, ob 3 16 fn2), (ad3, ob 6 7 fn3), (ad4, arq (cy 6) 3 (va_up (va_up (va_up (fun _ => none) (0 : Int32).toNatClampNeg (some ad5)) (1 : Int32).toNatClampNeg (some ad6)) (2 : Int32).toNatClampNeg (some ad7))), (ad8, arq (cy 7) 40 ct8)] sz)) 0 0 (va_A [(ad0, ob 11 15 fn0), (ad1, ari (cy 1) 2000 ct1), (ad2, ob 3 16 fn2), (ad3, ob 6 7 fn3), (ad4, arq (cy 6) 3 (va_up (va_up (va_up (fun _ => none) (0 : Int32).toNatClampNeg (some ad5)) (1 : Int32).toNatClampNeg (some ad6)) (2 : Int32).toNatClampNeg (some ad7))), (ad8, arq (cy 7) 40 ct8)] sz) := by
  refine Met.ofW (cc := cX11_run) (maxL := 2) (ret := (some .int)) (by decide) rfl ?_
  intro p e s m args below meth c s₁ B hml hv
  obtain ⟨rfl, hsz, hP, hK, hD0, hE⟩ := hv
  have hx := B.exec
  have hb := B.bytes
  have hr := B.returns
  have hG : ∀ w ∈ GW, w.before ([.ref ad0, .int 0] : List Value).toArray s = true := fun w h => atoms_spec (ws := Cond.code yX11_run cX11_run 2 (some .int) :: GW) B.pre w (List.mem_cons_of_mem _ h)
  have hown : s.vm.findClass RX11 = some m.cls := findClass_of_methodNamed B.named
  have hlocks := B.notSynchronized
  subst hsz
  have hD := hD0.self (sz := s.heap.size)
  generalize hAe : va_A [(ad0, ob 11 15 fn0), (ad1, ari (cy 1) 2000 ct1), (ad2, ob 3 16 fn2), (ad3, ob 6 7 fn3), (ad4, arq (cy 6) 3 (va_up (va_up (va_up (fun _ => none) (0 : Int32).toNatClampNeg (some ad5)) (1 : Int32).toNatClampNeg (some ad6)) (2 : Int32).toNatClampNeg (some ad7))), (ad8, arq (cy 7) 40 ct8)] s.heap.size = A at hD hE ⊢
  have hA : ∀ q : Nat, s.heap.size ≤ q → A q := fun q h => by rw [← hAe]; exact Or.inr h
  have hS : va_S A s.heap s.heap [] := va_S.rf
  clear hAe hD0
  have hl0 := lv_entry ([.ref ad0, .int 0]) (n := 2) (Nat.le_of_ble_eq_true rfl)
  rw [lg_entry_eq]
  generalize (lg_sl ([.ref ad0, .int 0]) ++ List.replicate (2 - (lg_sl ([.ref ad0, .int 0])).length) Slot.unset).toArray = ls at hl0 ⊢
  have hl : lv_has ls 2 [(0, .ref ad0), (1, .int 0)] := hl0
  clear hl0
  refine lv_aload_n (pc := 0) hx hb dX11_run_0 rfl (lv_at hl 0 rfl) ?_
  refine lv_iload_n (pc := 1) hx hb dX11_run_1 rfl (lv_at hl 1 rfl) ?_
  refine cq_i (pc := 2) (wr := [(ad1, ari (cy 1) 2000 ct1), (ad2, ob 3 16 fn2), (ad3, ob 6 7 fn3), (ad4, arq (cy 6) 3 (va_up (va_up (va_up (fun _ => none) (0 : Int32).toNatClampNeg (some ad5)) (1 : Int32).toNatClampNeg (some ad6)) (2 : Int32).toNatClampNeg (some ad7))), (ad8, arq (cy 7) 40 ct8)]) (k2 := 0) (n2 := 0) (va_runV (As := [.int 0]) (rest := []) ⟨hx, hb, hml, hown, hG⟩ (c_isLine_z l D cy kv s.heap.size ad0 fn0 h0_1) (cwV 1 hG (gi_V g_207 g_208 g_209 g_143 g_149) rfl rfl rfl (by decide +kernel) ⟨Nat.le_of_ble_eq_true rfl, Nat.le_of_ble_eq_true rfl⟩) ⟨pq_blind, (va_recv hK hP (ci := 11) (q0 := 0) rfl rfl), (pq_pass hP hD hK hE hS hA [0] rfl (by decide))⟩ rfl rfl hl.1 rfl (lv_room (Nat.le_of_ble_eq_true rfl)) dX11_run_2 ⟨Nat.le_of_ble_eq_true rfl, Nat.le_of_ble_eq_true rfl⟩) hP hD hS hA [0] [1, 2, 3, 4, 5] rfl rfl (by decide) (by decide) (by decide) (by decide) (fun r1 w1 H1 lo1 e1 hR1 hP1r hD1r hS1 => ?_)
  subst hR1
  subst e1
  have hP1 : va_P D classes [(ad1, ari (cy 1) 2000 ct1), (ad2, ob 3 16 fn2), (ad3, ob 6 7 fn3), (ad4, arq (cy 6) 3 (va_up (va_up (va_up (fun _ => none) (0 : Int32).toNatClampNeg (some ad5)) (1 : Int32).toNatClampNeg (some ad6)) (2 : Int32).toNatClampNeg (some ad7))), (ad8, arq (cy 7) 40 ct8), (ad0, ob 11 15 fn0)] H1 := hP1r
  have hD1 : va_D A [(ad1, ari (cy 1) 2000 ct1), (ad2, ob 3 16 fn2), (ad3, ob 6 7 fn3), (ad4, arq (cy 6) 3 (va_up (va_up (va_up (fun _ => none) (0 : Int32).toNatClampNeg (some ad5)) (1 : Int32).toNatClampNeg (some ad6)) (2 : Int32).toNatClampNeg (some ad7))), (ad8, arq (cy 7) 40 ct8), (ad0, ob 11 15 fn0)] := hD1r
  clear hP1r hD1r
  clear hP hD hS
  refine lv_if_ne (pc := 5) (tgt := 16) hx hb dX11_run_5 (by decide) (fun c2 => ?_) (fun c2 => absurd c2 (by decide))
  refine lv_aload_n (pc := 16) hx hb dX11_run_16 rfl (lv_at hl 0 rfl) ?_
  refine ob_get (pc := 17) (v := .int 0) (ci := 11) (C := RX11) (T := TX11) (N := 15) hx hb hG in_X11 hown hK hP1 5 rfl rfl 13 (by decide) (hG _ g_129) rfl h0_13 dX11_run_17 ?_
  refine lv_aload_n (pc := 20) hx hb dX11_run_20 rfl (lv_at hl 0 rfl) ?_
  refine ob_get (pc := 21) (v := .ref ad8) (ci := 11) (C := RX11) (T := TX11) (N := 15) hx hb hG in_X11 hown hK hP1 5 rfl rfl 12 (by decide) (hG _ g_128) rfl h0_12 dX11_run_21 ?_
  refine va_alen (pc := 24) hx hb hK hP1 4 7 rfl rfl (v := 40) (show Int32.ofNat 40 = 40 by decide) dX11_run_24 ?_
  refine lv_icmp_lt (pc := 25) (tgt := 36) hx hb dX11_run_25 (by decide) (fun c3 => ?_) (fun c3 => absurd (by decide) c3)
  refine lv_aload_n (pc := 36) hx hb dX11_run_36 rfl (lv_at hl 0 rfl) ?_
  refine lv_iload_n (pc := 37) hx hb dX11_run_37 rfl (lv_at hl 1 rfl) ?_
  refine cq_v (pc := 38) (wr := [(ad4, arq (cy 6) 3 (va_up (va_up (va_up (fun _ => none) (0 : Int32).toNatClampNeg (some ad5)) (1 : Int32).toNatClampNeg (some ad6)) (2 : Int32).toNatClampNeg (some ad7))), (ad8, arq (cy 7) 40 ct8)]) (k2 := 0) (n2 := 0) (va_runV (As := [.int 0]) (rest := []) ⟨hx, hb, hml, hown, hG⟩ (c_takeLine l D cy kv H1.size ad0 fn0 ad1 ad2 ad3 ct1 fn2 fn3 h0_0 h0_9 h0_11) (cwV 1 hG (gi_V g_233 g_234 g_235 g_143 g_225) rfl rfl rfl (by decide +kernel) ⟨Nat.le_of_ble_eq_true rfl, Nat.le_of_ble_eq_true rfl⟩) ⟨pq_blind, (va_recv hK hP1 (ci := 11) (q0 := 5) rfl rfl), (pq_pass hP1 hD1 hK hE hS1 hA [5, 0, 1, 2] rfl (by decide))⟩ rfl rfl hl.1 rfl (lv_room (Nat.le_of_ble_eq_true rfl)) dX11_run_38 ⟨Nat.le_of_ble_eq_true rfl, Nat.le_of_ble_eq_true rfl⟩) hP1 hD1 hS1 hA [5, 0, 1, 2] [3, 4] rfl rfl (by decide) (by decide) (by decide) (by decide) (fun w4 H4 lo4 hR4 hP4r hD4r hS4 => ?_)
  subst hR4
  have hP4 : va_P D classes [(ad4, arq (cy 6) 3 (va_up (va_up (va_up (fun _ => none) (0 : Int32).toNatClampNeg (some ad5)) (1 : Int32).toNatClampNeg (some ad6)) (2 : Int32).toNatClampNeg (some ad7))), (ad8, arq (cy 7) 40 ct8), (ad0, ob 11 15 (vup fn0 1 (.int 0))), (ad3, ob 6 7 (vup (vup fn3 1 (.int 0)) 3 (.int 0))), (ad2, ob 3 16 (vup (vup (vup (vup (vup (vup (vup (vup fn2 1 (.int 0)) 2 (.int 0)) 3 (.int 0)) 4 (.int 0)) 9 (.ref ad1)) 10 (.int 0)) 11 (.int 0)) 12 (.int 0))), (ad1, ari (cy 1) 2000 ct1)] H4 := hP4r
  have hD4 : va_D A [(ad4, arq (cy 6) 3 (va_up (va_up (va_up (fun _ => none) (0 : Int32).toNatClampNeg (some ad5)) (1 : Int32).toNatClampNeg (some ad6)) (2 : Int32).toNatClampNeg (some ad7))), (ad8, arq (cy 7) 40 ct8), (ad0, ob 11 15 (vup fn0 1 (.int 0))), (ad3, ob 6 7 (vup (vup fn3 1 (.int 0)) 3 (.int 0))), (ad2, ob 3 16 (vup (vup (vup (vup (vup (vup (vup (vup fn2 1 (.int 0)) 2 (.int 0)) 3 (.int 0)) 4 (.int 0)) 9 (.ref ad1)) 10 (.int 0)) 11 (.int 0)) 12 (.int 0))), (ad1, ari (cy 1) 2000 ct1)] := hD4r
  clear hP4r hD4r
  clear hP1 hD1 hS1
  clear H1 lo1
  refine lv_aload_n (pc := 41) hx hb dX11_run_41 rfl (lv_at hl 0 rfl) ?_
  refine ob_get (pc := 42) (v := .ref ad2) (ci := 11) (C := RX11) (T := TX11) (N := 15) hx hb hG in_X11 hown hK hP4 2 rfl rfl 9 (by decide) (hG _ g_116) rfl h0_9 dX11_run_42 ?_
  refine ob_getN (pc := 45) (v := .int 0) (ci := 3) (C := RX3) (T := TX3) (N := 16) hx hb hG in_X3 hown hK hP4 4 rfl rfl 4 (by decide) (nw_at hE n_17) rfl rfl dX11_run_45 ?_
  refine lv_if_ne (pc := 48) (tgt := 66) hx hb dX11_run_48 (by decide) (fun c5 => absurd (by decide) c5) (fun c5 => ?_)
  refine lv_aload_n (pc := 51) hx hb dX11_run_51 rfl (lv_at hl 0 rfl) ?_
  refine ob_get (pc := 52) (v := .ref ad2) (ci := 11) (C := RX11) (T := TX11) (N := 15) hx hb hG in_X11 hown hK hP4 2 rfl rfl 9 (by decide) (hG _ g_116) rfl h0_9 dX11_run_52 ?_
  refine lv_aload_n (pc := 55) hx hb dX11_run_55 rfl (lv_at hl 0 rfl) ?_
  refine ob_get (pc := 56) (v := .ref ad4) (ci := 11) (C := RX11) (T := TX11) (N := 15) hx hb hG in_X11 hown hK hP4 2 rfl rfl 7 (by decide) (hG _ g_110) rfl h0_7 dX11_run_56 ?_
  refine lv_iconst (pc := 59) (v := 2) hx hb dX11_run_59 (by decide) ?_
  refine va_aldq (pc := 60) hx hb hK hP4 0 6 rfl rfl (show ¬ ((2 : Int32) < 0 ∨ 3 ≤ (2 : Int32).toNatClampNeg) by decide) dX11_run_60 ?_
  refine tp_v (y := .ref ad7) rfl ?_
  refine lv_bipush (pc := 61) (v := 60) hx hb dX11_run_61 (by decide) ?_
  refine cq_v (pc := 63) (wr := [(ad4, arq (cy 6) 3 (va_up (va_up (va_up (fun _ => none) (0 : Int32).toNatClampNeg (some ad5)) (1 : Int32).toNatClampNeg (some ad6)) (2 : Int32).toNatClampNeg (some ad7))), (ad8, arq (cy 7) 40 ct8), (ad0, ob 11 15 (vup fn0 1 (.int 0))), (ad3, ob 6 7 (vup (vup fn3 1 (.int 0)) 3 (.int 0))), (ad1, ari (cy 1) 2000 ct1)]) (k2 := 0) (n2 := 0) (va_runV (As := [.ref ad7, .int 60]) (rest := []) ⟨hx, hb, hml, hown, hG⟩ (c_putAliases l D cy kv H4.size ad2 ad7 60 (vup (vup (vup (vup (vup (vup (vup (vup fn2 1 (.int 0)) 2 (.int 0)) 3 (.int 0)) 4 (.int 0)) 9 (.ref ad1)) 10 (.int 0)) 11 (.int 0)) 12 (.int 0)) rfl) (cwV 2 hG (gi_V g_236 g_237 g_238 g_113 g_226) rfl rfl rfl (by decide +kernel) ⟨Nat.le_of_ble_eq_true rfl, Nat.le_of_ble_eq_true rfl⟩) ⟨pq_blind, (va_recv hK hP4 (ci := 3) (q0 := 4) rfl rfl), (pq_pass hP4 hD4 hK hE hS4 hA [4] rfl (by decide))⟩ rfl rfl hl.1 rfl (lv_room (Nat.le_of_ble_eq_true rfl)) dX11_run_63 ⟨Nat.le_of_ble_eq_true rfl, Nat.le_of_ble_eq_true rfl⟩) hP4 hD4 hS4 hA [4] [0, 1, 2, 3, 5] rfl rfl (by decide) (by decide) (by decide) (by decide) (fun w6 H6 lo6 hR6 hP6r hD6r hS6 => ?_)
  subst hR6
  have hP6 : va_P D classes [(ad4, arq (cy 6) 3 (va_up (va_up (va_up (fun _ => none) (0 : Int32).toNatClampNeg (some ad5)) (1 : Int32).toNatClampNeg (some ad6)) (2 : Int32).toNatClampNeg (some ad7))), (ad8, arq (cy 7) 40 ct8), (ad0, ob 11 15 (vup fn0 1 (.int 0))), (ad3, ob 6 7 (vup (vup fn3 1 (.int 0)) 3 (.int 0))), (ad1, ari (cy 1) 2000 ct1), (ad2, ob 3 16 (vup (vup (vup (vup (vup (vup (vup (vup fn2 1 (.int 0)) 2 (.int 0)) 3 (.int 0)) 4 (.int 0)) 9 (.ref ad1)) 10 (.int 0)) 11 (.int 0)) 12 (.int 0)))] H6 := hP6r
  have hD6 : va_D A [(ad4, arq (cy 6) 3 (va_up (va_up (va_up (fun _ => none) (0 : Int32).toNatClampNeg (some ad5)) (1 : Int32).toNatClampNeg (some ad6)) (2 : Int32).toNatClampNeg (some ad7))), (ad8, arq (cy 7) 40 ct8), (ad0, ob 11 15 (vup fn0 1 (.int 0))), (ad3, ob 6 7 (vup (vup fn3 1 (.int 0)) 3 (.int 0))), (ad1, ari (cy 1) 2000 ct1), (ad2, ob 3 16 (vup (vup (vup (vup (vup (vup (vup (vup fn2 1 (.int 0)) 2 (.int 0)) 3 (.int 0)) 4 (.int 0)) 9 (.ref ad1)) 10 (.int 0)) 11 (.int 0)) 12 (.int 0)))] := hD6r
  clear hP6r hD6r
  clear hP4 hD4 hS4
  clear H4 lo4
  refine lv_aload_n (pc := 66) hx hb dX11_run_66 rfl (lv_at hl 0 rfl) ?_
  refine ob_get (pc := 67) (v := .ref ad2) (ci := 11) (C := RX11) (T := TX11) (N := 15) hx hb hG in_X11 hown hK hP6 2 rfl rfl 9 (by decide) (hG _ g_116) rfl h0_9 dX11_run_67 ?_
  refine ob_getN (pc := 70) (v := .int 0) (ci := 3) (C := RX3) (T := TX3) (N := 16) hx hb hG in_X3 hown hK hP6 5 rfl rfl 4 (by decide) (nw_at hE n_17) rfl rfl dX11_run_70 ?_
  refine lv_if_ne (pc := 73) (tgt := 95) hx hb dX11_run_73 (by decide) (fun c7 => absurd (by decide) c7) (fun c7 => ?_)
  refine lv_aload_n (pc := 76) hx hb dX11_run_76 rfl (lv_at hl 0 rfl) ?_
  refine ob_get (pc := 77) (v := .ref ad2) (ci := 11) (C := RX11) (T := TX11) (N := 15) hx hb hG in_X11 hown hK hP6 2 rfl rfl 9 (by decide) (hG _ g_116) rfl h0_9 dX11_run_77 ?_
  refine ob_getN (pc := 80) (v := .int 0) (ci := 3) (C := RX3) (T := TX3) (N := 16) hx hb hG in_X3 hown hK hP6 5 rfl rfl 1 (by decide) (nw_at hE n_18) rfl rfl dX11_run_80 ?_
  refine lv_if_ne (pc := 83) (tgt := 95) hx hb dX11_run_83 (by decide) (fun c8 => absurd (by decide) c8) (fun c8 => ?_)
  refine lv_aload_n (pc := 86) hx hb dX11_run_86 rfl (lv_at hl 0 rfl) ?_
  refine ob_get (pc := 87) (v := .ref ad2) (ci := 11) (C := RX11) (T := TX11) (N := 15) hx hb hG in_X11 hown hK hP6 2 rfl rfl 9 (by decide) (hG _ g_116) rfl h0_9 dX11_run_87 ?_
  refine lv_iconst (pc := 90) (v := 4) hx hb dX11_run_90 (by decide) ?_
  refine lv_iconst (pc := 91) (v := 0) hx hb dX11_run_91 (by decide) ?_
  refine cq_v (pc := 92) (wr := [(ad4, arq (cy 6) 3 (va_up (va_up (va_up (fun _ => none) (0 : Int32).toNatClampNeg (some ad5)) (1 : Int32).toNatClampNeg (some ad6)) (2 : Int32).toNatClampNeg (some ad7))), (ad8, arq (cy 7) 40 ct8), (ad0, ob 11 15 (vup fn0 1 (.int 0))), (ad3, ob 6 7 (vup (vup fn3 1 (.int 0)) 3 (.int 0))), (ad1, ari (cy 1) 2000 ct1)]) (k2 := 0) (n2 := 0) (va_runV (As := [.int 4, .int 0]) (rest := []) ⟨hx, hb, hml, hown, hG⟩ (c_accuseLine l D cy kv H6.size ad2 (vup (vup (vup (vup (vup (vup (vup (vup fn2 1 (.int 0)) 2 (.int 0)) 3 (.int 0)) 4 (.int 0)) 9 (.ref ad1)) 10 (.int 0)) 11 (.int 0)) 12 (.int 0))) (cwV 2 hG (gi_V g_239 g_240 g_241 g_113 g_231) rfl rfl rfl (by decide +kernel) ⟨Nat.le_of_ble_eq_true rfl, Nat.le_of_ble_eq_true rfl⟩) ⟨pq_blind, (va_recv hK hP6 (ci := 3) (q0 := 5) rfl rfl), (pq_pass hP6 hD6 hK hE hS6 hA [5] rfl (by decide))⟩ rfl rfl hl.1 rfl (lv_room (Nat.le_of_ble_eq_true rfl)) dX11_run_92 ⟨Nat.le_of_ble_eq_true rfl, Nat.le_of_ble_eq_true rfl⟩) hP6 hD6 hS6 hA [5] [0, 1, 2, 3, 4] rfl rfl (by decide) (by decide) (by decide) (by decide) (fun w9 H9 lo9 hR9 hP9r hD9r hS9 => ?_)
  subst hR9
  have hP9 : va_P D classes [(ad4, arq (cy 6) 3 (va_up (va_up (va_up (fun _ => none) (0 : Int32).toNatClampNeg (some ad5)) (1 : Int32).toNatClampNeg (some ad6)) (2 : Int32).toNatClampNeg (some ad7))), (ad8, arq (cy 7) 40 ct8), (ad0, ob 11 15 (vup fn0 1 (.int 0))), (ad3, ob 6 7 (vup (vup fn3 1 (.int 0)) 3 (.int 0))), (ad1, ari (cy 1) 2000 ct1), (ad2, ob 3 16 (vup (vup (vup (vup (vup (vup (vup (vup (vup (vup (vup (vup (vup (vup fn2 1 (.int 0)) 2 (.int 0)) 3 (.int 0)) 4 (.int 0)) 9 (.ref ad1)) 10 (.int 0)) 11 (.int 0)) 12 (.int 0)) 1 (.int 0)) 4 (.int 4)) 5 (.int (-1))) 6 (.int 0)) 7 (.int (-1))) 8 (.int (-1))))] H9 := hP9r
  have hD9 : va_D A [(ad4, arq (cy 6) 3 (va_up (va_up (va_up (fun _ => none) (0 : Int32).toNatClampNeg (some ad5)) (1 : Int32).toNatClampNeg (some ad6)) (2 : Int32).toNatClampNeg (some ad7))), (ad8, arq (cy 7) 40 ct8), (ad0, ob 11 15 (vup fn0 1 (.int 0))), (ad3, ob 6 7 (vup (vup fn3 1 (.int 0)) 3 (.int 0))), (ad1, ari (cy 1) 2000 ct1), (ad2, ob 3 16 (vup (vup (vup (vup (vup (vup (vup (vup (vup (vup (vup (vup (vup (vup fn2 1 (.int 0)) 2 (.int 0)) 3 (.int 0)) 4 (.int 0)) 9 (.ref ad1)) 10 (.int 0)) 11 (.int 0)) 12 (.int 0)) 1 (.int 0)) 4 (.int 4)) 5 (.int (-1))) 6 (.int 0)) 7 (.int (-1))) 8 (.int (-1))))] := hD9r
  clear hP9r hD9r
  clear hP6 hD6 hS6
  clear H6 lo6
  refine lv_aload_n (pc := 95) hx hb dX11_run_95 rfl (lv_at hl 0 rfl) ?_
  refine ob_get (pc := 96) (v := .ref ad2) (ci := 11) (C := RX11) (T := TX11) (N := 15) hx hb hG in_X11 hown hK hP9 2 rfl rfl 9 (by decide) (hG _ g_116) rfl h0_9 dX11_run_96 ?_
  refine ob_getN (pc := 99) (v := .int 4) (ci := 3) (C := RX3) (T := TX3) (N := 16) hx hb hG in_X3 hown hK hP9 5 rfl rfl 4 (by decide) (nw_at hE n_17) rfl rfl dX11_run_99 ?_
  refine lv_if_ne (pc := 102) (tgt := 179) hx hb dX11_run_102 (by decide) (fun c10 => ?_) (fun c10 => absurd c10 (by decide))
  refine lv_aload_n (pc := 179) hx hb dX11_run_179 rfl (lv_at hl 0 rfl) ?_
  refine cq_v (pc := 180) (wr := [(ad4, arq (cy 6) 3 (va_up (va_up (va_up (fun _ => none) (0 : Int32).toNatClampNeg (some ad5)) (1 : Int32).toNatClampNeg (some ad6)) (2 : Int32).toNatClampNeg (some ad7))), (ad8, arq (cy 7) 40 ct8), (ad3, ob 6 7 (vup (vup fn3 1 (.int 0)) 3 (.int 0))), (ad1, ari (cy 1) 2000 ct1)]) (k2 := 0) (n2 := 0) (va_runV (As := []) (rest := []) ⟨hx, hb, hml, hown, hG⟩ (c_findNear l D cy kv H9.size ad0 (vup fn0 1 (.int 0)) ad2 (vup (vup (vup (vup (vup (vup (vup (vup (vup (vup (vup (vup (vup (vup fn2 1 (.int 0)) 2 (.int 0)) 3 (.int 0)) 4 (.int 0)) 9 (.ref ad1)) 10 (.int 0)) 11 (.int 0)) 12 (.int 0)) 1 (.int 0)) 4 (.int 4)) 5 (.int (-1))) 6 (.int 0)) 7 (.int (-1))) 8 (.int (-1))) h0_9 rfl) (cwV 0 hG (gi_V g_242 g_243 g_244 g_143 g_232) rfl rfl rfl (by decide +kernel) ⟨Nat.le_of_ble_eq_true rfl, Nat.le_of_ble_eq_true rfl⟩) ⟨pq_blind, (va_recv hK hP9 (ci := 11) (q0 := 2) rfl rfl), (pq_pass hP9 hD9 hK hE hS9 hA [2, 5] rfl (by decide))⟩ rfl rfl hl.1 rfl (lv_room (Nat.le_of_ble_eq_true rfl)) dX11_run_180 ⟨Nat.le_of_ble_eq_true rfl, Nat.le_of_ble_eq_true rfl⟩) hP9 hD9 hS9 hA [2, 5] [0, 1, 3, 4] rfl rfl (by decide) (by decide) (by decide) (by decide) (fun w11 H11 lo11 hR11 hP11r hD11r hS11 => ?_)
  subst hR11
  have hP11 : va_P D classes [(ad4, arq (cy 6) 3 (va_up (va_up (va_up (fun _ => none) (0 : Int32).toNatClampNeg (some ad5)) (1 : Int32).toNatClampNeg (some ad6)) (2 : Int32).toNatClampNeg (some ad7))), (ad8, arq (cy 7) 40 ct8), (ad3, ob 6 7 (vup (vup fn3 1 (.int 0)) 3 (.int 0))), (ad1, ari (cy 1) 2000 ct1), (ad0, ob 11 15 (vup fn0 1 (.int 0))), (ad2, ob 3 16 (vup (vup (vup (vup (vup (vup (vup (vup (vup (vup (vup (vup (vup (vup fn2 1 (.int 0)) 2 (.int 0)) 3 (.int 0)) 4 (.int 0)) 9 (.ref ad1)) 10 (.int 0)) 11 (.int 0)) 12 (.int 0)) 1 (.int 0)) 4 (.int 4)) 5 (.int (-1))) 6 (.int 0)) 7 (.int (-1))) 8 (.int (-1))))] H11 := hP11r
  have hD11 : va_D A [(ad4, arq (cy 6) 3 (va_up (va_up (va_up (fun _ => none) (0 : Int32).toNatClampNeg (some ad5)) (1 : Int32).toNatClampNeg (some ad6)) (2 : Int32).toNatClampNeg (some ad7))), (ad8, arq (cy 7) 40 ct8), (ad3, ob 6 7 (vup (vup fn3 1 (.int 0)) 3 (.int 0))), (ad1, ari (cy 1) 2000 ct1), (ad0, ob 11 15 (vup fn0 1 (.int 0))), (ad2, ob 3 16 (vup (vup (vup (vup (vup (vup (vup (vup (vup (vup (vup (vup (vup (vup fn2 1 (.int 0)) 2 (.int 0)) 3 (.int 0)) 4 (.int 0)) 9 (.ref ad1)) 10 (.int 0)) 11 (.int 0)) 12 (.int 0)) 1 (.int 0)) 4 (.int 4)) 5 (.int (-1))) 6 (.int 0)) 7 (.int (-1))) 8 (.int (-1))))] := hD11r
  clear hP11r hD11r
  clear hP9 hD9 hS9
  clear H9 lo9
  refine lv_aload_n (pc := 183) hx hb dX11_run_183 rfl (lv_at hl 0 rfl) ?_
  refine ob_get (pc := 184) (v := .ref ad2) (ci := 11) (C := RX11) (T := TX11) (N := 15) hx hb hG in_X11 hown hK hP11 4 rfl rfl 9 (by decide) (hG _ g_116) rfl h0_9 dX11_run_184 ?_
  refine ob_getN (pc := 187) (v := .int 4) (ci := 3) (C := RX3) (T := TX3) (N := 16) hx hb hG in_X3 hown hK hP11 5 rfl rfl 4 (by decide) (nw_at hE n_17) rfl rfl dX11_run_187 ?_
  refine lv_bipush (pc := 190) (v := 20) hx hb dX11_run_190 (by decide) ?_
  refine lv_isub (pc := 192) hx hb dX11_run_192 ?_
  refine tp_i (y := (-16)) (by decide) ?_
  have hP99 := hP11.sub (ws' := []) [] rfl
  have hD99 := hD11.sub (ws' := []) [] (by decide) rfl
  exact W.iret (pc := 193) (v := (-16)) hx hb hr (fun t ht hW => ⟨⟨(-16), (), rfl, rfl, _, rfl, by rw [ht]; exact hP99, hD99⟩, hS11.F ht⟩) hS11.2.2 dX11_run_193
set_option maxHeartbeats 4000000 in
set_option maxRecDepth 100000 in
/-- X9_init -/
theorem c_Text0 (l : Launch) (D : va_G) (cy : Nat → ClassId) (kv : KV) (sz : Nat) (ad0 : Nat) (ad1 : Nat) (ct1 : Nat → Int32) : Met l yX9_init (Cond.code yX9_init cX9_init 7 none :: GW) ({ frames := 8, cells := 1, slots := 0, locals := 120 } : Room) (va_Pc [.ref ad0, .ref ad1, .int 0, .int 0] (pcq D cy kv sz [(ad0, ob 9 1 (dfl tyX9)), (ad1, ari (cy 1) 40 ct1)])) (va_Qv (fun (_ : Unit) => True) (fun _ t => bq D (fun w => w = []) (va_A [(ad0, ob 9 1 (dfl tyX9)), (ad1, ari (cy 1) 40 ct1)] sz) t) (va_A [(ad0, ob 9 1 (dfl tyX9)), (ad1, ari (cy 1) 40 ct1)] sz)) 1 0 (va_A [(ad0, ob 9 1 (dfl tyX9)), (ad1, ari (cy 1) 40 ct1)] sz) := by
  refine Met.ofW (cc := cX9_init) (maxL := 7) (ret := none) (by decide) rfl ?_
  intro p e s m args below meth c s₁ B hml hv
  obtain ⟨rfl, hsz, hP, hK, hD0, hE⟩ := hv
  have hx := B.exec
  have hb := B.bytes
  have hr := B.returns
  have hG : ∀ w ∈ GW, w.before ([.ref ad0, .ref ad1, .int 0, .int 0] : List Value).toArray s = true := fun w h => atoms_spec (ws := Cond.code yX9_init cX9_init 7 none :: GW) B.pre w (List.mem_cons_of_mem _ h)
  have hown : s.vm.findClass RX9 = some m.cls := findClass_of_methodNamed B.named
  have hlocks := B.notSynchronized
  have hin : meth.name = "<init>" := (name_of_methodNamed B.named B.method).1
  subst hsz
  have hD := hD0.self (sz := s.heap.size)
  generalize hAe : va_A [(ad0, ob 9 1 (dfl tyX9)), (ad1, ari (cy 1) 40 ct1)] s.heap.size = A at hD hE ⊢
  have hA : ∀ q : Nat, s.heap.size ≤ q → A q := fun q h => by rw [← hAe]; exact Or.inr h
  have hS : va_S A s.heap s.heap [] := va_S.rf
  clear hAe hD0
  have hl0 := lv_entry ([.ref ad0, .ref ad1, .int 0, .int 0]) (n := 7) (Nat.le_of_ble_eq_true rfl)
  rw [lg_entry_eq]
  generalize (lg_sl ([.ref ad0, .ref ad1, .int 0, .int 0]) ++ List.replicate (7 - (lg_sl ([.ref ad0, .ref ad1, .int 0, .int 0])).length) Slot.unset).toArray = ls at hl0 ⊢
  have hl : lv_has ls 7 [(0, .ref ad0), (1, .ref ad1), (2, .int 0), (3, .int 0)] := hl0
  clear hl0
  refine lv_aload_n (pc := 0) hx hb dX9_init_0 rfl (lv_at hl 0 rfl) ?_
  refine W.objInit hx hb hown (hG _ g_245) (hG _ g_1) (hG _ g_2) rfl (by rw [hml]; exact hl.1) rfl dX9_init_1 (Nat.le_of_ble_eq_true rfl) (Nat.le_of_ble_eq_true rfl) ?_
  refine W.eq (g2 := F0 m 4 ls []) rfl ?_
  refine lv_iconst (pc := 4) (v := 0) hx hb dX9_init_4 (by decide) ?_
  refine lv_iload_n (pc := 5) hx hb dX9_init_5 rfl (lv_at hl 2 rfl) ?_
  refine va_mmax (pc := 6) hx hb (by rw [hml, hl.1]) hown (hG _ g_246) (hG _ g_247) (hG _ g_159) (hG _ g_248) (Nat.le_of_ble_eq_true rfl) (Nat.le_of_ble_eq_true rfl) (Nat.le_of_ble_eq_true rfl) (Nat.le_of_ble_eq_true rfl) dX9_init_6 ?_
  refine tp_i (y := 0) (by decide) ?_
  refine lv_istore (pc := 9) (lv' := [(4, .int 0), (0, .ref ad0), (1, .ref ad1), (2, .int 0), (3, .int 0)]) hx hb dX9_init_9 hl (by decide) rfl (fun ls1 hl1 => ?_)
  clear hl ls
  refine lv_iconst (pc := 11) (v := 0) hx hb dX9_init_11 (by decide) ?_
  refine lv_aload_n (pc := 12) hx hb dX9_init_12 rfl (lv_at hl1 2 rfl) ?_
  refine va_alen (pc := 13) hx hb hK hP 1 1 rfl rfl (v := 40) (show Int32.ofNat 40 = 40 by decide) dX9_init_13 ?_
  refine lv_iload_n (pc := 14) hx hb dX9_init_14 rfl (lv_at hl1 4 rfl) ?_
  refine va_mmin (pc := 15) hx hb (by rw [hml, hl1.1]) hown (hG _ g_249) (hG _ g_158) (hG _ g_159) (hG _ g_160) (Nat.le_of_ble_eq_true rfl) (Nat.le_of_ble_eq_true rfl) (Nat.le_of_ble_eq_true rfl) (Nat.le_of_ble_eq_true rfl) dX9_init_15 ?_
  refine tp_i (y := 0) (by decide) ?_
  refine lv_iload (pc := 18) hx hb dX9_init_18 (lv_at hl1 0 rfl) ?_
  refine lv_isub (pc := 20) hx hb dX9_init_20 ?_
  refine tp_i (y := 0) (by decide) ?_
  refine va_mmax (pc := 21) hx hb (by rw [hml, hl1.1]) hown (hG _ g_246) (hG _ g_247) (hG _ g_159) (hG _ g_248) (Nat.le_of_ble_eq_true rfl) (Nat.le_of_ble_eq_true rfl) (Nat.le_of_ble_eq_true rfl) (Nat.le_of_ble_eq_true rfl) dX9_init_21 ?_
  refine tp_i (y := 0) (by decide) ?_
  refine lv_istore (pc := 24) (lv' := [(5, .int 0), (4, .int 0), (0, .ref ad0), (1, .ref ad1), (2, .int 0), (3, .int 0)]) hx hb dX9_init_24 hl1 (by decide) rfl (fun ls2 hl2 => ?_)
  clear hl1 ls1
  refine lv_aload_n (pc := 26) hx hb dX9_init_26 rfl (lv_at hl2 2 rfl) ?_
  refine lv_iload (pc := 27) hx hb dX9_init_27 (lv_at hl2 0 rfl) ?_
  refine ar_new (pc := 29) (atype := .char) (N' := 0) (ty := .char) (a0 := (0, .inl (fun _ => 0))) (k2 := 1) (n2 := 0) hx hb (hG _ g_54) rfl hK hP hD hS hA 1 rfl (fun _ => rfl) (by decide) (by decide) (by decide) (by decide) (by decide) (Nat.le_of_ble_eq_true rfl) (Nat.le_of_ble_eq_true rfl) dX9_init_29 (fun qn3 H3 hP3r hD3r hS3 => ?_)
  have hP3 : va_P D classes [(ad0, ob 9 1 (dfl tyX9)), (ad1, ari (cy 1) 40 ct1), (qn3, ari (cy 1) 0 (fun _ => 0))] H3 := hP3r
  have hD3 : va_D A [(ad0, ob 9 1 (dfl tyX9)), (ad1, ari (cy 1) 40 ct1), (qn3, ari (cy 1) 0 (fun _ => 0))] := hD3r
  clear hP3r hD3r
  clear hP hD hS
  refine ob_putF (pc := 31) (v := .ref qn3) (ci := 9) (C := RX9) (T := TX9) (N := 1) hx hb hG in_X9 tyX9 tyX9_ok nmX9 hown hK hP3 hD3 hS3 0 rfl rfl 0 (by decide) (hG _ g_250) rfl rfl hin rfl rfl rfl dX9_init_31 (ws' := [(ad0, ob 9 1 (vup (dfl tyX9) 0 (.ref qn3))), (ad1, ari (cy 1) 40 ct1), (qn3, ari (cy 1) 0 (fun _ => 0))]) rfl (fun H4 lo4 hP4 hD4 hS4 => ?_)
  clear hP3 hD3 hS3
  clear H3
  refine lv_iconst (pc := 34) (v := 0) hx hb dX9_init_34 (by decide) ?_
  refine lv_istore (pc := 35) (lv' := [(6, .int 0), (5, .int 0), (4, .int 0), (0, .ref ad0), (1, .ref ad1), (2, .int 0), (3, .int 0)]) hx hb dX9_init_35 hl2 (by decide) rfl (fun ls5 hl5 => ?_)
  clear hl2 ls2
  refine lv_iload (pc := 37) hx hb dX9_init_37 (lv_at hl5 0 rfl) ?_
  refine lv_iload (pc := 39) hx hb dX9_init_39 (lv_at hl5 1 rfl) ?_
  refine lv_icmp_ge (pc := 41) (tgt := 64) hx hb dX9_init_41 (by decide) (fun c6 => ?_) (fun c6 => absurd (by decide) c6)
  have hP99 := hP4.sub (ws' := []) [] rfl
  have hD99 := hD4.sub (ws' := []) [] (by decide) rfl
  exact W.vret (pc := 64) hx hb hr (fun t ht hW => ⟨⟨(), rfl, trivial, _, rfl, by rw [ht]; exact hP99, hD99⟩, hS4.F ht⟩) hS4.2.2 dX9_init_64
set_option maxHeartbeats 4000000 in
set_option maxRecDepth 100000 in
/-- X3_takeStem -/
theorem c_takeStem (l : Launch) (D : va_G) (cy : Nat → ClassId) (kv : KV) (sz : Nat) (ad0 : Nat) (fn0 : Nat → Value) (ad1 : Nat) (ct1 : Nat → Int32) (h0_1 : fn0 1 = .int 0) (h0_2 : fn0 2 = .int 0) (h0_3 : fn0 3 = .int 0) (h0_4 : fn0 4 = .int 0) (h0_14 : fn0 14 = .ref ad1) : Met l yX3_takeStem (Cond.code yX3_takeStem cX3_takeStem 1 (some (.object "HarbourDesk$Text")) :: GW) ({ frames := 9, cells := 2, slots := 1, locals := 160 } : Room) (va_Pc [.ref ad0] (pcq D cy kv sz [(ad0, ob 3 16 fn0), (ad1, ari (cy 1) 40 ct1)])) (va_Qr (fun (_ : Unit) => True) (fun _ ra t => bq D ((fun ra w => ∃ (nw900 : Nat), ra = nw900 ∧ w = [(ad0, ob 3 16 fn0)]) ra) (va_A [(ad0, ob 3 16 fn0), (ad1, ari (cy 1) 40 ct1)] sz) t) (va_A [(ad0, ob 3 16 fn0), (ad1, ari (cy 1) 40 ct1)] sz)) 2 1 (va_A [(ad0, ob 3 16 fn0), (ad1, ari (cy 1) 40 ct1)] sz) := by
  refine Met.ofW (cc := cX3_takeStem) (maxL := 1) (ret := (some (.object "HarbourDesk$Text"))) (by decide) rfl ?_
  intro p e s m args below meth c s₁ B hml hv
  obtain ⟨rfl, hsz, hP, hK, hD0, hE⟩ := hv
  have hx := B.exec
  have hb := B.bytes
  have hr := B.returns
  have hG : ∀ w ∈ GW, w.before ([.ref ad0] : List Value).toArray s = true := fun w h => atoms_spec (ws := Cond.code yX3_takeStem cX3_takeStem 1 (some (.object "HarbourDesk$Text")) :: GW) B.pre w (List.mem_cons_of_mem _ h)
  have hown : s.vm.findClass RX3 = some m.cls := findClass_of_methodNamed B.named
  have hlocks := B.notSynchronized
  subst hsz
  have hD := hD0.self (sz := s.heap.size)
  generalize hAe : va_A [(ad0, ob 3 16 fn0), (ad1, ari (cy 1) 40 ct1)] s.heap.size = A at hD hE ⊢
  have hA : ∀ q : Nat, s.heap.size ≤ q → A q := fun q h => by rw [← hAe]; exact Or.inr h
  have hS : va_S A s.heap s.heap [] := va_S.rf
  clear hAe hD0
  have hl0 := lv_entry ([.ref ad0]) (n := 1) (Nat.le_of_ble_eq_true rfl)
  rw [lg_entry_eq]
  generalize (lg_sl ([.ref ad0]) ++ List.replicate (1 - (lg_sl ([.ref ad0])).length) Slot.unset).toArray = ls at hl0 ⊢
  have hl : lv_has ls 1 [(0, .ref ad0)] := hl0
  clear hl0
  refine lv_aload_n (pc := 0) hx hb dX3_takeStem_0 rfl (lv_at hl 0 rfl) ?_
  refine ob_get (pc := 1) (v := .int 0) (ci := 3) (C := RX3) (T := TX3) (N := 16) hx hb hG in_X3 hown hK hP 0 rfl rfl 4 (by decide) (hG _ g_49) rfl h0_4 dX3_takeStem_1 ?_
  refine lv_if_ne (pc := 4) (tgt := 48) hx hb dX3_takeStem_4 (by decide) (fun c1 => absurd (by decide) c1) (fun c1 => ?_)
  refine lv_aload_n (pc := 7) hx hb dX3_takeStem_7 rfl (lv_at hl 0 rfl) ?_
  refine ob_get (pc := 8) (v := .int 0) (ci := 3) (C := RX3) (T := TX3) (N := 16) hx hb hG in_X3 hown hK hP 0 rfl rfl 3 (by decide) (hG _ g_48) rfl h0_3 dX3_takeStem_8 ?_
  refine lv_if_eq (pc := 11) (tgt := 48) hx hb dX3_takeStem_11 (by decide) (fun c2 => ?_) (fun c2 => absurd (by decide) c2)
  refine lv_aload_n (pc := 48) hx hb dX3_takeStem_48 rfl (lv_at hl 0 rfl) ?_
  refine ob_get (pc := 49) (v := .int 0) (ci := 3) (C := RX3) (T := TX3) (N := 16) hx hb hG in_X3 hown hK hP 0 rfl rfl 4 (by decide) (hG _ g_49) rfl h0_4 dX3_takeStem_49 ?_
  refine lv_if_ne (pc := 52) (tgt := 85) hx hb dX3_takeStem_52 (by decide) (fun c3 => absurd (by decide) c3) (fun c3 => ?_)
  refine lv_aload_n (pc := 55) hx hb dX3_takeStem_55 rfl (lv_at hl 0 rfl) ?_
  refine ob_get (pc := 56) (v := .int 0) (ci := 3) (C := RX3) (T := TX3) (N := 16) hx hb hG in_X3 hown hK hP 0 rfl rfl 2 (by decide) (hG _ g_47) rfl h0_2 dX3_takeStem_56 ?_
  refine lv_if_ne (pc := 59) (tgt := 85) hx hb dX3_takeStem_59 (by decide) (fun c4 => absurd (by decide) c4) (fun c4 => ?_)
  refine lv_aload_n (pc := 62) hx hb dX3_takeStem_62 rfl (lv_at hl 0 rfl) ?_
  refine ob_get (pc := 63) (v := .int 0) (ci := 3) (C := RX3) (T := TX3) (N := 16) hx hb hG in_X3 hown hK hP 0 rfl rfl 1 (by decide) (hG _ g_46) rfl h0_1 dX3_takeStem_63 ?_
  refine lv_bipush (pc := 66) (v := 60) hx hb dX3_takeStem_66 (by decide) ?_
  refine lv_icmp_lt (pc := 68) (tgt := 85) hx hb dX3_takeStem_68 (by decide) (fun c5 => ?_) (fun c5 => absurd (by decide) c5)
  refine ob_new (pc := 85) (ci := 9) (C := RX9) (T := TX9) (N := 1) (k2 := 1) (n2 := 1) hx hb hG in_X9 tyX9 tyX9_ok hown (hG _ g_44) (hG _ g_252) (hG _ g_253) hK hP hD hS hA rfl (by decide) (by decide) (Nat.le_of_ble_eq_true rfl) (Nat.le_of_ble_eq_true rfl) dX3_takeStem_85 (fun qn6 H6 hP6r hD6r hS6 => ?_)
  have hP6 : va_P D classes [(ad0, ob 3 16 fn0), (ad1, ari (cy 1) 40 ct1), (qn6, ob 9 1 (dfl tyX9))] H6 := hP6r
  have hD6 : va_D A [(ad0, ob 3 16 fn0), (ad1, ari (cy 1) 40 ct1), (qn6, ob 9 1 (dfl tyX9))] := hD6r
  clear hP6r hD6r
  clear hP hD hS
  refine lv_dup (pc := 88) hx hb dX3_takeStem_88 rfl ?_
  refine lv_aload_n (pc := 89) hx hb dX3_takeStem_89 rfl (lv_at hl 0 rfl) ?_
  refine ob_get (pc := 90) (v := .ref ad1) (ci := 3) (C := RX3) (T := TX3) (N := 16) hx hb hG in_X3 hown hK hP6 0 rfl rfl 14 (by decide) (hG _ g_55) rfl h0_14 dX3_takeStem_90 ?_
  refine lv_iconst (pc := 93) (v := 0) hx hb dX3_takeStem_93 (by decide) ?_
  refine lv_iconst (pc := 94) (v := 0) hx hb dX3_takeStem_94 (by decide) ?_
  refine cq_v (pc := 95) (wr := [(ad0, ob 3 16 fn0)]) (k2 := 2) (n2 := 1) (va_runI (As := [.ref ad1, .int 0, .int 0]) (rest := [.ref qn6]) ⟨hx, hb, hml, hown, hG⟩ (c_Text0 l D cy kv H6.size qn6 ad1 ct1) (cwI 3 hG (gi_c g_251) rfl rfl rfl (hG _ g_253) (hG _ g_254) (hG _ g_255) rfl (by decide +kernel) ⟨Nat.le_of_ble_eq_true rfl, Nat.le_of_ble_eq_true rfl⟩) ⟨pq_blind, (pq_pass hP6 hD6 hK hE hS6 hA [2, 1] rfl (by decide))⟩ rfl rfl hl.1 rfl (lv_room (Nat.le_of_ble_eq_true rfl)) dX3_takeStem_95 ⟨Nat.le_of_ble_eq_true rfl, Nat.le_of_ble_eq_true rfl⟩) hP6 hD6 hS6 hA [2, 1] [0] rfl rfl (by decide) (by decide) (by decide) (by decide) (fun w7 H7 lo7 hR7 hP7r hD7r hS7 => ?_)
  subst hR7
  have hP7 : va_P D classes [(ad0, ob 3 16 fn0)] H7 := hP7r
  have hD7 : va_D A [(ad0, ob 3 16 fn0)] := hD7r
  clear hP7r hD7r
  clear hP6 hD6 hS6
  clear H6
  exact W.aret (pc := 98) (v := .ref qn6) hx hb hr (Or.inl ⟨_, rfl⟩) (Or.inr ⟨_, rfl⟩) (fun t ht hW => ⟨⟨(), qn6, rfl, trivial, _, ⟨qn6, rfl, rfl⟩, by rw [ht]; exact hP7, hD7⟩, hS7.F ht⟩) hS7.2.2 dX3_takeStem_98
set_option maxHeartbeats 4000000 in
set_option maxRecDepth 100000 in
/-- X6_proposeFirst -/
theorem c_proposeFirst (l : Launch) (D : va_G) (cy : Nat → ClassId) (kv : KV) (sz : Nat) (ad0 : Nat) (ad1 : Nat) (ad2 : Nat) (ad3 : Nat) (fn0 : Nat → Value) (fn3 : Nat → Value) (h1_5 : fn3 5 = .int 0) : Met l yX6_proposeFirst (Cond.code yX6_proposeFirst cX6_proposeFirst 6 none :: GW) ({ frames := 8, cells := 0, slots := 0, locals := 120 } : Room) (va_Pc [.ref ad0, .ref ad1, .ref ad2, .int 0, .ref ad3] (pcq D cy kv sz [(ad0, ob 6 7 fn0), (ad3, ob 7 6 fn3)])) (va_Qv (fun (_ : Unit) => True) (fun _ t => bq D (fun w => w = [(ad0, ob 6 7 fn0), (ad3, ob 7 6 fn3)]) (va_A [(ad0, ob 6 7 fn0), (ad3, ob 7 6 fn3)] sz) t) (va_A [(ad0, ob 6 7 fn0), (ad3, ob 7 6 fn3)] sz)) 0 0 (va_A [(ad0, ob 6 7 fn0), (ad3, ob 7 6 fn3)] sz) := by
  refine Met.ofW (cc := cX6_proposeFirst) (maxL := 6) (ret := none) (by decide) rfl ?_
  intro p e s m args below meth c s₁ B hml hv
  obtain ⟨rfl, hsz, hP, hK, hD0, hE⟩ := hv
  have hx := B.exec
  have hb := B.bytes
  have hr := B.returns
  have hG : ∀ w ∈ GW, w.before ([.ref ad0, .ref ad1, .ref ad2, .int 0, .ref ad3] : List Value).toArray s = true := fun w h => atoms_spec (ws := Cond.code yX6_proposeFirst cX6_proposeFirst 6 none :: GW) B.pre w (List.mem_cons_of_mem _ h)
  have hown : s.vm.findClass RX6 = some m.cls := findClass_of_methodNamed B.named
  have hlocks := B.notSynchronized
  subst hsz
  have hD := hD0.self (sz := s.heap.size)
  generalize hAe : va_A [(ad0, ob 6 7 fn0), (ad3, ob 7 6 fn3)] s.heap.size = A at hD hE ⊢
  have hA : ∀ q : Nat, s.heap.size ≤ q → A q := fun q h => by rw [← hAe]; exact Or.inr h
  have hS : va_S A s.heap s.heap [] := va_S.rf
  clear hAe hD0
  have hl0 := lv_entry ([.ref ad0, .ref ad1, .ref ad2, .int 0, .ref ad3]) (n := 6) (Nat.le_of_ble_eq_true rfl)
  rw [lg_entry_eq]
  generalize (lg_sl ([.ref ad0, .ref ad1, .ref ad2, .int 0, .ref ad3]) ++ List.replicate (6 - (lg_sl ([.ref ad0, .ref ad1, .ref ad2, .int 0, .ref ad3])).length) Slot.unset).toArray = ls at hl0 ⊢
  have hl : lv_has ls 6 [(0, .ref ad0), (1, .ref ad1), (2, .ref ad2), (3, .int 0), (4, .ref ad3)] := hl0
  clear hl0
  refine lv_iconst (pc := 0) (v := 0) hx hb dX6_proposeFirst_0 (by decide) ?_
  refine lv_istore (pc := 1) (lv' := [(5, .int 0), (0, .ref ad0), (1, .ref ad1), (2, .ref ad2), (3, .int 0), (4, .ref ad3)]) hx hb dX6_proposeFirst_1 hl (by decide) rfl (fun ls1 hl1 => ?_)
  clear hl ls
  refine lv_iload (pc := 3) hx hb dX6_proposeFirst_3 (lv_at hl1 0 rfl) ?_
  refine lv_iload_n (pc := 5) hx hb dX6_proposeFirst_5 rfl (lv_at hl1 4 rfl) ?_
  refine lv_icmp_ge (pc := 6) (tgt := 39) hx hb dX6_proposeFirst_6 (by decide) (fun c2 => ?_) (fun c2 => absurd (by decide) c2)
  refine lv_iconst (pc := 39) (v := 0) hx hb dX6_proposeFirst_39 (by decide) ?_
  refine lv_istore (pc := 40) (lv' := [(5, .int 0), (0, .ref ad0), (1, .ref ad1), (2, .ref ad2), (3, .int 0), (4, .ref ad3)]) hx hb dX6_proposeFirst_40 hl1 (by decide) rfl (fun ls3 hl3 => ?_)
  clear hl1 ls1
  refine lv_iload (pc := 42) hx hb dX6_proposeFirst_42 (lv_at hl3 0 rfl) ?_
  refine lv_aload (pc := 44) hx hb dX6_proposeFirst_44 (lv_at hl3 5 rfl) ?_
  refine ob_getN (pc := 46) (v := .int 0) (ci := 7) (C := RX7) (T := TX7) (N := 6) hx hb hG in_X7 hown hK hP 1 rfl rfl 5 (by decide) (nw_at hE n_19) rfl h1_5 dX6_proposeFirst_46 ?_
  refine lv_icmp_ge (pc := 49) (tgt := 71) hx hb dX6_proposeFirst_49 (by decide) (fun c4 => ?_) (fun c4 => absurd (by decide) c4)
  exact W.vret (pc := 71) hx hb hr (fun t ht hW => ⟨⟨(), rfl, trivial, _, rfl, by rw [ht]; exact hP, hD⟩, hS.F ht⟩) hS.2.2 dX6_proposeFirst_71
set_option maxHeartbeats 4000000 in
set_option maxRecDepth 100000 in
/-- X11_ends -/
theorem c_ends_z (l : Launch) (D : va_G) (cy : Nat → ClassId) (kv : KV) (sz : Nat) (ad0 : Nat) (fn0 : Nat → Value) (ad1 : Nat) (ad8 : Nat) (ad4 : Nat) (ad2 : Nat) (ad3 : Nat) (ct1 : Nat → Int32) (fn2 : Nat → Value) (ad9 : Nat) (fn3 : Nat → Value) (ad5 : Nat) (ad6 : Nat) (ad7 : Nat) (fn7 : Nat → Value) (ct9 : Nat → Int32) (h0_0 : fn0 0 = .ref ad1) (h0_1 : fn0 1 = .int 0) (h0_3 : fn0 3 = .ref ad8) (h0_4 : fn0 4 = .int 0) (h0_7 : fn0 7 = .ref ad4) (h0_9 : fn0 9 = .ref ad2) (h0_11 : fn0 11 = .ref ad3) (h2_14 : fn2 14 = .ref ad9) (h5_5 : fn7 5 = .int 0) : Met l yX11_ends (Cond.code yX11_ends cX11_ends 3 (some .int) :: GW) ({ frames := 10, cells := 2, slots := 1, locals := 200 } : Room) (va_Pc [.ref ad0, .int 0] (pcq D cy kv sz [(ad0, ob 11 15 fn0), (ad1, ari (cy 1) 2000 ct1), (ad2, ob 3 16 fn2), (ad3, ob 6 7 fn3), (ad4, arq (cy 6) 3 (va_up (va_up (va_up (fun _ => none) (0 : Int32).toNatClampNeg (some ad5)) (1 : Int32).toNatClampNeg (some ad6)) (2 : Int32).toNatClampNeg (some ad7))), (ad7, ob 7 6 fn7), (ad9, ari (cy 1) 40 ct9)])) (va_Qi (fun r (_ : Unit) => r = 0) (fun _ t => bq D (fun w => w = []) (va_A [(ad0, ob 11 15 fn0), (ad1, ari (cy 1) 2000 ct1), (ad2, ob 3 16 fn2), (ad3, ob 6 7 fn3), (ad4, arq (cy 6) 3 (va_up (va_up (va_up (fun _ => none) (0 : Int32).toNatClampNeg (some ad5)) (1 : Int32).toNatClampNeg (some ad6)) (2 : Int32).toNatClampNeg (some ad7))), (ad7, ob 7 6 fn7), (ad9, ari (cy 1) 40 ct9)] sz) t) (va_A [(ad0, ob 11 15 fn0), (ad1, ari (cy 1) 2000 ct1), (ad2, ob 3 16 fn2), (ad3, ob 6 7 fn3), (ad4, arq (cy 6) 3 (va_up (va_up (va_up (fun _ => none) (0 : Int32).toNatClampNeg (some ad5)) (1 : Int32).toNatClampNeg (some ad6)) (2 : Int32).toNatClampNeg (some ad7))), (ad7, ob 7 6 fn7), (ad9, ari (cy 1) 40 ct9)] sz)) 2 1 (va_A [(ad0, ob 11 15 fn0), (ad1, ari (cy 1) 2000 ct1), (ad2, ob 3 16 fn2), (ad3, ob 6 7 fn3), (ad4, arq (cy 6) 3 (va_up (va_up (va_up (fun _ => none) (0 : Int32).toNatClampNeg (some ad5)) (1 : Int32).toNatClampNeg (some ad6)) (2 : Int32).toNatClampNeg (some ad7))), (ad7, ob 7 6 fn7), (ad9, ari (cy 1) 40 ct9)] sz) := by
  refine Met.ofW (cc := cX11_ends) (maxL := 3) (ret := (some .int)) (by decide) rfl ?_
  intro p e s m args below meth c s₁ B hml hv
  obtain ⟨rfl, hsz, hP, hK, hD0, hE⟩ := hv
  have hx := B.exec
  have hb := B.bytes
  have hr := B.returns
  have hG : ∀ w ∈ GW, w.before ([.ref ad0, .int 0] : List Value).toArray s = true := fun w h => atoms_spec (ws := Cond.code yX11_ends cX11_ends 3 (some .int) :: GW) B.pre w (List.mem_cons_of_mem _ h)
  have hown : s.vm.findClass RX11 = some m.cls := findClass_of_methodNamed B.named
  have hlocks := B.notSynchronized
  subst hsz
  have hD := hD0.self (sz := s.heap.size)
  generalize hAe : va_A [(ad0, ob 11 15 fn0), (ad1, ari (cy 1) 2000 ct1), (ad2, ob 3 16 fn2), (ad3, ob 6 7 fn3), (ad4, arq (cy 6) 3 (va_up (va_up (va_up (fun _ => none) (0 : Int32).toNatClampNeg (some ad5)) (1 : Int32).toNatClampNeg (some ad6)) (2 : Int32).toNatClampNeg (some ad7))), (ad7, ob 7 6 fn7), (ad9, ari (cy 1) 40 ct9)] s.heap.size = A at hD hE ⊢
  have hA : ∀ q : Nat, s.heap.size ≤ q → A q := fun q h => by rw [← hAe]; exact Or.inr h
  have hS : va_S A s.heap s.heap [] := va_S.rf
  clear hAe hD0
  have hl0 := lv_entry ([.ref ad0, .int 0]) (n := 3) (Nat.le_of_ble_eq_true rfl)
  rw [lg_entry_eq]
  generalize (lg_sl ([.ref ad0, .int 0]) ++ List.replicate (3 - (lg_sl ([.ref ad0, .int 0])).length) Slot.unset).toArray = ls at hl0 ⊢
  have hl : lv_has ls 3 [(0, .ref ad0), (1, .int 0)] := hl0
  clear hl0
  refine lv_aload_n (pc := 0) hx hb dX11_ends_0 rfl (lv_at hl 0 rfl) ?_
  refine lv_iload_n (pc := 1) hx hb dX11_ends_1 rfl (lv_at hl 1 rfl) ?_
  refine cq_i (pc := 2) (wr := [(ad1, ari (cy 1) 2000 ct1), (ad2, ob 3 16 fn2), (ad3, ob 6 7 fn3), (ad4, arq (cy 6) 3 (va_up (va_up (va_up (fun _ => none) (0 : Int32).toNatClampNeg (some ad5)) (1 : Int32).toNatClampNeg (some ad6)) (2 : Int32).toNatClampNeg (some ad7))), (ad7, ob 7 6 fn7), (ad9, ari (cy 1) 40 ct9)]) (k2 := 0) (n2 := 0) (va_runV (As := [.int 0]) (rest := []) ⟨hx, hb, hml, hown, hG⟩ (c_isLine_z l D cy kv s.heap.size ad0 fn0 h0_1) (cwV 1 hG (gi_V g_207 g_208 g_209 g_143 g_149) rfl rfl rfl (by decide +kernel) ⟨Nat.le_of_ble_eq_true rfl, Nat.le_of_ble_eq_true rfl⟩) ⟨pq_blind, (va_recv hK hP (ci := 11) (q0 := 0) rfl rfl), (pq_pass hP hD hK hE hS hA [0] rfl (by decide))⟩ rfl rfl hl.1 rfl (lv_room (Nat.le_of_ble_eq_true rfl)) dX11_ends_2 ⟨Nat.le_of_ble_eq_true rfl, Nat.le_of_ble_eq_true rfl⟩) hP hD hS hA [0] [1, 2, 3, 4, 5, 6] rfl rfl (by decide) (by decide) (by decide) (by decide) (fun r1 w1 H1 lo1 e1 hR1 hP1r hD1r hS1 => ?_)
  subst hR1
  subst e1
  have hP1 : va_P D classes [(ad1, ari (cy 1) 2000 ct1), (ad2, ob 3 16 fn2), (ad3, ob 6 7 fn3), (ad4, arq (cy 6) 3 (va_up (va_up (va_up (fun _ => none) (0 : Int32).toNatClampNeg (some ad5)) (1 : Int32).toNatClampNeg (some ad6)) (2 : Int32).toNatClampNeg (some ad7))), (ad7, ob 7 6 fn7), (ad9, ari (cy 1) 40 ct9), (ad0, ob 11 15 fn0)] H1 := hP1r
  have hD1 : va_D A [(ad1, ari (cy 1) 2000 ct1), (ad2, ob 3 16 fn2), (ad3, ob 6 7 fn3), (ad4, arq (cy 6) 3 (va_up (va_up (va_up (fun _ => none) (0 : Int32).toNatClampNeg (some ad5)) (1 : Int32).toNatClampNeg (some ad6)) (2 : Int32).toNatClampNeg (some ad7))), (ad7, ob 7 6 fn7), (ad9, ari (cy 1) 40 ct9), (ad0, ob 11 15 fn0)] := hD1r
  clear hP1r hD1r
  clear hP hD hS
  refine lv_if_ne (pc := 5) (tgt := 16) hx hb dX11_ends_5 (by decide) (fun c2 => ?_) (fun c2 => absurd c2 (by decide))
  refine lv_aload_n (pc := 16) hx hb dX11_ends_16 rfl (lv_at hl 0 rfl) ?_
  refine lv_iload_n (pc := 17) hx hb dX11_ends_17 rfl (lv_at hl 1 rfl) ?_
  refine cq_v (pc := 18) (wr := [(ad4, arq (cy 6) 3 (va_up (va_up (va_up (fun _ => none) (0 : Int32).toNatClampNeg (some ad5)) (1 : Int32).toNatClampNeg (some ad6)) (2 : Int32).toNatClampNeg (some ad7))), (ad7, ob 7 6 fn7), (ad9, ari (cy 1) 40 ct9)]) (k2 := 0) (n2 := 0) (va_runV (As := [.int 0]) (rest := []) ⟨hx, hb, hml, hown, hG⟩ (c_takeLine l D cy kv H1.size ad0 fn0 ad1 ad2 ad3 ct1 fn2 fn3 h0_0 h0_9 h0_11) (cwV 1 hG (gi_V g_233 g_234 g_235 g_143 g_225) rfl rfl rfl (by decide +kernel) ⟨Nat.le_of_ble_eq_true rfl, Nat.le_of_ble_eq_true rfl⟩) ⟨pq_blind, (va_recv hK hP1 (ci := 11) (q0 := 6) rfl rfl), (pq_pass hP1 hD1 hK hE hS1 hA [6, 0, 1, 2] rfl (by decide))⟩ rfl rfl hl.1 rfl (lv_room (Nat.le_of_ble_eq_true rfl)) dX11_ends_18 ⟨Nat.le_of_ble_eq_true rfl, Nat.le_of_ble_eq_true rfl⟩) hP1 hD1 hS1 hA [6, 0, 1, 2] [3, 4, 5] rfl rfl (by decide) (by decide) (by decide) (by decide) (fun w3 H3 lo3 hR3 hP3r hD3r hS3 => ?_)
  subst hR3
  have hP3 : va_P D classes [(ad4, arq (cy 6) 3 (va_up (va_up (va_up (fun _ => none) (0 : Int32).toNatClampNeg (some ad5)) (1 : Int32).toNatClampNeg (some ad6)) (2 : Int32).toNatClampNeg (some ad7))), (ad7, ob 7 6 fn7), (ad9, ari (cy 1) 40 ct9), (ad0, ob 11 15 (vup fn0 1 (.int 0))), (ad3, ob 6 7 (vup (vup fn3 1 (.int 0)) 3 (.int 0))), (ad2, ob 3 16 (vup (vup (vup (vup (vup (vup (vup (vup fn2 1 (.int 0)) 2 (.int 0)) 3 (.int 0)) 4 (.int 0)) 9 (.ref ad1)) 10 (.int 0)) 11 (.int 0)) 12 (.int 0))), (ad1, ari (cy 1) 2000 ct1)] H3 := hP3r
  have hD3 : va_D A [(ad4, arq (cy 6) 3 (va_up (va_up (va_up (fun _ => none) (0 : Int32).toNatClampNeg (some ad5)) (1 : Int32).toNatClampNeg (some ad6)) (2 : Int32).toNatClampNeg (some ad7))), (ad7, ob 7 6 fn7), (ad9, ari (cy 1) 40 ct9), (ad0, ob 11 15 (vup fn0 1 (.int 0))), (ad3, ob 6 7 (vup (vup fn3 1 (.int 0)) 3 (.int 0))), (ad2, ob 3 16 (vup (vup (vup (vup (vup (vup (vup (vup fn2 1 (.int 0)) 2 (.int 0)) 3 (.int 0)) 4 (.int 0)) 9 (.ref ad1)) 10 (.int 0)) 11 (.int 0)) 12 (.int 0))), (ad1, ari (cy 1) 2000 ct1)] := hD3r
  clear hP3r hD3r
  clear hP1 hD1 hS1
  clear H1 lo1
  refine lv_aload_n (pc := 21) hx hb dX11_ends_21 rfl (lv_at hl 0 rfl) ?_
  refine ob_get (pc := 22) (v := .ref ad2) (ci := 11) (C := RX11) (T := TX11) (N := 15) hx hb hG in_X11 hown hK hP3 3 rfl rfl 9 (by decide) (hG _ g_116) rfl h0_9 dX11_ends_22 ?_
  refine cq_r (pc := 25) (wr := [(ad4, arq (cy 6) 3 (va_up (va_up (va_up (fun _ => none) (0 : Int32).toNatClampNeg (some ad5)) (1 : Int32).toNatClampNeg (some ad6)) (2 : Int32).toNatClampNeg (some ad7))), (ad7, ob 7 6 fn7), (ad0, ob 11 15 (vup fn0 1 (.int 0))), (ad3, ob 6 7 (vup (vup fn3 1 (.int 0)) 3 (.int 0))), (ad1, ari (cy 1) 2000 ct1)]) (k2 := 2) (n2 := 1) (va_runV (As := []) (rest := []) ⟨hx, hb, hml, hown, hG⟩ (c_takeStem l D cy kv H3.size ad2 (vup (vup (vup (vup (vup (vup (vup (vup fn2 1 (.int 0)) 2 (.int 0)) 3 (.int 0)) 4 (.int 0)) 9 (.ref ad1)) 10 (.int 0)) 11 (.int 0)) 12 (.int 0)) ad9 ct9 rfl rfl rfl rfl h2_14) (cwV 0 hG (gi_V g_258 g_259 g_260 g_113 g_256) rfl rfl rfl (by decide +kernel) ⟨Nat.le_of_ble_eq_true rfl, Nat.le_of_ble_eq_true rfl⟩) ⟨pq_blind, (va_recv hK hP3 (ci := 3) (q0 := 5) rfl rfl), (pq_pass hP3 hD3 hK hE hS3 hA [5, 2] rfl (by decide))⟩ rfl rfl hl.1 rfl (lv_room (Nat.le_of_ble_eq_true rfl)) dX11_ends_25 ⟨Nat.le_of_ble_eq_true rfl, Nat.le_of_ble_eq_true rfl⟩) hP3 hD3 hS3 hA [5, 2] [0, 1, 3, 4, 6] rfl rfl (by decide) (by decide) (by decide) (by decide) (fun r4 w4 H4 lo4 hR4 hP4r hD4r hS4 => ?_)
  obtain ⟨qn4_0, hra4, rfl⟩ := hR4
  rw [hra4]
  have hP4 : va_P D classes [(ad4, arq (cy 6) 3 (va_up (va_up (va_up (fun _ => none) (0 : Int32).toNatClampNeg (some ad5)) (1 : Int32).toNatClampNeg (some ad6)) (2 : Int32).toNatClampNeg (some ad7))), (ad7, ob 7 6 fn7), (ad0, ob 11 15 (vup fn0 1 (.int 0))), (ad3, ob 6 7 (vup (vup fn3 1 (.int 0)) 3 (.int 0))), (ad1, ari (cy 1) 2000 ct1), (ad2, ob 3 16 (vup (vup (vup (vup (vup (vup (vup (vup fn2 1 (.int 0)) 2 (.int 0)) 3 (.int 0)) 4 (.int 0)) 9 (.ref ad1)) 10 (.int 0)) 11 (.int 0)) 12 (.int 0)))] H4 := hP4r
  have hD4 : va_D A [(ad4, arq (cy 6) 3 (va_up (va_up (va_up (fun _ => none) (0 : Int32).toNatClampNeg (some ad5)) (1 : Int32).toNatClampNeg (some ad6)) (2 : Int32).toNatClampNeg (some ad7))), (ad7, ob 7 6 fn7), (ad0, ob 11 15 (vup fn0 1 (.int 0))), (ad3, ob 6 7 (vup (vup fn3 1 (.int 0)) 3 (.int 0))), (ad1, ari (cy 1) 2000 ct1), (ad2, ob 3 16 (vup (vup (vup (vup (vup (vup (vup (vup fn2 1 (.int 0)) 2 (.int 0)) 3 (.int 0)) 4 (.int 0)) 9 (.ref ad1)) 10 (.int 0)) 11 (.int 0)) 12 (.int 0)))] := hD4r
  clear hP4r hD4r
  clear hP3 hD3 hS3
  clear H3 lo3
  refine lv_astore_n (pc := 28) (lv' := [(2, .ref qn4_0), (0, .ref ad0), (1, .int 0)]) hx hb dX11_ends_28 rfl hl (by decide) rfl (fun ls5 hl5 => ?_)
  clear hl ls
  refine lv_aload_n (pc := 29) hx hb dX11_ends_29 rfl (lv_at hl5 1 rfl) ?_
  refine ob_get (pc := 30) (v := .ref ad2) (ci := 11) (C := RX11) (T := TX11) (N := 15) hx hb hG in_X11 hown hK hP4 2 rfl rfl 9 (by decide) (hG _ g_116) rfl h0_9 dX11_ends_30 ?_
  refine ob_getN (pc := 33) (v := .int 0) (ci := 3) (C := RX3) (T := TX3) (N := 16) hx hb hG in_X3 hown hK hP4 5 rfl rfl 4 (by decide) (nw_at hE n_17) rfl rfl dX11_ends_33 ?_
  refine lv_if_ne (pc := 36) (tgt := 69) hx hb dX11_ends_36 (by decide) (fun c6 => absurd (by decide) c6) (fun c6 => ?_)
  refine lv_aload_n (pc := 39) hx hb dX11_ends_39 rfl (lv_at hl5 1 rfl) ?_
  refine ob_get (pc := 40) (v := .ref ad2) (ci := 11) (C := RX11) (T := TX11) (N := 15) hx hb hG in_X11 hown hK hP4 2 rfl rfl 9 (by decide) (hG _ g_116) rfl h0_9 dX11_ends_40 ?_
  refine lv_aload_n (pc := 43) hx hb dX11_ends_43 rfl (lv_at hl5 1 rfl) ?_
  refine ob_get (pc := 44) (v := .ref ad4) (ci := 11) (C := RX11) (T := TX11) (N := 15) hx hb hG in_X11 hown hK hP4 2 rfl rfl 7 (by decide) (hG _ g_110) rfl h0_7 dX11_ends_44 ?_
  refine lv_iconst (pc := 47) (v := 2) hx hb dX11_ends_47 (by decide) ?_
  refine va_aldq (pc := 48) hx hb hK hP4 0 6 rfl rfl (show ¬ ((2 : Int32) < 0 ∨ 3 ≤ (2 : Int32).toNatClampNeg) by decide) dX11_ends_48 ?_
  refine tp_v (y := .ref ad7) rfl ?_
  refine lv_aload_n (pc := 49) hx hb dX11_ends_49 rfl (lv_at hl5 1 rfl) ?_
  refine ob_get (pc := 50) (v := .ref ad2) (ci := 11) (C := RX11) (T := TX11) (N := 15) hx hb hG in_X11 hown hK hP4 2 rfl rfl 9 (by decide) (hG _ g_116) rfl h0_9 dX11_ends_50 ?_
  refine ob_getN (pc := 53) (v := .int 0) (ci := 3) (C := RX3) (T := TX3) (N := 16) hx hb hG in_X3 hown hK hP4 5 rfl rfl 2 (by decide) (nw_at hE n_20) rfl rfl dX11_ends_53 ?_
  refine lv_if_eq (pc := 56) (tgt := 64) hx hb dX11_ends_56 (by decide) (fun c7 => ?_) (fun c7 => absurd (by decide) c7)
  refine lv_bipush (pc := 64) (v := 59) hx hb dX11_ends_64 (by decide) ?_
  refine cq_v (pc := 66) (wr := [(ad4, arq (cy 6) 3 (va_up (va_up (va_up (fun _ => none) (0 : Int32).toNatClampNeg (some ad5)) (1 : Int32).toNatClampNeg (some ad6)) (2 : Int32).toNatClampNeg (some ad7))), (ad7, ob 7 6 fn7), (ad0, ob 11 15 (vup fn0 1 (.int 0))), (ad3, ob 6 7 (vup (vup fn3 1 (.int 0)) 3 (.int 0))), (ad1, ari (cy 1) 2000 ct1)]) (k2 := 2) (n2 := 1) (va_runV (As := [.ref ad7, .int 59]) (rest := []) ⟨hx, hb, hml, hown, hG⟩ (c_putAliases l D cy kv H4.size ad2 ad7 59 (vup (vup (vup (vup (vup (vup (vup (vup fn2 1 (.int 0)) 2 (.int 0)) 3 (.int 0)) 4 (.int 0)) 9 (.ref ad1)) 10 (.int 0)) 11 (.int 0)) 12 (.int 0)) rfl) (cwV 2 hG (gi_V g_236 g_237 g_238 g_113 g_226) rfl rfl rfl (by decide +kernel) ⟨Nat.le_of_ble_eq_true rfl, Nat.le_of_ble_eq_true rfl⟩) ⟨pq_blind, (va_recv hK hP4 (ci := 3) (q0 := 5) rfl rfl), (pq_pass hP4 hD4 hK hE hS4 hA [5] rfl (by decide))⟩ rfl rfl hl5.1 rfl (lv_room (Nat.le_of_ble_eq_true rfl)) dX11_ends_66 ⟨Nat.le_of_ble_eq_true rfl, Nat.le_of_ble_eq_true rfl⟩) hP4 hD4 hS4 hA [5] [0, 1, 2, 3, 4] rfl rfl (by decide) (by decide) (by decide) (by decide) (fun w8 H8 lo8 hR8 hP8r hD8r hS8 => ?_)
  subst hR8
  have hP8 : va_P D classes [(ad4, arq (cy 6) 3 (va_up (va_up (va_up (fun _ => none) (0 : Int32).toNatClampNeg (some ad5)) (1 : Int32).toNatClampNeg (some ad6)) (2 : Int32).toNatClampNeg (some ad7))), (ad7, ob 7 6 fn7), (ad0, ob 11 15 (vup fn0 1 (.int 0))), (ad3, ob 6 7 (vup (vup fn3 1 (.int 0)) 3 (.int 0))), (ad1, ari (cy 1) 2000 ct1), (ad2, ob 3 16 (vup (vup (vup (vup (vup (vup (vup (vup fn2 1 (.int 0)) 2 (.int 0)) 3 (.int 0)) 4 (.int 0)) 9 (.ref ad1)) 10 (.int 0)) 11 (.int 0)) 12 (.int 0)))] H8 := hP8r
  have hD8 : va_D A [(ad4, arq (cy 6) 3 (va_up (va_up (va_up (fun _ => none) (0 : Int32).toNatClampNeg (some ad5)) (1 : Int32).toNatClampNeg (some ad6)) (2 : Int32).toNatClampNeg (some ad7))), (ad7, ob 7 6 fn7), (ad0, ob 11 15 (vup fn0 1 (.int 0))), (ad3, ob 6 7 (vup (vup fn3 1 (.int 0)) 3 (.int 0))), (ad1, ari (cy 1) 2000 ct1), (ad2, ob 3 16 (vup (vup (vup (vup (vup (vup (vup (vup fn2 1 (.int 0)) 2 (.int 0)) 3 (.int 0)) 4 (.int 0)) 9 (.ref ad1)) 10 (.int 0)) 11 (.int 0)) 12 (.int 0)))] := hD8r
  clear hP8r hD8r
  clear hP4 hD4 hS4
  clear H4 lo4
  refine lv_aload_n (pc := 69) hx hb dX11_ends_69 rfl (lv_at hl5 1 rfl) ?_
  refine ob_get (pc := 70) (v := .ref ad2) (ci := 11) (C := RX11) (T := TX11) (N := 15) hx hb hG in_X11 hown hK hP8 2 rfl rfl 9 (by decide) (hG _ g_116) rfl h0_9 dX11_ends_70 ?_
  refine ob_getN (pc := 73) (v := .int 0) (ci := 3) (C := RX3) (T := TX3) (N := 16) hx hb hG in_X3 hown hK hP8 5 rfl rfl 4 (by decide) (nw_at hE n_17) rfl rfl dX11_ends_73 ?_
  refine lv_if_ne (pc := 76) (tgt := 114) hx hb dX11_ends_76 (by decide) (fun c9 => absurd (by decide) c9) (fun c9 => ?_)
  refine lv_aload_n (pc := 79) hx hb dX11_ends_79 rfl (lv_at hl5 1 rfl) ?_
  refine ob_get (pc := 80) (v := .ref ad2) (ci := 11) (C := RX11) (T := TX11) (N := 15) hx hb hG in_X11 hown hK hP8 2 rfl rfl 9 (by decide) (hG _ g_116) rfl h0_9 dX11_ends_80 ?_
  refine ob_getN (pc := 83) (v := .int 0) (ci := 3) (C := RX3) (T := TX3) (N := 16) hx hb hG in_X3 hown hK hP8 5 rfl rfl 1 (by decide) (nw_at hE n_18) rfl rfl dX11_ends_83 ?_
  refine lv_if_le (pc := 86) (tgt := 114) hx hb dX11_ends_86 (by decide) (fun c10 => ?_) (fun c10 => absurd (by decide) c10)
  refine lv_aload_n (pc := 114) hx hb dX11_ends_114 rfl (lv_at hl5 1 rfl) ?_
  refine ob_get (pc := 115) (v := .ref ad2) (ci := 11) (C := RX11) (T := TX11) (N := 15) hx hb hG in_X11 hown hK hP8 2 rfl rfl 9 (by decide) (hG _ g_116) rfl h0_9 dX11_ends_115 ?_
  refine ob_getN (pc := 118) (v := .int 0) (ci := 3) (C := RX3) (T := TX3) (N := 16) hx hb hG in_X3 hown hK hP8 5 rfl rfl 4 (by decide) (nw_at hE n_17) rfl rfl dX11_ends_118 ?_
  refine lv_if_eq (pc := 121) (tgt := 139) hx hb dX11_ends_121 (by decide) (fun c11 => ?_) (fun c11 => absurd (by decide) c11)
  refine lv_aload_n (pc := 139) hx hb dX11_ends_139 rfl (lv_at hl5 1 rfl) ?_
  refine ob_get (pc := 140) (v := .ref ad2) (ci := 11) (C := RX11) (T := TX11) (N := 15) hx hb hG in_X11 hown hK hP8 2 rfl rfl 9 (by decide) (hG _ g_116) rfl h0_9 dX11_ends_140 ?_
  refine ob_getN (pc := 143) (v := .int 0) (ci := 3) (C := RX3) (T := TX3) (N := 16) hx hb hG in_X3 hown hK hP8 5 rfl rfl 2 (by decide) (nw_at hE n_20) rfl rfl dX11_ends_143 ?_
  refine lv_if_eq (pc := 146) (tgt := 151) hx hb dX11_ends_146 (by decide) (fun c12 => ?_) (fun c12 => absurd (by decide) c12)
  refine lv_aload_n (pc := 151) hx hb dX11_ends_151 rfl (lv_at hl5 1 rfl) ?_
  refine ob_get (pc := 152) (v := .ref ad2) (ci := 11) (C := RX11) (T := TX11) (N := 15) hx hb hG in_X11 hown hK hP8 2 rfl rfl 9 (by decide) (hG _ g_116) rfl h0_9 dX11_ends_152 ?_
  refine ob_getN (pc := 155) (v := .int 0) (ci := 3) (C := RX3) (T := TX3) (N := 16) hx hb hG in_X3 hown hK hP8 5 rfl rfl 1 (by decide) (nw_at hE n_18) rfl rfl dX11_ends_155 ?_
  refine lv_if_ne (pc := 158) (tgt := 186) hx hb dX11_ends_158 (by decide) (fun c13 => absurd (by decide) c13) (fun c13 => ?_)
  refine lv_aload_n (pc := 161) hx hb dX11_ends_161 rfl (lv_at hl5 1 rfl) ?_
  refine ob_get (pc := 162) (v := .ref ad3) (ci := 11) (C := RX11) (T := TX11) (N := 15) hx hb hG in_X11 hown hK hP8 2 rfl rfl 11 (by decide) (hG _ g_126) rfl h0_11 dX11_ends_162 ?_
  refine lv_aload_n (pc := 165) hx hb dX11_ends_165 rfl (lv_at hl5 0 rfl) ?_
  refine lv_aload_n (pc := 166) hx hb dX11_ends_166 rfl (lv_at hl5 1 rfl) ?_
  refine ob_get (pc := 167) (v := .ref ad8) (ci := 11) (C := RX11) (T := TX11) (N := 15) hx hb hG in_X11 hown hK hP8 2 rfl rfl 3 (by decide) (hG _ g_98) rfl h0_3 dX11_ends_167 ?_
  refine lv_aload_n (pc := 170) hx hb dX11_ends_170 rfl (lv_at hl5 1 rfl) ?_
  refine ob_get (pc := 171) (v := .int 0) (ci := 11) (C := RX11) (T := TX11) (N := 15) hx hb hG in_X11 hown hK hP8 2 rfl rfl 4 (by decide) (hG _ g_99) rfl h0_4 dX11_ends_171 ?_
  refine lv_aload_n (pc := 174) hx hb dX11_ends_174 rfl (lv_at hl5 1 rfl) ?_
  refine ob_get (pc := 175) (v := .ref ad4) (ci := 11) (C := RX11) (T := TX11) (N := 15) hx hb hG in_X11 hown hK hP8 2 rfl rfl 7 (by decide) (hG _ g_110) rfl h0_7 dX11_ends_175 ?_
  refine lv_iconst (pc := 178) (v := 2) hx hb dX11_ends_178 (by decide) ?_
  refine va_aldq (pc := 179) hx hb hK hP8 0 6 rfl rfl (show ¬ ((2 : Int32) < 0 ∨ 3 ≤ (2 : Int32).toNatClampNeg) by decide) dX11_ends_179 ?_
  refine tp_v (y := .ref ad7) rfl ?_
  refine cq_v (pc := 180) (wr := [(ad4, arq (cy 6) 3 (va_up (va_up (va_up (fun _ => none) (0 : Int32).toNatClampNeg (some ad5)) (1 : Int32).toNatClampNeg (some ad6)) (2 : Int32).toNatClampNeg (some ad7))), (ad0, ob 11 15 (vup fn0 1 (.int 0))), (ad1, ari (cy 1) 2000 ct1), (ad2, ob 3 16 (vup (vup (vup (vup (vup (vup (vup (vup fn2 1 (.int 0)) 2 (.int 0)) 3 (.int 0)) 4 (.int 0)) 9 (.ref ad1)) 10 (.int 0)) 11 (.int 0)) 12 (.int 0)))]) (k2 := 2) (n2 := 1) (va_runV (As := [.ref qn4_0, .ref ad8, .int 0, .ref ad7]) (rest := []) ⟨hx, hb, hml, hown, hG⟩ (c_proposeFirst l D cy kv H8.size ad3 qn4_0 ad8 ad7 (vup (vup fn3 1 (.int 0)) 3 (.int 0)) fn7 h5_5) (cwV 4 hG (gi_V g_261 g_262 g_263 g_124 g_257) rfl rfl rfl (by decide +kernel) ⟨Nat.le_of_ble_eq_true rfl, Nat.le_of_ble_eq_true rfl⟩) ⟨pq_blind, (va_recv hK hP8 (ci := 6) (q0 := 3) rfl rfl), (pq_pass hP8 hD8 hK hE hS8 hA [3, 1] rfl (by decide))⟩ rfl rfl hl5.1 rfl (lv_room (Nat.le_of_ble_eq_true rfl)) dX11_ends_180 ⟨Nat.le_of_ble_eq_true rfl, Nat.le_of_ble_eq_true rfl⟩) hP8 hD8 hS8 hA [3, 1] [0, 2, 4, 5] rfl rfl (by decide) (by decide) (by decide) (by decide) (fun w14 H14 lo14 hR14 hP14r hD14r hS14 => ?_)
  subst hR14
  have hP14 : va_P D classes [(ad4, arq (cy 6) 3 (va_up (va_up (va_up (fun _ => none) (0 : Int32).toNatClampNeg (some ad5)) (1 : Int32).toNatClampNeg (some ad6)) (2 : Int32).toNatClampNeg (some ad7))), (ad0, ob 11 15 (vup fn0 1 (.int 0))), (ad1, ari (cy 1) 2000 ct1), (ad2, ob 3 16 (vup (vup (vup (vup (vup (vup (vup (vup fn2 1 (.int 0)) 2 (.int 0)) 3 (.int 0)) 4 (.int 0)) 9 (.ref ad1)) 10 (.int 0)) 11 (.int 0)) 12 (.int 0))), (ad3, ob 6 7 (vup (vup fn3 1 (.int 0)) 3 (.int 0))), (ad7, ob 7 6 fn7)] H14 := hP14r
  have hD14 : va_D A [(ad4, arq (cy 6) 3 (va_up (va_up (va_up (fun _ => none) (0 : Int32).toNatClampNeg (some ad5)) (1 : Int32).toNatClampNeg (some ad6)) (2 : Int32).toNatClampNeg (some ad7))), (ad0, ob 11 15 (vup fn0 1 (.int 0))), (ad1, ari (cy 1) 2000 ct1), (ad2, ob 3 16 (vup (vup (vup (vup (vup (vup (vup (vup fn2 1 (.int 0)) 2 (.int 0)) 3 (.int 0)) 4 (.int 0)) 9 (.ref ad1)) 10 (.int 0)) 11 (.int 0)) 12 (.int 0))), (ad3, ob 6 7 (vup (vup fn3 1 (.int 0)) 3 (.int 0))), (ad7, ob 7 6 fn7)] := hD14r
  clear hP14r hD14r
  clear hP8 hD8 hS8
  clear H8 lo8
  refine lv_goto (pc := 183) (tgt := 198) hx hb dX11_ends_183 (by decide) ?_
  refine lv_aload_n (pc := 198) hx hb dX11_ends_198 rfl (lv_at hl5 1 rfl) ?_
  refine ob_get (pc := 199) (v := .ref ad3) (ci := 11) (C := RX11) (T := TX11) (N := 15) hx hb hG in_X11 hown hK hP14 1 rfl rfl 11 (by decide) (hG _ g_126) rfl h0_11 dX11_ends_199 ?_
  refine ob_getN (pc := 202) (v := .int 0) (ci := 6) (C := RX6) (T := TX6) (N := 7) hx hb hG in_X6 hown hK hP14 4 rfl rfl 1 (by decide) (nw_at hE n_21) rfl rfl dX11_ends_202 ?_
  have hP99 := hP14.sub (ws' := []) [] rfl
  have hD99 := hD14.sub (ws' := []) [] (by decide) rfl
  exact W.iret (pc := 205) (v := 0) hx hb hr (fun t ht hW => ⟨⟨0, (), rfl, rfl, _, rfl, by rw [ht]; exact hP99, hD99⟩, hS14.F ht⟩) hS14.2.2 dX11_ends_205
set_option maxHeartbeats 4000000 in
set_option maxRecDepth 100000 in
/-- X11_blame -/
theorem c_blame_0 (l : Launch) (D : va_G) (cy : Nat → ClassId) (kv : KV) (sz : Nat) (ad0 : Nat) (fn0 : Nat → Value) (ad1 : Nat) (fn1 : Nat → Value) (h0_9 : fn0 9 = .ref ad1) (h1_1 : fn1 1 = .int 0) (h1_4 : fn1 4 = .int 0) : Met l yX11_blame (Cond.code yX11_blame cX11_blame 2 (some .int) :: GW) ({ frames := 8, cells := 0, slots := 0, locals := 120 } : Room) (va_Pc [.ref ad0, .int 0] (pcq D cy kv sz [(ad0, ob 11 15 fn0), (ad1, ob 3 16 fn1)])) (va_Qi (fun r (_ : Unit) => r = 0) (fun _ t => bq D (fun w => w = [(ad0, ob 11 15 fn0), (ad1, ob 3 16 fn1)]) (va_A [(ad0, ob 11 15 fn0), (ad1, ob 3 16 fn1)] sz) t) (va_A [(ad0, ob 11 15 fn0), (ad1, ob 3 16 fn1)] sz)) 0 0 (va_A [(ad0, ob 11 15 fn0), (ad1, ob 3 16 fn1)] sz) := by
  refine Met.ofW (cc := cX11_blame) (maxL := 2) (ret := (some .int)) (by decide) rfl ?_
  intro p e s m args below meth c s₁ B hml hv
  obtain ⟨rfl, hsz, hP, hK, hD0, hE⟩ := hv
  have hx := B.exec
  have hb := B.bytes
  have hr := B.returns
  have hG : ∀ w ∈ GW, w.before ([.ref ad0, .int 0] : List Value).toArray s = true := fun w h => atoms_spec (ws := Cond.code yX11_blame cX11_blame 2 (some .int) :: GW) B.pre w (List.mem_cons_of_mem _ h)
  have hown : s.vm.findClass RX11 = some m.cls := findClass_of_methodNamed B.named
  have hlocks := B.notSynchronized
  subst hsz
  have hD := hD0.self (sz := s.heap.size)
  generalize hAe : va_A [(ad0, ob 11 15 fn0), (ad1, ob 3 16 fn1)] s.heap.size = A at hD hE ⊢
  have hA : ∀ q : Nat, s.heap.size ≤ q → A q := fun q h => by rw [← hAe]; exact Or.inr h
  have hS : va_S A s.heap s.heap [] := va_S.rf
  clear hAe hD0
  have hl0 := lv_entry ([.ref ad0, .int 0]) (n := 2) (Nat.le_of_ble_eq_true rfl)
  rw [lg_entry_eq]
  generalize (lg_sl ([.ref ad0, .int 0]) ++ List.replicate (2 - (lg_sl ([.ref ad0, .int 0])).length) Slot.unset).toArray = ls at hl0 ⊢
  have hl : lv_has ls 2 [(0, .ref ad0), (1, .int 0)] := hl0
  clear hl0
  refine lv_iload_n (pc := 0) hx hb dX11_blame_0 rfl (lv_at hl 1 rfl) ?_
  refine lv_if_ne (pc := 1) (tgt := 12) hx hb dX11_blame_1 (by decide) (fun c1 => absurd (by decide) c1) (fun c1 => ?_)
  refine lv_aload_n (pc := 4) hx hb dX11_blame_4 rfl (lv_at hl 0 rfl) ?_
  refine ob_get (pc := 5) (v := .ref ad1) (ci := 11) (C := RX11) (T := TX11) (N := 15) hx hb hG in_X11 hown hK hP 0 rfl rfl 9 (by decide) (hG _ g_116) rfl h0_9 dX11_blame_5 ?_
  refine ob_getN (pc := 8) (v := .int 0) (ci := 3) (C := RX3) (T := TX3) (N := 16) hx hb hG in_X3 hown hK hP 1 rfl rfl 4 (by decide) (nw_at hE n_17) rfl h1_4 dX11_blame_8 ?_
  exact W.iret (pc := 11) (v := 0) hx hb hr (fun t ht hW => ⟨⟨0, (), rfl, rfl, _, rfl, by rw [ht]; exact hP, hD⟩, hS.F ht⟩) hS.2.2 dX11_blame_11
set_option maxHeartbeats 4000000 in
set_option maxRecDepth 100000 in
/-- X11_blame -/
theorem c_blame_5 (l : Launch) (D : va_G) (cy : Nat → ClassId) (kv : KV) (sz : Nat) (ad0 : Nat) (fn0 : Nat → Value) (ad1 : Nat) (fn1 : Nat → Value) (h0_9 : fn0 9 = .ref ad1) (h1_1 : fn1 1 = .int 0) (h1_4 : fn1 4 = .int 0) : Met l yX11_blame (Cond.code yX11_blame cX11_blame 2 (some .int) :: GW) ({ frames := 8, cells := 0, slots := 0, locals := 120 } : Room) (va_Pc [.ref ad0, .int 5] (pcq D cy kv sz [(ad0, ob 11 15 fn0), (ad1, ob 3 16 fn1)])) (va_Qi (fun r (_ : Unit) => r = 0) (fun _ t => bq D (fun w => w = [(ad0, ob 11 15 fn0), (ad1, ob 3 16 fn1)]) (va_A [(ad0, ob 11 15 fn0), (ad1, ob 3 16 fn1)] sz) t) (va_A [(ad0, ob 11 15 fn0), (ad1, ob 3 16 fn1)] sz)) 0 0 (va_A [(ad0, ob 11 15 fn0), (ad1, ob 3 16 fn1)] sz) := by
  refine Met.ofW (cc := cX11_blame) (maxL := 2) (ret := (some .int)) (by decide) rfl ?_
  intro p e s m args below meth c s₁ B hml hv
  obtain ⟨rfl, hsz, hP, hK, hD0, hE⟩ := hv
  have hx := B.exec
  have hb := B.bytes
  have hr := B.returns
  have hG : ∀ w ∈ GW, w.before ([.ref ad0, .int 5] : List Value).toArray s = true := fun w h => atoms_spec (ws := Cond.code yX11_blame cX11_blame 2 (some .int) :: GW) B.pre w (List.mem_cons_of_mem _ h)
  have hown : s.vm.findClass RX11 = some m.cls := findClass_of_methodNamed B.named
  have hlocks := B.notSynchronized
  subst hsz
  have hD := hD0.self (sz := s.heap.size)
  generalize hAe : va_A [(ad0, ob 11 15 fn0), (ad1, ob 3 16 fn1)] s.heap.size = A at hD hE ⊢
  have hA : ∀ q : Nat, s.heap.size ≤ q → A q := fun q h => by rw [← hAe]; exact Or.inr h
  have hS : va_S A s.heap s.heap [] := va_S.rf
  clear hAe hD0
  have hl0 := lv_entry ([.ref ad0, .int 5]) (n := 2) (Nat.le_of_ble_eq_true rfl)
  rw [lg_entry_eq]
  generalize (lg_sl ([.ref ad0, .int 5]) ++ List.replicate (2 - (lg_sl ([.ref ad0, .int 5])).length) Slot.unset).toArray = ls at hl0 ⊢
  have hl : lv_has ls 2 [(0, .ref ad0), (1, .int 5)] := hl0
  clear hl0
  refine lv_iload_n (pc := 0) hx hb dX11_blame_0 rfl (lv_at hl 1 rfl) ?_
  refine lv_if_ne (pc := 1) (tgt := 12) hx hb dX11_blame_1 (by decide) (fun c1 => ?_) (fun c1 => absurd c1 (by decide))
  refine lv_iload_n (pc := 12) hx hb dX11_blame_12 rfl (lv_at hl 1 rfl) ?_
  refine lv_iconst (pc := 13) (v := 5) hx hb dX11_blame_13 (by decide) ?_
  refine lv_icmp_ne (pc := 14) (tgt := 25) hx hb dX11_blame_14 (by decide) (fun c2 => absurd (by decide) c2) (fun c2 => ?_)
  refine lv_aload_n (pc := 17) hx hb dX11_blame_17 rfl (lv_at hl 0 rfl) ?_
  refine ob_get (pc := 18) (v := .ref ad1) (ci := 11) (C := RX11) (T := TX11) (N := 15) hx hb hG in_X11 hown hK hP 0 rfl rfl 9 (by decide) (hG _ g_116) rfl h0_9 dX11_blame_18 ?_
  refine ob_getN (pc := 21) (v := .int 0) (ci := 3) (C := RX3) (T := TX3) (N := 16) hx hb hG in_X3 hown hK hP 1 rfl rfl 1 (by decide) (nw_at hE n_18) rfl h1_1 dX11_blame_21 ?_
  exact W.iret (pc := 24) (v := 0) hx hb hr (fun t ht hW => ⟨⟨0, (), rfl, rfl, _, rfl, by rw [ht]; exact hP, hD⟩, hS.F ht⟩) hS.2.2 dX11_blame_24
set_option maxHeartbeats 4000000 in
set_option maxRecDepth 100000 in
/-- X11_blame -/
theorem c_blame_1 (l : Launch) (D : va_G) (cy : Nat → ClassId) (kv : KV) (sz : Nat) (ad0 : Nat) (fn0 : Nat → Value) (ad1 : Nat) (fn1 : Nat → Value) (h0_9 : fn0 9 = .ref ad1) (h1_1 : fn1 1 = .int 0) (h1_4 : fn1 4 = .int 0) : Met l yX11_blame (Cond.code yX11_blame cX11_blame 2 (some .int) :: GW) ({ frames := 8, cells := 0, slots := 0, locals := 120 } : Room) (va_Pc [.ref ad0, .int 1] (pcq D cy kv sz [(ad0, ob 11 15 fn0), (ad1, ob 3 16 fn1)])) (va_Qi (fun r (_ : Unit) => r = (-1)) (fun _ t => bq D (fun w => w = [(ad0, ob 11 15 fn0), (ad1, ob 3 16 fn1)]) (va_A [(ad0, ob 11 15 fn0), (ad1, ob 3 16 fn1)] sz) t) (va_A [(ad0, ob 11 15 fn0), (ad1, ob 3 16 fn1)] sz)) 0 0 (va_A [(ad0, ob 11 15 fn0), (ad1, ob 3 16 fn1)] sz) := by
  refine Met.ofW (cc := cX11_blame) (maxL := 2) (ret := (some .int)) (by decide) rfl ?_
  intro p e s m args below meth c s₁ B hml hv
  obtain ⟨rfl, hsz, hP, hK, hD0, hE⟩ := hv
  have hx := B.exec
  have hb := B.bytes
  have hr := B.returns
  have hG : ∀ w ∈ GW, w.before ([.ref ad0, .int 1] : List Value).toArray s = true := fun w h => atoms_spec (ws := Cond.code yX11_blame cX11_blame 2 (some .int) :: GW) B.pre w (List.mem_cons_of_mem _ h)
  have hown : s.vm.findClass RX11 = some m.cls := findClass_of_methodNamed B.named
  have hlocks := B.notSynchronized
  subst hsz
  have hD := hD0.self (sz := s.heap.size)
  generalize hAe : va_A [(ad0, ob 11 15 fn0), (ad1, ob 3 16 fn1)] s.heap.size = A at hD hE ⊢
  have hA : ∀ q : Nat, s.heap.size ≤ q → A q := fun q h => by rw [← hAe]; exact Or.inr h
  have hS : va_S A s.heap s.heap [] := va_S.rf
  clear hAe hD0
  have hl0 := lv_entry ([.ref ad0, .int 1]) (n := 2) (Nat.le_of_ble_eq_true rfl)
  rw [lg_entry_eq]
  generalize (lg_sl ([.ref ad0, .int 1]) ++ List.replicate (2 - (lg_sl ([.ref ad0, .int 1])).length) Slot.unset).toArray = ls at hl0 ⊢
  have hl : lv_has ls 2 [(0, .ref ad0), (1, .int 1)] := hl0
  clear hl0
  refine lv_iload_n (pc := 0) hx hb dX11_blame_0 rfl (lv_at hl 1 rfl) ?_
  refine lv_if_ne (pc := 1) (tgt := 12) hx hb dX11_blame_1 (by decide) (fun c1 => ?_) (fun c1 => absurd c1 (by decide))
  refine lv_iload_n (pc := 12) hx hb dX11_blame_12 rfl (lv_at hl 1 rfl) ?_
  refine lv_iconst (pc := 13) (v := 5) hx hb dX11_blame_13 (by decide) ?_
  refine lv_icmp_ne (pc := 14) (tgt := 25) hx hb dX11_blame_14 (by decide) (fun c2 => ?_) (fun c2 => absurd c2 (by decide))
  refine lv_aload_n (pc := 25) hx hb dX11_blame_25 rfl (lv_at hl 0 rfl) ?_
  refine ob_get (pc := 26) (v := .ref ad1) (ci := 11) (C := RX11) (T := TX11) (N := 15) hx hb hG in_X11 hown hK hP 0 rfl rfl 9 (by decide) (hG _ g_116) rfl h0_9 dX11_blame_26 ?_
  refine ob_getN (pc := 29) (v := .int 0) (ci := 3) (C := RX3) (T := TX3) (N := 16) hx hb hG in_X3 hown hK hP 1 rfl rfl 4 (by decide) (nw_at hE n_17) rfl h1_4 dX11_blame_29 ?_
  refine lv_if_ne (pc := 32) (tgt := 37) hx hb dX11_blame_32 (by decide) (fun c3 => absurd (by decide) c3) (fun c3 => ?_)
  refine lv_iconst (pc := 35) (v := (-1)) hx hb dX11_blame_35 (by decide) ?_
  exact W.iret (pc := 36) (v := (-1)) hx hb hr (fun t ht hW => ⟨⟨(-1), (), rfl, rfl, _, rfl, by rw [ht]; exact hP, hD⟩, hS.F ht⟩) hS.2.2 dX11_blame_36
set_option maxHeartbeats 4000000 in
set_option maxRecDepth 100000 in
/-- X11_blame -/
theorem c_blame_2 (l : Launch) (D : va_G) (cy : Nat → ClassId) (kv : KV) (sz : Nat) (ad0 : Nat) (fn0 : Nat → Value) (ad1 : Nat) (fn1 : Nat → Value) (h0_9 : fn0 9 = .ref ad1) (h1_1 : fn1 1 = .int 0) (h1_4 : fn1 4 = .int 0) : Met l yX11_blame (Cond.code yX11_blame cX11_blame 2 (some .int) :: GW) ({ frames := 8, cells := 0, slots := 0, locals := 120 } : Room) (va_Pc [.ref ad0, .int 2] (pcq D cy kv sz [(ad0, ob 11 15 fn0), (ad1, ob 3 16 fn1)])) (va_Qi (fun r (_ : Unit) => r = (-1)) (fun _ t => bq D (fun w => w = [(ad0, ob 11 15 fn0), (ad1, ob 3 16 fn1)]) (va_A [(ad0, ob 11 15 fn0), (ad1, ob 3 16 fn1)] sz) t) (va_A [(ad0, ob 11 15 fn0), (ad1, ob 3 16 fn1)] sz)) 0 0 (va_A [(ad0, ob 11 15 fn0), (ad1, ob 3 16 fn1)] sz) := by
  refine Met.ofW (cc := cX11_blame) (maxL := 2) (ret := (some .int)) (by decide) rfl ?_
  intro p e s m args below meth c s₁ B hml hv
  obtain ⟨rfl, hsz, hP, hK, hD0, hE⟩ := hv
  have hx := B.exec
  have hb := B.bytes
  have hr := B.returns
  have hG : ∀ w ∈ GW, w.before ([.ref ad0, .int 2] : List Value).toArray s = true := fun w h => atoms_spec (ws := Cond.code yX11_blame cX11_blame 2 (some .int) :: GW) B.pre w (List.mem_cons_of_mem _ h)
  have hown : s.vm.findClass RX11 = some m.cls := findClass_of_methodNamed B.named
  have hlocks := B.notSynchronized
  subst hsz
  have hD := hD0.self (sz := s.heap.size)
  generalize hAe : va_A [(ad0, ob 11 15 fn0), (ad1, ob 3 16 fn1)] s.heap.size = A at hD hE ⊢
  have hA : ∀ q : Nat, s.heap.size ≤ q → A q := fun q h => by rw [← hAe]; exact Or.inr h
  have hS : va_S A s.heap s.heap [] := va_S.rf
  clear hAe hD0
  have hl0 := lv_entry ([.ref ad0, .int 2]) (n := 2) (Nat.le_of_ble_eq_true rfl)
  rw [lg_entry_eq]
  generalize (lg_sl ([.ref ad0, .int 2]) ++ List.replicate (2 - (lg_sl ([.ref ad0, .int 2])).length) Slot.unset).toArray = ls at hl0 ⊢
  have hl : lv_has ls 2 [(0, .ref ad0), (1, .int 2)] := hl0
  clear hl0
  refine lv_iload_n (pc := 0) hx hb dX11_blame_0 rfl (lv_at hl 1 rfl) ?_
  refine lv_if_ne (pc := 1) (tgt := 12) hx hb dX11_blame_1 (by decide) (fun c1 => ?_) (fun c1 => absurd c1 (by decide))
  refine lv_iload_n (pc := 12) hx hb dX11_blame_12 rfl (lv_at hl 1 rfl) ?_
  refine lv_iconst (pc := 13) (v := 5) hx hb dX11_blame_13 (by decide) ?_
  refine lv_icmp_ne (pc := 14) (tgt := 25) hx hb dX11_blame_14 (by decide) (fun c2 => ?_) (fun c2 => absurd c2 (by decide))
  refine lv_aload_n (pc := 25) hx hb dX11_blame_25 rfl (lv_at hl 0 rfl) ?_
  refine ob_get (pc := 26) (v := .ref ad1) (ci := 11) (C := RX11) (T := TX11) (N := 15) hx hb hG in_X11 hown hK hP 0 rfl rfl 9 (by decide) (hG _ g_116) rfl h0_9 dX11_blame_26 ?_
  refine ob_getN (pc := 29) (v := .int 0) (ci := 3) (C := RX3) (T := TX3) (N := 16) hx hb hG in_X3 hown hK hP 1 rfl rfl 4 (by decide) (nw_at hE n_17) rfl h1_4 dX11_blame_29 ?_
  refine lv_if_ne (pc := 32) (tgt := 37) hx hb dX11_blame_32 (by decide) (fun c3 => absurd (by decide) c3) (fun c3 => ?_)
  refine lv_iconst (pc := 35) (v := (-1)) hx hb dX11_blame_35 (by decide) ?_
  exact W.iret (pc := 36) (v := (-1)) hx hb hr (fun t ht hW => ⟨⟨(-1), (), rfl, rfl, _, rfl, by rw [ht]; exact hP, hD⟩, hS.F ht⟩) hS.2.2 dX11_blame_36
set_option maxHeartbeats 4000000 in
set_option maxRecDepth 100000 in
/-- X11_blame -/
theorem c_blame_3 (l : Launch) (D : va_G) (cy : Nat → ClassId) (kv : KV) (sz : Nat) (ad0 : Nat) (fn0 : Nat → Value) (ad1 : Nat) (fn1 : Nat → Value) (h0_9 : fn0 9 = .ref ad1) (h1_1 : fn1 1 = .int 0) (h1_4 : fn1 4 = .int 0) : Met l yX11_blame (Cond.code yX11_blame cX11_blame 2 (some .int) :: GW) ({ frames := 8, cells := 0, slots := 0, locals := 120 } : Room) (va_Pc [.ref ad0, .int 3] (pcq D cy kv sz [(ad0, ob 11 15 fn0), (ad1, ob 3 16 fn1)])) (va_Qi (fun r (_ : Unit) => r = (-1)) (fun _ t => bq D (fun w => w = [(ad0, ob 11 15 fn0), (ad1, ob 3 16 fn1)]) (va_A [(ad0, ob 11 15 fn0), (ad1, ob 3 16 fn1)] sz) t) (va_A [(ad0, ob 11 15 fn0), (ad1, ob 3 16 fn1)] sz)) 0 0 (va_A [(ad0, ob 11 15 fn0), (ad1, ob 3 16 fn1)] sz) := by
  refine Met.ofW (cc := cX11_blame) (maxL := 2) (ret := (some .int)) (by decide) rfl ?_
  intro p e s m args below meth c s₁ B hml hv
  obtain ⟨rfl, hsz, hP, hK, hD0, hE⟩ := hv
  have hx := B.exec
  have hb := B.bytes
  have hr := B.returns
  have hG : ∀ w ∈ GW, w.before ([.ref ad0, .int 3] : List Value).toArray s = true := fun w h => atoms_spec (ws := Cond.code yX11_blame cX11_blame 2 (some .int) :: GW) B.pre w (List.mem_cons_of_mem _ h)
  have hown : s.vm.findClass RX11 = some m.cls := findClass_of_methodNamed B.named
  have hlocks := B.notSynchronized
  subst hsz
  have hD := hD0.self (sz := s.heap.size)
  generalize hAe : va_A [(ad0, ob 11 15 fn0), (ad1, ob 3 16 fn1)] s.heap.size = A at hD hE ⊢
  have hA : ∀ q : Nat, s.heap.size ≤ q → A q := fun q h => by rw [← hAe]; exact Or.inr h
  have hS : va_S A s.heap s.heap [] := va_S.rf
  clear hAe hD0
  have hl0 := lv_entry ([.ref ad0, .int 3]) (n := 2) (Nat.le_of_ble_eq_true rfl)
  rw [lg_entry_eq]
  generalize (lg_sl ([.ref ad0, .int 3]) ++ List.replicate (2 - (lg_sl ([.ref ad0, .int 3])).length) Slot.unset).toArray = ls at hl0 ⊢
  have hl : lv_has ls 2 [(0, .ref ad0), (1, .int 3)] := hl0
  clear hl0
  refine lv_iload_n (pc := 0) hx hb dX11_blame_0 rfl (lv_at hl 1 rfl) ?_
  refine lv_if_ne (pc := 1) (tgt := 12) hx hb dX11_blame_1 (by decide) (fun c1 => ?_) (fun c1 => absurd c1 (by decide))
  refine lv_iload_n (pc := 12) hx hb dX11_blame_12 rfl (lv_at hl 1 rfl) ?_
  refine lv_iconst (pc := 13) (v := 5) hx hb dX11_blame_13 (by decide) ?_
  refine lv_icmp_ne (pc := 14) (tgt := 25) hx hb dX11_blame_14 (by decide) (fun c2 => ?_) (fun c2 => absurd c2 (by decide))
  refine lv_aload_n (pc := 25) hx hb dX11_blame_25 rfl (lv_at hl 0 rfl) ?_
  refine ob_get (pc := 26) (v := .ref ad1) (ci := 11) (C := RX11) (T := TX11) (N := 15) hx hb hG in_X11 hown hK hP 0 rfl rfl 9 (by decide) (hG _ g_116) rfl h0_9 dX11_blame_26 ?_
  refine ob_getN (pc := 29) (v := .int 0) (ci := 3) (C := RX3) (T := TX3) (N := 16) hx hb hG in_X3 hown hK hP 1 rfl rfl 4 (by decide) (nw_at hE n_17) rfl h1_4 dX11_blame_29 ?_
  refine lv_if_ne (pc := 32) (tgt := 37) hx hb dX11_blame_32 (by decide) (fun c3 => absurd (by decide) c3) (fun c3 => ?_)
  refine lv_iconst (pc := 35) (v := (-1)) hx hb dX11_blame_35 (by decide) ?_
  exact W.iret (pc := 36) (v := (-1)) hx hb hr (fun t ht hW => ⟨⟨(-1), (), rfl, rfl, _, rfl, by rw [ht]; exact hP, hD⟩, hS.F ht⟩) hS.2.2 dX11_blame_36
set_option maxHeartbeats 4000000 in
set_option maxRecDepth 100000 in
/-- X11_blame -/
theorem c_blame_4 (l : Launch) (D : va_G) (cy : Nat → ClassId) (kv : KV) (sz : Nat) (ad0 : Nat) (fn0 : Nat → Value) (ad1 : Nat) (fn1 : Nat → Value) (h0_9 : fn0 9 = .ref ad1) (h1_1 : fn1 1 = .int 0) (h1_4 : fn1 4 = .int 0) : Met l yX11_blame (Cond.code yX11_blame cX11_blame 2 (some .int) :: GW) ({ frames := 8, cells := 0, slots := 0, locals := 120 } : Room) (va_Pc [.ref ad0, .int 4] (pcq D cy kv sz [(ad0, ob 11 15 fn0), (ad1, ob 3 16 fn1)])) (va_Qi (fun r (_ : Unit) => r = (-1)) (fun _ t => bq D (fun w => w = [(ad0, ob 11 15 fn0), (ad1, ob 3 16 fn1)]) (va_A [(ad0, ob 11 15 fn0), (ad1, ob 3 16 fn1)] sz) t) (va_A [(ad0, ob 11 15 fn0), (ad1, ob 3 16 fn1)] sz)) 0 0 (va_A [(ad0, ob 11 15 fn0), (ad1, ob 3 16 fn1)] sz) := by
  refine Met.ofW (cc := cX11_blame) (maxL := 2) (ret := (some .int)) (by decide) rfl ?_
  intro p e s m args below meth c s₁ B hml hv
  obtain ⟨rfl, hsz, hP, hK, hD0, hE⟩ := hv
  have hx := B.exec
  have hb := B.bytes
  have hr := B.returns
  have hG : ∀ w ∈ GW, w.before ([.ref ad0, .int 4] : List Value).toArray s = true := fun w h => atoms_spec (ws := Cond.code yX11_blame cX11_blame 2 (some .int) :: GW) B.pre w (List.mem_cons_of_mem _ h)
  have hown : s.vm.findClass RX11 = some m.cls := findClass_of_methodNamed B.named
  have hlocks := B.notSynchronized
  subst hsz
  have hD := hD0.self (sz := s.heap.size)
  generalize hAe : va_A [(ad0, ob 11 15 fn0), (ad1, ob 3 16 fn1)] s.heap.size = A at hD hE ⊢
  have hA : ∀ q : Nat, s.heap.size ≤ q → A q := fun q h => by rw [← hAe]; exact Or.inr h
  have hS : va_S A s.heap s.heap [] := va_S.rf
  clear hAe hD0
  have hl0 := lv_entry ([.ref ad0, .int 4]) (n := 2) (Nat.le_of_ble_eq_true rfl)
  rw [lg_entry_eq]
  generalize (lg_sl ([.ref ad0, .int 4]) ++ List.replicate (2 - (lg_sl ([.ref ad0, .int 4])).length) Slot.unset).toArray = ls at hl0 ⊢
  have hl : lv_has ls 2 [(0, .ref ad0), (1, .int 4)] := hl0
  clear hl0
  refine lv_iload_n (pc := 0) hx hb dX11_blame_0 rfl (lv_at hl 1 rfl) ?_
  refine lv_if_ne (pc := 1) (tgt := 12) hx hb dX11_blame_1 (by decide) (fun c1 => ?_) (fun c1 => absurd c1 (by decide))
  refine lv_iload_n (pc := 12) hx hb dX11_blame_12 rfl (lv_at hl 1 rfl) ?_
  refine lv_iconst (pc := 13) (v := 5) hx hb dX11_blame_13 (by decide) ?_
  refine lv_icmp_ne (pc := 14) (tgt := 25) hx hb dX11_blame_14 (by decide) (fun c2 => ?_) (fun c2 => absurd c2 (by decide))
  refine lv_aload_n (pc := 25) hx hb dX11_blame_25 rfl (lv_at hl 0 rfl) ?_
  refine ob_get (pc := 26) (v := .ref ad1) (ci := 11) (C := RX11) (T := TX11) (N := 15) hx hb hG in_X11 hown hK hP 0 rfl rfl 9 (by decide) (hG _ g_116) rfl h0_9 dX11_blame_26 ?_
  refine ob_getN (pc := 29) (v := .int 0) (ci := 3) (C := RX3) (T := TX3) (N := 16) hx hb hG in_X3 hown hK hP 1 rfl rfl 4 (by decide) (nw_at hE n_17) rfl h1_4 dX11_blame_29 ?_
  refine lv_if_ne (pc := 32) (tgt := 37) hx hb dX11_blame_32 (by decide) (fun c3 => absurd (by decide) c3) (fun c3 => ?_)
  refine lv_iconst (pc := 35) (v := (-1)) hx hb dX11_blame_35 (by decide) ?_
  exact W.iret (pc := 36) (v := (-1)) hx hb hr (fun t ht hW => ⟨⟨(-1), (), rfl, rfl, _, rfl, by rw [ht]; exact hP, hD⟩, hS.F ht⟩) hS.2.2 dX11_blame_36
set_option maxHeartbeats 4000000 in
set_option maxRecDepth 100000 in
/-- X11_blame -/
theorem c_blame_o (l : Launch) (D : va_G) (cy : Nat → ClassId) (kv : KV) (sz : Nat) (ad0 : Nat) (xi0 : Int32) (fn0 : Nat → Value) (ad1 : Nat) (fn1 : Nat → Value) (h0_9 : fn0 9 = .ref ad1) (h1_1 : fn1 1 = .int 0) (h1_4 : fn1 4 = .int 0) (hn : ¬ xi0 = 0) (hm : ¬ xi0 = 5) : Met l yX11_blame (Cond.code yX11_blame cX11_blame 2 (some .int) :: GW) ({ frames := 8, cells := 0, slots := 0, locals := 120 } : Room) (va_Pc [.ref ad0, .int xi0] (pcq D cy kv sz [(ad0, ob 11 15 fn0), (ad1, ob 3 16 fn1)])) (va_Qi (fun r (_ : Unit) => r = (-1)) (fun _ t => bq D (fun w => w = [(ad0, ob 11 15 fn0), (ad1, ob 3 16 fn1)]) (va_A [(ad0, ob 11 15 fn0), (ad1, ob 3 16 fn1)] sz) t) (va_A [(ad0, ob 11 15 fn0), (ad1, ob 3 16 fn1)] sz)) 0 0 (va_A [(ad0, ob 11 15 fn0), (ad1, ob 3 16 fn1)] sz) := by
  refine Met.ofW (cc := cX11_blame) (maxL := 2) (ret := (some .int)) (by decide) rfl ?_
  intro p e s m args below meth c s₁ B hml hv
  obtain ⟨rfl, hsz, hP, hK, hD0, hE⟩ := hv
  have hx := B.exec
  have hb := B.bytes
  have hr := B.returns
  have hG : ∀ w ∈ GW, w.before ([.ref ad0, .int xi0] : List Value).toArray s = true := fun w h => atoms_spec (ws := Cond.code yX11_blame cX11_blame 2 (some .int) :: GW) B.pre w (List.mem_cons_of_mem _ h)
  have hown : s.vm.findClass RX11 = some m.cls := findClass_of_methodNamed B.named
  have hlocks := B.notSynchronized
  subst hsz
  have hD := hD0.self (sz := s.heap.size)
  generalize hAe : va_A [(ad0, ob 11 15 fn0), (ad1, ob 3 16 fn1)] s.heap.size = A at hD hE ⊢
  have hA : ∀ q : Nat, s.heap.size ≤ q → A q := fun q h => by rw [← hAe]; exact Or.inr h
  have hS : va_S A s.heap s.heap [] := va_S.rf
  clear hAe hD0
  have hl0 := lv_entry ([.ref ad0, .int xi0]) (n := 2) (Nat.le_of_ble_eq_true rfl)
  rw [lg_entry_eq]
  generalize (lg_sl ([.ref ad0, .int xi0]) ++ List.replicate (2 - (lg_sl ([.ref ad0, .int xi0])).length) Slot.unset).toArray = ls at hl0 ⊢
  have hl : lv_has ls 2 [(0, .ref ad0), (1, .int xi0)] := hl0
  clear hl0
  refine lv_iload_n (pc := 0) hx hb dX11_blame_0 rfl (lv_at hl 1 rfl) ?_
  refine lv_if_ne (pc := 1) (tgt := 12) hx hb dX11_blame_1 (by decide) (fun c1 => ?_) (fun c1 => absurd c1 hn)
  refine lv_iload_n (pc := 12) hx hb dX11_blame_12 rfl (lv_at hl 1 rfl) ?_
  refine lv_iconst (pc := 13) (v := 5) hx hb dX11_blame_13 (by decide) ?_
  refine lv_icmp_ne (pc := 14) (tgt := 25) hx hb dX11_blame_14 (by decide) (fun c2 => ?_) (fun c2 => absurd c2 hm)
  refine lv_aload_n (pc := 25) hx hb dX11_blame_25 rfl (lv_at hl 0 rfl) ?_
  refine ob_get (pc := 26) (v := .ref ad1) (ci := 11) (C := RX11) (T := TX11) (N := 15) hx hb hG in_X11 hown hK hP 0 rfl rfl 9 (by decide) (hG _ g_116) rfl h0_9 dX11_blame_26 ?_
  refine ob_getN (pc := 29) (v := .int 0) (ci := 3) (C := RX3) (T := TX3) (N := 16) hx hb hG in_X3 hown hK hP 1 rfl rfl 4 (by decide) (nw_at hE n_17) rfl h1_4 dX11_blame_29 ?_
  refine lv_if_ne (pc := 32) (tgt := 37) hx hb dX11_blame_32 (by decide) (fun c3 => absurd (by decide) c3) (fun c3 => ?_)
  refine lv_iconst (pc := 35) (v := (-1)) hx hb dX11_blame_35 (by decide) ?_
  exact W.iret (pc := 36) (v := (-1)) hx hb hr (fun t ht hW => ⟨⟨(-1), (), rfl, rfl, _, rfl, by rw [ht]; exact hP, hD⟩, hS.F ht⟩) hS.2.2 dX11_blame_36
set_option maxHeartbeats 4000000 in
set_option maxRecDepth 100000 in
/-- X11_word -/
theorem c_word_n (l : Launch) (D : va_G) (cy : Nat → ClassId) (kv : KV) (sz : Nat) (ad0 : Nat) (xi0 : Int32) (xi1 : Int32) (fn0 : Nat → Value) (ad1 : Nat) (fn1 : Nat → Value) (h0_9 : fn0 9 = .ref ad1) (h1_1 : fn1 1 = .int 0) (hn : xi0 < 0) : Met l yX11_word (Cond.code yX11_word cX11_word 3 (some .int) :: GW) ({ frames := 8, cells := 0, slots := 0, locals := 120 } : Room) (va_Pc [.ref ad0, .int xi0, .int xi1] (pcq D cy kv sz [(ad0, ob 11 15 fn0), (ad1, ob 3 16 fn1)])) (va_Qi (fun r (_ : Unit) => r = (-1)) (fun _ t => bq D (fun w => w = [(ad0, ob 11 15 fn0), (ad1, ob 3 16 fn1)]) (va_A [(ad0, ob 11 15 fn0), (ad1, ob 3 16 fn1)] sz) t) (va_A [(ad0, ob 11 15 fn0), (ad1, ob 3 16 fn1)] sz)) 0 0 (va_A [(ad0, ob 11 15 fn0), (ad1, ob 3 16 fn1)] sz) := by
  refine Met.ofW (cc := cX11_word) (maxL := 3) (ret := (some .int)) (by decide) rfl ?_
  intro p e s m args below meth c s₁ B hml hv
  obtain ⟨rfl, hsz, hP, hK, hD0, hE⟩ := hv
  have hx := B.exec
  have hb := B.bytes
  have hr := B.returns
  have hG : ∀ w ∈ GW, w.before ([.ref ad0, .int xi0, .int xi1] : List Value).toArray s = true := fun w h => atoms_spec (ws := Cond.code yX11_word cX11_word 3 (some .int) :: GW) B.pre w (List.mem_cons_of_mem _ h)
  have hown : s.vm.findClass RX11 = some m.cls := findClass_of_methodNamed B.named
  have hlocks := B.notSynchronized
  subst hsz
  have hD := hD0.self (sz := s.heap.size)
  generalize hAe : va_A [(ad0, ob 11 15 fn0), (ad1, ob 3 16 fn1)] s.heap.size = A at hD hE ⊢
  have hA : ∀ q : Nat, s.heap.size ≤ q → A q := fun q h => by rw [← hAe]; exact Or.inr h
  have hS : va_S A s.heap s.heap [] := va_S.rf
  clear hAe hD0
  have hl0 := lv_entry ([.ref ad0, .int xi0, .int xi1]) (n := 3) (Nat.le_of_ble_eq_true rfl)
  rw [lg_entry_eq]
  generalize (lg_sl ([.ref ad0, .int xi0, .int xi1]) ++ List.replicate (3 - (lg_sl ([.ref ad0, .int xi0, .int xi1])).length) Slot.unset).toArray = ls at hl0 ⊢
  have hl : lv_has ls 3 [(0, .ref ad0), (1, .int xi0), (2, .int xi1)] := hl0
  clear hl0
  refine lv_iload_n (pc := 0) hx hb dX11_word_0 rfl (lv_at hl 1 rfl) ?_
  refine lv_if_lt (pc := 1) (tgt := 27) hx hb dX11_word_1 (by decide) (fun c1 => ?_) (fun c1 => absurd hn c1)
  refine lv_iconst (pc := 27) (v := (-1)) hx hb dX11_word_27 (by decide) ?_
  exact W.iret (pc := 28) (v := (-1)) hx hb hr (fun t ht hW => ⟨⟨(-1), (), rfl, rfl, _, rfl, by rw [ht]; exact hP, hD⟩, hS.F ht⟩) hS.2.2 dX11_word_28
set_option maxHeartbeats 4000000 in
set_option maxRecDepth 100000 in
/-- X11_word -/
theorem c_word_p (l : Launch) (D : va_G) (cy : Nat → ClassId) (kv : KV) (sz : Nat) (ad0 : Nat) (xi0 : Int32) (xi1 : Int32) (fn0 : Nat → Value) (ad1 : Nat) (fn1 : Nat → Value) (h0_9 : fn0 9 = .ref ad1) (h1_1 : fn1 1 = .int 0) (hn : 0 ≤ xi0) : Met l yX11_word (Cond.code yX11_word cX11_word 3 (some .int) :: GW) ({ frames := 8, cells := 0, slots := 0, locals := 120 } : Room) (va_Pc [.ref ad0, .int xi0, .int xi1] (pcq D cy kv sz [(ad0, ob 11 15 fn0), (ad1, ob 3 16 fn1)])) (va_Qi (fun r (_ : Unit) => r = (-1)) (fun _ t => bq D (fun w => w = [(ad0, ob 11 15 fn0), (ad1, ob 3 16 fn1)]) (va_A [(ad0, ob 11 15 fn0), (ad1, ob 3 16 fn1)] sz) t) (va_A [(ad0, ob 11 15 fn0), (ad1, ob 3 16 fn1)] sz)) 0 0 (va_A [(ad0, ob 11 15 fn0), (ad1, ob 3 16 fn1)] sz) := by
  refine Met.ofW (cc := cX11_word) (maxL := 3) (ret := (some .int)) (by decide) rfl ?_
  intro p e s m args below meth c s₁ B hml hv
  obtain ⟨rfl, hsz, hP, hK, hD0, hE⟩ := hv
  have hx := B.exec
  have hb := B.bytes
  have hr := B.returns
  have hG : ∀ w ∈ GW, w.before ([.ref ad0, .int xi0, .int xi1] : List Value).toArray s = true := fun w h => atoms_spec (ws := Cond.code yX11_word cX11_word 3 (some .int) :: GW) B.pre w (List.mem_cons_of_mem _ h)
  have hown : s.vm.findClass RX11 = some m.cls := findClass_of_methodNamed B.named
  have hlocks := B.notSynchronized
  subst hsz
  have hD := hD0.self (sz := s.heap.size)
  generalize hAe : va_A [(ad0, ob 11 15 fn0), (ad1, ob 3 16 fn1)] s.heap.size = A at hD hE ⊢
  have hA : ∀ q : Nat, s.heap.size ≤ q → A q := fun q h => by rw [← hAe]; exact Or.inr h
  have hS : va_S A s.heap s.heap [] := va_S.rf
  clear hAe hD0
  have hl0 := lv_entry ([.ref ad0, .int xi0, .int xi1]) (n := 3) (Nat.le_of_ble_eq_true rfl)
  rw [lg_entry_eq]
  generalize (lg_sl ([.ref ad0, .int xi0, .int xi1]) ++ List.replicate (3 - (lg_sl ([.ref ad0, .int xi0, .int xi1])).length) Slot.unset).toArray = ls at hl0 ⊢
  have hl : lv_has ls 3 [(0, .ref ad0), (1, .int xi0), (2, .int xi1)] := hl0
  clear hl0
  refine lv_iload_n (pc := 0) hx hb dX11_word_0 rfl (lv_at hl 1 rfl) ?_
  refine lv_if_lt (pc := 1) (tgt := 27) hx hb dX11_word_1 (by decide) (fun c1 => absurd c1 (i_nlt hn)) (fun c1 => ?_)
  refine lv_iload_n (pc := 4) hx hb dX11_word_4 rfl (lv_at hl 1 rfl) ?_
  refine lv_aload_n (pc := 5) hx hb dX11_word_5 rfl (lv_at hl 0 rfl) ?_
  refine ob_get (pc := 6) (v := .ref ad1) (ci := 11) (C := RX11) (T := TX11) (N := 15) hx hb hG in_X11 hown hK hP 0 rfl rfl 9 (by decide) (hG _ g_116) rfl h0_9 dX11_word_6 ?_
  refine ob_getN (pc := 9) (v := .int 0) (ci := 3) (C := RX3) (T := TX3) (N := 16) hx hb hG in_X3 hown hK hP 1 rfl rfl 1 (by decide) (nw_at hE n_18) rfl h1_1 dX11_word_9 ?_
  refine lv_icmp_ge (pc := 12) (tgt := 27) hx hb dX11_word_12 (by decide) (fun c2 => ?_) (fun c2 => absurd hn c2)
  refine lv_iconst (pc := 27) (v := (-1)) hx hb dX11_word_27 (by decide) ?_
  exact W.iret (pc := 28) (v := (-1)) hx hb hr (fun t ht hW => ⟨⟨(-1), (), rfl, rfl, _, rfl, by rw [ht]; exact hP, hD⟩, hS.F ht⟩) hS.2.2 dX11_word_28
set_option maxHeartbeats 4000000 in
set_option maxRecDepth 100000 in
/-- J5_length_8abf5 -/
theorem c_ASBlen (l : Launch) (D : va_G) (cy : Nat → ClassId) (kv : KV) (sz : Nat) (ad0 : Nat) (fn0 : Nat → Value) (h0_3 : fn0 3 = .int 0) : Met l yJ5_length_8abf5 (Cond.code yJ5_length_8abf5 cJ5_length_8abf5 1 (some .int) :: GW) ({ frames := 8, cells := 0, slots := 0, locals := 120 } : Room) (va_Pc [.ref ad0] (pcq D cy kv sz [(ad0, ob 13 4 fn0)])) (va_Qi (fun r (_ : Unit) => r = 0) (fun _ t => bq D (fun w => w = [(ad0, ob 13 4 fn0)]) (va_A [(ad0, ob 13 4 fn0)] sz) t) (va_A [(ad0, ob 13 4 fn0)] sz)) 0 0 (va_A [(ad0, ob 13 4 fn0)] sz) := by
  refine Met.ofW (cc := cJ5_length_8abf5) (maxL := 1) (ret := (some .int)) (by decide) rfl ?_
  intro p e s m args below meth c s₁ B hml hv
  obtain ⟨rfl, hsz, hP, hK, hD0, hE⟩ := hv
  have hx := B.exec
  have hb := B.bytes
  have hr := B.returns
  have hG : ∀ w ∈ GW, w.before ([.ref ad0] : List Value).toArray s = true := fun w h => atoms_spec (ws := Cond.code yJ5_length_8abf5 cJ5_length_8abf5 1 (some .int) :: GW) B.pre w (List.mem_cons_of_mem _ h)
  have hown : s.vm.findClass RJ5 = some m.cls := findClass_of_methodNamed B.named
  have hlocks := B.notSynchronized
  subst hsz
  have hD := hD0.self (sz := s.heap.size)
  generalize hAe : va_A [(ad0, ob 13 4 fn0)] s.heap.size = A at hD hE ⊢
  have hA : ∀ q : Nat, s.heap.size ≤ q → A q := fun q h => by rw [← hAe]; exact Or.inr h
  have hS : va_S A s.heap s.heap [] := va_S.rf
  clear hAe hD0
  have hl0 := lv_entry ([.ref ad0]) (n := 1) (Nat.le_of_ble_eq_true rfl)
  rw [lg_entry_eq]
  generalize (lg_sl ([.ref ad0]) ++ List.replicate (1 - (lg_sl ([.ref ad0])).length) Slot.unset).toArray = ls at hl0 ⊢
  have hl : lv_has ls 1 [(0, .ref ad0)] := hl0
  clear hl0
  refine lv_aload_n (pc := 0) hx hb dJ5_length_8abf5_0 rfl (lv_at hl 0 rfl) ?_
  refine ob_get (pc := 1) (v := .int 0) (ci := 13) (C := RJ4) (T := TJ4) (N := 4) hx hb hG in_J4 hown hK hP 0 rfl rfl 3 (by decide) (hG _ g_266) rfl h0_3 dJ5_length_8abf5_1 ?_
  exact W.iret (pc := 4) (v := 0) hx hb hr (fun t ht hW => ⟨⟨0, (), rfl, rfl, _, rfl, by rw [ht]; exact hP, hD⟩, hS.F ht⟩) hS.2.2 dJ5_length_8abf5_4
set_option maxHeartbeats 4000000 in
set_option maxRecDepth 100000 in
/-- J4_length_8abf5 -/
theorem c_SBlen (l : Launch) (D : va_G) (cy : Nat → ClassId) (kv : KV) (sz : Nat) (ad0 : Nat) (fn0 : Nat → Value) (h0_3 : fn0 3 = .int 0) : Met l yJ4_length_8abf5 (Cond.code yJ4_length_8abf5 cJ4_length_8abf5 1 (some .int) :: GW) ({ frames := 9, cells := 0, slots := 0, locals := 160 } : Room) (va_Pc [.ref ad0] (pcq D cy kv sz [(ad0, ob 13 4 fn0)])) (va_Qi (fun r (_ : Unit) => r = 0) (fun _ t => bq D (fun w => w = [(ad0, ob 13 4 fn0)]) (va_A [(ad0, ob 13 4 fn0)] sz) t) (va_A [(ad0, ob 13 4 fn0)] sz)) 0 0 (va_A [(ad0, ob 13 4 fn0)] sz) := by
  refine Met.ofW (cc := cJ4_length_8abf5) (maxL := 1) (ret := (some .int)) (by decide) rfl ?_
  intro p e s m args below meth c s₁ B hml hv
  obtain ⟨rfl, hsz, hP, hK, hD0, hE⟩ := hv
  have hx := B.exec
  have hb := B.bytes
  have hr := B.returns
  have hG : ∀ w ∈ GW, w.before ([.ref ad0] : List Value).toArray s = true := fun w h => atoms_spec (ws := Cond.code yJ4_length_8abf5 cJ4_length_8abf5 1 (some .int) :: GW) B.pre w (List.mem_cons_of_mem _ h)
  have hown : s.vm.findClass RJ4 = some m.cls := findClass_of_methodNamed B.named
  have hlocks := B.notSynchronized
  subst hsz
  have hD := hD0.self (sz := s.heap.size)
  generalize hAe : va_A [(ad0, ob 13 4 fn0)] s.heap.size = A at hD hE ⊢
  have hA : ∀ q : Nat, s.heap.size ≤ q → A q := fun q h => by rw [← hAe]; exact Or.inr h
  have hS : va_S A s.heap s.heap [] := va_S.rf
  clear hAe hD0
  have hl0 := lv_entry ([.ref ad0]) (n := 1) (Nat.le_of_ble_eq_true rfl)
  rw [lg_entry_eq]
  generalize (lg_sl ([.ref ad0]) ++ List.replicate (1 - (lg_sl ([.ref ad0])).length) Slot.unset).toArray = ls at hl0 ⊢
  have hl : lv_has ls 1 [(0, .ref ad0)] := hl0
  clear hl0
  refine lv_aload_n (pc := 0) hx hb dJ4_length_8abf5_0 rfl (lv_at hl 0 rfl) ?_
  refine cq_i (pc := 1) (wr := []) (k2 := 0) (n2 := 0) (va_runSU (hK.1 13 _ rfl).2 (As := []) (rest := []) ⟨hx, hb, hml, hown, hG⟩ (c_ASBlen l D cy kv s.heap.size ad0 fn0 h0_3) (va_cwSU 0 hG (gi_SU g_268 g_269 g_270 g_271 g_8 g_267) rfl rfl rfl (by decide +kernel) ⟨Nat.le_of_ble_eq_true rfl, Nat.le_of_ble_eq_true rfl⟩) ⟨pq_blind, (va_recv hK hP (ci := 13) (q0 := 0) rfl rfl), (pq_pass hP hD hK hE hS hA [0] rfl (by decide))⟩ rfl rfl hl.1 rfl (lv_room (Nat.le_of_ble_eq_true rfl)) dJ4_length_8abf5_1 ⟨Nat.le_of_ble_eq_true rfl, Nat.le_of_ble_eq_true rfl⟩) hP hD hS hA [0] [] rfl rfl (by decide) (by decide) (by decide) (by decide) (fun r1 w1 H1 lo1 e1 hR1 hP1r hD1r hS1 => ?_)
  subst hR1
  subst e1
  have hP1 : va_P D classes [(ad0, ob 13 4 fn0)] H1 := hP1r
  have hD1 : va_D A [(ad0, ob 13 4 fn0)] := hD1r
  clear hP1r hD1r
  clear hP hD hS
  exact W.iret (pc := 4) (v := 0) hx hb hr (fun t ht hW => ⟨⟨0, (), rfl, rfl, _, rfl, by rw [ht]; exact hP1, hD1⟩, hS1.F ht⟩) hS1.2.2 dJ4_length_8abf5_4
set_option maxHeartbeats 4000000 in
set_option maxRecDepth 100000 in
/-- X11_count -/
theorem c_count_0 (l : Launch) (D : va_G) (cy : Nat → ClassId) (kv : KV) (sz : Nat) (ad0 : Nat) (fn0 : Nat → Value) (h0_4 : fn0 4 = .int 0) : Met l yX11_count (Cond.code yX11_count cX11_count 2 (some .int) :: GW) ({ frames := 8, cells := 0, slots := 0, locals := 120 } : Room) (va_Pc [.ref ad0, .int 0] (pcq D cy kv sz [(ad0, ob 11 15 fn0)])) (va_Qi (fun r (_ : Unit) => r = 0) (fun _ t => bq D (fun w => w = [(ad0, ob 11 15 fn0)]) (va_A [(ad0, ob 11 15 fn0)] sz) t) (va_A [(ad0, ob 11 15 fn0)] sz)) 0 0 (va_A [(ad0, ob 11 15 fn0)] sz) := by
  refine Met.ofW (cc := cX11_count) (maxL := 2) (ret := (some .int)) (by decide) rfl ?_
  intro p e s m args below meth c s₁ B hml hv
  obtain ⟨rfl, hsz, hP, hK, hD0, hE⟩ := hv
  have hx := B.exec
  have hb := B.bytes
  have hr := B.returns
  have hG : ∀ w ∈ GW, w.before ([.ref ad0, .int 0] : List Value).toArray s = true := fun w h => atoms_spec (ws := Cond.code yX11_count cX11_count 2 (some .int) :: GW) B.pre w (List.mem_cons_of_mem _ h)
  have hown : s.vm.findClass RX11 = some m.cls := findClass_of_methodNamed B.named
  have hlocks := B.notSynchronized
  subst hsz
  have hD := hD0.self (sz := s.heap.size)
  generalize hAe : va_A [(ad0, ob 11 15 fn0)] s.heap.size = A at hD hE ⊢
  have hA : ∀ q : Nat, s.heap.size ≤ q → A q := fun q h => by rw [← hAe]; exact Or.inr h
  have hS : va_S A s.heap s.heap [] := va_S.rf
  clear hAe hD0
  have hl0 := lv_entry ([.ref ad0, .int 0]) (n := 2) (Nat.le_of_ble_eq_true rfl)
  rw [lg_entry_eq]
  generalize (lg_sl ([.ref ad0, .int 0]) ++ List.replicate (2 - (lg_sl ([.ref ad0, .int 0])).length) Slot.unset).toArray = ls at hl0 ⊢
  have hl : lv_has ls 2 [(0, .ref ad0), (1, .int 0)] := hl0
  clear hl0
  refine lv_iload_n (pc := 0) hx hb dX11_count_0 rfl (lv_at hl 1 rfl) ?_
  refine lv_tableIn (pc := 1) (off := 51) (tgt := 52) hx hb dX11_count_1 (by decide) (by decide) (by decide) (by decide) ?_
  refine lv_aload_n (pc := 52) hx hb dX11_count_52 rfl (lv_at hl 0 rfl) ?_
  refine ob_get (pc := 53) (v := .int 0) (ci := 11) (C := RX11) (T := TX11) (N := 15) hx hb hG in_X11 hown hK hP 0 rfl rfl 4 (by decide) (hG _ g_99) rfl h0_4 dX11_count_53 ?_
  exact W.iret (pc := 56) (v := 0) hx hb hr (fun t ht hW => ⟨⟨0, (), rfl, rfl, _, rfl, by rw [ht]; exact hP, hD⟩, hS.F ht⟩) hS.2.2 dX11_count_56
set_option maxHeartbeats 4000000 in
set_option maxRecDepth 100000 in
/-- X11_count -/
theorem c_count_1 (l : Launch) (D : va_G) (cy : Nat → ClassId) (kv : KV) (sz : Nat) (ad0 : Nat) (fn0 : Nat → Value) (h0_13 : fn0 13 = .int 0) : Met l yX11_count (Cond.code yX11_count cX11_count 2 (some .int) :: GW) ({ frames := 8, cells := 0, slots := 0, locals := 120 } : Room) (va_Pc [.ref ad0, .int 1] (pcq D cy kv sz [(ad0, ob 11 15 fn0)])) (va_Qi (fun r (_ : Unit) => r = 0) (fun _ t => bq D (fun w => w = [(ad0, ob 11 15 fn0)]) (va_A [(ad0, ob 11 15 fn0)] sz) t) (va_A [(ad0, ob 11 15 fn0)] sz)) 0 0 (va_A [(ad0, ob 11 15 fn0)] sz) := by
  refine Met.ofW (cc := cX11_count) (maxL := 2) (ret := (some .int)) (by decide) rfl ?_
  intro p e s m args below meth c s₁ B hml hv
  obtain ⟨rfl, hsz, hP, hK, hD0, hE⟩ := hv
  have hx := B.exec
  have hb := B.bytes
  have hr := B.returns
  have hG : ∀ w ∈ GW, w.before ([.ref ad0, .int 1] : List Value).toArray s = true := fun w h => atoms_spec (ws := Cond.code yX11_count cX11_count 2 (some .int) :: GW) B.pre w (List.mem_cons_of_mem _ h)
  have hown : s.vm.findClass RX11 = some m.cls := findClass_of_methodNamed B.named
  have hlocks := B.notSynchronized
  subst hsz
  have hD := hD0.self (sz := s.heap.size)
  generalize hAe : va_A [(ad0, ob 11 15 fn0)] s.heap.size = A at hD hE ⊢
  have hA : ∀ q : Nat, s.heap.size ≤ q → A q := fun q h => by rw [← hAe]; exact Or.inr h
  have hS : va_S A s.heap s.heap [] := va_S.rf
  clear hAe hD0
  have hl0 := lv_entry ([.ref ad0, .int 1]) (n := 2) (Nat.le_of_ble_eq_true rfl)
  rw [lg_entry_eq]
  generalize (lg_sl ([.ref ad0, .int 1]) ++ List.replicate (2 - (lg_sl ([.ref ad0, .int 1])).length) Slot.unset).toArray = ls at hl0 ⊢
  have hl : lv_has ls 2 [(0, .ref ad0), (1, .int 1)] := hl0
  clear hl0
  refine lv_iload_n (pc := 0) hx hb dX11_count_0 rfl (lv_at hl 1 rfl) ?_
  refine lv_tableIn (pc := 1) (off := 56) (tgt := 57) hx hb dX11_count_1 (by decide) (by decide) (by decide) (by decide) ?_
  refine lv_aload_n (pc := 57) hx hb dX11_count_57 rfl (lv_at hl 0 rfl) ?_
  refine ob_get (pc := 58) (v := .int 0) (ci := 11) (C := RX11) (T := TX11) (N := 15) hx hb hG in_X11 hown hK hP 0 rfl rfl 13 (by decide) (hG _ g_129) rfl h0_13 dX11_count_58 ?_
  exact W.iret (pc := 61) (v := 0) hx hb hr (fun t ht hW => ⟨⟨0, (), rfl, rfl, _, rfl, by rw [ht]; exact hP, hD⟩, hS.F ht⟩) hS.2.2 dX11_count_61
set_option maxHeartbeats 4000000 in
set_option maxRecDepth 100000 in
/-- X11_count -/
theorem c_count_2 (l : Launch) (D : va_G) (cy : Nat → ClassId) (kv : KV) (sz : Nat) (ad0 : Nat) (fn0 : Nat → Value) (h0_1 : fn0 1 = .int 0) : Met l yX11_count (Cond.code yX11_count cX11_count 2 (some .int) :: GW) ({ frames := 8, cells := 0, slots := 0, locals := 120 } : Room) (va_Pc [.ref ad0, .int 2] (pcq D cy kv sz [(ad0, ob 11 15 fn0)])) (va_Qi (fun r (_ : Unit) => r = 0) (fun _ t => bq D (fun w => w = [(ad0, ob 11 15 fn0)]) (va_A [(ad0, ob 11 15 fn0)] sz) t) (va_A [(ad0, ob 11 15 fn0)] sz)) 0 0 (va_A [(ad0, ob 11 15 fn0)] sz) := by
  refine Met.ofW (cc := cX11_count) (maxL := 2) (ret := (some .int)) (by decide) rfl ?_
  intro p e s m args below meth c s₁ B hml hv
  obtain ⟨rfl, hsz, hP, hK, hD0, hE⟩ := hv
  have hx := B.exec
  have hb := B.bytes
  have hr := B.returns
  have hG : ∀ w ∈ GW, w.before ([.ref ad0, .int 2] : List Value).toArray s = true := fun w h => atoms_spec (ws := Cond.code yX11_count cX11_count 2 (some .int) :: GW) B.pre w (List.mem_cons_of_mem _ h)
  have hown : s.vm.findClass RX11 = some m.cls := findClass_of_methodNamed B.named
  have hlocks := B.notSynchronized
  subst hsz
  have hD := hD0.self (sz := s.heap.size)
  generalize hAe : va_A [(ad0, ob 11 15 fn0)] s.heap.size = A at hD hE ⊢
  have hA : ∀ q : Nat, s.heap.size ≤ q → A q := fun q h => by rw [← hAe]; exact Or.inr h
  have hS : va_S A s.heap s.heap [] := va_S.rf
  clear hAe hD0
  have hl0 := lv_entry ([.ref ad0, .int 2]) (n := 2) (Nat.le_of_ble_eq_true rfl)
  rw [lg_entry_eq]
  generalize (lg_sl ([.ref ad0, .int 2]) ++ List.replicate (2 - (lg_sl ([.ref ad0, .int 2])).length) Slot.unset).toArray = ls at hl0 ⊢
  have hl : lv_has ls 2 [(0, .ref ad0), (1, .int 2)] := hl0
  clear hl0
  refine lv_iload_n (pc := 0) hx hb dX11_count_0 rfl (lv_at hl 1 rfl) ?_
  refine lv_tableIn (pc := 1) (off := 61) (tgt := 62) hx hb dX11_count_1 (by decide) (by decide) (by decide) (by decide) ?_
  refine lv_aload_n (pc := 62) hx hb dX11_count_62 rfl (lv_at hl 0 rfl) ?_
  refine ob_get (pc := 63) (v := .int 0) (ci := 11) (C := RX11) (T := TX11) (N := 15) hx hb hG in_X11 hown hK hP 0 rfl rfl 1 (by decide) (hG _ g_90) rfl h0_1 dX11_count_63 ?_
  exact W.iret (pc := 66) (v := 0) hx hb hr (fun t ht hW => ⟨⟨0, (), rfl, rfl, _, rfl, by rw [ht]; exact hP, hD⟩, hS.F ht⟩) hS.2.2 dX11_count_66
set_option maxHeartbeats 4000000 in
set_option maxRecDepth 100000 in
/-- X11_count -/
theorem c_count_3 (l : Launch) (D : va_G) (cy : Nat → ClassId) (kv : KV) (sz : Nat) (ad0 : Nat) (fn0 : Nat → Value) (ad1 : Nat) (fn1 : Nat → Value) (h0_2 : fn0 2 = .ref ad1) (h1_3 : fn1 3 = .int 0) : Met l yX11_count (Cond.code yX11_count cX11_count 2 (some .int) :: GW) ({ frames := 10, cells := 0, slots := 0, locals := 200 } : Room) (va_Pc [.ref ad0, .int 3] (pcq D cy kv sz [(ad0, ob 11 15 fn0), (ad1, ob 13 4 fn1)])) (va_Qi (fun r (_ : Unit) => r = 0) (fun _ t => bq D (fun w => w = [(ad0, ob 11 15 fn0), (ad1, ob 13 4 fn1)]) (va_A [(ad0, ob 11 15 fn0), (ad1, ob 13 4 fn1)] sz) t) (va_A [(ad0, ob 11 15 fn0), (ad1, ob 13 4 fn1)] sz)) 0 0 (va_A [(ad0, ob 11 15 fn0), (ad1, ob 13 4 fn1)] sz) := by
  refine Met.ofW (cc := cX11_count) (maxL := 2) (ret := (some .int)) (by decide) rfl ?_
  intro p e s m args below meth c s₁ B hml hv
  obtain ⟨rfl, hsz, hP, hK, hD0, hE⟩ := hv
  have hx := B.exec
  have hb := B.bytes
  have hr := B.returns
  have hG : ∀ w ∈ GW, w.before ([.ref ad0, .int 3] : List Value).toArray s = true := fun w h => atoms_spec (ws := Cond.code yX11_count cX11_count 2 (some .int) :: GW) B.pre w (List.mem_cons_of_mem _ h)
  have hown : s.vm.findClass RX11 = some m.cls := findClass_of_methodNamed B.named
  have hlocks := B.notSynchronized
  subst hsz
  have hD := hD0.self (sz := s.heap.size)
  generalize hAe : va_A [(ad0, ob 11 15 fn0), (ad1, ob 13 4 fn1)] s.heap.size = A at hD hE ⊢
  have hA : ∀ q : Nat, s.heap.size ≤ q → A q := fun q h => by rw [← hAe]; exact Or.inr h
  have hS : va_S A s.heap s.heap [] := va_S.rf
  clear hAe hD0
  have hl0 := lv_entry ([.ref ad0, .int 3]) (n := 2) (Nat.le_of_ble_eq_true rfl)
  rw [lg_entry_eq]
  generalize (lg_sl ([.ref ad0, .int 3]) ++ List.replicate (2 - (lg_sl ([.ref ad0, .int 3])).length) Slot.unset).toArray = ls at hl0 ⊢
  have hl : lv_has ls 2 [(0, .ref ad0), (1, .int 3)] := hl0
  clear hl0
  refine lv_iload_n (pc := 0) hx hb dX11_count_0 rfl (lv_at hl 1 rfl) ?_
  refine lv_tableIn (pc := 1) (off := 66) (tgt := 67) hx hb dX11_count_1 (by decide) (by decide) (by decide) (by decide) ?_
  refine lv_aload_n (pc := 67) hx hb dX11_count_67 rfl (lv_at hl 0 rfl) ?_
  refine ob_get (pc := 68) (v := .ref ad1) (ci := 11) (C := RX11) (T := TX11) (N := 15) hx hb hG in_X11 hown hK hP 0 rfl rfl 2 (by decide) (hG _ g_96) rfl h0_2 dX11_count_68 ?_
  refine cq_i (pc := 71) (wr := [(ad0, ob 11 15 fn0)]) (k2 := 0) (n2 := 0) (va_runV (As := []) (rest := []) ⟨hx, hb, hml, hown, hG⟩ (c_SBlen l D cy kv s.heap.size ad1 fn1 h1_3) (cwV 0 hG (gi_V g_274 g_275 g_276 g_93 g_272) rfl rfl rfl (by decide +kernel) ⟨Nat.le_of_ble_eq_true rfl, Nat.le_of_ble_eq_true rfl⟩) ⟨pq_blind, (va_recv hK hP (ci := 13) (q0 := 1) rfl rfl), (pq_pass hP hD hK hE hS hA [1] rfl (by decide))⟩ rfl rfl hl.1 rfl (lv_room (Nat.le_of_ble_eq_true rfl)) dX11_count_71 ⟨Nat.le_of_ble_eq_true rfl, Nat.le_of_ble_eq_true rfl⟩) hP hD hS hA [1] [0] rfl rfl (by decide) (by decide) (by decide) (by decide) (fun r1 w1 H1 lo1 e1 hR1 hP1r hD1r hS1 => ?_)
  subst hR1
  subst e1
  have hP1 : va_P D classes [(ad0, ob 11 15 fn0), (ad1, ob 13 4 fn1)] H1 := hP1r
  have hD1 : va_D A [(ad0, ob 11 15 fn0), (ad1, ob 13 4 fn1)] := hD1r
  clear hP1r hD1r
  clear hP hD hS
  exact W.iret (pc := 74) (v := 0) hx hb hr (fun t ht hW => ⟨⟨0, (), rfl, rfl, _, rfl, by rw [ht]; exact hP1, hD1⟩, hS1.F ht⟩) hS1.2.2 dX11_count_74
set_option maxHeartbeats 4000000 in
set_option maxRecDepth 100000 in
/-- X11_count -/
theorem c_count_4 (l : Launch) (D : va_G) (cy : Nat → ClassId) (kv : KV) (sz : Nat) (ad0 : Nat) (fn0 : Nat → Value) (ad1 : Nat) (ad2 : Nat) (ad3 : Nat) (ad4 : Nat) (fn2 : Nat → Value) (h0_7 : fn0 7 = .ref ad1) (h2_5 : fn2 5 = .int 0) : Met l yX11_count (Cond.code yX11_count cX11_count 2 (some .int) :: GW) ({ frames := 8, cells := 0, slots := 0, locals := 120 } : Room) (va_Pc [.ref ad0, .int 4] (pcq D cy kv sz [(ad0, ob 11 15 fn0), (ad1, arq (cy 6) 3 (va_up (va_up (va_up (fun _ => none) (0 : Int32).toNatClampNeg (some ad2)) (1 : Int32).toNatClampNeg (some ad3)) (2 : Int32).toNatClampNeg (some ad4))), (ad2, ob 7 6 fn2)])) (va_Qi (fun r (_ : Unit) => r = 0) (fun _ t => bq D (fun w => w = [(ad0, ob 11 15 fn0), (ad1, arq (cy 6) 3 (va_up (va_up (va_up (fun _ => none) (0 : Int32).toNatClampNeg (some ad2)) (1 : Int32).toNatClampNeg (some ad3)) (2 : Int32).toNatClampNeg (some ad4))), (ad2, ob 7 6 fn2)]) (va_A [(ad0, ob 11 15 fn0), (ad1, arq (cy 6) 3 (va_up (va_up (va_up (fun _ => none) (0 : Int32).toNatClampNeg (some ad2)) (1 : Int32).toNatClampNeg (some ad3)) (2 : Int32).toNatClampNeg (some ad4))), (ad2, ob 7 6 fn2)] sz) t) (va_A [(ad0, ob 11 15 fn0), (ad1, arq (cy 6) 3 (va_up (va_up (va_up (fun _ => none) (0 : Int32).toNatClampNeg (some ad2)) (1 : Int32).toNatClampNeg (some ad3)) (2 : Int32).toNatClampNeg (some ad4))), (ad2, ob 7 6 fn2)] sz)) 0 0 (va_A [(ad0, ob 11 15 fn0), (ad1, arq (cy 6) 3 (va_up (va_up (va_up (fun _ => none) (0 : Int32).toNatClampNeg (some ad2)) (1 : Int32).toNatClampNeg (some ad3)) (2 : Int32).toNatClampNeg (some ad4))), (ad2, ob 7 6 fn2)] sz) := by
  refine Met.ofW (cc := cX11_count) (maxL := 2) (ret := (some .int)) (by decide) rfl ?_
  intro p e s m args below meth c s₁ B hml hv
  obtain ⟨rfl, hsz, hP, hK, hD0, hE⟩ := hv
  have hx := B.exec
  have hb := B.bytes
  have hr := B.returns
  have hG : ∀ w ∈ GW, w.before ([.ref ad0, .int 4] : List Value).toArray s = true := fun w h => atoms_spec (ws := Cond.code yX11_count cX11_count 2 (some .int) :: GW) B.pre w (List.mem_cons_of_mem _ h)
  have hown : s.vm.findClass RX11 = some m.cls := findClass_of_methodNamed B.named
  have hlocks := B.notSynchronized
  subst hsz
  have hD := hD0.self (sz := s.heap.size)
  generalize hAe : va_A [(ad0, ob 11 15 fn0), (ad1, arq (cy 6) 3 (va_up (va_up (va_up (fun _ => none) (0 : Int32).toNatClampNeg (some ad2)) (1 : Int32).toNatClampNeg (some ad3)) (2 : Int32).toNatClampNeg (some ad4))), (ad2, ob 7 6 fn2)] s.heap.size = A at hD hE ⊢
  have hA : ∀ q : Nat, s.heap.size ≤ q → A q := fun q h => by rw [← hAe]; exact Or.inr h
  have hS : va_S A s.heap s.heap [] := va_S.rf
  clear hAe hD0
  have hl0 := lv_entry ([.ref ad0, .int 4]) (n := 2) (Nat.le_of_ble_eq_true rfl)
  rw [lg_entry_eq]
  generalize (lg_sl ([.ref ad0, .int 4]) ++ List.replicate (2 - (lg_sl ([.ref ad0, .int 4])).length) Slot.unset).toArray = ls at hl0 ⊢
  have hl : lv_has ls 2 [(0, .ref ad0), (1, .int 4)] := hl0
  clear hl0
  refine lv_iload_n (pc := 0) hx hb dX11_count_0 rfl (lv_at hl 1 rfl) ?_
  refine lv_tableIn (pc := 1) (off := 74) (tgt := 75) hx hb dX11_count_1 (by decide) (by decide) (by decide) (by decide) ?_
  refine lv_aload_n (pc := 75) hx hb dX11_count_75 rfl (lv_at hl 0 rfl) ?_
  refine ob_get (pc := 76) (v := .ref ad1) (ci := 11) (C := RX11) (T := TX11) (N := 15) hx hb hG in_X11 hown hK hP 0 rfl rfl 7 (by decide) (hG _ g_110) rfl h0_7 dX11_count_76 ?_
  refine lv_iload_n (pc := 79) hx hb dX11_count_79 rfl (lv_at hl 1 rfl) ?_
  refine lv_iconst (pc := 80) (v := 4) hx hb dX11_count_80 (by decide) ?_
  refine lv_isub (pc := 81) hx hb dX11_count_81 ?_
  refine tp_i (y := 0) (by decide) ?_
  refine va_aldq (pc := 82) hx hb hK hP 1 6 rfl rfl (show ¬ ((0 : Int32) < 0 ∨ 3 ≤ (0 : Int32).toNatClampNeg) by decide) dX11_count_82 ?_
  refine tp_v (y := .ref ad2) rfl ?_
  refine ob_getN (pc := 83) (v := .int 0) (ci := 7) (C := RX7) (T := TX7) (N := 6) hx hb hG in_X7 hown hK hP 2 rfl rfl 5 (by decide) (nw_at hE n_16) rfl h2_5 dX11_count_83 ?_
  exact W.iret (pc := 86) (v := 0) hx hb hr (fun t ht hW => ⟨⟨0, (), rfl, rfl, _, rfl, by rw [ht]; exact hP, hD⟩, hS.F ht⟩) hS.2.2 dX11_count_86
set_option maxHeartbeats 4000000 in
set_option maxRecDepth 100000 in
/-- X11_count -/
theorem c_count_5 (l : Launch) (D : va_G) (cy : Nat → ClassId) (kv : KV) (sz : Nat) (ad0 : Nat) (fn0 : Nat → Value) (ad1 : Nat) (ad2 : Nat) (ad3 : Nat) (ad4 : Nat) (fn3 : Nat → Value) (h0_7 : fn0 7 = .ref ad1) (h2_5 : fn3 5 = .int 0) : Met l yX11_count (Cond.code yX11_count cX11_count 2 (some .int) :: GW) ({ frames := 8, cells := 0, slots := 0, locals := 120 } : Room) (va_Pc [.ref ad0, .int 5] (pcq D cy kv sz [(ad0, ob 11 15 fn0), (ad1, arq (cy 6) 3 (va_up (va_up (va_up (fun _ => none) (0 : Int32).toNatClampNeg (some ad2)) (1 : Int32).toNatClampNeg (some ad3)) (2 : Int32).toNatClampNeg (some ad4))), (ad3, ob 7 6 fn3)])) (va_Qi (fun r (_ : Unit) => r = 0) (fun _ t => bq D (fun w => w = [(ad0, ob 11 15 fn0), (ad1, arq (cy 6) 3 (va_up (va_up (va_up (fun _ => none) (0 : Int32).toNatClampNeg (some ad2)) (1 : Int32).toNatClampNeg (some ad3)) (2 : Int32).toNatClampNeg (some ad4))), (ad3, ob 7 6 fn3)]) (va_A [(ad0, ob 11 15 fn0), (ad1, arq (cy 6) 3 (va_up (va_up (va_up (fun _ => none) (0 : Int32).toNatClampNeg (some ad2)) (1 : Int32).toNatClampNeg (some ad3)) (2 : Int32).toNatClampNeg (some ad4))), (ad3, ob 7 6 fn3)] sz) t) (va_A [(ad0, ob 11 15 fn0), (ad1, arq (cy 6) 3 (va_up (va_up (va_up (fun _ => none) (0 : Int32).toNatClampNeg (some ad2)) (1 : Int32).toNatClampNeg (some ad3)) (2 : Int32).toNatClampNeg (some ad4))), (ad3, ob 7 6 fn3)] sz)) 0 0 (va_A [(ad0, ob 11 15 fn0), (ad1, arq (cy 6) 3 (va_up (va_up (va_up (fun _ => none) (0 : Int32).toNatClampNeg (some ad2)) (1 : Int32).toNatClampNeg (some ad3)) (2 : Int32).toNatClampNeg (some ad4))), (ad3, ob 7 6 fn3)] sz) := by
  refine Met.ofW (cc := cX11_count) (maxL := 2) (ret := (some .int)) (by decide) rfl ?_
  intro p e s m args below meth c s₁ B hml hv
  obtain ⟨rfl, hsz, hP, hK, hD0, hE⟩ := hv
  have hx := B.exec
  have hb := B.bytes
  have hr := B.returns
  have hG : ∀ w ∈ GW, w.before ([.ref ad0, .int 5] : List Value).toArray s = true := fun w h => atoms_spec (ws := Cond.code yX11_count cX11_count 2 (some .int) :: GW) B.pre w (List.mem_cons_of_mem _ h)
  have hown : s.vm.findClass RX11 = some m.cls := findClass_of_methodNamed B.named
  have hlocks := B.notSynchronized
  subst hsz
  have hD := hD0.self (sz := s.heap.size)
  generalize hAe : va_A [(ad0, ob 11 15 fn0), (ad1, arq (cy 6) 3 (va_up (va_up (va_up (fun _ => none) (0 : Int32).toNatClampNeg (some ad2)) (1 : Int32).toNatClampNeg (some ad3)) (2 : Int32).toNatClampNeg (some ad4))), (ad3, ob 7 6 fn3)] s.heap.size = A at hD hE ⊢
  have hA : ∀ q : Nat, s.heap.size ≤ q → A q := fun q h => by rw [← hAe]; exact Or.inr h
  have hS : va_S A s.heap s.heap [] := va_S.rf
  clear hAe hD0
  have hl0 := lv_entry ([.ref ad0, .int 5]) (n := 2) (Nat.le_of_ble_eq_true rfl)
  rw [lg_entry_eq]
  generalize (lg_sl ([.ref ad0, .int 5]) ++ List.replicate (2 - (lg_sl ([.ref ad0, .int 5])).length) Slot.unset).toArray = ls at hl0 ⊢
  have hl : lv_has ls 2 [(0, .ref ad0), (1, .int 5)] := hl0
  clear hl0
  refine lv_iload_n (pc := 0) hx hb dX11_count_0 rfl (lv_at hl 1 rfl) ?_
  refine lv_tableIn (pc := 1) (off := 74) (tgt := 75) hx hb dX11_count_1 (by decide) (by decide) (by decide) (by decide) ?_
  refine lv_aload_n (pc := 75) hx hb dX11_count_75 rfl (lv_at hl 0 rfl) ?_
  refine ob_get (pc := 76) (v := .ref ad1) (ci := 11) (C := RX11) (T := TX11) (N := 15) hx hb hG in_X11 hown hK hP 0 rfl rfl 7 (by decide) (hG _ g_110) rfl h0_7 dX11_count_76 ?_
  refine lv_iload_n (pc := 79) hx hb dX11_count_79 rfl (lv_at hl 1 rfl) ?_
  refine lv_iconst (pc := 80) (v := 4) hx hb dX11_count_80 (by decide) ?_
  refine lv_isub (pc := 81) hx hb dX11_count_81 ?_
  refine tp_i (y := 1) (by decide) ?_
  refine va_aldq (pc := 82) hx hb hK hP 1 6 rfl rfl (show ¬ ((1 : Int32) < 0 ∨ 3 ≤ (1 : Int32).toNatClampNeg) by decide) dX11_count_82 ?_
  refine tp_v (y := .ref ad3) rfl ?_
  refine ob_getN (pc := 83) (v := .int 0) (ci := 7) (C := RX7) (T := TX7) (N := 6) hx hb hG in_X7 hown hK hP 2 rfl rfl 5 (by decide) (nw_at hE n_16) rfl h2_5 dX11_count_83 ?_
  exact W.iret (pc := 86) (v := 0) hx hb hr (fun t ht hW => ⟨⟨0, (), rfl, rfl, _, rfl, by rw [ht]; exact hP, hD⟩, hS.F ht⟩) hS.2.2 dX11_count_86
set_option maxHeartbeats 4000000 in
set_option maxRecDepth 100000 in
/-- X11_count -/
theorem c_count_6 (l : Launch) (D : va_G) (cy : Nat → ClassId) (kv : KV) (sz : Nat) (ad0 : Nat) (fn0 : Nat → Value) (ad1 : Nat) (ad2 : Nat) (ad3 : Nat) (ad4 : Nat) (fn4 : Nat → Value) (h0_7 : fn0 7 = .ref ad1) (h2_5 : fn4 5 = .int 0) : Met l yX11_count (Cond.code yX11_count cX11_count 2 (some .int) :: GW) ({ frames := 8, cells := 0, slots := 0, locals := 120 } : Room) (va_Pc [.ref ad0, .int 6] (pcq D cy kv sz [(ad0, ob 11 15 fn0), (ad1, arq (cy 6) 3 (va_up (va_up (va_up (fun _ => none) (0 : Int32).toNatClampNeg (some ad2)) (1 : Int32).toNatClampNeg (some ad3)) (2 : Int32).toNatClampNeg (some ad4))), (ad4, ob 7 6 fn4)])) (va_Qi (fun r (_ : Unit) => r = 0) (fun _ t => bq D (fun w => w = [(ad0, ob 11 15 fn0), (ad1, arq (cy 6) 3 (va_up (va_up (va_up (fun _ => none) (0 : Int32).toNatClampNeg (some ad2)) (1 : Int32).toNatClampNeg (some ad3)) (2 : Int32).toNatClampNeg (some ad4))), (ad4, ob 7 6 fn4)]) (va_A [(ad0, ob 11 15 fn0), (ad1, arq (cy 6) 3 (va_up (va_up (va_up (fun _ => none) (0 : Int32).toNatClampNeg (some ad2)) (1 : Int32).toNatClampNeg (some ad3)) (2 : Int32).toNatClampNeg (some ad4))), (ad4, ob 7 6 fn4)] sz) t) (va_A [(ad0, ob 11 15 fn0), (ad1, arq (cy 6) 3 (va_up (va_up (va_up (fun _ => none) (0 : Int32).toNatClampNeg (some ad2)) (1 : Int32).toNatClampNeg (some ad3)) (2 : Int32).toNatClampNeg (some ad4))), (ad4, ob 7 6 fn4)] sz)) 0 0 (va_A [(ad0, ob 11 15 fn0), (ad1, arq (cy 6) 3 (va_up (va_up (va_up (fun _ => none) (0 : Int32).toNatClampNeg (some ad2)) (1 : Int32).toNatClampNeg (some ad3)) (2 : Int32).toNatClampNeg (some ad4))), (ad4, ob 7 6 fn4)] sz) := by
  refine Met.ofW (cc := cX11_count) (maxL := 2) (ret := (some .int)) (by decide) rfl ?_
  intro p e s m args below meth c s₁ B hml hv
  obtain ⟨rfl, hsz, hP, hK, hD0, hE⟩ := hv
  have hx := B.exec
  have hb := B.bytes
  have hr := B.returns
  have hG : ∀ w ∈ GW, w.before ([.ref ad0, .int 6] : List Value).toArray s = true := fun w h => atoms_spec (ws := Cond.code yX11_count cX11_count 2 (some .int) :: GW) B.pre w (List.mem_cons_of_mem _ h)
  have hown : s.vm.findClass RX11 = some m.cls := findClass_of_methodNamed B.named
  have hlocks := B.notSynchronized
  subst hsz
  have hD := hD0.self (sz := s.heap.size)
  generalize hAe : va_A [(ad0, ob 11 15 fn0), (ad1, arq (cy 6) 3 (va_up (va_up (va_up (fun _ => none) (0 : Int32).toNatClampNeg (some ad2)) (1 : Int32).toNatClampNeg (some ad3)) (2 : Int32).toNatClampNeg (some ad4))), (ad4, ob 7 6 fn4)] s.heap.size = A at hD hE ⊢
  have hA : ∀ q : Nat, s.heap.size ≤ q → A q := fun q h => by rw [← hAe]; exact Or.inr h
  have hS : va_S A s.heap s.heap [] := va_S.rf
  clear hAe hD0
  have hl0 := lv_entry ([.ref ad0, .int 6]) (n := 2) (Nat.le_of_ble_eq_true rfl)
  rw [lg_entry_eq]
  generalize (lg_sl ([.ref ad0, .int 6]) ++ List.replicate (2 - (lg_sl ([.ref ad0, .int 6])).length) Slot.unset).toArray = ls at hl0 ⊢
  have hl : lv_has ls 2 [(0, .ref ad0), (1, .int 6)] := hl0
  clear hl0
  refine lv_iload_n (pc := 0) hx hb dX11_count_0 rfl (lv_at hl 1 rfl) ?_
  refine lv_tableIn (pc := 1) (off := 74) (tgt := 75) hx hb dX11_count_1 (by decide) (by decide) (by decide) (by decide) ?_
  refine lv_aload_n (pc := 75) hx hb dX11_count_75 rfl (lv_at hl 0 rfl) ?_
  refine ob_get (pc := 76) (v := .ref ad1) (ci := 11) (C := RX11) (T := TX11) (N := 15) hx hb hG in_X11 hown hK hP 0 rfl rfl 7 (by decide) (hG _ g_110) rfl h0_7 dX11_count_76 ?_
  refine lv_iload_n (pc := 79) hx hb dX11_count_79 rfl (lv_at hl 1 rfl) ?_
  refine lv_iconst (pc := 80) (v := 4) hx hb dX11_count_80 (by decide) ?_
  refine lv_isub (pc := 81) hx hb dX11_count_81 ?_
  refine tp_i (y := 2) (by decide) ?_
  refine va_aldq (pc := 82) hx hb hK hP 1 6 rfl rfl (show ¬ ((2 : Int32) < 0 ∨ 3 ≤ (2 : Int32).toNatClampNeg) by decide) dX11_count_82 ?_
  refine tp_v (y := .ref ad4) rfl ?_
  refine ob_getN (pc := 83) (v := .int 0) (ci := 7) (C := RX7) (T := TX7) (N := 6) hx hb hG in_X7 hown hK hP 2 rfl rfl 5 (by decide) (nw_at hE n_16) rfl h2_5 dX11_count_83 ?_
  exact W.iret (pc := 86) (v := 0) hx hb hr (fun t ht hW => ⟨⟨0, (), rfl, rfl, _, rfl, by rw [ht]; exact hP, hD⟩, hS.F ht⟩) hS.2.2 dX11_count_86
set_option maxHeartbeats 4000000 in
set_option maxRecDepth 100000 in
/-- X11_count -/
theorem c_count_7 (l : Launch) (D : va_G) (cy : Nat → ClassId) (kv : KV) (sz : Nat) (ad0 : Nat) (fn0 : Nat → Value) (ad1 : Nat) (fn1 : Nat → Value) (h0_11 : fn0 11 = .ref ad1) (h1_1 : fn1 1 = .int 0) : Met l yX11_count (Cond.code yX11_count cX11_count 2 (some .int) :: GW) ({ frames := 8, cells := 0, slots := 0, locals := 120 } : Room) (va_Pc [.ref ad0, .int 7] (pcq D cy kv sz [(ad0, ob 11 15 fn0), (ad1, ob 6 7 fn1)])) (va_Qi (fun r (_ : Unit) => r = 0) (fun _ t => bq D (fun w => w = [(ad0, ob 11 15 fn0), (ad1, ob 6 7 fn1)]) (va_A [(ad0, ob 11 15 fn0), (ad1, ob 6 7 fn1)] sz) t) (va_A [(ad0, ob 11 15 fn0), (ad1, ob 6 7 fn1)] sz)) 0 0 (va_A [(ad0, ob 11 15 fn0), (ad1, ob 6 7 fn1)] sz) := by
  refine Met.ofW (cc := cX11_count) (maxL := 2) (ret := (some .int)) (by decide) rfl ?_
  intro p e s m args below meth c s₁ B hml hv
  obtain ⟨rfl, hsz, hP, hK, hD0, hE⟩ := hv
  have hx := B.exec
  have hb := B.bytes
  have hr := B.returns
  have hG : ∀ w ∈ GW, w.before ([.ref ad0, .int 7] : List Value).toArray s = true := fun w h => atoms_spec (ws := Cond.code yX11_count cX11_count 2 (some .int) :: GW) B.pre w (List.mem_cons_of_mem _ h)
  have hown : s.vm.findClass RX11 = some m.cls := findClass_of_methodNamed B.named
  have hlocks := B.notSynchronized
  subst hsz
  have hD := hD0.self (sz := s.heap.size)
  generalize hAe : va_A [(ad0, ob 11 15 fn0), (ad1, ob 6 7 fn1)] s.heap.size = A at hD hE ⊢
  have hA : ∀ q : Nat, s.heap.size ≤ q → A q := fun q h => by rw [← hAe]; exact Or.inr h
  have hS : va_S A s.heap s.heap [] := va_S.rf
  clear hAe hD0
  have hl0 := lv_entry ([.ref ad0, .int 7]) (n := 2) (Nat.le_of_ble_eq_true rfl)
  rw [lg_entry_eq]
  generalize (lg_sl ([.ref ad0, .int 7]) ++ List.replicate (2 - (lg_sl ([.ref ad0, .int 7])).length) Slot.unset).toArray = ls at hl0 ⊢
  have hl : lv_has ls 2 [(0, .ref ad0), (1, .int 7)] := hl0
  clear hl0
  refine lv_iload_n (pc := 0) hx hb dX11_count_0 rfl (lv_at hl 1 rfl) ?_
  refine lv_tableIn (pc := 1) (off := 86) (tgt := 87) hx hb dX11_count_1 (by decide) (by decide) (by decide) (by decide) ?_
  refine lv_aload_n (pc := 87) hx hb dX11_count_87 rfl (lv_at hl 0 rfl) ?_
  refine ob_get (pc := 88) (v := .ref ad1) (ci := 11) (C := RX11) (T := TX11) (N := 15) hx hb hG in_X11 hown hK hP 0 rfl rfl 11 (by decide) (hG _ g_126) rfl h0_11 dX11_count_88 ?_
  refine ob_getN (pc := 91) (v := .int 0) (ci := 6) (C := RX6) (T := TX6) (N := 7) hx hb hG in_X6 hown hK hP 1 rfl rfl 1 (by decide) (nw_at hE n_21) rfl h1_1 dX11_count_91 ?_
  exact W.iret (pc := 94) (v := 0) hx hb hr (fun t ht hW => ⟨⟨0, (), rfl, rfl, _, rfl, by rw [ht]; exact hP, hD⟩, hS.F ht⟩) hS.2.2 dX11_count_94
set_option maxHeartbeats 4000000 in
set_option maxRecDepth 100000 in
/-- X11_count -/
theorem c_count_8 (l : Launch) (D : va_G) (cy : Nat → ClassId) (kv : KV) (sz : Nat) (ad0 : Nat) (fn0 : Nat → Value) (ad1 : Nat) (fn1 : Nat → Value) (h0_11 : fn0 11 = .ref ad1) (h1_3 : fn1 3 = .int 0) : Met l yX11_count (Cond.code yX11_count cX11_count 2 (some .int) :: GW) ({ frames := 8, cells := 0, slots := 0, locals := 120 } : Room) (va_Pc [.ref ad0, .int 8] (pcq D cy kv sz [(ad0, ob 11 15 fn0), (ad1, ob 6 7 fn1)])) (va_Qi (fun r (_ : Unit) => r = 0) (fun _ t => bq D (fun w => w = [(ad0, ob 11 15 fn0), (ad1, ob 6 7 fn1)]) (va_A [(ad0, ob 11 15 fn0), (ad1, ob 6 7 fn1)] sz) t) (va_A [(ad0, ob 11 15 fn0), (ad1, ob 6 7 fn1)] sz)) 0 0 (va_A [(ad0, ob 11 15 fn0), (ad1, ob 6 7 fn1)] sz) := by
  refine Met.ofW (cc := cX11_count) (maxL := 2) (ret := (some .int)) (by decide) rfl ?_
  intro p e s m args below meth c s₁ B hml hv
  obtain ⟨rfl, hsz, hP, hK, hD0, hE⟩ := hv
  have hx := B.exec
  have hb := B.bytes
  have hr := B.returns
  have hG : ∀ w ∈ GW, w.before ([.ref ad0, .int 8] : List Value).toArray s = true := fun w h => atoms_spec (ws := Cond.code yX11_count cX11_count 2 (some .int) :: GW) B.pre w (List.mem_cons_of_mem _ h)
  have hown : s.vm.findClass RX11 = some m.cls := findClass_of_methodNamed B.named
  have hlocks := B.notSynchronized
  subst hsz
  have hD := hD0.self (sz := s.heap.size)
  generalize hAe : va_A [(ad0, ob 11 15 fn0), (ad1, ob 6 7 fn1)] s.heap.size = A at hD hE ⊢
  have hA : ∀ q : Nat, s.heap.size ≤ q → A q := fun q h => by rw [← hAe]; exact Or.inr h
  have hS : va_S A s.heap s.heap [] := va_S.rf
  clear hAe hD0
  have hl0 := lv_entry ([.ref ad0, .int 8]) (n := 2) (Nat.le_of_ble_eq_true rfl)
  rw [lg_entry_eq]
  generalize (lg_sl ([.ref ad0, .int 8]) ++ List.replicate (2 - (lg_sl ([.ref ad0, .int 8])).length) Slot.unset).toArray = ls at hl0 ⊢
  have hl : lv_has ls 2 [(0, .ref ad0), (1, .int 8)] := hl0
  clear hl0
  refine lv_iload_n (pc := 0) hx hb dX11_count_0 rfl (lv_at hl 1 rfl) ?_
  refine lv_tableIn (pc := 1) (off := 94) (tgt := 95) hx hb dX11_count_1 (by decide) (by decide) (by decide) (by decide) ?_
  refine lv_aload_n (pc := 95) hx hb dX11_count_95 rfl (lv_at hl 0 rfl) ?_
  refine ob_get (pc := 96) (v := .ref ad1) (ci := 11) (C := RX11) (T := TX11) (N := 15) hx hb hG in_X11 hown hK hP 0 rfl rfl 11 (by decide) (hG _ g_126) rfl h0_11 dX11_count_96 ?_
  refine ob_getN (pc := 99) (v := .int 0) (ci := 6) (C := RX6) (T := TX6) (N := 7) hx hb hG in_X6 hown hK hP 1 rfl rfl 3 (by decide) (nw_at hE n_22) rfl h1_3 dX11_count_99 ?_
  exact W.iret (pc := 102) (v := 0) hx hb hr (fun t ht hW => ⟨⟨0, (), rfl, rfl, _, rfl, by rw [ht]; exact hP, hD⟩, hS.F ht⟩) hS.2.2 dX11_count_102
set_option maxHeartbeats 4000000 in
set_option maxRecDepth 100000 in
/-- X11_count -/
theorem c_count_o (l : Launch) (D : va_G) (cy : Nat → ClassId) (kv : KV) (sz : Nat) (ad0 : Nat) (xi0 : Int32) (fn0 : Nat → Value) (hn : xi0.toInt < 0 ∨ 8 < xi0.toInt) : Met l yX11_count (Cond.code yX11_count cX11_count 2 (some .int) :: GW) ({ frames := 8, cells := 0, slots := 0, locals := 120 } : Room) (va_Pc [.ref ad0, .int xi0] (pcq D cy kv sz [(ad0, ob 11 15 fn0)])) (va_Qi (fun r (_ : Unit) => r = (-1)) (fun _ t => bq D (fun w => w = [(ad0, ob 11 15 fn0)]) (va_A [(ad0, ob 11 15 fn0)] sz) t) (va_A [(ad0, ob 11 15 fn0)] sz)) 0 0 (va_A [(ad0, ob 11 15 fn0)] sz) := by
  refine Met.ofW (cc := cX11_count) (maxL := 2) (ret := (some .int)) (by decide) rfl ?_
  intro p e s m args below meth c s₁ B hml hv
  obtain ⟨rfl, hsz, hP, hK, hD0, hE⟩ := hv
  have hx := B.exec
  have hb := B.bytes
  have hr := B.returns
  have hG : ∀ w ∈ GW, w.before ([.ref ad0, .int xi0] : List Value).toArray s = true := fun w h => atoms_spec (ws := Cond.code yX11_count cX11_count 2 (some .int) :: GW) B.pre w (List.mem_cons_of_mem _ h)
  have hown : s.vm.findClass RX11 = some m.cls := findClass_of_methodNamed B.named
  have hlocks := B.notSynchronized
  subst hsz
  have hD := hD0.self (sz := s.heap.size)
  generalize hAe : va_A [(ad0, ob 11 15 fn0)] s.heap.size = A at hD hE ⊢
  have hA : ∀ q : Nat, s.heap.size ≤ q → A q := fun q h => by rw [← hAe]; exact Or.inr h
  have hS : va_S A s.heap s.heap [] := va_S.rf
  clear hAe hD0
  have hl0 := lv_entry ([.ref ad0, .int xi0]) (n := 2) (Nat.le_of_ble_eq_true rfl)
  rw [lg_entry_eq]
  generalize (lg_sl ([.ref ad0, .int xi0]) ++ List.replicate (2 - (lg_sl ([.ref ad0, .int xi0])).length) Slot.unset).toArray = ls at hl0 ⊢
  have hl : lv_has ls 2 [(0, .ref ad0), (1, .int xi0)] := hl0
  clear hl0
  refine lv_iload_n (pc := 0) hx hb dX11_count_0 rfl (lv_at hl 1 rfl) ?_
  refine lv_tableOut (pc := 1) (tgt := 103) hx hb dX11_count_1 hn (by decide) ?_
  refine lv_iconst (pc := 103) (v := (-1)) hx hb dX11_count_103 (by decide) ?_
  exact W.iret (pc := 104) (v := (-1)) hx hb hr (fun t ht hW => ⟨⟨(-1), (), rfl, rfl, _, rfl, by rw [ht]; exact hP, hD⟩, hS.F ht⟩) hS.2.2 dX11_count_104
set_option maxHeartbeats 4000000 in
set_option maxRecDepth 100000 in
/-- X11_recordAt throws -/
theorem x_recordAt_n (l : Launch) (hst0 : l.stackTraces = false) (D : va_G) (cy : Nat → ClassId) (kv : KV) (sz : Nat) (ad0 : Nat) (xi0 : Int32) (fn0 : Nat → Value) (h0_13 : fn0 13 = .int 0) (hn : xi0 < 0) : vx_Met l yX11_recordAt (Cond.code yX11_recordAt cX11_recordAt 2 (some (.object "HarbourDesk$DeskRecord")) :: GW) ({ frames := 9, cells := 1, slots := 6, locals := 160 } : Room) (va_Pc [.ref ad0, .int xi0] (pcq D cy kv sz [(ad0, ob 11 15 fn0)])) (va_Qv (fun (_ : Unit) => False) (fun _ _ => True) (fun _ => False)) (vx_X (fun (_ : Unit) => True) (fun E _ t => E = "java/util/NoSuchElementException" ∧ bq D (fun w => w = [(ad0, ob 11 15 fn0)]) (va_A [(ad0, ob 11 15 fn0)] sz) t) (va_A [(ad0, ob 11 15 fn0)] sz)) 1 6 (va_A [(ad0, ob 11 15 fn0)] sz) := by
  refine vx_ofW (cc := cX11_recordAt) (maxL := 2) (ret := (some (.object "HarbourDesk$DeskRecord"))) (by decide) rfl ?_
  intro p e s m args below meth c s₁ B hml htb hv
  obtain ⟨rfl, hsz, hP, hK, hD0, hE⟩ := hv
  have hx := B.exec
  have hb := B.bytes
  have hr := B.returns
  have hG : ∀ w ∈ GW, w.before ([.ref ad0, .int xi0] : List Value).toArray s = true := fun w h => atoms_spec (ws := Cond.code yX11_recordAt cX11_recordAt 2 (some (.object "HarbourDesk$DeskRecord")) :: GW) B.pre w (List.mem_cons_of_mem _ h)
  have hown : s.vm.findClass RX11 = some m.cls := findClass_of_methodNamed B.named
  have hlocks := B.notSynchronized
  subst hsz
  have hD := hD0.self (sz := s.heap.size)
  generalize hAe : va_A [(ad0, ob 11 15 fn0)] s.heap.size = A at hD hE ⊢
  have hA : ∀ q : Nat, s.heap.size ≤ q → A q := fun q h => by rw [← hAe]; exact Or.inr h
  have hS : va_S A s.heap s.heap [] := va_S.rf
  clear hAe hD0
  have hl0 := lv_entry ([.ref ad0, .int xi0]) (n := 2) (Nat.le_of_ble_eq_true rfl)
  rw [lg_entry_eq]
  generalize (lg_sl ([.ref ad0, .int xi0]) ++ List.replicate (2 - (lg_sl ([.ref ad0, .int xi0])).length) Slot.unset).toArray = ls at hl0 ⊢
  have hl : lv_has ls 2 [(0, .ref ad0), (1, .int xi0)] := hl0
  clear hl0
  refine lv_iload_n (pc := 0) hx hb dX11_recordAt_0 rfl (lv_at hl 1 rfl) ?_
  refine lv_if_lt (pc := 1) (tgt := 21) hx hb dX11_recordAt_1 (by decide) (fun c1 => ?_) (fun c1 => absurd hn c1)
  exact vx_throw0 (pc := 21) (own := RX11) (cls := "java/util/NoSuchElementException") (names := XN) (ik := 312) (ic := 314) hx hb hst0 hown (by decide) (by decide) (hG _ g_277) (hG _ g_278) (vx_hat (B := [Cond.declares ⟨"java/lang/RuntimeException", "<init>", "()V"⟩, Cond.declares ⟨"java/lang/Exception", "<init>", "()V"⟩, Cond.declares ⟨"java/lang/Throwable", "<init>", "()V"⟩, Cond.castable "java/util/NoSuchElementException" "java/util/NoSuchElementException"]) (fun w hw => hG w (in_x1 w hw)) (by decide +kernel) (vx_c (va_Nw.use rfl (nw_at hE n_7)) (vx_c (va_Nw.use rfl (nw_at hE n_8)) (vx_c (va_Nw.use rfl (nw_at hE n_9)) (vx_c (va_Nw.use rfl (nw_at hE n_23)) vx_n))))) (by decide +kernel) hE.2.2.1 hE.2.2.2.1 hS (by rw [hml]; exact hl.1) dX11_recordAt_21 dX11_recordAt_24 dX11_recordAt_25 dX11_recordAt_28 (fun x hx9 => (htb x hx9).elim) (Nat.le_of_ble_eq_true rfl) (Nat.le_of_ble_eq_true rfl) (Nat.le_of_ble_eq_true rfl) (Nat.le_of_ble_eq_true rfl) hlocks (xq_of (E := "java/util/NoSuchElementException") (Rw := (fun w => w = [(ad0, ob 11 15 fn0)])) rfl hP hD hS) hS.2.2 (by decide) (by decide)
set_option maxHeartbeats 4000000 in
set_option maxRecDepth 100000 in
/-- X11_recordAt throws -/
theorem x_recordAt_p (l : Launch) (hst0 : l.stackTraces = false) (D : va_G) (cy : Nat → ClassId) (kv : KV) (sz : Nat) (ad0 : Nat) (xi0 : Int32) (fn0 : Nat → Value) (h0_13 : fn0 13 = .int 0) (hn : 0 ≤ xi0) : vx_Met l yX11_recordAt (Cond.code yX11_recordAt cX11_recordAt 2 (some (.object "HarbourDesk$DeskRecord")) :: GW) ({ frames := 9, cells := 1, slots := 6, locals := 160 } : Room) (va_Pc [.ref ad0, .int xi0] (pcq D cy kv sz [(ad0, ob 11 15 fn0)])) (va_Qv (fun (_ : Unit) => False) (fun _ _ => True) (fun _ => False)) (vx_X (fun (_ : Unit) => True) (fun E _ t => E = "java/util/NoSuchElementException" ∧ bq D (fun w => w = [(ad0, ob 11 15 fn0)]) (va_A [(ad0, ob 11 15 fn0)] sz) t) (va_A [(ad0, ob 11 15 fn0)] sz)) 1 6 (va_A [(ad0, ob 11 15 fn0)] sz) := by
  refine vx_ofW (cc := cX11_recordAt) (maxL := 2) (ret := (some (.object "HarbourDesk$DeskRecord"))) (by decide) rfl ?_
  intro p e s m args below meth c s₁ B hml htb hv
  obtain ⟨rfl, hsz, hP, hK, hD0, hE⟩ := hv
  have hx := B.exec
  have hb := B.bytes
  have hr := B.returns
  have hG : ∀ w ∈ GW, w.before ([.ref ad0, .int xi0] : List Value).toArray s = true := fun w h => atoms_spec (ws := Cond.code yX11_recordAt cX11_recordAt 2 (some (.object "HarbourDesk$DeskRecord")) :: GW) B.pre w (List.mem_cons_of_mem _ h)
  have hown : s.vm.findClass RX11 = some m.cls := findClass_of_methodNamed B.named
  have hlocks := B.notSynchronized
  subst hsz
  have hD := hD0.self (sz := s.heap.size)
  generalize hAe : va_A [(ad0, ob 11 15 fn0)] s.heap.size = A at hD hE ⊢
  have hA : ∀ q : Nat, s.heap.size ≤ q → A q := fun q h => by rw [← hAe]; exact Or.inr h
  have hS : va_S A s.heap s.heap [] := va_S.rf
  clear hAe hD0
  have hl0 := lv_entry ([.ref ad0, .int xi0]) (n := 2) (Nat.le_of_ble_eq_true rfl)
  rw [lg_entry_eq]
  generalize (lg_sl ([.ref ad0, .int xi0]) ++ List.replicate (2 - (lg_sl ([.ref ad0, .int xi0])).length) Slot.unset).toArray = ls at hl0 ⊢
  have hl : lv_has ls 2 [(0, .ref ad0), (1, .int xi0)] := hl0
  clear hl0
  refine lv_iload_n (pc := 0) hx hb dX11_recordAt_0 rfl (lv_at hl 1 rfl) ?_
  refine lv_if_lt (pc := 1) (tgt := 21) hx hb dX11_recordAt_1 (by decide) (fun c1 => absurd c1 (i_nlt hn)) (fun c1 => ?_)
  refine lv_iload_n (pc := 4) hx hb dX11_recordAt_4 rfl (lv_at hl 1 rfl) ?_
  refine lv_aload_n (pc := 5) hx hb dX11_recordAt_5 rfl (lv_at hl 0 rfl) ?_
  refine ob_get (pc := 6) (v := .int 0) (ci := 11) (C := RX11) (T := TX11) (N := 15) hx hb hG in_X11 hown hK hP 0 rfl rfl 13 (by decide) (hG _ g_129) rfl h0_13 dX11_recordAt_6 ?_
  refine lv_icmp_ge (pc := 9) (tgt := 21) hx hb dX11_recordAt_9 (by decide) (fun c2 => ?_) (fun c2 => absurd hn c2)
  exact vx_throw0 (pc := 21) (own := RX11) (cls := "java/util/NoSuchElementException") (names := XN) (ik := 312) (ic := 314) hx hb hst0 hown (by decide) (by decide) (hG _ g_277) (hG _ g_278) (vx_hat (B := [Cond.declares ⟨"java/lang/RuntimeException", "<init>", "()V"⟩, Cond.declares ⟨"java/lang/Exception", "<init>", "()V"⟩, Cond.declares ⟨"java/lang/Throwable", "<init>", "()V"⟩, Cond.castable "java/util/NoSuchElementException" "java/util/NoSuchElementException"]) (fun w hw => hG w (in_x1 w hw)) (by decide +kernel) (vx_c (va_Nw.use rfl (nw_at hE n_7)) (vx_c (va_Nw.use rfl (nw_at hE n_8)) (vx_c (va_Nw.use rfl (nw_at hE n_9)) (vx_c (va_Nw.use rfl (nw_at hE n_23)) vx_n))))) (by decide +kernel) hE.2.2.1 hE.2.2.2.1 hS (by rw [hml]; exact hl.1) dX11_recordAt_21 dX11_recordAt_24 dX11_recordAt_25 dX11_recordAt_28 (fun x hx9 => (htb x hx9).elim) (Nat.le_of_ble_eq_true rfl) (Nat.le_of_ble_eq_true rfl) (Nat.le_of_ble_eq_true rfl) (Nat.le_of_ble_eq_true rfl) hlocks (xq_of (E := "java/util/NoSuchElementException") (Rw := (fun w => w = [(ad0, ob 11 15 fn0)])) rfl hP hD hS) hS.2.2 (by decide) (by decide)
set_option maxHeartbeats 4000000 in
set_option maxRecDepth 100000 in
/-- X11_record throws -/
theorem x_record_n (l : Launch) (hst0 : l.stackTraces = false) (D : va_G) (cy : Nat → ClassId) (kv : KV) (sz : Nat) (ad0 : Nat) (xi0 : Int32) (xi1 : Int32) (fn0 : Nat → Value) (h0_13 : fn0 13 = .int 0) (hn : xi0 < 0) : vx_Met l yX11_record (Cond.code yX11_record cX11_record 4 (some .int) :: GW) ({ frames := 11, cells := 1, slots := 6, locals := 240 } : Room) (va_Pc [.ref ad0, .int xi0, .int xi1] (pcq D cy kv sz [(ad0, ob 11 15 fn0)])) (va_Qv (fun (_ : Unit) => False) (fun _ _ => True) (fun _ => False)) (vx_X (fun (_ : Unit) => True) (fun E _ t => E = "java/util/NoSuchElementException" ∧ bq D (fun w => w = [(ad0, ob 11 15 fn0)]) (va_A [(ad0, ob 11 15 fn0)] sz) t) (va_A [(ad0, ob 11 15 fn0)] sz)) 1 6 (va_A [(ad0, ob 11 15 fn0)] sz) := by
  refine vx_ofW (cc := cX11_record) (maxL := 4) (ret := (some .int)) (by decide) rfl ?_
  intro p e s m args below meth c s₁ B hml htb hv
  obtain ⟨rfl, hsz, hP, hK, hD0, hE⟩ := hv
  have hx := B.exec
  have hb := B.bytes
  have hr := B.returns
  have hG : ∀ w ∈ GW, w.before ([.ref ad0, .int xi0, .int xi1] : List Value).toArray s = true := fun w h => atoms_spec (ws := Cond.code yX11_record cX11_record 4 (some .int) :: GW) B.pre w (List.mem_cons_of_mem _ h)
  have hown : s.vm.findClass RX11 = some m.cls := findClass_of_methodNamed B.named
  have hlocks := B.notSynchronized
  subst hsz
  have hD := hD0.self (sz := s.heap.size)
  generalize hAe : va_A [(ad0, ob 11 15 fn0)] s.heap.size = A at hD hE ⊢
  have hA : ∀ q : Nat, s.heap.size ≤ q → A q := fun q h => by rw [← hAe]; exact Or.inr h
  have hS : va_S A s.heap s.heap [] := va_S.rf
  clear hAe hD0
  have hl0 := lv_entry ([.ref ad0, .int xi0, .int xi1]) (n := 4) (Nat.le_of_ble_eq_true rfl)
  rw [lg_entry_eq]
  generalize (lg_sl ([.ref ad0, .int xi0, .int xi1]) ++ List.replicate (4 - (lg_sl ([.ref ad0, .int xi0, .int xi1])).length) Slot.unset).toArray = ls at hl0 ⊢
  have hl : lv_has ls 4 [(0, .ref ad0), (1, .int xi0), (2, .int xi1)] := hl0
  clear hl0
  refine lv_aload_n (pc := 0) hx hb dX11_record_0 rfl (lv_at hl 0 rfl) ?_
  refine lv_iload_n (pc := 1) hx hb dX11_record_1 rfl (lv_at hl 1 rfl) ?_
  refine xq_call (pc := 2) (wr := []) (k2 := 1) (n2 := 6) (vx_runV (As := [.int xi0]) (rest := []) ⟨hx, hb, hml, hown, hG⟩ (x_recordAt_n l hst0 D cy kv s.heap.size ad0 xi0 fn0 h0_13 hn) (cwV 1 hG (gi_V g_280 g_281 g_282 g_143 g_279) rfl rfl rfl (by decide +kernel) ⟨Nat.le_of_ble_eq_true rfl, Nat.le_of_ble_eq_true rfl⟩) ⟨pq_blind, (va_recv hK hP (ci := 11) (q0 := 0) rfl rfl), (pq_pass hP hD hK hE hS hA [0] rfl (by decide))⟩ rfl rfl hl.1 rfl (lv_room (Nat.le_of_ble_eq_true rfl)) dX11_record_2 ⟨Nat.le_of_ble_eq_true rfl, Nat.le_of_ble_eq_true rfl⟩) hP hD hS hA [0] [] rfl rfl (by decide) (by decide) (by decide) (by decide) (fun ce1 q1 w1 H1 lo1 hR1 hP1r hD1r hS1 hce1 hcv1 hcl1 => ?_)
  subst hR1
  have hP1 : va_P D classes [(ad0, ob 11 15 fn0)] H1 := hP1r
  have hD1 : va_D A [(ad0, ob 11 15 fn0)] := hD1r
  clear hP1r hD1r
  clear hP hD hS
  exact vx_out (pc := 2) (fun x hx9 => (htb x hx9).elim) hlocks hce1 hcv1 hcl1 (fun t ht hW => xq_of (E := "java/util/NoSuchElementException") (Rw := (fun w => w = [(ad0, ob 11 15 fn0)])) rfl hP1 hD1 hS1 t hW (Nat.le_of_eq (by rw [ht])) (fun q _ => by rw [ht])) hS1.2.2 (by decide) (by decide)
set_option maxHeartbeats 4000000 in
set_option maxRecDepth 100000 in
/-- X11_record throws -/
theorem x_record_p (l : Launch) (hst0 : l.stackTraces = false) (D : va_G) (cy : Nat → ClassId) (kv : KV) (sz : Nat) (ad0 : Nat) (xi0 : Int32) (xi1 : Int32) (fn0 : Nat → Value) (h0_13 : fn0 13 = .int 0) (hn : 0 ≤ xi0) : vx_Met l yX11_record (Cond.code yX11_record cX11_record 4 (some .int) :: GW) ({ frames := 11, cells := 1, slots := 6, locals := 240 } : Room) (va_Pc [.ref ad0, .int xi0, .int xi1] (pcq D cy kv sz [(ad0, ob 11 15 fn0)])) (va_Qv (fun (_ : Unit) => False) (fun _ _ => True) (fun _ => False)) (vx_X (fun (_ : Unit) => True) (fun E _ t => E = "java/util/NoSuchElementException" ∧ bq D (fun w => w = [(ad0, ob 11 15 fn0)]) (va_A [(ad0, ob 11 15 fn0)] sz) t) (va_A [(ad0, ob 11 15 fn0)] sz)) 1 6 (va_A [(ad0, ob 11 15 fn0)] sz) := by
  refine vx_ofW (cc := cX11_record) (maxL := 4) (ret := (some .int)) (by decide) rfl ?_
  intro p e s m args below meth c s₁ B hml htb hv
  obtain ⟨rfl, hsz, hP, hK, hD0, hE⟩ := hv
  have hx := B.exec
  have hb := B.bytes
  have hr := B.returns
  have hG : ∀ w ∈ GW, w.before ([.ref ad0, .int xi0, .int xi1] : List Value).toArray s = true := fun w h => atoms_spec (ws := Cond.code yX11_record cX11_record 4 (some .int) :: GW) B.pre w (List.mem_cons_of_mem _ h)
  have hown : s.vm.findClass RX11 = some m.cls := findClass_of_methodNamed B.named
  have hlocks := B.notSynchronized
  subst hsz
  have hD := hD0.self (sz := s.heap.size)
  generalize hAe : va_A [(ad0, ob 11 15 fn0)] s.heap.size = A at hD hE ⊢
  have hA : ∀ q : Nat, s.heap.size ≤ q → A q := fun q h => by rw [← hAe]; exact Or.inr h
  have hS : va_S A s.heap s.heap [] := va_S.rf
  clear hAe hD0
  have hl0 := lv_entry ([.ref ad0, .int xi0, .int xi1]) (n := 4) (Nat.le_of_ble_eq_true rfl)
  rw [lg_entry_eq]
  generalize (lg_sl ([.ref ad0, .int xi0, .int xi1]) ++ List.replicate (4 - (lg_sl ([.ref ad0, .int xi0, .int xi1])).length) Slot.unset).toArray = ls at hl0 ⊢
  have hl : lv_has ls 4 [(0, .ref ad0), (1, .int xi0), (2, .int xi1)] := hl0
  clear hl0
  refine lv_aload_n (pc := 0) hx hb dX11_record_0 rfl (lv_at hl 0 rfl) ?_
  refine lv_iload_n (pc := 1) hx hb dX11_record_1 rfl (lv_at hl 1 rfl) ?_
  refine xq_call (pc := 2) (wr := []) (k2 := 1) (n2 := 6) (vx_runV (As := [.int xi0]) (rest := []) ⟨hx, hb, hml, hown, hG⟩ (x_recordAt_p l hst0 D cy kv s.heap.size ad0 xi0 fn0 h0_13 hn) (cwV 1 hG (gi_V g_280 g_281 g_282 g_143 g_279) rfl rfl rfl (by decide +kernel) ⟨Nat.le_of_ble_eq_true rfl, Nat.le_of_ble_eq_true rfl⟩) ⟨pq_blind, (va_recv hK hP (ci := 11) (q0 := 0) rfl rfl), (pq_pass hP hD hK hE hS hA [0] rfl (by decide))⟩ rfl rfl hl.1 rfl (lv_room (Nat.le_of_ble_eq_true rfl)) dX11_record_2 ⟨Nat.le_of_ble_eq_true rfl, Nat.le_of_ble_eq_true rfl⟩) hP hD hS hA [0] [] rfl rfl (by decide) (by decide) (by decide) (by decide) (fun ce1 q1 w1 H1 lo1 hR1 hP1r hD1r hS1 hce1 hcv1 hcl1 => ?_)
  subst hR1
  have hP1 : va_P D classes [(ad0, ob 11 15 fn0)] H1 := hP1r
  have hD1 : va_D A [(ad0, ob 11 15 fn0)] := hD1r
  clear hP1r hD1r
  clear hP hD hS
  exact vx_out (pc := 2) (fun x hx9 => (htb x hx9).elim) hlocks hce1 hcv1 hcl1 (fun t ht hW => xq_of (E := "java/util/NoSuchElementException") (Rw := (fun w => w = [(ad0, ob 11 15 fn0)])) rfl hP1 hD1 hS1 t hW (Nat.le_of_eq (by rw [ht])) (fun q _ => by rw [ht])) hS1.2.2 (by decide) (by decide)
set_option maxHeartbeats 4000000 in
set_option maxRecDepth 100000 in
/-- X11_source throws -/
theorem x_source_n (l : Launch) (hst0 : l.stackTraces = false) (D : va_G) (cy : Nat → ClassId) (kv : KV) (sz : Nat) (ad0 : Nat) (xi0 : Int32) (xi1 : Int32) (fn0 : Nat → Value) (h0_13 : fn0 13 = .int 0) (hn : xi0 < 0) : vx_Met l yX11_source (Cond.code yX11_source cX11_source 4 (some .int) :: GW) ({ frames := 11, cells := 1, slots := 6, locals := 240 } : Room) (va_Pc [.ref ad0, .int xi0, .int xi1] (pcq D cy kv sz [(ad0, ob 11 15 fn0)])) (va_Qv (fun (_ : Unit) => False) (fun _ _ => True) (fun _ => False)) (vx_X (fun (_ : Unit) => True) (fun E _ t => E = "java/util/NoSuchElementException" ∧ bq D (fun w => w = [(ad0, ob 11 15 fn0)]) (va_A [(ad0, ob 11 15 fn0)] sz) t) (va_A [(ad0, ob 11 15 fn0)] sz)) 1 6 (va_A [(ad0, ob 11 15 fn0)] sz) := by
  refine vx_ofW (cc := cX11_source) (maxL := 4) (ret := (some .int)) (by decide) rfl ?_
  intro p e s m args below meth c s₁ B hml htb hv
  obtain ⟨rfl, hsz, hP, hK, hD0, hE⟩ := hv
  have hx := B.exec
  have hb := B.bytes
  have hr := B.returns
  have hG : ∀ w ∈ GW, w.before ([.ref ad0, .int xi0, .int xi1] : List Value).toArray s = true := fun w h => atoms_spec (ws := Cond.code yX11_source cX11_source 4 (some .int) :: GW) B.pre w (List.mem_cons_of_mem _ h)
  have hown : s.vm.findClass RX11 = some m.cls := findClass_of_methodNamed B.named
  have hlocks := B.notSynchronized
  subst hsz
  have hD := hD0.self (sz := s.heap.size)
  generalize hAe : va_A [(ad0, ob 11 15 fn0)] s.heap.size = A at hD hE ⊢
  have hA : ∀ q : Nat, s.heap.size ≤ q → A q := fun q h => by rw [← hAe]; exact Or.inr h
  have hS : va_S A s.heap s.heap [] := va_S.rf
  clear hAe hD0
  have hl0 := lv_entry ([.ref ad0, .int xi0, .int xi1]) (n := 4) (Nat.le_of_ble_eq_true rfl)
  rw [lg_entry_eq]
  generalize (lg_sl ([.ref ad0, .int xi0, .int xi1]) ++ List.replicate (4 - (lg_sl ([.ref ad0, .int xi0, .int xi1])).length) Slot.unset).toArray = ls at hl0 ⊢
  have hl : lv_has ls 4 [(0, .ref ad0), (1, .int xi0), (2, .int xi1)] := hl0
  clear hl0
  refine lv_aload_n (pc := 0) hx hb dX11_source_0 rfl (lv_at hl 0 rfl) ?_
  refine lv_iload_n (pc := 1) hx hb dX11_source_1 rfl (lv_at hl 1 rfl) ?_
  refine xq_call (pc := 2) (wr := []) (k2 := 1) (n2 := 6) (vx_runV (As := [.int xi0]) (rest := []) ⟨hx, hb, hml, hown, hG⟩ (x_recordAt_n l hst0 D cy kv s.heap.size ad0 xi0 fn0 h0_13 hn) (cwV 1 hG (gi_V g_280 g_281 g_282 g_143 g_279) rfl rfl rfl (by decide +kernel) ⟨Nat.le_of_ble_eq_true rfl, Nat.le_of_ble_eq_true rfl⟩) ⟨pq_blind, (va_recv hK hP (ci := 11) (q0 := 0) rfl rfl), (pq_pass hP hD hK hE hS hA [0] rfl (by decide))⟩ rfl rfl hl.1 rfl (lv_room (Nat.le_of_ble_eq_true rfl)) dX11_source_2 ⟨Nat.le_of_ble_eq_true rfl, Nat.le_of_ble_eq_true rfl⟩) hP hD hS hA [0] [] rfl rfl (by decide) (by decide) (by decide) (by decide) (fun ce1 q1 w1 H1 lo1 hR1 hP1r hD1r hS1 hce1 hcv1 hcl1 => ?_)
  subst hR1
  have hP1 : va_P D classes [(ad0, ob 11 15 fn0)] H1 := hP1r
  have hD1 : va_D A [(ad0, ob 11 15 fn0)] := hD1r
  clear hP1r hD1r
  clear hP hD hS
  exact vx_out (pc := 2) (fun x hx9 => (htb x hx9).elim) hlocks hce1 hcv1 hcl1 (fun t ht hW => xq_of (E := "java/util/NoSuchElementException") (Rw := (fun w => w = [(ad0, ob 11 15 fn0)])) rfl hP1 hD1 hS1 t hW (Nat.le_of_eq (by rw [ht])) (fun q _ => by rw [ht])) hS1.2.2 (by decide) (by decide)
set_option maxHeartbeats 4000000 in
set_option maxRecDepth 100000 in
/-- X11_source throws -/
theorem x_source_p (l : Launch) (hst0 : l.stackTraces = false) (D : va_G) (cy : Nat → ClassId) (kv : KV) (sz : Nat) (ad0 : Nat) (xi0 : Int32) (xi1 : Int32) (fn0 : Nat → Value) (h0_13 : fn0 13 = .int 0) (hn : 0 ≤ xi0) : vx_Met l yX11_source (Cond.code yX11_source cX11_source 4 (some .int) :: GW) ({ frames := 11, cells := 1, slots := 6, locals := 240 } : Room) (va_Pc [.ref ad0, .int xi0, .int xi1] (pcq D cy kv sz [(ad0, ob 11 15 fn0)])) (va_Qv (fun (_ : Unit) => False) (fun _ _ => True) (fun _ => False)) (vx_X (fun (_ : Unit) => True) (fun E _ t => E = "java/util/NoSuchElementException" ∧ bq D (fun w => w = [(ad0, ob 11 15 fn0)]) (va_A [(ad0, ob 11 15 fn0)] sz) t) (va_A [(ad0, ob 11 15 fn0)] sz)) 1 6 (va_A [(ad0, ob 11 15 fn0)] sz) := by
  refine vx_ofW (cc := cX11_source) (maxL := 4) (ret := (some .int)) (by decide) rfl ?_
  intro p e s m args below meth c s₁ B hml htb hv
  obtain ⟨rfl, hsz, hP, hK, hD0, hE⟩ := hv
  have hx := B.exec
  have hb := B.bytes
  have hr := B.returns
  have hG : ∀ w ∈ GW, w.before ([.ref ad0, .int xi0, .int xi1] : List Value).toArray s = true := fun w h => atoms_spec (ws := Cond.code yX11_source cX11_source 4 (some .int) :: GW) B.pre w (List.mem_cons_of_mem _ h)
  have hown : s.vm.findClass RX11 = some m.cls := findClass_of_methodNamed B.named
  have hlocks := B.notSynchronized
  subst hsz
  have hD := hD0.self (sz := s.heap.size)
  generalize hAe : va_A [(ad0, ob 11 15 fn0)] s.heap.size = A at hD hE ⊢
  have hA : ∀ q : Nat, s.heap.size ≤ q → A q := fun q h => by rw [← hAe]; exact Or.inr h
  have hS : va_S A s.heap s.heap [] := va_S.rf
  clear hAe hD0
  have hl0 := lv_entry ([.ref ad0, .int xi0, .int xi1]) (n := 4) (Nat.le_of_ble_eq_true rfl)
  rw [lg_entry_eq]
  generalize (lg_sl ([.ref ad0, .int xi0, .int xi1]) ++ List.replicate (4 - (lg_sl ([.ref ad0, .int xi0, .int xi1])).length) Slot.unset).toArray = ls at hl0 ⊢
  have hl : lv_has ls 4 [(0, .ref ad0), (1, .int xi0), (2, .int xi1)] := hl0
  clear hl0
  refine lv_aload_n (pc := 0) hx hb dX11_source_0 rfl (lv_at hl 0 rfl) ?_
  refine lv_iload_n (pc := 1) hx hb dX11_source_1 rfl (lv_at hl 1 rfl) ?_
  refine xq_call (pc := 2) (wr := []) (k2 := 1) (n2 := 6) (vx_runV (As := [.int xi0]) (rest := []) ⟨hx, hb, hml, hown, hG⟩ (x_recordAt_p l hst0 D cy kv s.heap.size ad0 xi0 fn0 h0_13 hn) (cwV 1 hG (gi_V g_280 g_281 g_282 g_143 g_279) rfl rfl rfl (by decide +kernel) ⟨Nat.le_of_ble_eq_true rfl, Nat.le_of_ble_eq_true rfl⟩) ⟨pq_blind, (va_recv hK hP (ci := 11) (q0 := 0) rfl rfl), (pq_pass hP hD hK hE hS hA [0] rfl (by decide))⟩ rfl rfl hl.1 rfl (lv_room (Nat.le_of_ble_eq_true rfl)) dX11_source_2 ⟨Nat.le_of_ble_eq_true rfl, Nat.le_of_ble_eq_true rfl⟩) hP hD hS hA [0] [] rfl rfl (by decide) (by decide) (by decide) (by decide) (fun ce1 q1 w1 H1 lo1 hR1 hP1r hD1r hS1 hce1 hcv1 hcl1 => ?_)
  subst hR1
  have hP1 : va_P D classes [(ad0, ob 11 15 fn0)] H1 := hP1r
  have hD1 : va_D A [(ad0, ob 11 15 fn0)] := hD1r
  clear hP1r hD1r
  clear hP hD hS
  exact vx_out (pc := 2) (fun x hx9 => (htb x hx9).elim) hlocks hce1 hcv1 hcl1 (fun t ht hW => xq_of (E := "java/util/NoSuchElementException") (Rw := (fun w => w = [(ad0, ob 11 15 fn0)])) rfl hP1 hD1 hS1 t hW (Nat.le_of_eq (by rw [ht])) (fun q _ => by rw [ht])) hS1.2.2 (by decide) (by decide)
set_option maxHeartbeats 4000000 in
set_option maxRecDepth 100000 in
/-- X11_value throws -/
theorem x_value_n (l : Launch) (hst0 : l.stackTraces = false) (D : va_G) (cy : Nat → ClassId) (kv : KV) (sz : Nat) (ad0 : Nat) (xi0 : Int32) (xi1 : Int32) (fn0 : Nat → Value) (h0_13 : fn0 13 = .int 0) (hn : xi0 < 0) : vx_Met l yX11_value (Cond.code yX11_value cX11_value 4 (some .int) :: GW) ({ frames := 11, cells := 1, slots := 6, locals := 240 } : Room) (va_Pc [.ref ad0, .int xi0, .int xi1] (pcq D cy kv sz [(ad0, ob 11 15 fn0)])) (va_Qv (fun (_ : Unit) => False) (fun _ _ => True) (fun _ => False)) (vx_X (fun (_ : Unit) => True) (fun E _ t => E = "java/util/NoSuchElementException" ∧ bq D (fun w => w = [(ad0, ob 11 15 fn0)]) (va_A [(ad0, ob 11 15 fn0)] sz) t) (va_A [(ad0, ob 11 15 fn0)] sz)) 1 6 (va_A [(ad0, ob 11 15 fn0)] sz) := by
  refine vx_ofW (cc := cX11_value) (maxL := 4) (ret := (some .int)) (by decide) rfl ?_
  intro p e s m args below meth c s₁ B hml htb hv
  obtain ⟨rfl, hsz, hP, hK, hD0, hE⟩ := hv
  have hx := B.exec
  have hb := B.bytes
  have hr := B.returns
  have hG : ∀ w ∈ GW, w.before ([.ref ad0, .int xi0, .int xi1] : List Value).toArray s = true := fun w h => atoms_spec (ws := Cond.code yX11_value cX11_value 4 (some .int) :: GW) B.pre w (List.mem_cons_of_mem _ h)
  have hown : s.vm.findClass RX11 = some m.cls := findClass_of_methodNamed B.named
  have hlocks := B.notSynchronized
  subst hsz
  have hD := hD0.self (sz := s.heap.size)
  generalize hAe : va_A [(ad0, ob 11 15 fn0)] s.heap.size = A at hD hE ⊢
  have hA : ∀ q : Nat, s.heap.size ≤ q → A q := fun q h => by rw [← hAe]; exact Or.inr h
  have hS : va_S A s.heap s.heap [] := va_S.rf
  clear hAe hD0
  have hl0 := lv_entry ([.ref ad0, .int xi0, .int xi1]) (n := 4) (Nat.le_of_ble_eq_true rfl)
  rw [lg_entry_eq]
  generalize (lg_sl ([.ref ad0, .int xi0, .int xi1]) ++ List.replicate (4 - (lg_sl ([.ref ad0, .int xi0, .int xi1])).length) Slot.unset).toArray = ls at hl0 ⊢
  have hl : lv_has ls 4 [(0, .ref ad0), (1, .int xi0), (2, .int xi1)] := hl0
  clear hl0
  refine lv_aload_n (pc := 0) hx hb dX11_value_0 rfl (lv_at hl 0 rfl) ?_
  refine lv_iload_n (pc := 1) hx hb dX11_value_1 rfl (lv_at hl 1 rfl) ?_
  refine xq_call (pc := 2) (wr := []) (k2 := 1) (n2 := 6) (vx_runV (As := [.int xi0]) (rest := []) ⟨hx, hb, hml, hown, hG⟩ (x_recordAt_n l hst0 D cy kv s.heap.size ad0 xi0 fn0 h0_13 hn) (cwV 1 hG (gi_V g_280 g_281 g_282 g_143 g_279) rfl rfl rfl (by decide +kernel) ⟨Nat.le_of_ble_eq_true rfl, Nat.le_of_ble_eq_true rfl⟩) ⟨pq_blind, (va_recv hK hP (ci := 11) (q0 := 0) rfl rfl), (pq_pass hP hD hK hE hS hA [0] rfl (by decide))⟩ rfl rfl hl.1 rfl (lv_room (Nat.le_of_ble_eq_true rfl)) dX11_value_2 ⟨Nat.le_of_ble_eq_true rfl, Nat.le_of_ble_eq_true rfl⟩) hP hD hS hA [0] [] rfl rfl (by decide) (by decide) (by decide) (by decide) (fun ce1 q1 w1 H1 lo1 hR1 hP1r hD1r hS1 hce1 hcv1 hcl1 => ?_)
  subst hR1
  have hP1 : va_P D classes [(ad0, ob 11 15 fn0)] H1 := hP1r
  have hD1 : va_D A [(ad0, ob 11 15 fn0)] := hD1r
  clear hP1r hD1r
  clear hP hD hS
  exact vx_out (pc := 2) (fun x hx9 => (htb x hx9).elim) hlocks hce1 hcv1 hcl1 (fun t ht hW => xq_of (E := "java/util/NoSuchElementException") (Rw := (fun w => w = [(ad0, ob 11 15 fn0)])) rfl hP1 hD1 hS1 t hW (Nat.le_of_eq (by rw [ht])) (fun q _ => by rw [ht])) hS1.2.2 (by decide) (by decide)
set_option maxHeartbeats 4000000 in
set_option maxRecDepth 100000 in
/-- X11_value throws -/
theorem x_value_p (l : Launch) (hst0 : l.stackTraces = false) (D : va_G) (cy : Nat → ClassId) (kv : KV) (sz : Nat) (ad0 : Nat) (xi0 : Int32) (xi1 : Int32) (fn0 : Nat → Value) (h0_13 : fn0 13 = .int 0) (hn : 0 ≤ xi0) : vx_Met l yX11_value (Cond.code yX11_value cX11_value 4 (some .int) :: GW) ({ frames := 11, cells := 1, slots := 6, locals := 240 } : Room) (va_Pc [.ref ad0, .int xi0, .int xi1] (pcq D cy kv sz [(ad0, ob 11 15 fn0)])) (va_Qv (fun (_ : Unit) => False) (fun _ _ => True) (fun _ => False)) (vx_X (fun (_ : Unit) => True) (fun E _ t => E = "java/util/NoSuchElementException" ∧ bq D (fun w => w = [(ad0, ob 11 15 fn0)]) (va_A [(ad0, ob 11 15 fn0)] sz) t) (va_A [(ad0, ob 11 15 fn0)] sz)) 1 6 (va_A [(ad0, ob 11 15 fn0)] sz) := by
  refine vx_ofW (cc := cX11_value) (maxL := 4) (ret := (some .int)) (by decide) rfl ?_
  intro p e s m args below meth c s₁ B hml htb hv
  obtain ⟨rfl, hsz, hP, hK, hD0, hE⟩ := hv
  have hx := B.exec
  have hb := B.bytes
  have hr := B.returns
  have hG : ∀ w ∈ GW, w.before ([.ref ad0, .int xi0, .int xi1] : List Value).toArray s = true := fun w h => atoms_spec (ws := Cond.code yX11_value cX11_value 4 (some .int) :: GW) B.pre w (List.mem_cons_of_mem _ h)
  have hown : s.vm.findClass RX11 = some m.cls := findClass_of_methodNamed B.named
  have hlocks := B.notSynchronized
  subst hsz
  have hD := hD0.self (sz := s.heap.size)
  generalize hAe : va_A [(ad0, ob 11 15 fn0)] s.heap.size = A at hD hE ⊢
  have hA : ∀ q : Nat, s.heap.size ≤ q → A q := fun q h => by rw [← hAe]; exact Or.inr h
  have hS : va_S A s.heap s.heap [] := va_S.rf
  clear hAe hD0
  have hl0 := lv_entry ([.ref ad0, .int xi0, .int xi1]) (n := 4) (Nat.le_of_ble_eq_true rfl)
  rw [lg_entry_eq]
  generalize (lg_sl ([.ref ad0, .int xi0, .int xi1]) ++ List.replicate (4 - (lg_sl ([.ref ad0, .int xi0, .int xi1])).length) Slot.unset).toArray = ls at hl0 ⊢
  have hl : lv_has ls 4 [(0, .ref ad0), (1, .int xi0), (2, .int xi1)] := hl0
  clear hl0
  refine lv_aload_n (pc := 0) hx hb dX11_value_0 rfl (lv_at hl 0 rfl) ?_
  refine lv_iload_n (pc := 1) hx hb dX11_value_1 rfl (lv_at hl 1 rfl) ?_
  refine xq_call (pc := 2) (wr := []) (k2 := 1) (n2 := 6) (vx_runV (As := [.int xi0]) (rest := []) ⟨hx, hb, hml, hown, hG⟩ (x_recordAt_p l hst0 D cy kv s.heap.size ad0 xi0 fn0 h0_13 hn) (cwV 1 hG (gi_V g_280 g_281 g_282 g_143 g_279) rfl rfl rfl (by decide +kernel) ⟨Nat.le_of_ble_eq_true rfl, Nat.le_of_ble_eq_true rfl⟩) ⟨pq_blind, (va_recv hK hP (ci := 11) (q0 := 0) rfl rfl), (pq_pass hP hD hK hE hS hA [0] rfl (by decide))⟩ rfl rfl hl.1 rfl (lv_room (Nat.le_of_ble_eq_true rfl)) dX11_value_2 ⟨Nat.le_of_ble_eq_true rfl, Nat.le_of_ble_eq_true rfl⟩) hP hD hS hA [0] [] rfl rfl (by decide) (by decide) (by decide) (by decide) (fun ce1 q1 w1 H1 lo1 hR1 hP1r hD1r hS1 hce1 hcv1 hcl1 => ?_)
  subst hR1
  have hP1 : va_P D classes [(ad0, ob 11 15 fn0)] H1 := hP1r
  have hD1 : va_D A [(ad0, ob 11 15 fn0)] := hD1r
  clear hP1r hD1r
  clear hP hD hS
  exact vx_out (pc := 2) (fun x hx9 => (htb x hx9).elim) hlocks hce1 hcv1 hcl1 (fun t ht hW => xq_of (E := "java/util/NoSuchElementException") (Rw := (fun w => w = [(ad0, ob 11 15 fn0)])) rfl hP1 hD1 hS1 t hW (Nat.le_of_eq (by rw [ht])) (fun q _ => by rw [ht])) hS1.2.2 (by decide) (by decide)
set_option maxHeartbeats 4000000 in
set_option maxRecDepth 100000 in
/-- X11_item throws -/
theorem x_item_n (l : Launch) (hst0 : l.stackTraces = false) (D : va_G) (cy : Nat → ClassId) (kv : KV) (sz : Nat) (ad0 : Nat) (xi0 : Int32) (xi1 : Int32) (xi2 : Int32) (fn0 : Nat → Value) (h0_13 : fn0 13 = .int 0) (hn : xi0 < 0) : vx_Met l yX11_item (Cond.code yX11_item cX11_item 5 (some .int) :: GW) ({ frames := 11, cells := 1, slots := 6, locals := 240 } : Room) (va_Pc [.ref ad0, .int xi0, .int xi1, .int xi2] (pcq D cy kv sz [(ad0, ob 11 15 fn0)])) (va_Qv (fun (_ : Unit) => False) (fun _ _ => True) (fun _ => False)) (vx_X (fun (_ : Unit) => True) (fun E _ t => E = "java/util/NoSuchElementException" ∧ bq D (fun w => w = [(ad0, ob 11 15 fn0)]) (va_A [(ad0, ob 11 15 fn0)] sz) t) (va_A [(ad0, ob 11 15 fn0)] sz)) 1 6 (va_A [(ad0, ob 11 15 fn0)] sz) := by
  refine vx_ofW (cc := cX11_item) (maxL := 5) (ret := (some .int)) (by decide) rfl ?_
  intro p e s m args below meth c s₁ B hml htb hv
  obtain ⟨rfl, hsz, hP, hK, hD0, hE⟩ := hv
  have hx := B.exec
  have hb := B.bytes
  have hr := B.returns
  have hG : ∀ w ∈ GW, w.before ([.ref ad0, .int xi0, .int xi1, .int xi2] : List Value).toArray s = true := fun w h => atoms_spec (ws := Cond.code yX11_item cX11_item 5 (some .int) :: GW) B.pre w (List.mem_cons_of_mem _ h)
  have hown : s.vm.findClass RX11 = some m.cls := findClass_of_methodNamed B.named
  have hlocks := B.notSynchronized
  subst hsz
  have hD := hD0.self (sz := s.heap.size)
  generalize hAe : va_A [(ad0, ob 11 15 fn0)] s.heap.size = A at hD hE ⊢
  have hA : ∀ q : Nat, s.heap.size ≤ q → A q := fun q h => by rw [← hAe]; exact Or.inr h
  have hS : va_S A s.heap s.heap [] := va_S.rf
  clear hAe hD0
  have hl0 := lv_entry ([.ref ad0, .int xi0, .int xi1, .int xi2]) (n := 5) (Nat.le_of_ble_eq_true rfl)
  rw [lg_entry_eq]
  generalize (lg_sl ([.ref ad0, .int xi0, .int xi1, .int xi2]) ++ List.replicate (5 - (lg_sl ([.ref ad0, .int xi0, .int xi1, .int xi2])).length) Slot.unset).toArray = ls at hl0 ⊢
  have hl : lv_has ls 5 [(0, .ref ad0), (1, .int xi0), (2, .int xi1), (3, .int xi2)] := hl0
  clear hl0
  refine lv_aload_n (pc := 0) hx hb dX11_item_0 rfl (lv_at hl 0 rfl) ?_
  refine lv_iload_n (pc := 1) hx hb dX11_item_1 rfl (lv_at hl 1 rfl) ?_
  refine xq_call (pc := 2) (wr := []) (k2 := 1) (n2 := 6) (vx_runV (As := [.int xi0]) (rest := []) ⟨hx, hb, hml, hown, hG⟩ (x_recordAt_n l hst0 D cy kv s.heap.size ad0 xi0 fn0 h0_13 hn) (cwV 1 hG (gi_V g_280 g_281 g_282 g_143 g_279) rfl rfl rfl (by decide +kernel) ⟨Nat.le_of_ble_eq_true rfl, Nat.le_of_ble_eq_true rfl⟩) ⟨pq_blind, (va_recv hK hP (ci := 11) (q0 := 0) rfl rfl), (pq_pass hP hD hK hE hS hA [0] rfl (by decide))⟩ rfl rfl hl.1 rfl (lv_room (Nat.le_of_ble_eq_true rfl)) dX11_item_2 ⟨Nat.le_of_ble_eq_true rfl, Nat.le_of_ble_eq_true rfl⟩) hP hD hS hA [0] [] rfl rfl (by decide) (by decide) (by decide) (by decide) (fun ce1 q1 w1 H1 lo1 hR1 hP1r hD1r hS1 hce1 hcv1 hcl1 => ?_)
  subst hR1
  have hP1 : va_P D classes [(ad0, ob 11 15 fn0)] H1 := hP1r
  have hD1 : va_D A [(ad0, ob 11 15 fn0)] := hD1r
  clear hP1r hD1r
  clear hP hD hS
  exact vx_out (pc := 2) (fun x hx9 => (htb x hx9).elim) hlocks hce1 hcv1 hcl1 (fun t ht hW => xq_of (E := "java/util/NoSuchElementException") (Rw := (fun w => w = [(ad0, ob 11 15 fn0)])) rfl hP1 hD1 hS1 t hW (Nat.le_of_eq (by rw [ht])) (fun q _ => by rw [ht])) hS1.2.2 (by decide) (by decide)
set_option maxHeartbeats 4000000 in
set_option maxRecDepth 100000 in
/-- X11_item throws -/
theorem x_item_p (l : Launch) (hst0 : l.stackTraces = false) (D : va_G) (cy : Nat → ClassId) (kv : KV) (sz : Nat) (ad0 : Nat) (xi0 : Int32) (xi1 : Int32) (xi2 : Int32) (fn0 : Nat → Value) (h0_13 : fn0 13 = .int 0) (hn : 0 ≤ xi0) : vx_Met l yX11_item (Cond.code yX11_item cX11_item 5 (some .int) :: GW) ({ frames := 11, cells := 1, slots := 6, locals := 240 } : Room) (va_Pc [.ref ad0, .int xi0, .int xi1, .int xi2] (pcq D cy kv sz [(ad0, ob 11 15 fn0)])) (va_Qv (fun (_ : Unit) => False) (fun _ _ => True) (fun _ => False)) (vx_X (fun (_ : Unit) => True) (fun E _ t => E = "java/util/NoSuchElementException" ∧ bq D (fun w => w = [(ad0, ob 11 15 fn0)]) (va_A [(ad0, ob 11 15 fn0)] sz) t) (va_A [(ad0, ob 11 15 fn0)] sz)) 1 6 (va_A [(ad0, ob 11 15 fn0)] sz) := by
  refine vx_ofW (cc := cX11_item) (maxL := 5) (ret := (some .int)) (by decide) rfl ?_
  intro p e s m args below meth c s₁ B hml htb hv
  obtain ⟨rfl, hsz, hP, hK, hD0, hE⟩ := hv
  have hx := B.exec
  have hb := B.bytes
  have hr := B.returns
  have hG : ∀ w ∈ GW, w.before ([.ref ad0, .int xi0, .int xi1, .int xi2] : List Value).toArray s = true := fun w h => atoms_spec (ws := Cond.code yX11_item cX11_item 5 (some .int) :: GW) B.pre w (List.mem_cons_of_mem _ h)
  have hown : s.vm.findClass RX11 = some m.cls := findClass_of_methodNamed B.named
  have hlocks := B.notSynchronized
  subst hsz
  have hD := hD0.self (sz := s.heap.size)
  generalize hAe : va_A [(ad0, ob 11 15 fn0)] s.heap.size = A at hD hE ⊢
  have hA : ∀ q : Nat, s.heap.size ≤ q → A q := fun q h => by rw [← hAe]; exact Or.inr h
  have hS : va_S A s.heap s.heap [] := va_S.rf
  clear hAe hD0
  have hl0 := lv_entry ([.ref ad0, .int xi0, .int xi1, .int xi2]) (n := 5) (Nat.le_of_ble_eq_true rfl)
  rw [lg_entry_eq]
  generalize (lg_sl ([.ref ad0, .int xi0, .int xi1, .int xi2]) ++ List.replicate (5 - (lg_sl ([.ref ad0, .int xi0, .int xi1, .int xi2])).length) Slot.unset).toArray = ls at hl0 ⊢
  have hl : lv_has ls 5 [(0, .ref ad0), (1, .int xi0), (2, .int xi1), (3, .int xi2)] := hl0
  clear hl0
  refine lv_aload_n (pc := 0) hx hb dX11_item_0 rfl (lv_at hl 0 rfl) ?_
  refine lv_iload_n (pc := 1) hx hb dX11_item_1 rfl (lv_at hl 1 rfl) ?_
  refine xq_call (pc := 2) (wr := []) (k2 := 1) (n2 := 6) (vx_runV (As := [.int xi0]) (rest := []) ⟨hx, hb, hml, hown, hG⟩ (x_recordAt_p l hst0 D cy kv s.heap.size ad0 xi0 fn0 h0_13 hn) (cwV 1 hG (gi_V g_280 g_281 g_282 g_143 g_279) rfl rfl rfl (by decide +kernel) ⟨Nat.le_of_ble_eq_true rfl, Nat.le_of_ble_eq_true rfl⟩) ⟨pq_blind, (va_recv hK hP (ci := 11) (q0 := 0) rfl rfl), (pq_pass hP hD hK hE hS hA [0] rfl (by decide))⟩ rfl rfl hl.1 rfl (lv_room (Nat.le_of_ble_eq_true rfl)) dX11_item_2 ⟨Nat.le_of_ble_eq_true rfl, Nat.le_of_ble_eq_true rfl⟩) hP hD hS hA [0] [] rfl rfl (by decide) (by decide) (by decide) (by decide) (fun ce1 q1 w1 H1 lo1 hR1 hP1r hD1r hS1 hce1 hcv1 hcl1 => ?_)
  subst hR1
  have hP1 : va_P D classes [(ad0, ob 11 15 fn0)] H1 := hP1r
  have hD1 : va_D A [(ad0, ob 11 15 fn0)] := hD1r
  clear hP1r hD1r
  clear hP hD hS
  exact vx_out (pc := 2) (fun x hx9 => (htb x hx9).elim) hlocks hce1 hcv1 hcl1 (fun t ht hW => xq_of (E := "java/util/NoSuchElementException") (Rw := (fun w => w = [(ad0, ob 11 15 fn0)])) rfl hP1 hD1 hS1 t hW (Nat.le_of_eq (by rw [ht])) (fun q _ => by rw [ht])) hS1.2.2 (by decide) (by decide)
set_option maxHeartbeats 4000000 in
set_option maxRecDepth 100000 in
/-- X11_same throws -/
theorem x_same_n (l : Launch) (hst0 : l.stackTraces = false) (D : va_G) (cy : Nat → ClassId) (kv : KV) (sz : Nat) (ad0 : Nat) (xi0 : Int32) (xi1 : Int32) (fn0 : Nat → Value) (h0_13 : fn0 13 = .int 0) (hn : xi0 < 0) : vx_Met l yX11_same (Cond.code yX11_same cX11_same 3 (some .boolean) :: GW) ({ frames := 11, cells := 1, slots := 6, locals := 240 } : Room) (va_Pc [.ref ad0, .int xi0, .int xi1] (pcq D cy kv sz [(ad0, ob 11 15 fn0)])) (va_Qv (fun (_ : Unit) => False) (fun _ _ => True) (fun _ => False)) (vx_X (fun (_ : Unit) => True) (fun E _ t => E = "java/util/NoSuchElementException" ∧ bq D (fun w => w = [(ad0, ob 11 15 fn0)]) (va_A [(ad0, ob 11 15 fn0)] sz) t) (va_A [(ad0, ob 11 15 fn0)] sz)) 1 6 (va_A [(ad0, ob 11 15 fn0)] sz) := by
  refine vx_ofW (cc := cX11_same) (maxL := 3) (ret := (some .boolean)) (by decide) rfl ?_
  intro p e s m args below meth c s₁ B hml htb hv
  obtain ⟨rfl, hsz, hP, hK, hD0, hE⟩ := hv
  have hx := B.exec
  have hb := B.bytes
  have hr := B.returns
  have hG : ∀ w ∈ GW, w.before ([.ref ad0, .int xi0, .int xi1] : List Value).toArray s = true := fun w h => atoms_spec (ws := Cond.code yX11_same cX11_same 3 (some .boolean) :: GW) B.pre w (List.mem_cons_of_mem _ h)
  have hown : s.vm.findClass RX11 = some m.cls := findClass_of_methodNamed B.named
  have hlocks := B.notSynchronized
  subst hsz
  have hD := hD0.self (sz := s.heap.size)
  generalize hAe : va_A [(ad0, ob 11 15 fn0)] s.heap.size = A at hD hE ⊢
  have hA : ∀ q : Nat, s.heap.size ≤ q → A q := fun q h => by rw [← hAe]; exact Or.inr h
  have hS : va_S A s.heap s.heap [] := va_S.rf
  clear hAe hD0
  have hl0 := lv_entry ([.ref ad0, .int xi0, .int xi1]) (n := 3) (Nat.le_of_ble_eq_true rfl)
  rw [lg_entry_eq]
  generalize (lg_sl ([.ref ad0, .int xi0, .int xi1]) ++ List.replicate (3 - (lg_sl ([.ref ad0, .int xi0, .int xi1])).length) Slot.unset).toArray = ls at hl0 ⊢
  have hl : lv_has ls 3 [(0, .ref ad0), (1, .int xi0), (2, .int xi1)] := hl0
  clear hl0
  refine lv_aload_n (pc := 0) hx hb dX11_same_0 rfl (lv_at hl 0 rfl) ?_
  refine lv_iload_n (pc := 1) hx hb dX11_same_1 rfl (lv_at hl 1 rfl) ?_
  refine xq_call (pc := 2) (wr := []) (k2 := 1) (n2 := 6) (vx_runV (As := [.int xi0]) (rest := []) ⟨hx, hb, hml, hown, hG⟩ (x_recordAt_n l hst0 D cy kv s.heap.size ad0 xi0 fn0 h0_13 hn) (cwV 1 hG (gi_V g_280 g_281 g_282 g_143 g_279) rfl rfl rfl (by decide +kernel) ⟨Nat.le_of_ble_eq_true rfl, Nat.le_of_ble_eq_true rfl⟩) ⟨pq_blind, (va_recv hK hP (ci := 11) (q0 := 0) rfl rfl), (pq_pass hP hD hK hE hS hA [0] rfl (by decide))⟩ rfl rfl hl.1 rfl (lv_room (Nat.le_of_ble_eq_true rfl)) dX11_same_2 ⟨Nat.le_of_ble_eq_true rfl, Nat.le_of_ble_eq_true rfl⟩) hP hD hS hA [0] [] rfl rfl (by decide) (by decide) (by decide) (by decide) (fun ce1 q1 w1 H1 lo1 hR1 hP1r hD1r hS1 hce1 hcv1 hcl1 => ?_)
  subst hR1
  have hP1 : va_P D classes [(ad0, ob 11 15 fn0)] H1 := hP1r
  have hD1 : va_D A [(ad0, ob 11 15 fn0)] := hD1r
  clear hP1r hD1r
  clear hP hD hS
  exact vx_out (pc := 2) (fun x hx9 => (htb x hx9).elim) hlocks hce1 hcv1 hcl1 (fun t ht hW => xq_of (E := "java/util/NoSuchElementException") (Rw := (fun w => w = [(ad0, ob 11 15 fn0)])) rfl hP1 hD1 hS1 t hW (Nat.le_of_eq (by rw [ht])) (fun q _ => by rw [ht])) hS1.2.2 (by decide) (by decide)
set_option maxHeartbeats 4000000 in
set_option maxRecDepth 100000 in
/-- X11_same throws -/
theorem x_same_p (l : Launch) (hst0 : l.stackTraces = false) (D : va_G) (cy : Nat → ClassId) (kv : KV) (sz : Nat) (ad0 : Nat) (xi0 : Int32) (xi1 : Int32) (fn0 : Nat → Value) (h0_13 : fn0 13 = .int 0) (hn : 0 ≤ xi0) : vx_Met l yX11_same (Cond.code yX11_same cX11_same 3 (some .boolean) :: GW) ({ frames := 11, cells := 1, slots := 6, locals := 240 } : Room) (va_Pc [.ref ad0, .int xi0, .int xi1] (pcq D cy kv sz [(ad0, ob 11 15 fn0)])) (va_Qv (fun (_ : Unit) => False) (fun _ _ => True) (fun _ => False)) (vx_X (fun (_ : Unit) => True) (fun E _ t => E = "java/util/NoSuchElementException" ∧ bq D (fun w => w = [(ad0, ob 11 15 fn0)]) (va_A [(ad0, ob 11 15 fn0)] sz) t) (va_A [(ad0, ob 11 15 fn0)] sz)) 1 6 (va_A [(ad0, ob 11 15 fn0)] sz) := by
  refine vx_ofW (cc := cX11_same) (maxL := 3) (ret := (some .boolean)) (by decide) rfl ?_
  intro p e s m args below meth c s₁ B hml htb hv
  obtain ⟨rfl, hsz, hP, hK, hD0, hE⟩ := hv
  have hx := B.exec
  have hb := B.bytes
  have hr := B.returns
  have hG : ∀ w ∈ GW, w.before ([.ref ad0, .int xi0, .int xi1] : List Value).toArray s = true := fun w h => atoms_spec (ws := Cond.code yX11_same cX11_same 3 (some .boolean) :: GW) B.pre w (List.mem_cons_of_mem _ h)
  have hown : s.vm.findClass RX11 = some m.cls := findClass_of_methodNamed B.named
  have hlocks := B.notSynchronized
  subst hsz
  have hD := hD0.self (sz := s.heap.size)
  generalize hAe : va_A [(ad0, ob 11 15 fn0)] s.heap.size = A at hD hE ⊢
  have hA : ∀ q : Nat, s.heap.size ≤ q → A q := fun q h => by rw [← hAe]; exact Or.inr h
  have hS : va_S A s.heap s.heap [] := va_S.rf
  clear hAe hD0
  have hl0 := lv_entry ([.ref ad0, .int xi0, .int xi1]) (n := 3) (Nat.le_of_ble_eq_true rfl)
  rw [lg_entry_eq]
  generalize (lg_sl ([.ref ad0, .int xi0, .int xi1]) ++ List.replicate (3 - (lg_sl ([.ref ad0, .int xi0, .int xi1])).length) Slot.unset).toArray = ls at hl0 ⊢
  have hl : lv_has ls 3 [(0, .ref ad0), (1, .int xi0), (2, .int xi1)] := hl0
  clear hl0
  refine lv_aload_n (pc := 0) hx hb dX11_same_0 rfl (lv_at hl 0 rfl) ?_
  refine lv_iload_n (pc := 1) hx hb dX11_same_1 rfl (lv_at hl 1 rfl) ?_
  refine xq_call (pc := 2) (wr := []) (k2 := 1) (n2 := 6) (vx_runV (As := [.int xi0]) (rest := []) ⟨hx, hb, hml, hown, hG⟩ (x_recordAt_p l hst0 D cy kv s.heap.size ad0 xi0 fn0 h0_13 hn) (cwV 1 hG (gi_V g_280 g_281 g_282 g_143 g_279) rfl rfl rfl (by decide +kernel) ⟨Nat.le_of_ble_eq_true rfl, Nat.le_of_ble_eq_true rfl⟩) ⟨pq_blind, (va_recv hK hP (ci := 11) (q0 := 0) rfl rfl), (pq_pass hP hD hK hE hS hA [0] rfl (by decide))⟩ rfl rfl hl.1 rfl (lv_room (Nat.le_of_ble_eq_true rfl)) dX11_same_2 ⟨Nat.le_of_ble_eq_true rfl, Nat.le_of_ble_eq_true rfl⟩) hP hD hS hA [0] [] rfl rfl (by decide) (by decide) (by decide) (by decide) (fun ce1 q1 w1 H1 lo1 hR1 hP1r hD1r hS1 hce1 hcv1 hcl1 => ?_)
  subst hR1
  have hP1 : va_P D classes [(ad0, ob 11 15 fn0)] H1 := hP1r
  have hD1 : va_D A [(ad0, ob 11 15 fn0)] := hD1r
  clear hP1r hD1r
  clear hP hD hS
  exact vx_out (pc := 2) (fun x hx9 => (htb x hx9).elim) hlocks hce1 hcv1 hcl1 (fun t ht hW => xq_of (E := "java/util/NoSuchElementException") (Rw := (fun w => w = [(ad0, ob 11 15 fn0)])) rfl hP1 hD1 hS1 t hW (Nat.le_of_eq (by rw [ht])) (fun q _ => by rw [ht])) hS1.2.2 (by decide) (by decide)
set_option maxHeartbeats 4000000 in
set_option maxRecDepth 100000 in
/-- X11_print throws -/
theorem x_print_n (l : Launch) (hst0 : l.stackTraces = false) (D : va_G) (cy : Nat → ClassId) (kv : KV) (sz : Nat) (ad0 : Nat) (xi0 : Int32) (fn0 : Nat → Value) (h0_13 : fn0 13 = .int 0) (hn : xi0 < 0) : vx_Met l yX11_print (Cond.code yX11_print cX11_print 3 (some .int) :: GW) ({ frames := 11, cells := 1, slots := 6, locals := 240 } : Room) (va_Pc [.ref ad0, .int xi0] (pcq D cy kv sz [(ad0, ob 11 15 fn0)])) (va_Qv (fun (_ : Unit) => False) (fun _ _ => True) (fun _ => False)) (vx_X (fun (_ : Unit) => True) (fun E _ t => E = "java/util/NoSuchElementException" ∧ bq D (fun w => w = [(ad0, ob 11 15 fn0)]) (va_A [(ad0, ob 11 15 fn0)] sz) t) (va_A [(ad0, ob 11 15 fn0)] sz)) 1 6 (va_A [(ad0, ob 11 15 fn0)] sz) := by
  refine vx_ofW (cc := cX11_print) (maxL := 3) (ret := (some .int)) (by decide) rfl ?_
  intro p e s m args below meth c s₁ B hml htb hv
  obtain ⟨rfl, hsz, hP, hK, hD0, hE⟩ := hv
  have hx := B.exec
  have hb := B.bytes
  have hr := B.returns
  have hG : ∀ w ∈ GW, w.before ([.ref ad0, .int xi0] : List Value).toArray s = true := fun w h => atoms_spec (ws := Cond.code yX11_print cX11_print 3 (some .int) :: GW) B.pre w (List.mem_cons_of_mem _ h)
  have hown : s.vm.findClass RX11 = some m.cls := findClass_of_methodNamed B.named
  have hlocks := B.notSynchronized
  subst hsz
  have hD := hD0.self (sz := s.heap.size)
  generalize hAe : va_A [(ad0, ob 11 15 fn0)] s.heap.size = A at hD hE ⊢
  have hA : ∀ q : Nat, s.heap.size ≤ q → A q := fun q h => by rw [← hAe]; exact Or.inr h
  have hS : va_S A s.heap s.heap [] := va_S.rf
  clear hAe hD0
  have hl0 := lv_entry ([.ref ad0, .int xi0]) (n := 3) (Nat.le_of_ble_eq_true rfl)
  rw [lg_entry_eq]
  generalize (lg_sl ([.ref ad0, .int xi0]) ++ List.replicate (3 - (lg_sl ([.ref ad0, .int xi0])).length) Slot.unset).toArray = ls at hl0 ⊢
  have hl : lv_has ls 3 [(0, .ref ad0), (1, .int xi0)] := hl0
  clear hl0
  refine lv_aload_n (pc := 0) hx hb dX11_print_0 rfl (lv_at hl 0 rfl) ?_
  refine lv_iload_n (pc := 1) hx hb dX11_print_1 rfl (lv_at hl 1 rfl) ?_
  refine xq_call (pc := 2) (wr := []) (k2 := 1) (n2 := 6) (vx_runV (As := [.int xi0]) (rest := []) ⟨hx, hb, hml, hown, hG⟩ (x_recordAt_n l hst0 D cy kv s.heap.size ad0 xi0 fn0 h0_13 hn) (cwV 1 hG (gi_V g_280 g_281 g_282 g_143 g_279) rfl rfl rfl (by decide +kernel) ⟨Nat.le_of_ble_eq_true rfl, Nat.le_of_ble_eq_true rfl⟩) ⟨pq_blind, (va_recv hK hP (ci := 11) (q0 := 0) rfl rfl), (pq_pass hP hD hK hE hS hA [0] rfl (by decide))⟩ rfl rfl hl.1 rfl (lv_room (Nat.le_of_ble_eq_true rfl)) dX11_print_2 ⟨Nat.le_of_ble_eq_true rfl, Nat.le_of_ble_eq_true rfl⟩) hP hD hS hA [0] [] rfl rfl (by decide) (by decide) (by decide) (by decide) (fun ce1 q1 w1 H1 lo1 hR1 hP1r hD1r hS1 hce1 hcv1 hcl1 => ?_)
  subst hR1
  have hP1 : va_P D classes [(ad0, ob 11 15 fn0)] H1 := hP1r
  have hD1 : va_D A [(ad0, ob 11 15 fn0)] := hD1r
  clear hP1r hD1r
  clear hP hD hS
  exact vx_out (pc := 2) (fun x hx9 => (htb x hx9).elim) hlocks hce1 hcv1 hcl1 (fun t ht hW => xq_of (E := "java/util/NoSuchElementException") (Rw := (fun w => w = [(ad0, ob 11 15 fn0)])) rfl hP1 hD1 hS1 t hW (Nat.le_of_eq (by rw [ht])) (fun q _ => by rw [ht])) hS1.2.2 (by decide) (by decide)
set_option maxHeartbeats 4000000 in
set_option maxRecDepth 100000 in
/-- X11_print throws -/
theorem x_print_p (l : Launch) (hst0 : l.stackTraces = false) (D : va_G) (cy : Nat → ClassId) (kv : KV) (sz : Nat) (ad0 : Nat) (xi0 : Int32) (fn0 : Nat → Value) (h0_13 : fn0 13 = .int 0) (hn : 0 ≤ xi0) : vx_Met l yX11_print (Cond.code yX11_print cX11_print 3 (some .int) :: GW) ({ frames := 11, cells := 1, slots := 6, locals := 240 } : Room) (va_Pc [.ref ad0, .int xi0] (pcq D cy kv sz [(ad0, ob 11 15 fn0)])) (va_Qv (fun (_ : Unit) => False) (fun _ _ => True) (fun _ => False)) (vx_X (fun (_ : Unit) => True) (fun E _ t => E = "java/util/NoSuchElementException" ∧ bq D (fun w => w = [(ad0, ob 11 15 fn0)]) (va_A [(ad0, ob 11 15 fn0)] sz) t) (va_A [(ad0, ob 11 15 fn0)] sz)) 1 6 (va_A [(ad0, ob 11 15 fn0)] sz) := by
  refine vx_ofW (cc := cX11_print) (maxL := 3) (ret := (some .int)) (by decide) rfl ?_
  intro p e s m args below meth c s₁ B hml htb hv
  obtain ⟨rfl, hsz, hP, hK, hD0, hE⟩ := hv
  have hx := B.exec
  have hb := B.bytes
  have hr := B.returns
  have hG : ∀ w ∈ GW, w.before ([.ref ad0, .int xi0] : List Value).toArray s = true := fun w h => atoms_spec (ws := Cond.code yX11_print cX11_print 3 (some .int) :: GW) B.pre w (List.mem_cons_of_mem _ h)
  have hown : s.vm.findClass RX11 = some m.cls := findClass_of_methodNamed B.named
  have hlocks := B.notSynchronized
  subst hsz
  have hD := hD0.self (sz := s.heap.size)
  generalize hAe : va_A [(ad0, ob 11 15 fn0)] s.heap.size = A at hD hE ⊢
  have hA : ∀ q : Nat, s.heap.size ≤ q → A q := fun q h => by rw [← hAe]; exact Or.inr h
  have hS : va_S A s.heap s.heap [] := va_S.rf
  clear hAe hD0
  have hl0 := lv_entry ([.ref ad0, .int xi0]) (n := 3) (Nat.le_of_ble_eq_true rfl)
  rw [lg_entry_eq]
  generalize (lg_sl ([.ref ad0, .int xi0]) ++ List.replicate (3 - (lg_sl ([.ref ad0, .int xi0])).length) Slot.unset).toArray = ls at hl0 ⊢
  have hl : lv_has ls 3 [(0, .ref ad0), (1, .int xi0)] := hl0
  clear hl0
  refine lv_aload_n (pc := 0) hx hb dX11_print_0 rfl (lv_at hl 0 rfl) ?_
  refine lv_iload_n (pc := 1) hx hb dX11_print_1 rfl (lv_at hl 1 rfl) ?_
  refine xq_call (pc := 2) (wr := []) (k2 := 1) (n2 := 6) (vx_runV (As := [.int xi0]) (rest := []) ⟨hx, hb, hml, hown, hG⟩ (x_recordAt_p l hst0 D cy kv s.heap.size ad0 xi0 fn0 h0_13 hn) (cwV 1 hG (gi_V g_280 g_281 g_282 g_143 g_279) rfl rfl rfl (by decide +kernel) ⟨Nat.le_of_ble_eq_true rfl, Nat.le_of_ble_eq_true rfl⟩) ⟨pq_blind, (va_recv hK hP (ci := 11) (q0 := 0) rfl rfl), (pq_pass hP hD hK hE hS hA [0] rfl (by decide))⟩ rfl rfl hl.1 rfl (lv_room (Nat.le_of_ble_eq_true rfl)) dX11_print_2 ⟨Nat.le_of_ble_eq_true rfl, Nat.le_of_ble_eq_true rfl⟩) hP hD hS hA [0] [] rfl rfl (by decide) (by decide) (by decide) (by decide) (fun ce1 q1 w1 H1 lo1 hR1 hP1r hD1r hS1 hce1 hcv1 hcl1 => ?_)
  subst hR1
  have hP1 : va_P D classes [(ad0, ob 11 15 fn0)] H1 := hP1r
  have hD1 : va_D A [(ad0, ob 11 15 fn0)] := hD1r
  clear hP1r hD1r
  clear hP hD hS
  exact vx_out (pc := 2) (fun x hx9 => (htb x hx9).elim) hlocks hce1 hcv1 hcl1 (fun t ht hW => xq_of (E := "java/util/NoSuchElementException") (Rw := (fun w => w = [(ad0, ob 11 15 fn0)])) rfl hP1 hD1 hS1 t hW (Nat.le_of_eq (by rw [ht])) (fun q _ => by rw [ht])) hS1.2.2 (by decide) (by decide)
set_option maxHeartbeats 4000000 in
set_option maxRecDepth 100000 in
/-- X11_octet -/
theorem c_octet_n (l : Launch) (D : va_G) (cy : Nat → ClassId) (kv : KV) (sz : Nat) (ad0 : Nat) (xi0 : Int32) (fn0 : Nat → Value) (ad1 : Nat) (fn1 : Nat → Value) (h0_2 : fn0 2 = .ref ad1) (h1_3 : fn1 3 = .int 0) (hn : xi0 < 0) : Met l yX11_octet (Cond.code yX11_octet cX11_octet 2 (some .int) :: GW) ({ frames := 8, cells := 0, slots := 0, locals := 120 } : Room) (va_Pc [.ref ad0, .int xi0] (pcq D cy kv sz [(ad0, ob 11 15 fn0), (ad1, ob 13 4 fn1)])) (va_Qi (fun r (_ : Unit) => r = (-1)) (fun _ t => bq D (fun w => w = [(ad0, ob 11 15 fn0), (ad1, ob 13 4 fn1)]) (va_A [(ad0, ob 11 15 fn0), (ad1, ob 13 4 fn1)] sz) t) (va_A [(ad0, ob 11 15 fn0), (ad1, ob 13 4 fn1)] sz)) 0 0 (va_A [(ad0, ob 11 15 fn0), (ad1, ob 13 4 fn1)] sz) := by
  refine Met.ofW (cc := cX11_octet) (maxL := 2) (ret := (some .int)) (by decide) rfl ?_
  intro p e s m args below meth c s₁ B hml hv
  obtain ⟨rfl, hsz, hP, hK, hD0, hE⟩ := hv
  have hx := B.exec
  have hb := B.bytes
  have hr := B.returns
  have hG : ∀ w ∈ GW, w.before ([.ref ad0, .int xi0] : List Value).toArray s = true := fun w h => atoms_spec (ws := Cond.code yX11_octet cX11_octet 2 (some .int) :: GW) B.pre w (List.mem_cons_of_mem _ h)
  have hown : s.vm.findClass RX11 = some m.cls := findClass_of_methodNamed B.named
  have hlocks := B.notSynchronized
  subst hsz
  have hD := hD0.self (sz := s.heap.size)
  generalize hAe : va_A [(ad0, ob 11 15 fn0), (ad1, ob 13 4 fn1)] s.heap.size = A at hD hE ⊢
  have hA : ∀ q : Nat, s.heap.size ≤ q → A q := fun q h => by rw [← hAe]; exact Or.inr h
  have hS : va_S A s.heap s.heap [] := va_S.rf
  clear hAe hD0
  have hl0 := lv_entry ([.ref ad0, .int xi0]) (n := 2) (Nat.le_of_ble_eq_true rfl)
  rw [lg_entry_eq]
  generalize (lg_sl ([.ref ad0, .int xi0]) ++ List.replicate (2 - (lg_sl ([.ref ad0, .int xi0])).length) Slot.unset).toArray = ls at hl0 ⊢
  have hl : lv_has ls 2 [(0, .ref ad0), (1, .int xi0)] := hl0
  clear hl0
  refine lv_iload_n (pc := 0) hx hb dX11_octet_0 rfl (lv_at hl 1 rfl) ?_
  refine lv_if_lt (pc := 1) (tgt := 26) hx hb dX11_octet_1 (by decide) (fun c1 => ?_) (fun c1 => absurd hn c1)
  refine lv_iconst (pc := 26) (v := (-1)) hx hb dX11_octet_26 (by decide) ?_
  exact W.iret (pc := 27) (v := (-1)) hx hb hr (fun t ht hW => ⟨⟨(-1), (), rfl, rfl, _, rfl, by rw [ht]; exact hP, hD⟩, hS.F ht⟩) hS.2.2 dX11_octet_27
set_option maxHeartbeats 4000000 in
set_option maxRecDepth 100000 in
/-- X11_octet -/
theorem c_octet_p (l : Launch) (D : va_G) (cy : Nat → ClassId) (kv : KV) (sz : Nat) (ad0 : Nat) (xi0 : Int32) (fn0 : Nat → Value) (ad1 : Nat) (fn1 : Nat → Value) (h0_2 : fn0 2 = .ref ad1) (h1_3 : fn1 3 = .int 0) (hn : 0 ≤ xi0) : Met l yX11_octet (Cond.code yX11_octet cX11_octet 2 (some .int) :: GW) ({ frames := 10, cells := 0, slots := 0, locals := 200 } : Room) (va_Pc [.ref ad0, .int xi0] (pcq D cy kv sz [(ad0, ob 11 15 fn0), (ad1, ob 13 4 fn1)])) (va_Qi (fun r (_ : Unit) => r = (-1)) (fun _ t => bq D (fun w => w = [(ad0, ob 11 15 fn0), (ad1, ob 13 4 fn1)]) (va_A [(ad0, ob 11 15 fn0), (ad1, ob 13 4 fn1)] sz) t) (va_A [(ad0, ob 11 15 fn0), (ad1, ob 13 4 fn1)] sz)) 0 0 (va_A [(ad0, ob 11 15 fn0), (ad1, ob 13 4 fn1)] sz) := by
  refine Met.ofW (cc := cX11_octet) (maxL := 2) (ret := (some .int)) (by decide) rfl ?_
  intro p e s m args below meth c s₁ B hml hv
  obtain ⟨rfl, hsz, hP, hK, hD0, hE⟩ := hv
  have hx := B.exec
  have hb := B.bytes
  have hr := B.returns
  have hG : ∀ w ∈ GW, w.before ([.ref ad0, .int xi0] : List Value).toArray s = true := fun w h => atoms_spec (ws := Cond.code yX11_octet cX11_octet 2 (some .int) :: GW) B.pre w (List.mem_cons_of_mem _ h)
  have hown : s.vm.findClass RX11 = some m.cls := findClass_of_methodNamed B.named
  have hlocks := B.notSynchronized
  subst hsz
  have hD := hD0.self (sz := s.heap.size)
  generalize hAe : va_A [(ad0, ob 11 15 fn0), (ad1, ob 13 4 fn1)] s.heap.size = A at hD hE ⊢
  have hA : ∀ q : Nat, s.heap.size ≤ q → A q := fun q h => by rw [← hAe]; exact Or.inr h
  have hS : va_S A s.heap s.heap [] := va_S.rf
  clear hAe hD0
  have hl0 := lv_entry ([.ref ad0, .int xi0]) (n := 2) (Nat.le_of_ble_eq_true rfl)
  rw [lg_entry_eq]
  generalize (lg_sl ([.ref ad0, .int xi0]) ++ List.replicate (2 - (lg_sl ([.ref ad0, .int xi0])).length) Slot.unset).toArray = ls at hl0 ⊢
  have hl : lv_has ls 2 [(0, .ref ad0), (1, .int xi0)] := hl0
  clear hl0
  refine lv_iload_n (pc := 0) hx hb dX11_octet_0 rfl (lv_at hl 1 rfl) ?_
  refine lv_if_lt (pc := 1) (tgt := 26) hx hb dX11_octet_1 (by decide) (fun c1 => absurd c1 (i_nlt hn)) (fun c1 => ?_)
  refine lv_iload_n (pc := 4) hx hb dX11_octet_4 rfl (lv_at hl 1 rfl) ?_
  refine lv_aload_n (pc := 5) hx hb dX11_octet_5 rfl (lv_at hl 0 rfl) ?_
  refine ob_get (pc := 6) (v := .ref ad1) (ci := 11) (C := RX11) (T := TX11) (N := 15) hx hb hG in_X11 hown hK hP 0 rfl rfl 2 (by decide) (hG _ g_96) rfl h0_2 dX11_octet_6 ?_
  refine cq_i (pc := 9) (wr := [(ad0, ob 11 15 fn0)]) (k2 := 0) (n2 := 0) (va_runV (As := []) (rest := [.int xi0]) ⟨hx, hb, hml, hown, hG⟩ (c_SBlen l D cy kv s.heap.size ad1 fn1 h1_3) (cwV 0 hG (gi_V g_274 g_275 g_276 g_93 g_272) rfl rfl rfl (by decide +kernel) ⟨Nat.le_of_ble_eq_true rfl, Nat.le_of_ble_eq_true rfl⟩) ⟨pq_blind, (va_recv hK hP (ci := 13) (q0 := 1) rfl rfl), (pq_pass hP hD hK hE hS hA [1] rfl (by decide))⟩ rfl rfl hl.1 rfl (lv_room (Nat.le_of_ble_eq_true rfl)) dX11_octet_9 ⟨Nat.le_of_ble_eq_true rfl, Nat.le_of_ble_eq_true rfl⟩) hP hD hS hA [1] [0] rfl rfl (by decide) (by decide) (by decide) (by decide) (fun r2 w2 H2 lo2 e2 hR2 hP2r hD2r hS2 => ?_)
  subst hR2
  subst e2
  have hP2 : va_P D classes [(ad0, ob 11 15 fn0), (ad1, ob 13 4 fn1)] H2 := hP2r
  have hD2 : va_D A [(ad0, ob 11 15 fn0), (ad1, ob 13 4 fn1)] := hD2r
  clear hP2r hD2r
  clear hP hD hS
  refine lv_icmp_ge (pc := 12) (tgt := 26) hx hb dX11_octet_12 (by decide) (fun c3 => ?_) (fun c3 => absurd hn c3)
  refine lv_iconst (pc := 26) (v := (-1)) hx hb dX11_octet_26 (by decide) ?_
  exact W.iret (pc := 27) (v := (-1)) hx hb hr (fun t ht hW => ⟨⟨(-1), (), rfl, rfl, _, rfl, by rw [ht]; exact hP2, hD2⟩, hS2.F ht⟩) hS2.2.2 dX11_octet_27
set_option maxHeartbeats 4000000 in
set_option maxRecDepth 100000 in
/-- X11_show throws -/
theorem x_show (l : Launch) (hst0 : l.stackTraces = false) (D : va_G) (cy : Nat → ClassId) (kv : KV) (sz : Nat) (ad0 : Nat) (xi0 : Int32) (xi1 : Int32) (fn0 : Nat → Value) (hn : ¬ xi0 = 0) (hm : ¬ xi0 = 1) : vx_Met l yX11_show (Cond.code yX11_show cX11_show 4 (some .int) :: GW) ({ frames := 9, cells := 1, slots := 6, locals := 160 } : Room) (va_Pc [.ref ad0, .int xi0, .int xi1] (pcq D cy kv sz [(ad0, ob 11 15 fn0)])) (va_Qv (fun (_ : Unit) => False) (fun _ _ => True) (fun _ => False)) (vx_X (fun (_ : Unit) => True) (fun E _ t => E = "java/lang/IllegalArgumentException" ∧ bq D (fun w => w = [(ad0, ob 11 15 fn0)]) (va_A [(ad0, ob 11 15 fn0)] sz) t) (va_A [(ad0, ob 11 15 fn0)] sz)) 1 6 (va_A [(ad0, ob 11 15 fn0)] sz) := by
  refine vx_ofW (cc := cX11_show) (maxL := 4) (ret := (some .int)) (by decide) rfl ?_
  intro p e s m args below meth c s₁ B hml htb hv
  obtain ⟨rfl, hsz, hP, hK, hD0, hE⟩ := hv
  have hx := B.exec
  have hb := B.bytes
  have hr := B.returns
  have hG : ∀ w ∈ GW, w.before ([.ref ad0, .int xi0, .int xi1] : List Value).toArray s = true := fun w h => atoms_spec (ws := Cond.code yX11_show cX11_show 4 (some .int) :: GW) B.pre w (List.mem_cons_of_mem _ h)
  have hown : s.vm.findClass RX11 = some m.cls := findClass_of_methodNamed B.named
  have hlocks := B.notSynchronized
  subst hsz
  have hD := hD0.self (sz := s.heap.size)
  generalize hAe : va_A [(ad0, ob 11 15 fn0)] s.heap.size = A at hD hE ⊢
  have hA : ∀ q : Nat, s.heap.size ≤ q → A q := fun q h => by rw [← hAe]; exact Or.inr h
  have hS : va_S A s.heap s.heap [] := va_S.rf
  clear hAe hD0
  have hl0 := lv_entry ([.ref ad0, .int xi0, .int xi1]) (n := 4) (Nat.le_of_ble_eq_true rfl)
  rw [lg_entry_eq]
  generalize (lg_sl ([.ref ad0, .int xi0, .int xi1]) ++ List.replicate (4 - (lg_sl ([.ref ad0, .int xi0, .int xi1])).length) Slot.unset).toArray = ls at hl0 ⊢
  have hl : lv_has ls 4 [(0, .ref ad0), (1, .int xi0), (2, .int xi1)] := hl0
  clear hl0
  refine lv_iload_n (pc := 0) hx hb dX11_show_0 rfl (lv_at hl 1 rfl) ?_
  refine lv_if_eq (pc := 1) (tgt := 17) hx hb dX11_show_1 (by decide) (fun c1 => absurd c1 hn) (fun c1 => ?_)
  refine lv_iload_n (pc := 4) hx hb dX11_show_4 rfl (lv_at hl 1 rfl) ?_
  refine lv_iconst (pc := 5) (v := 1) hx hb dX11_show_5 (by decide) ?_
  refine lv_icmp_eq (pc := 6) (tgt := 17) hx hb dX11_show_6 (by decide) (fun c2 => absurd c2 hm) (fun c2 => ?_)
  exact vx_throw0 (pc := 9) (own := RX11) (cls := "java/lang/IllegalArgumentException") (names := XN) (ik := 101) (ic := 103) hx hb hst0 hown (by decide) (by decide) (hG _ g_151) (hG _ g_152) (vx_hat (B := [Cond.declares ⟨"java/lang/RuntimeException", "<init>", "()V"⟩, Cond.declares ⟨"java/lang/Exception", "<init>", "()V"⟩, Cond.declares ⟨"java/lang/Throwable", "<init>", "()V"⟩, Cond.castable "java/lang/IllegalArgumentException" "java/lang/IllegalArgumentException"]) (fun w hw => hG w (in_x0 w hw)) (by decide +kernel) (vx_c (va_Nw.use rfl (nw_at hE n_7)) (vx_c (va_Nw.use rfl (nw_at hE n_8)) (vx_c (va_Nw.use rfl (nw_at hE n_9)) (vx_c (va_Nw.use rfl (nw_at hE n_10)) vx_n))))) (by decide +kernel) hE.2.2.1 hE.2.2.2.1 hS (by rw [hml]; exact hl.1) dX11_show_9 dX11_show_12 dX11_show_13 dX11_show_16 (fun x hx9 => (htb x hx9).elim) (Nat.le_of_ble_eq_true rfl) (Nat.le_of_ble_eq_true rfl) (Nat.le_of_ble_eq_true rfl) (Nat.le_of_ble_eq_true rfl) hlocks (xq_of (E := "java/lang/IllegalArgumentException") (Rw := (fun w => w = [(ad0, ob 11 15 fn0)])) rfl hP hD hS) hS.2.2 (by decide) (by decide)
set_option maxHeartbeats 4000000 in
set_option maxRecDepth 100000 in
/-- X6_endAt -/
theorem c_endAt_n (l : Launch) (D : va_G) (cy : Nat → ClassId) (kv : KV) (sz : Nat) (ad0 : Nat) (xi0 : Int32) (fn0 : Nat → Value) (h0_1 : fn0 1 = .int 0) (hn : xi0 < 0) : Met l yX6_endAt (Cond.code yX6_endAt cX6_endAt 2 (some (.object "HarbourDesk$Text")) :: GW) ({ frames := 8, cells := 0, slots := 0, locals := 120 } : Room) (va_Pc [.ref ad0, .int xi0] (pcq D cy kv sz [(ad0, ob 6 7 fn0)])) (va_Qq (fun r (_ : Unit) => r = none) (fun _ t => bq D (fun w => w = [(ad0, ob 6 7 fn0)]) (va_A [(ad0, ob 6 7 fn0)] sz) t) (va_A [(ad0, ob 6 7 fn0)] sz)) 0 0 (va_A [(ad0, ob 6 7 fn0)] sz) := by
  refine Met.ofW (cc := cX6_endAt) (maxL := 2) (ret := (some (.object "HarbourDesk$Text"))) (by decide) rfl ?_
  intro p e s m args below meth c s₁ B hml hv
  obtain ⟨rfl, hsz, hP, hK, hD0, hE⟩ := hv
  have hx := B.exec
  have hb := B.bytes
  have hr := B.returns
  have hG : ∀ w ∈ GW, w.before ([.ref ad0, .int xi0] : List Value).toArray s = true := fun w h => atoms_spec (ws := Cond.code yX6_endAt cX6_endAt 2 (some (.object "HarbourDesk$Text")) :: GW) B.pre w (List.mem_cons_of_mem _ h)
  have hown : s.vm.findClass RX6 = some m.cls := findClass_of_methodNamed B.named
  have hlocks := B.notSynchronized
  subst hsz
  have hD := hD0.self (sz := s.heap.size)
  generalize hAe : va_A [(ad0, ob 6 7 fn0)] s.heap.size = A at hD hE ⊢
  have hA : ∀ q : Nat, s.heap.size ≤ q → A q := fun q h => by rw [← hAe]; exact Or.inr h
  have hS : va_S A s.heap s.heap [] := va_S.rf
  clear hAe hD0
  have hl0 := lv_entry ([.ref ad0, .int xi0]) (n := 2) (Nat.le_of_ble_eq_true rfl)
  rw [lg_entry_eq]
  generalize (lg_sl ([.ref ad0, .int xi0]) ++ List.replicate (2 - (lg_sl ([.ref ad0, .int xi0])).length) Slot.unset).toArray = ls at hl0 ⊢
  have hl : lv_has ls 2 [(0, .ref ad0), (1, .int xi0)] := hl0
  clear hl0
  refine lv_iload_n (pc := 0) hx hb dX6_endAt_0 rfl (lv_at hl 1 rfl) ?_
  refine lv_if_lt (pc := 1) (tgt := 21) hx hb dX6_endAt_1 (by decide) (fun c1 => ?_) (fun c1 => absurd hn c1)
  refine lv_null (pc := 21) hx hb dX6_endAt_21 ?_
  exact W.aret (pc := 22) (v := .null) hx hb hr (Or.inl ⟨_, rfl⟩) (Or.inl rfl) (fun t ht hW => ⟨⟨none, (), rfl, rfl, _, rfl, by rw [ht]; exact hP, hD⟩, hS.F ht⟩) hS.2.2 dX6_endAt_22
set_option maxHeartbeats 4000000 in
set_option maxRecDepth 100000 in
/-- X6_nearAt -/
theorem c_nearAt_n (l : Launch) (D : va_G) (cy : Nat → ClassId) (kv : KV) (sz : Nat) (ad0 : Nat) (xi0 : Int32) (fn0 : Nat → Value) (h0_3 : fn0 3 = .int 0) (hn : xi0 < 0) : Met l yX6_nearAt (Cond.code yX6_nearAt cX6_nearAt 2 (some (.object "HarbourDesk$Text")) :: GW) ({ frames := 8, cells := 0, slots := 0, locals := 120 } : Room) (va_Pc [.ref ad0, .int xi0] (pcq D cy kv sz [(ad0, ob 6 7 fn0)])) (va_Qq (fun r (_ : Unit) => r = none) (fun _ t => bq D (fun w => w = [(ad0, ob 6 7 fn0)]) (va_A [(ad0, ob 6 7 fn0)] sz) t) (va_A [(ad0, ob 6 7 fn0)] sz)) 0 0 (va_A [(ad0, ob 6 7 fn0)] sz) := by
  refine Met.ofW (cc := cX6_nearAt) (maxL := 2) (ret := (some (.object "HarbourDesk$Text"))) (by decide) rfl ?_
  intro p e s m args below meth c s₁ B hml hv
  obtain ⟨rfl, hsz, hP, hK, hD0, hE⟩ := hv
  have hx := B.exec
  have hb := B.bytes
  have hr := B.returns
  have hG : ∀ w ∈ GW, w.before ([.ref ad0, .int xi0] : List Value).toArray s = true := fun w h => atoms_spec (ws := Cond.code yX6_nearAt cX6_nearAt 2 (some (.object "HarbourDesk$Text")) :: GW) B.pre w (List.mem_cons_of_mem _ h)
  have hown : s.vm.findClass RX6 = some m.cls := findClass_of_methodNamed B.named
  have hlocks := B.notSynchronized
  subst hsz
  have hD := hD0.self (sz := s.heap.size)
  generalize hAe : va_A [(ad0, ob 6 7 fn0)] s.heap.size = A at hD hE ⊢
  have hA : ∀ q : Nat, s.heap.size ≤ q → A q := fun q h => by rw [← hAe]; exact Or.inr h
  have hS : va_S A s.heap s.heap [] := va_S.rf
  clear hAe hD0
  have hl0 := lv_entry ([.ref ad0, .int xi0]) (n := 2) (Nat.le_of_ble_eq_true rfl)
  rw [lg_entry_eq]
  generalize (lg_sl ([.ref ad0, .int xi0]) ++ List.replicate (2 - (lg_sl ([.ref ad0, .int xi0])).length) Slot.unset).toArray = ls at hl0 ⊢
  have hl : lv_has ls 2 [(0, .ref ad0), (1, .int xi0)] := hl0
  clear hl0
  refine lv_iload_n (pc := 0) hx hb dX6_nearAt_0 rfl (lv_at hl 1 rfl) ?_
  refine lv_if_lt (pc := 1) (tgt := 21) hx hb dX6_nearAt_1 (by decide) (fun c1 => ?_) (fun c1 => absurd hn c1)
  refine lv_null (pc := 21) hx hb dX6_nearAt_21 ?_
  exact W.aret (pc := 22) (v := .null) hx hb hr (Or.inl ⟨_, rfl⟩) (Or.inl rfl) (fun t ht hW => ⟨⟨none, (), rfl, rfl, _, rfl, by rw [ht]; exact hP, hD⟩, hS.F ht⟩) hS.2.2 dX6_nearAt_22
set_option maxHeartbeats 4000000 in
set_option maxRecDepth 100000 in
/-- X11_show -/
theorem c_show0_n (l : Launch) (D : va_G) (cy : Nat → ClassId) (kv : KV) (sz : Nat) (ad0 : Nat) (xi0 : Int32) (fn0 : Nat → Value) (ad1 : Nat) (fn1 : Nat → Value) (h0_11 : fn0 11 = .ref ad1) (h1_1 : fn1 1 = .int 0) (hn : xi0 < 0) : Met l yX11_show (Cond.code yX11_show cX11_show 4 (some .int) :: GW) ({ frames := 9, cells := 0, slots := 0, locals := 160 } : Room) (va_Pc [.ref ad0, .int 0, .int xi0] (pcq D cy kv sz [(ad0, ob 11 15 fn0), (ad1, ob 6 7 fn1)])) (va_Qi (fun r (_ : Unit) => r = (-1)) (fun _ t => bq D (fun w => w = [(ad0, ob 11 15 fn0), (ad1, ob 6 7 fn1)]) (va_A [(ad0, ob 11 15 fn0), (ad1, ob 6 7 fn1)] sz) t) (va_A [(ad0, ob 11 15 fn0), (ad1, ob 6 7 fn1)] sz)) 0 0 (va_A [(ad0, ob 11 15 fn0), (ad1, ob 6 7 fn1)] sz) := by
  refine Met.ofW (cc := cX11_show) (maxL := 4) (ret := (some .int)) (by decide) rfl ?_
  intro p e s m args below meth c s₁ B hml hv
  obtain ⟨rfl, hsz, hP, hK, hD0, hE⟩ := hv
  have hx := B.exec
  have hb := B.bytes
  have hr := B.returns
  have hG : ∀ w ∈ GW, w.before ([.ref ad0, .int 0, .int xi0] : List Value).toArray s = true := fun w h => atoms_spec (ws := Cond.code yX11_show cX11_show 4 (some .int) :: GW) B.pre w (List.mem_cons_of_mem _ h)
  have hown : s.vm.findClass RX11 = some m.cls := findClass_of_methodNamed B.named
  have hlocks := B.notSynchronized
  subst hsz
  have hD := hD0.self (sz := s.heap.size)
  generalize hAe : va_A [(ad0, ob 11 15 fn0), (ad1, ob 6 7 fn1)] s.heap.size = A at hD hE ⊢
  have hA : ∀ q : Nat, s.heap.size ≤ q → A q := fun q h => by rw [← hAe]; exact Or.inr h
  have hS : va_S A s.heap s.heap [] := va_S.rf
  clear hAe hD0
  have hl0 := lv_entry ([.ref ad0, .int 0, .int xi0]) (n := 4) (Nat.le_of_ble_eq_true rfl)
  rw [lg_entry_eq]
  generalize (lg_sl ([.ref ad0, .int 0, .int xi0]) ++ List.replicate (4 - (lg_sl ([.ref ad0, .int 0, .int xi0])).length) Slot.unset).toArray = ls at hl0 ⊢
  have hl : lv_has ls 4 [(0, .ref ad0), (1, .int 0), (2, .int xi0)] := hl0
  clear hl0
  refine lv_iload_n (pc := 0) hx hb dX11_show_0 rfl (lv_at hl 1 rfl) ?_
  refine lv_if_eq (pc := 1) (tgt := 17) hx hb dX11_show_1 (by decide) (fun c1 => ?_) (fun c1 => absurd (by decide) c1)
  refine lv_iload_n (pc := 17) hx hb dX11_show_17 rfl (lv_at hl 1 rfl) ?_
  refine lv_if_ne (pc := 18) (tgt := 32) hx hb dX11_show_18 (by decide) (fun c2 => absurd (by decide) c2) (fun c2 => ?_)
  refine lv_aload_n (pc := 21) hx hb dX11_show_21 rfl (lv_at hl 0 rfl) ?_
  refine ob_get (pc := 22) (v := .ref ad1) (ci := 11) (C := RX11) (T := TX11) (N := 15) hx hb hG in_X11 hown hK hP 0 rfl rfl 11 (by decide) (hG _ g_126) rfl h0_11 dX11_show_22 ?_
  refine lv_iload_n (pc := 25) hx hb dX11_show_25 rfl (lv_at hl 2 rfl) ?_
  refine cq_n (pc := 26) (wr := [(ad0, ob 11 15 fn0)]) (k2 := 0) (n2 := 0) (va_runV (As := [.int xi0]) (rest := []) ⟨hx, hb, hml, hown, hG⟩ (c_endAt_n l D cy kv s.heap.size ad1 xi0 fn1 h1_1 hn) (cwV 1 hG (gi_V g_293 g_294 g_295 g_124 g_291) rfl rfl rfl (by decide +kernel) ⟨Nat.le_of_ble_eq_true rfl, Nat.le_of_ble_eq_true rfl⟩) ⟨pq_blind, (va_recv hK hP (ci := 6) (q0 := 1) rfl rfl), (pq_pass hP hD hK hE hS hA [1] rfl (by decide))⟩ rfl rfl hl.1 rfl (lv_room (Nat.le_of_ble_eq_true rfl)) dX11_show_26 ⟨Nat.le_of_ble_eq_true rfl, Nat.le_of_ble_eq_true rfl⟩) hP hD hS hA [1] [0] rfl rfl (by decide) (by decide) (by decide) (by decide) (fun w3 H3 lo3 hR3 hP3r hD3r hS3 => ?_)
  subst hR3
  have hP3 : va_P D classes [(ad0, ob 11 15 fn0), (ad1, ob 6 7 fn1)] H3 := hP3r
  have hD3 : va_D A [(ad0, ob 11 15 fn0), (ad1, ob 6 7 fn1)] := hD3r
  clear hP3r hD3r
  clear hP hD hS
  refine lv_goto (pc := 29) (tgt := 40) hx hb dX11_show_29 (by decide) ?_
  refine lv_astore_nN (pc := 40) (lv' := [(3, .null), (0, .ref ad0), (1, .int 0), (2, .int xi0)]) hx hb dX11_show_40 rfl hl (by decide) rfl (fun ls4 hl4 => ?_)
  clear hl ls
  refine lv_aload_nN (pc := 41) hx hb dX11_show_41 rfl (lv_at hl4 0 rfl) ?_
  refine lv_ifnonnullN (pc := 42) hx hb dX11_show_42 ?_
  refine lv_iconst (pc := 45) (v := (-1)) hx hb dX11_show_45 (by decide) ?_
  exact W.iret (pc := 46) (v := (-1)) hx hb hr (fun t ht hW => ⟨⟨(-1), (), rfl, rfl, _, rfl, by rw [ht]; exact hP3, hD3⟩, hS3.F ht⟩) hS3.2.2 dX11_show_46
set_option maxHeartbeats 4000000 in
set_option maxRecDepth 100000 in
/-- X11_show -/
theorem c_show1_n (l : Launch) (D : va_G) (cy : Nat → ClassId) (kv : KV) (sz : Nat) (ad0 : Nat) (xi0 : Int32) (fn0 : Nat → Value) (ad1 : Nat) (fn1 : Nat → Value) (h0_11 : fn0 11 = .ref ad1) (h1_3 : fn1 3 = .int 0) (hn : xi0 < 0) : Met l yX11_show (Cond.code yX11_show cX11_show 4 (some .int) :: GW) ({ frames := 9, cells := 0, slots := 0, locals := 160 } : Room) (va_Pc [.ref ad0, .int 1, .int xi0] (pcq D cy kv sz [(ad0, ob 11 15 fn0), (ad1, ob 6 7 fn1)])) (va_Qi (fun r (_ : Unit) => r = (-1)) (fun _ t => bq D (fun w => w = [(ad0, ob 11 15 fn0), (ad1, ob 6 7 fn1)]) (va_A [(ad0, ob 11 15 fn0), (ad1, ob 6 7 fn1)] sz) t) (va_A [(ad0, ob 11 15 fn0), (ad1, ob 6 7 fn1)] sz)) 0 0 (va_A [(ad0, ob 11 15 fn0), (ad1, ob 6 7 fn1)] sz) := by
  refine Met.ofW (cc := cX11_show) (maxL := 4) (ret := (some .int)) (by decide) rfl ?_
  intro p e s m args below meth c s₁ B hml hv
  obtain ⟨rfl, hsz, hP, hK, hD0, hE⟩ := hv
  have hx := B.exec
  have hb := B.bytes
  have hr := B.returns
  have hG : ∀ w ∈ GW, w.before ([.ref ad0, .int 1, .int xi0] : List Value).toArray s = true := fun w h => atoms_spec (ws := Cond.code yX11_show cX11_show 4 (some .int) :: GW) B.pre w (List.mem_cons_of_mem _ h)
  have hown : s.vm.findClass RX11 = some m.cls := findClass_of_methodNamed B.named
  have hlocks := B.notSynchronized
  subst hsz
  have hD := hD0.self (sz := s.heap.size)
  generalize hAe : va_A [(ad0, ob 11 15 fn0), (ad1, ob 6 7 fn1)] s.heap.size = A at hD hE ⊢
  have hA : ∀ q : Nat, s.heap.size ≤ q → A q := fun q h => by rw [← hAe]; exact Or.inr h
  have hS : va_S A s.heap s.heap [] := va_S.rf
  clear hAe hD0
  have hl0 := lv_entry ([.ref ad0, .int 1, .int xi0]) (n := 4) (Nat.le_of_ble_eq_true rfl)
  rw [lg_entry_eq]
  generalize (lg_sl ([.ref ad0, .int 1, .int xi0]) ++ List.replicate (4 - (lg_sl ([.ref ad0, .int 1, .int xi0])).length) Slot.unset).toArray = ls at hl0 ⊢
  have hl : lv_has ls 4 [(0, .ref ad0), (1, .int 1), (2, .int xi0)] := hl0
  clear hl0
  refine lv_iload_n (pc := 0) hx hb dX11_show_0 rfl (lv_at hl 1 rfl) ?_
  refine lv_if_eq (pc := 1) (tgt := 17) hx hb dX11_show_1 (by decide) (fun c1 => absurd c1 (by decide)) (fun c1 => ?_)
  refine lv_iload_n (pc := 4) hx hb dX11_show_4 rfl (lv_at hl 1 rfl) ?_
  refine lv_iconst (pc := 5) (v := 1) hx hb dX11_show_5 (by decide) ?_
  refine lv_icmp_eq (pc := 6) (tgt := 17) hx hb dX11_show_6 (by decide) (fun c2 => ?_) (fun c2 => absurd (by decide) c2)
  refine lv_iload_n (pc := 17) hx hb dX11_show_17 rfl (lv_at hl 1 rfl) ?_
  refine lv_if_ne (pc := 18) (tgt := 32) hx hb dX11_show_18 (by decide) (fun c3 => ?_) (fun c3 => absurd c3 (by decide))
  refine lv_aload_n (pc := 32) hx hb dX11_show_32 rfl (lv_at hl 0 rfl) ?_
  refine ob_get (pc := 33) (v := .ref ad1) (ci := 11) (C := RX11) (T := TX11) (N := 15) hx hb hG in_X11 hown hK hP 0 rfl rfl 11 (by decide) (hG _ g_126) rfl h0_11 dX11_show_33 ?_
  refine lv_iload_n (pc := 36) hx hb dX11_show_36 rfl (lv_at hl 2 rfl) ?_
  refine cq_n (pc := 37) (wr := [(ad0, ob 11 15 fn0)]) (k2 := 0) (n2 := 0) (va_runV (As := [.int xi0]) (rest := []) ⟨hx, hb, hml, hown, hG⟩ (c_nearAt_n l D cy kv s.heap.size ad1 xi0 fn1 h1_3 hn) (cwV 1 hG (gi_V g_296 g_297 g_298 g_124 g_292) rfl rfl rfl (by decide +kernel) ⟨Nat.le_of_ble_eq_true rfl, Nat.le_of_ble_eq_true rfl⟩) ⟨pq_blind, (va_recv hK hP (ci := 6) (q0 := 1) rfl rfl), (pq_pass hP hD hK hE hS hA [1] rfl (by decide))⟩ rfl rfl hl.1 rfl (lv_room (Nat.le_of_ble_eq_true rfl)) dX11_show_37 ⟨Nat.le_of_ble_eq_true rfl, Nat.le_of_ble_eq_true rfl⟩) hP hD hS hA [1] [0] rfl rfl (by decide) (by decide) (by decide) (by decide) (fun w4 H4 lo4 hR4 hP4r hD4r hS4 => ?_)
  subst hR4
  have hP4 : va_P D classes [(ad0, ob 11 15 fn0), (ad1, ob 6 7 fn1)] H4 := hP4r
  have hD4 : va_D A [(ad0, ob 11 15 fn0), (ad1, ob 6 7 fn1)] := hD4r
  clear hP4r hD4r
  clear hP hD hS
  refine lv_astore_nN (pc := 40) (lv' := [(3, .null), (0, .ref ad0), (1, .int 1), (2, .int xi0)]) hx hb dX11_show_40 rfl hl (by decide) rfl (fun ls5 hl5 => ?_)
  clear hl ls
  refine lv_aload_nN (pc := 41) hx hb dX11_show_41 rfl (lv_at hl5 0 rfl) ?_
  refine lv_ifnonnullN (pc := 42) hx hb dX11_show_42 ?_
  refine lv_iconst (pc := 45) (v := (-1)) hx hb dX11_show_45 (by decide) ?_
  exact W.iret (pc := 46) (v := (-1)) hx hb hr (fun t ht hW => ⟨⟨(-1), (), rfl, rfl, _, rfl, by rw [ht]; exact hP4, hD4⟩, hS4.F ht⟩) hS4.2.2 dX11_show_46
set_option maxHeartbeats 4000000 in
set_option maxRecDepth 100000 in
/-- X6_endAt -/
theorem c_endAt_p (l : Launch) (D : va_G) (cy : Nat → ClassId) (kv : KV) (sz : Nat) (ad0 : Nat) (xi0 : Int32) (fn0 : Nat → Value) (h0_1 : fn0 1 = .int 0) (hn : 0 ≤ xi0) : Met l yX6_endAt (Cond.code yX6_endAt cX6_endAt 2 (some (.object "HarbourDesk$Text")) :: GW) ({ frames := 8, cells := 0, slots := 0, locals := 120 } : Room) (va_Pc [.ref ad0, .int xi0] (pcq D cy kv sz [(ad0, ob 6 7 fn0)])) (va_Qq (fun r (_ : Unit) => r = none) (fun _ t => bq D (fun w => w = [(ad0, ob 6 7 fn0)]) (va_A [(ad0, ob 6 7 fn0)] sz) t) (va_A [(ad0, ob 6 7 fn0)] sz)) 0 0 (va_A [(ad0, ob 6 7 fn0)] sz) := by
  refine Met.ofW (cc := cX6_endAt) (maxL := 2) (ret := (some (.object "HarbourDesk$Text"))) (by decide) rfl ?_
  intro p e s m args below meth c s₁ B hml hv
  obtain ⟨rfl, hsz, hP, hK, hD0, hE⟩ := hv
  have hx := B.exec
  have hb := B.bytes
  have hr := B.returns
  have hG : ∀ w ∈ GW, w.before ([.ref ad0, .int xi0] : List Value).toArray s = true := fun w h => atoms_spec (ws := Cond.code yX6_endAt cX6_endAt 2 (some (.object "HarbourDesk$Text")) :: GW) B.pre w (List.mem_cons_of_mem _ h)
  have hown : s.vm.findClass RX6 = some m.cls := findClass_of_methodNamed B.named
  have hlocks := B.notSynchronized
  subst hsz
  have hD := hD0.self (sz := s.heap.size)
  generalize hAe : va_A [(ad0, ob 6 7 fn0)] s.heap.size = A at hD hE ⊢
  have hA : ∀ q : Nat, s.heap.size ≤ q → A q := fun q h => by rw [← hAe]; exact Or.inr h
  have hS : va_S A s.heap s.heap [] := va_S.rf
  clear hAe hD0
  have hl0 := lv_entry ([.ref ad0, .int xi0]) (n := 2) (Nat.le_of_ble_eq_true rfl)
  rw [lg_entry_eq]
  generalize (lg_sl ([.ref ad0, .int xi0]) ++ List.replicate (2 - (lg_sl ([.ref ad0, .int xi0])).length) Slot.unset).toArray = ls at hl0 ⊢
  have hl : lv_has ls 2 [(0, .ref ad0), (1, .int xi0)] := hl0
  clear hl0
  refine lv_iload_n (pc := 0) hx hb dX6_endAt_0 rfl (lv_at hl 1 rfl) ?_
  refine lv_if_lt (pc := 1) (tgt := 21) hx hb dX6_endAt_1 (by decide) (fun c1 => absurd c1 (i_nlt hn)) (fun c1 => ?_)
  refine lv_iload_n (pc := 4) hx hb dX6_endAt_4 rfl (lv_at hl 1 rfl) ?_
  refine lv_aload_n (pc := 5) hx hb dX6_endAt_5 rfl (lv_at hl 0 rfl) ?_
  refine ob_get (pc := 6) (v := .int 0) (ci := 6) (C := RX6) (T := TX6) (N := 7) hx hb hG in_X6 hown hK hP 0 rfl rfl 1 (by decide) (hG _ g_65) rfl h0_1 dX6_endAt_6 ?_
  refine lv_icmp_ge (pc := 9) (tgt := 21) hx hb dX6_endAt_9 (by decide) (fun c2 => ?_) (fun c2 => absurd hn c2)
  refine lv_null (pc := 21) hx hb dX6_endAt_21 ?_
  exact W.aret (pc := 22) (v := .null) hx hb hr (Or.inl ⟨_, rfl⟩) (Or.inl rfl) (fun t ht hW => ⟨⟨none, (), rfl, rfl, _, rfl, by rw [ht]; exact hP, hD⟩, hS.F ht⟩) hS.2.2 dX6_endAt_22
set_option maxHeartbeats 4000000 in
set_option maxRecDepth 100000 in
/-- X6_nearAt -/
theorem c_nearAt_p (l : Launch) (D : va_G) (cy : Nat → ClassId) (kv : KV) (sz : Nat) (ad0 : Nat) (xi0 : Int32) (fn0 : Nat → Value) (h0_3 : fn0 3 = .int 0) (hn : 0 ≤ xi0) : Met l yX6_nearAt (Cond.code yX6_nearAt cX6_nearAt 2 (some (.object "HarbourDesk$Text")) :: GW) ({ frames := 8, cells := 0, slots := 0, locals := 120 } : Room) (va_Pc [.ref ad0, .int xi0] (pcq D cy kv sz [(ad0, ob 6 7 fn0)])) (va_Qq (fun r (_ : Unit) => r = none) (fun _ t => bq D (fun w => w = [(ad0, ob 6 7 fn0)]) (va_A [(ad0, ob 6 7 fn0)] sz) t) (va_A [(ad0, ob 6 7 fn0)] sz)) 0 0 (va_A [(ad0, ob 6 7 fn0)] sz) := by
  refine Met.ofW (cc := cX6_nearAt) (maxL := 2) (ret := (some (.object "HarbourDesk$Text"))) (by decide) rfl ?_
  intro p e s m args below meth c s₁ B hml hv
  obtain ⟨rfl, hsz, hP, hK, hD0, hE⟩ := hv
  have hx := B.exec
  have hb := B.bytes
  have hr := B.returns
  have hG : ∀ w ∈ GW, w.before ([.ref ad0, .int xi0] : List Value).toArray s = true := fun w h => atoms_spec (ws := Cond.code yX6_nearAt cX6_nearAt 2 (some (.object "HarbourDesk$Text")) :: GW) B.pre w (List.mem_cons_of_mem _ h)
  have hown : s.vm.findClass RX6 = some m.cls := findClass_of_methodNamed B.named
  have hlocks := B.notSynchronized
  subst hsz
  have hD := hD0.self (sz := s.heap.size)
  generalize hAe : va_A [(ad0, ob 6 7 fn0)] s.heap.size = A at hD hE ⊢
  have hA : ∀ q : Nat, s.heap.size ≤ q → A q := fun q h => by rw [← hAe]; exact Or.inr h
  have hS : va_S A s.heap s.heap [] := va_S.rf
  clear hAe hD0
  have hl0 := lv_entry ([.ref ad0, .int xi0]) (n := 2) (Nat.le_of_ble_eq_true rfl)
  rw [lg_entry_eq]
  generalize (lg_sl ([.ref ad0, .int xi0]) ++ List.replicate (2 - (lg_sl ([.ref ad0, .int xi0])).length) Slot.unset).toArray = ls at hl0 ⊢
  have hl : lv_has ls 2 [(0, .ref ad0), (1, .int xi0)] := hl0
  clear hl0
  refine lv_iload_n (pc := 0) hx hb dX6_nearAt_0 rfl (lv_at hl 1 rfl) ?_
  refine lv_if_lt (pc := 1) (tgt := 21) hx hb dX6_nearAt_1 (by decide) (fun c1 => absurd c1 (i_nlt hn)) (fun c1 => ?_)
  refine lv_iload_n (pc := 4) hx hb dX6_nearAt_4 rfl (lv_at hl 1 rfl) ?_
  refine lv_aload_n (pc := 5) hx hb dX6_nearAt_5 rfl (lv_at hl 0 rfl) ?_
  refine ob_get (pc := 6) (v := .int 0) (ci := 6) (C := RX6) (T := TX6) (N := 7) hx hb hG in_X6 hown hK hP 0 rfl rfl 3 (by decide) (hG _ g_67) rfl h0_3 dX6_nearAt_6 ?_
  refine lv_icmp_ge (pc := 9) (tgt := 21) hx hb dX6_nearAt_9 (by decide) (fun c2 => ?_) (fun c2 => absurd hn c2)
  refine lv_null (pc := 21) hx hb dX6_nearAt_21 ?_
  exact W.aret (pc := 22) (v := .null) hx hb hr (Or.inl ⟨_, rfl⟩) (Or.inl rfl) (fun t ht hW => ⟨⟨none, (), rfl, rfl, _, rfl, by rw [ht]; exact hP, hD⟩, hS.F ht⟩) hS.2.2 dX6_nearAt_22
set_option maxHeartbeats 4000000 in
set_option maxRecDepth 100000 in
/-- X11_show -/
theorem c_show0_p (l : Launch) (D : va_G) (cy : Nat → ClassId) (kv : KV) (sz : Nat) (ad0 : Nat) (xi0 : Int32) (fn0 : Nat → Value) (ad1 : Nat) (fn1 : Nat → Value) (h0_11 : fn0 11 = .ref ad1) (h1_1 : fn1 1 = .int 0) (hn : 0 ≤ xi0) : Met l yX11_show (Cond.code yX11_show cX11_show 4 (some .int) :: GW) ({ frames := 9, cells := 0, slots := 0, locals := 160 } : Room) (va_Pc [.ref ad0, .int 0, .int xi0] (pcq D cy kv sz [(ad0, ob 11 15 fn0), (ad1, ob 6 7 fn1)])) (va_Qi (fun r (_ : Unit) => r = (-1)) (fun _ t => bq D (fun w => w = [(ad0, ob 11 15 fn0), (ad1, ob 6 7 fn1)]) (va_A [(ad0, ob 11 15 fn0), (ad1, ob 6 7 fn1)] sz) t) (va_A [(ad0, ob 11 15 fn0), (ad1, ob 6 7 fn1)] sz)) 0 0 (va_A [(ad0, ob 11 15 fn0), (ad1, ob 6 7 fn1)] sz) := by
  refine Met.ofW (cc := cX11_show) (maxL := 4) (ret := (some .int)) (by decide) rfl ?_
  intro p e s m args below meth c s₁ B hml hv
  obtain ⟨rfl, hsz, hP, hK, hD0, hE⟩ := hv
  have hx := B.exec
  have hb := B.bytes
  have hr := B.returns
  have hG : ∀ w ∈ GW, w.before ([.ref ad0, .int 0, .int xi0] : List Value).toArray s = true := fun w h => atoms_spec (ws := Cond.code yX11_show cX11_show 4 (some .int) :: GW) B.pre w (List.mem_cons_of_mem _ h)
  have hown : s.vm.findClass RX11 = some m.cls := findClass_of_methodNamed B.named
  have hlocks := B.notSynchronized
  subst hsz
  have hD := hD0.self (sz := s.heap.size)
  generalize hAe : va_A [(ad0, ob 11 15 fn0), (ad1, ob 6 7 fn1)] s.heap.size = A at hD hE ⊢
  have hA : ∀ q : Nat, s.heap.size ≤ q → A q := fun q h => by rw [← hAe]; exact Or.inr h
  have hS : va_S A s.heap s.heap [] := va_S.rf
  clear hAe hD0
  have hl0 := lv_entry ([.ref ad0, .int 0, .int xi0]) (n := 4) (Nat.le_of_ble_eq_true rfl)
  rw [lg_entry_eq]
  generalize (lg_sl ([.ref ad0, .int 0, .int xi0]) ++ List.replicate (4 - (lg_sl ([.ref ad0, .int 0, .int xi0])).length) Slot.unset).toArray = ls at hl0 ⊢
  have hl : lv_has ls 4 [(0, .ref ad0), (1, .int 0), (2, .int xi0)] := hl0
  clear hl0
  refine lv_iload_n (pc := 0) hx hb dX11_show_0 rfl (lv_at hl 1 rfl) ?_
  refine lv_if_eq (pc := 1) (tgt := 17) hx hb dX11_show_1 (by decide) (fun c1 => ?_) (fun c1 => absurd (by decide) c1)
  refine lv_iload_n (pc := 17) hx hb dX11_show_17 rfl (lv_at hl 1 rfl) ?_
  refine lv_if_ne (pc := 18) (tgt := 32) hx hb dX11_show_18 (by decide) (fun c2 => absurd (by decide) c2) (fun c2 => ?_)
  refine lv_aload_n (pc := 21) hx hb dX11_show_21 rfl (lv_at hl 0 rfl) ?_
  refine ob_get (pc := 22) (v := .ref ad1) (ci := 11) (C := RX11) (T := TX11) (N := 15) hx hb hG in_X11 hown hK hP 0 rfl rfl 11 (by decide) (hG _ g_126) rfl h0_11 dX11_show_22 ?_
  refine lv_iload_n (pc := 25) hx hb dX11_show_25 rfl (lv_at hl 2 rfl) ?_
  refine cq_n (pc := 26) (wr := [(ad0, ob 11 15 fn0)]) (k2 := 0) (n2 := 0) (va_runV (As := [.int xi0]) (rest := []) ⟨hx, hb, hml, hown, hG⟩ (c_endAt_p l D cy kv s.heap.size ad1 xi0 fn1 h1_1 hn) (cwV 1 hG (gi_V g_293 g_294 g_295 g_124 g_291) rfl rfl rfl (by decide +kernel) ⟨Nat.le_of_ble_eq_true rfl, Nat.le_of_ble_eq_true rfl⟩) ⟨pq_blind, (va_recv hK hP (ci := 6) (q0 := 1) rfl rfl), (pq_pass hP hD hK hE hS hA [1] rfl (by decide))⟩ rfl rfl hl.1 rfl (lv_room (Nat.le_of_ble_eq_true rfl)) dX11_show_26 ⟨Nat.le_of_ble_eq_true rfl, Nat.le_of_ble_eq_true rfl⟩) hP hD hS hA [1] [0] rfl rfl (by decide) (by decide) (by decide) (by decide) (fun w3 H3 lo3 hR3 hP3r hD3r hS3 => ?_)
  subst hR3
  have hP3 : va_P D classes [(ad0, ob 11 15 fn0), (ad1, ob 6 7 fn1)] H3 := hP3r
  have hD3 : va_D A [(ad0, ob 11 15 fn0), (ad1, ob 6 7 fn1)] := hD3r
  clear hP3r hD3r
  clear hP hD hS
  refine lv_goto (pc := 29) (tgt := 40) hx hb dX11_show_29 (by decide) ?_
  refine lv_astore_nN (pc := 40) (lv' := [(3, .null), (0, .ref ad0), (1, .int 0), (2, .int xi0)]) hx hb dX11_show_40 rfl hl (by decide) rfl (fun ls4 hl4 => ?_)
  clear hl ls
  refine lv_aload_nN (pc := 41) hx hb dX11_show_41 rfl (lv_at hl4 0 rfl) ?_
  refine lv_ifnonnullN (pc := 42) hx hb dX11_show_42 ?_
  refine lv_iconst (pc := 45) (v := (-1)) hx hb dX11_show_45 (by decide) ?_
  exact W.iret (pc := 46) (v := (-1)) hx hb hr (fun t ht hW => ⟨⟨(-1), (), rfl, rfl, _, rfl, by rw [ht]; exact hP3, hD3⟩, hS3.F ht⟩) hS3.2.2 dX11_show_46
set_option maxHeartbeats 4000000 in
set_option maxRecDepth 100000 in
/-- X11_show -/
theorem c_show1_p (l : Launch) (D : va_G) (cy : Nat → ClassId) (kv : KV) (sz : Nat) (ad0 : Nat) (xi0 : Int32) (fn0 : Nat → Value) (ad1 : Nat) (fn1 : Nat → Value) (h0_11 : fn0 11 = .ref ad1) (h1_3 : fn1 3 = .int 0) (hn : 0 ≤ xi0) : Met l yX11_show (Cond.code yX11_show cX11_show 4 (some .int) :: GW) ({ frames := 9, cells := 0, slots := 0, locals := 160 } : Room) (va_Pc [.ref ad0, .int 1, .int xi0] (pcq D cy kv sz [(ad0, ob 11 15 fn0), (ad1, ob 6 7 fn1)])) (va_Qi (fun r (_ : Unit) => r = (-1)) (fun _ t => bq D (fun w => w = [(ad0, ob 11 15 fn0), (ad1, ob 6 7 fn1)]) (va_A [(ad0, ob 11 15 fn0), (ad1, ob 6 7 fn1)] sz) t) (va_A [(ad0, ob 11 15 fn0), (ad1, ob 6 7 fn1)] sz)) 0 0 (va_A [(ad0, ob 11 15 fn0), (ad1, ob 6 7 fn1)] sz) := by
  refine Met.ofW (cc := cX11_show) (maxL := 4) (ret := (some .int)) (by decide) rfl ?_
  intro p e s m args below meth c s₁ B hml hv
  obtain ⟨rfl, hsz, hP, hK, hD0, hE⟩ := hv
  have hx := B.exec
  have hb := B.bytes
  have hr := B.returns
  have hG : ∀ w ∈ GW, w.before ([.ref ad0, .int 1, .int xi0] : List Value).toArray s = true := fun w h => atoms_spec (ws := Cond.code yX11_show cX11_show 4 (some .int) :: GW) B.pre w (List.mem_cons_of_mem _ h)
  have hown : s.vm.findClass RX11 = some m.cls := findClass_of_methodNamed B.named
  have hlocks := B.notSynchronized
  subst hsz
  have hD := hD0.self (sz := s.heap.size)
  generalize hAe : va_A [(ad0, ob 11 15 fn0), (ad1, ob 6 7 fn1)] s.heap.size = A at hD hE ⊢
  have hA : ∀ q : Nat, s.heap.size ≤ q → A q := fun q h => by rw [← hAe]; exact Or.inr h
  have hS : va_S A s.heap s.heap [] := va_S.rf
  clear hAe hD0
  have hl0 := lv_entry ([.ref ad0, .int 1, .int xi0]) (n := 4) (Nat.le_of_ble_eq_true rfl)
  rw [lg_entry_eq]
  generalize (lg_sl ([.ref ad0, .int 1, .int xi0]) ++ List.replicate (4 - (lg_sl ([.ref ad0, .int 1, .int xi0])).length) Slot.unset).toArray = ls at hl0 ⊢
  have hl : lv_has ls 4 [(0, .ref ad0), (1, .int 1), (2, .int xi0)] := hl0
  clear hl0
  refine lv_iload_n (pc := 0) hx hb dX11_show_0 rfl (lv_at hl 1 rfl) ?_
  refine lv_if_eq (pc := 1) (tgt := 17) hx hb dX11_show_1 (by decide) (fun c1 => absurd c1 (by decide)) (fun c1 => ?_)
  refine lv_iload_n (pc := 4) hx hb dX11_show_4 rfl (lv_at hl 1 rfl) ?_
  refine lv_iconst (pc := 5) (v := 1) hx hb dX11_show_5 (by decide) ?_
  refine lv_icmp_eq (pc := 6) (tgt := 17) hx hb dX11_show_6 (by decide) (fun c2 => ?_) (fun c2 => absurd (by decide) c2)
  refine lv_iload_n (pc := 17) hx hb dX11_show_17 rfl (lv_at hl 1 rfl) ?_
  refine lv_if_ne (pc := 18) (tgt := 32) hx hb dX11_show_18 (by decide) (fun c3 => ?_) (fun c3 => absurd c3 (by decide))
  refine lv_aload_n (pc := 32) hx hb dX11_show_32 rfl (lv_at hl 0 rfl) ?_
  refine ob_get (pc := 33) (v := .ref ad1) (ci := 11) (C := RX11) (T := TX11) (N := 15) hx hb hG in_X11 hown hK hP 0 rfl rfl 11 (by decide) (hG _ g_126) rfl h0_11 dX11_show_33 ?_
  refine lv_iload_n (pc := 36) hx hb dX11_show_36 rfl (lv_at hl 2 rfl) ?_
  refine cq_n (pc := 37) (wr := [(ad0, ob 11 15 fn0)]) (k2 := 0) (n2 := 0) (va_runV (As := [.int xi0]) (rest := []) ⟨hx, hb, hml, hown, hG⟩ (c_nearAt_p l D cy kv s.heap.size ad1 xi0 fn1 h1_3 hn) (cwV 1 hG (gi_V g_296 g_297 g_298 g_124 g_292) rfl rfl rfl (by decide +kernel) ⟨Nat.le_of_ble_eq_true rfl, Nat.le_of_ble_eq_true rfl⟩) ⟨pq_blind, (va_recv hK hP (ci := 6) (q0 := 1) rfl rfl), (pq_pass hP hD hK hE hS hA [1] rfl (by decide))⟩ rfl rfl hl.1 rfl (lv_room (Nat.le_of_ble_eq_true rfl)) dX11_show_37 ⟨Nat.le_of_ble_eq_true rfl, Nat.le_of_ble_eq_true rfl⟩) hP hD hS hA [1] [0] rfl rfl (by decide) (by decide) (by decide) (by decide) (fun w4 H4 lo4 hR4 hP4r hD4r hS4 => ?_)
  subst hR4
  have hP4 : va_P D classes [(ad0, ob 11 15 fn0), (ad1, ob 6 7 fn1)] H4 := hP4r
  have hD4 : va_D A [(ad0, ob 11 15 fn0), (ad1, ob 6 7 fn1)] := hD4r
  clear hP4r hD4r
  clear hP hD hS
  refine lv_astore_nN (pc := 40) (lv' := [(3, .null), (0, .ref ad0), (1, .int 1), (2, .int xi0)]) hx hb dX11_show_40 rfl hl (by decide) rfl (fun ls5 hl5 => ?_)
  clear hl ls
  refine lv_aload_nN (pc := 41) hx hb dX11_show_41 rfl (lv_at hl5 0 rfl) ?_
  refine lv_ifnonnullN (pc := 42) hx hb dX11_show_42 ?_
  refine lv_iconst (pc := 45) (v := (-1)) hx hb dX11_show_45 (by decide) ?_
  exact W.iret (pc := 46) (v := (-1)) hx hb hr (fun t ht hW => ⟨⟨(-1), (), rfl, rfl, _, rfl, by rw [ht]; exact hP4, hD4⟩, hS4.F ht⟩) hS4.2.2 dX11_show_46
