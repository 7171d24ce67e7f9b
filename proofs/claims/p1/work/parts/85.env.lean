theorem st_of {args : Array Value} {s : State} {A : Nat → Prop} {k L : Nat} {bs : List Int32} (hN : L < 2 ^ 31) (hex : (Cond.exactly (.string RX12 k) "java/lang/String").before args s = true) (hco : (Cond.eq (.field (.string RX12 k) "java/lang/String" "coder" "B") (.int 0)).before args s = true)
    (har : (Cond.arrayOf (.field (.string RX12 k) "java/lang/String" "value" "[B") .byte).before args s = true) (hle : (Cond.eq (.length (.field (.string RX12 k) "java/lang/String" "value" "[B")) (.int (Int32.ofNat L))).before args s = true)
    (hel : ∀ j : Nat, j < L → (Cond.eq (.elem (.field (.string RX12 k) "java/lang/String" "value" "[B") (.int (Int32.ofNat j))) (.int (bs.getD j 0))).before args s = true) (hA : ∀ a : Nat, a < s.heap.size → ¬ A a) :
    ∃ q : Nat × Nat, (Term.string RX12 k).eval args s none [] s = some (.ref q.1) ∧ va_O "java/lang/String" q.1 A s s.heap ∧ va_OF "java/lang/String" "coder" "B" (.int 0) q.1 A s s.heap ∧ va_OF "java/lang/String" "value" "[B" (.ref q.2) q.1 A s s.heap ∧ ∃ f : Nat → Int32, va_T .byte q.2 L (fun j => .int (f j)) A s s.heap := by
  obtain ⟨a, c, cA, kA, q1, q2, q3, q4, q5, q6, -⟩ := Cond.exactly_spec (args := args) (first := s) (o := none) (s := s) (idx := []) (t := .string RX12 k) (cls := "java/lang/String") hex
  obtain ⟨t, ht, hT⟩ := va_Tof (f := fun j => .int (bs.getD j 0)) (A := A) hN har (va_eqt hle) (fun j hj => va_eqt (hel j hj)) hA
  exact ⟨(a, t), q1, ⟨cA, q3, q5, by rw [q6]; exact q2, hA a (Array.getElem?_eq_some_iff.mp q3).1⟩, vk_OFof q1 (va_eqt hco) hA, vk_OFof q1 ht hA, fun j => bs.getD j 0, hT⟩
set_option maxRecDepth 20000 in
theorem st_0 {s : State} {b : Nat} {A : Nat → Prop} (hgv : (Jvm.Cond.and given_1 narrow_1).before #[Value.ref b] s = true) (hA : ∀ a : Nat, a < s.heap.size → ¬ A a) : ∃ q : Nat × Nat, (Term.string RX12 65).eval #[Value.ref b] s none [] s = some (.ref q.1) ∧ va_O "java/lang/String" q.1 A s s.heap ∧ va_OF "java/lang/String" "coder" "B" (.int 0) q.1 A s s.heap ∧ va_OF "java/lang/String" "value" "[B" (.ref q.2) q.1 A s s.heap ∧ ∃ f : Nat → Int32, va_T .byte q.2 4 (fun j => .int (f j)) A s s.heap := by
  have hfl := flat_of_before _ hgv
  refine st_of (bs := [102, 108, 97, 103]) (by decide) (hfl _ (by decide +kernel)) (hfl _ (by decide +kernel)) (hfl _ (by decide +kernel)) (hfl _ (by decide +kernel)) (fun j hj => ?_) hA
  rcases (show j = 0 ∨ j = 1 ∨ j = 2 ∨ j = 3 by omega) with rfl | rfl | rfl | rfl <;> exact hfl _ (by decide +kernel)
set_option maxRecDepth 20000 in
theorem st_1 {s : State} {b : Nat} {A : Nat → Prop} (hgv : (Jvm.Cond.and given_1 narrow_1).before #[Value.ref b] s = true) (hA : ∀ a : Nat, a < s.heap.size → ¬ A a) : ∃ q : Nat × Nat, (Term.string RX12 71).eval #[Value.ref b] s none [] s = some (.ref q.1) ∧ va_O "java/lang/String" q.1 A s s.heap ∧ va_OF "java/lang/String" "coder" "B" (.int 0) q.1 A s s.heap ∧ va_OF "java/lang/String" "value" "[B" (.ref q.2) q.1 A s s.heap ∧ ∃ f : Nat → Int32, va_T .byte q.2 5 (fun j => .int (f j)) A s s.heap := by
  have hfl := flat_of_before _ hgv
  refine st_of (bs := [99, 111, 117, 110, 116]) (by decide) (hfl _ (by decide +kernel)) (hfl _ (by decide +kernel)) (hfl _ (by decide +kernel)) (hfl _ (by decide +kernel)) (fun j hj => ?_) hA
  rcases (show j = 0 ∨ j = 1 ∨ j = 2 ∨ j = 3 ∨ j = 4 by omega) with rfl | rfl | rfl | rfl | rfl <;> exact hfl _ (by decide +kernel)
set_option maxRecDepth 20000 in
theorem st_2 {s : State} {b : Nat} {A : Nat → Prop} (hgv : (Jvm.Cond.and given_1 narrow_1).before #[Value.ref b] s = true) (hA : ∀ a : Nat, a < s.heap.size → ¬ A a) : ∃ q : Nat × Nat, (Term.string RX12 79).eval #[Value.ref b] s none [] s = some (.ref q.1) ∧ va_O "java/lang/String" q.1 A s s.heap ∧ va_OF "java/lang/String" "coder" "B" (.int 0) q.1 A s s.heap ∧ va_OF "java/lang/String" "value" "[B" (.ref q.2) q.1 A s s.heap ∧ ∃ f : Nat → Int32, va_T .byte q.2 3 (fun j => .int (f j)) A s s.heap := by
  have hfl := flat_of_before _ hgv
  refine st_of (bs := [100, 97, 121]) (by decide) (hfl _ (by decide +kernel)) (hfl _ (by decide +kernel)) (hfl _ (by decide +kernel)) (hfl _ (by decide +kernel)) (fun j hj => ?_) hA
  rcases (show j = 0 ∨ j = 1 ∨ j = 2 by omega) with rfl | rfl | rfl <;> exact hfl _ (by decide +kernel)
set_option maxRecDepth 20000 in
theorem st_3 {s : State} {b : Nat} {A : Nat → Prop} (hgv : (Jvm.Cond.and given_1 narrow_1).before #[Value.ref b] s = true) (hA : ∀ a : Nat, a < s.heap.size → ¬ A a) : ∃ q : Nat × Nat, (Term.string RX12 81).eval #[Value.ref b] s none [] s = some (.ref q.1) ∧ va_O "java/lang/String" q.1 A s s.heap ∧ va_OF "java/lang/String" "coder" "B" (.int 0) q.1 A s s.heap ∧ va_OF "java/lang/String" "value" "[B" (.ref q.2) q.1 A s s.heap ∧ ∃ f : Nat → Int32, va_T .byte q.2 4 (fun j => .int (f j)) A s s.heap := by
  have hfl := flat_of_before _ hgv
  refine st_of (bs := [108, 105, 115, 116]) (by decide) (hfl _ (by decide +kernel)) (hfl _ (by decide +kernel)) (hfl _ (by decide +kernel)) (hfl _ (by decide +kernel)) (fun j hj => ?_) hA
  rcases (show j = 0 ∨ j = 1 ∨ j = 2 ∨ j = 3 by omega) with rfl | rfl | rfl | rfl <;> exact hfl _ (by decide +kernel)
set_option maxRecDepth 20000 in
theorem st_4 {s : State} {b : Nat} {A : Nat → Prop} (hgv : (Jvm.Cond.and given_1 narrow_1).before #[Value.ref b] s = true) (hA : ∀ a : Nat, a < s.heap.size → ¬ A a) : ∃ q : Nat × Nat, (Term.string RX12 86).eval #[Value.ref b] s none [] s = some (.ref q.1) ∧ va_O "java/lang/String" q.1 A s s.heap ∧ va_OF "java/lang/String" "coder" "B" (.int 0) q.1 A s s.heap ∧ va_OF "java/lang/String" "value" "[B" (.ref q.2) q.1 A s s.heap ∧ ∃ f : Nat → Int32, va_T .byte q.2 5 (fun j => .int (f j)) A s s.heap := by
  have hfl := flat_of_before _ hgv
  refine st_of (bs := [115, 104, 111, 114, 116]) (by decide) (hfl _ (by decide +kernel)) (hfl _ (by decide +kernel)) (hfl _ (by decide +kernel)) (hfl _ (by decide +kernel)) (fun j hj => ?_) hA
  rcases (show j = 0 ∨ j = 1 ∨ j = 2 ∨ j = 3 ∨ j = 4 by omega) with rfl | rfl | rfl | rfl | rfl <;> exact hfl _ (by decide +kernel)
set_option maxRecDepth 20000 in
theorem st_5 {s : State} {b : Nat} {A : Nat → Prop} (hgv : (Jvm.Cond.and given_1 narrow_1).before #[Value.ref b] s = true) (hA : ∀ a : Nat, a < s.heap.size → ¬ A a) : ∃ q : Nat × Nat, (Term.string RX12 91).eval #[Value.ref b] s none [] s = some (.ref q.1) ∧ va_O "java/lang/String" q.1 A s s.heap ∧ va_OF "java/lang/String" "coder" "B" (.int 0) q.1 A s s.heap ∧ va_OF "java/lang/String" "value" "[B" (.ref q.2) q.1 A s s.heap ∧ ∃ f : Nat → Int32, va_T .byte q.2 6 (fun j => .int (f j)) A s s.heap := by
  have hfl := flat_of_before _ hgv
  refine st_of (bs := [104, 105, 100, 100, 101, 110]) (by decide) (hfl _ (by decide +kernel)) (hfl _ (by decide +kernel)) (hfl _ (by decide +kernel)) (hfl _ (by decide +kernel)) (fun j hj => ?_) hA
  rcases (show j = 0 ∨ j = 1 ∨ j = 2 ∨ j = 3 ∨ j = 4 ∨ j = 5 by omega) with rfl | rfl | rfl | rfl | rfl | rfl <;> exact hfl _ (by decide +kernel)
set_option maxRecDepth 20000 in
theorem st_6 {s : State} {b : Nat} {A : Nat → Prop} (hgv : (Jvm.Cond.and given_1 narrow_1).before #[Value.ref b] s = true) (hA : ∀ a : Nat, a < s.heap.size → ¬ A a) : ∃ q : Nat × Nat, (Term.string RX12 93).eval #[Value.ref b] s none [] s = some (.ref q.1) ∧ va_O "java/lang/String" q.1 A s s.heap ∧ va_OF "java/lang/String" "coder" "B" (.int 0) q.1 A s s.heap ∧ va_OF "java/lang/String" "value" "[B" (.ref q.2) q.1 A s s.heap ∧ ∃ f : Nat → Int32, va_T .byte q.2 3 (fun j => .int (f j)) A s s.heap := by
  have hfl := flat_of_before _ hgv
  refine st_of (bs := [109, 105, 110]) (by decide) (hfl _ (by decide +kernel)) (hfl _ (by decide +kernel)) (hfl _ (by decide +kernel)) (hfl _ (by decide +kernel)) (fun j hj => ?_) hA
  rcases (show j = 0 ∨ j = 1 ∨ j = 2 by omega) with rfl | rfl | rfl <;> exact hfl _ (by decide +kernel)
set_option maxRecDepth 20000 in
theorem st_7 {s : State} {b : Nat} {A : Nat → Prop} (hgv : (Jvm.Cond.and given_1 narrow_1).before #[Value.ref b] s = true) (hA : ∀ a : Nat, a < s.heap.size → ¬ A a) : ∃ q : Nat × Nat, (Term.string RX12 95).eval #[Value.ref b] s none [] s = some (.ref q.1) ∧ va_O "java/lang/String" q.1 A s s.heap ∧ va_OF "java/lang/String" "coder" "B" (.int 0) q.1 A s s.heap ∧ va_OF "java/lang/String" "value" "[B" (.ref q.2) q.1 A s s.heap ∧ ∃ f : Nat → Int32, va_T .byte q.2 3 (fun j => .int (f j)) A s s.heap := by
  have hfl := flat_of_before _ hgv
  refine st_of (bs := [109, 97, 120]) (by decide) (hfl _ (by decide +kernel)) (hfl _ (by decide +kernel)) (hfl _ (by decide +kernel)) (hfl _ (by decide +kernel)) (fun j hj => ?_) hA
  rcases (show j = 0 ∨ j = 1 ∨ j = 2 by omega) with rfl | rfl | rfl <;> exact hfl _ (by decide +kernel)
set_option maxRecDepth 20000 in
theorem st_8 {s : State} {b : Nat} {A : Nat → Prop} (hgv : (Jvm.Cond.and given_1 narrow_1).before #[Value.ref b] s = true) (hA : ∀ a : Nat, a < s.heap.size → ¬ A a) : ∃ q : Nat × Nat, (Term.string RX12 97).eval #[Value.ref b] s none [] s = some (.ref q.1) ∧ va_O "java/lang/String" q.1 A s s.heap ∧ va_OF "java/lang/String" "coder" "B" (.int 0) q.1 A s s.heap ∧ va_OF "java/lang/String" "value" "[B" (.ref q.2) q.1 A s s.heap ∧ ∃ f : Nat → Int32, va_T .byte q.2 7 (fun j => .int (f j)) A s s.heap := by
  have hfl := flat_of_before _ hgv
  refine st_of (bs := [100, 101, 102, 97, 117, 108, 116]) (by decide) (hfl _ (by decide +kernel)) (hfl _ (by decide +kernel)) (hfl _ (by decide +kernel)) (hfl _ (by decide +kernel)) (fun j hj => ?_) hA
  rcases (show j = 0 ∨ j = 1 ∨ j = 2 ∨ j = 3 ∨ j = 4 ∨ j = 5 ∨ j = 6 by omega) with rfl | rfl | rfl | rfl | rfl | rfl | rfl <;> exact hfl _ (by decide +kernel)
set_option maxRecDepth 20000 in
theorem st_9 {s : State} {b : Nat} {A : Nat → Prop} (hgv : (Jvm.Cond.and given_1 narrow_1).before #[Value.ref b] s = true) (hA : ∀ a : Nat, a < s.heap.size → ¬ A a) : ∃ q : Nat × Nat, (Term.string RX12 99).eval #[Value.ref b] s none [] s = some (.ref q.1) ∧ va_O "java/lang/String" q.1 A s s.heap ∧ va_OF "java/lang/String" "coder" "B" (.int 0) q.1 A s s.heap ∧ va_OF "java/lang/String" "value" "[B" (.ref q.2) q.1 A s s.heap ∧ ∃ f : Nat → Int32, va_T .byte q.2 3 (fun j => .int (f j)) A s s.heap := by
  have hfl := flat_of_before _ hgv
  refine st_of (bs := [101, 110, 118]) (by decide) (hfl _ (by decide +kernel)) (hfl _ (by decide +kernel)) (hfl _ (by decide +kernel)) (hfl _ (by decide +kernel)) (fun j hj => ?_) hA
  rcases (show j = 0 ∨ j = 1 ∨ j = 2 by omega) with rfl | rfl | rfl <;> exact hfl _ (by decide +kernel)
set_option maxRecDepth 20000 in
theorem st_10 {s : State} {b : Nat} {A : Nat → Prop} (hgv : (Jvm.Cond.and given_1 narrow_1).before #[Value.ref b] s = true) (hA : ∀ a : Nat, a < s.heap.size → ¬ A a) : ∃ q : Nat × Nat, (Term.string RX12 101).eval #[Value.ref b] s none [] s = some (.ref q.1) ∧ va_O "java/lang/String" q.1 A s s.heap ∧ va_OF "java/lang/String" "coder" "B" (.int 0) q.1 A s s.heap ∧ va_OF "java/lang/String" "value" "[B" (.ref q.2) q.1 A s s.heap ∧ ∃ f : Nat → Int32, va_T .byte q.2 3 (fun j => .int (f j)) A s s.heap := by
  have hfl := flat_of_before _ hgv
  refine st_of (bs := [110, 111, 116]) (by decide) (hfl _ (by decide +kernel)) (hfl _ (by decide +kernel)) (hfl _ (by decide +kernel)) (hfl _ (by decide +kernel)) (fun j hj => ?_) hA
  rcases (show j = 0 ∨ j = 1 ∨ j = 2 by omega) with rfl | rfl | rfl <;> exact hfl _ (by decide +kernel)
set_option maxRecDepth 20000 in
theorem st_11 {s : State} {b : Nat} {A : Nat → Prop} (hgv : (Jvm.Cond.and given_1 narrow_1).before #[Value.ref b] s = true) (hA : ∀ a : Nat, a < s.heap.size → ¬ A a) : ∃ q : Nat × Nat, (Term.string RX12 103).eval #[Value.ref b] s none [] s = some (.ref q.1) ∧ va_O "java/lang/String" q.1 A s s.heap ∧ va_OF "java/lang/String" "coder" "B" (.int 0) q.1 A s s.heap ∧ va_OF "java/lang/String" "value" "[B" (.ref q.2) q.1 A s s.heap ∧ ∃ f : Nat → Int32, va_T .byte q.2 4 (fun j => .int (f j)) A s s.heap := by
  have hfl := flat_of_before _ hgv
  refine st_of (bs := [119, 105, 116, 104]) (by decide) (hfl _ (by decide +kernel)) (hfl _ (by decide +kernel)) (hfl _ (by decide +kernel)) (hfl _ (by decide +kernel)) (fun j hj => ?_) hA
  rcases (show j = 0 ∨ j = 1 ∨ j = 2 ∨ j = 3 by omega) with rfl | rfl | rfl | rfl <;> exact hfl _ (by decide +kernel)
set_option maxRecDepth 20000 in
theorem st_12 {s : State} {b : Nat} {A : Nat → Prop} (hgv : (Jvm.Cond.and given_1 narrow_1).before #[Value.ref b] s = true) (hA : ∀ a : Nat, a < s.heap.size → ¬ A a) : ∃ q : Nat × Nat, (Term.string RX12 108).eval #[Value.ref b] s none [] s = some (.ref q.1) ∧ va_O "java/lang/String" q.1 A s s.heap ∧ va_OF "java/lang/String" "coder" "B" (.int 0) q.1 A s s.heap ∧ va_OF "java/lang/String" "value" "[B" (.ref q.2) q.1 A s s.heap ∧ ∃ f : Nat → Int32, va_T .byte q.2 2 (fun j => .int (f j)) A s s.heap := by
  have hfl := flat_of_before _ hgv
  refine st_of (bs := [110, 111]) (by decide) (hfl _ (by decide +kernel)) (hfl _ (by decide +kernel)) (hfl _ (by decide +kernel)) (hfl _ (by decide +kernel)) (fun j hj => ?_) hA
  rcases (show j = 0 ∨ j = 1 by omega) with rfl | rfl <;> exact hfl _ (by decide +kernel)
theorem cy_p {s : State} {args : Array Value} {ty : FieldType} (hne : ∀ C, ty ≠ .object C) (h : (Cond.arrayClass ty).before args s = true) : ∃ cA : ClassId, ArrOfT s cA ty ∧ va_RA s cA ty := by
  obtain ⟨cA, kA, comp, h1, h2, h3⟩ := Cond.arrayClass_spec h
  refine ⟨cA, fun n z => ⟨fun k h => (by cases h), kA, h2, comp, h3⟩, ?_⟩
  cases ty with
  | object C => exact absurd rfl (hne C)
  | _ => exact h1
theorem cy_o {s : State} {args : Array Value} {C : String} (h : (Cond.arrayOver (.object C)).before args s = true) : ∃ cA : ClassId, ArrOfT s cA (.object C) ∧ va_RA s cA (.object C) := by
  obtain ⟨comp, cA, kA, h1, -, h3, h4, h5⟩ := Cond.arrayOver_spec h
  exact ⟨cA, fun n z => ⟨fun k h => (by cases h), kA, h3, comp, h4⟩, kA, comp, h3, h4, h1, h5⟩
set_option maxHeartbeats 8000000 in
set_option maxRecDepth 100000 in
theorem env_start {s : State} {b : Nat} (hts : ∀ w ∈ lw_tbl, w.before #[Value.ref b] s = true) (hgv : (Jvm.Cond.and given_1 narrow_1).before #[Value.ref b] s = true) : ∃ kv : KV, envq kv (fun q : Nat => s.heap.size ≤ q) s s.heap := by
  have hfl := flat_of_before _ hgv
  have hA0 : ∀ a : Nat, a < s.heap.size → ¬ (fun q : Nat => s.heap.size ≤ q) a := fun a h => Nat.not_le.mpr h
  have tb : ∀ (i : Nat) (w : Cond), lw_tbl[i]? = some w → w.before #[Value.ref b] s = true := fun i w h => hts w (List.mem_of_getElem? h)
  obtain ⟨z0, s0⟩ := st_0 (A := fun q : Nat => s.heap.size ≤ q) hgv hA0
  obtain ⟨z1, s1⟩ := st_1 (A := fun q : Nat => s.heap.size ≤ q) hgv hA0
  obtain ⟨z2, s2⟩ := st_2 (A := fun q : Nat => s.heap.size ≤ q) hgv hA0
  obtain ⟨z3, s3⟩ := st_3 (A := fun q : Nat => s.heap.size ≤ q) hgv hA0
  obtain ⟨z4, s4⟩ := st_4 (A := fun q : Nat => s.heap.size ≤ q) hgv hA0
  obtain ⟨z5, s5⟩ := st_5 (A := fun q : Nat => s.heap.size ≤ q) hgv hA0
  obtain ⟨z6, s6⟩ := st_6 (A := fun q : Nat => s.heap.size ≤ q) hgv hA0
  obtain ⟨z7, s7⟩ := st_7 (A := fun q : Nat => s.heap.size ≤ q) hgv hA0
  obtain ⟨z8, s8⟩ := st_8 (A := fun q : Nat => s.heap.size ≤ q) hgv hA0
  obtain ⟨z9, s9⟩ := st_9 (A := fun q : Nat => s.heap.size ≤ q) hgv hA0
  obtain ⟨z10, s10⟩ := st_10 (A := fun q : Nat => s.heap.size ≤ q) hgv hA0
  obtain ⟨z11, s11⟩ := st_11 (A := fun q : Nat => s.heap.size ≤ q) hgv hA0
  obtain ⟨z12, s12⟩ := st_12 (A := fun q : Nat => s.heap.size ≤ q) hgv hA0
  refine ⟨(fun i => ([z0, z1, z2, z3, z4, z5, z6, z7, z8, z9, z10, z11, z12].getD i (0, 0)).1, fun i => ([z0, z1, z2, z3, z4, z5, z6, z7, z8, z9, z10, z11, z12].getD i (0, 0)).2), ?_⟩
  refine ⟨fun w hw => va_Nw.of (nw_tab (NW_ok w hw)) (hts w (NW_in w hw)), ?_, ?_, ?_, ?_, ?_, ?_, ?_⟩
  · intro C hC
    simp only [AOs, List.mem_cons, List.not_mem_nil, or_false] at hC
    rcases hC with rfl | rfl | rfl | rfl | rfl | rfl
    · exact va_AO.of (tb 219 _ (by decide +kernel))
    · exact va_AO.of (tb 351 _ (by decide +kernel))
    · exact va_AO.of (tb 507 _ (by decide +kernel))
    · exact va_AO.of (tb 301 _ (by decide +kernel))
    · exact va_AO.of (tb 226 _ (by decide +kernel))
    · exact va_AO.of (tb 228 _ (by decide +kernel))
  · exact vx_Zqof (tb 732 (Cond.laysStatic "java/lang/Throwable" "UNASSIGNED_STACK" "[Ljava/lang/StackTraceElement;") (by decide +kernel)) (tb 160 (Cond.initialized "java/lang/Throwable") (by decide +kernel)) (hfl _ (by decide +kernel)) hA0
  · exact vx_Zqof (tb 734 (Cond.laysStatic "java/lang/Throwable" "SUPPRESSED_SENTINEL" "Ljava/util/List;") (by decide +kernel)) (tb 160 (Cond.initialized "java/lang/Throwable") (by decide +kernel)) (hfl _ (by decide +kernel)) hA0
  · exact va_Zof (tb 194 (Cond.laysStatic "java/lang/String" "COMPACT_STRINGS" "Z") (by decide +kernel)) (tb 147 (Cond.initialized "java/lang/String") (by decide +kernel)) (va_eqi (hfl _ (by decide +kernel))) hA0
  · exact va_Zqof (tb 677 (Cond.laysStatic "jdk/internal/util/Preconditions" "SIOOBE_FORMATTER" "Ljava/util/function/BiFunction;") (by decide +kernel)) (tb 159 (Cond.initialized "jdk/internal/util/Preconditions") (by decide +kernel)) (hfl _ (by decide +kernel)) hA0
  · intro q hq
    simp only [STL, List.mem_cons, List.not_mem_nil, or_false] at hq
    rcases hq with rfl | rfl | rfl | rfl | rfl | rfl | rfl | rfl | rfl
    · exact va_Zof (tb 1996 (Cond.laysStatic "HarbourDeskModel" "W_TOOL" "J") (by decide +kernel)) (tb 157 (Cond.initialized "HarbourDeskModel") (by decide +kernel)) (va_eql (hfl _ (by decide +kernel))) hA0
    · exact va_Zof (tb 1998 (Cond.laysStatic "HarbourDeskModel" "W_SUB" "J") (by decide +kernel)) (tb 157 (Cond.initialized "HarbourDeskModel") (by decide +kernel)) (va_eql (hfl _ (by decide +kernel))) hA0
    · exact va_Zof (tb 2000 (Cond.laysStatic "HarbourDeskModel" "W_OPT" "J") (by decide +kernel)) (tb 157 (Cond.initialized "HarbourDeskModel") (by decide +kernel)) (va_eql (hfl _ (by decide +kernel))) hA0
    · exact va_Zof (tb 2002 (Cond.laysStatic "HarbourDeskModel" "W_REST" "J") (by decide +kernel)) (tb 157 (Cond.initialized "HarbourDeskModel") (by decide +kernel)) (va_eql (hfl _ (by decide +kernel))) hA0
    · exact va_Zof (tb 2014 (Cond.laysStatic "HarbourDeskModel" "W_INT" "J") (by decide +kernel)) (tb 157 (Cond.initialized "HarbourDeskModel") (by decide +kernel)) (va_eql (hfl _ (by decide +kernel))) hA0
    · exact va_Zof (tb 2016 (Cond.laysStatic "HarbourDeskModel" "W_TEXT" "J") (by decide +kernel)) (tb 157 (Cond.initialized "HarbourDeskModel") (by decide +kernel)) (va_eql (hfl _ (by decide +kernel))) hA0
    · exact va_Zof (tb 2020 (Cond.laysStatic "HarbourDeskModel" "W_ONE" "J") (by decide +kernel)) (tb 157 (Cond.initialized "HarbourDeskModel") (by decide +kernel)) (va_eql (hfl _ (by decide +kernel))) hA0
    · exact va_Zof (tb 2023 (Cond.laysStatic "HarbourDeskModel" "W_NEED" "J") (by decide +kernel)) (tb 157 (Cond.initialized "HarbourDeskModel") (by decide +kernel)) (va_eql (hfl _ (by decide +kernel))) hA0
    · exact va_Zof (tb 2032 (Cond.laysStatic "HarbourDeskModel" "W_END" "J") (by decide +kernel)) (tb 157 (Cond.initialized "HarbourDeskModel") (by decide +kernel)) (va_eql (hfl _ (by decide +kernel))) hA0
  · intro q hq
    simp only [STRS, List.mem_cons, List.not_mem_nil, or_false] at hq
    rcases hq with rfl | rfl | rfl | rfl | rfl | rfl | rfl | rfl | rfl | rfl | rfl | rfl | rfl
    · exact ⟨vk_R.of (tb 2003 _ (by decide +kernel)) s0.1, s0.2⟩
    · exact ⟨vk_R.of (tb 2012 _ (by decide +kernel)) s1.1, s1.2⟩
    · exact ⟨vk_R.of (tb 2017 _ (by decide +kernel)) s2.1, s2.2⟩
    · exact ⟨vk_R.of (tb 2018 _ (by decide +kernel)) s3.1, s3.2⟩
    · exact ⟨vk_R.of (tb 2021 _ (by decide +kernel)) s4.1, s4.2⟩
    · exact ⟨vk_R.of (tb 2024 _ (by decide +kernel)) s5.1, s5.2⟩
    · exact ⟨vk_R.of (tb 2025 _ (by decide +kernel)) s6.1, s6.2⟩
    · exact ⟨vk_R.of (tb 2026 _ (by decide +kernel)) s7.1, s7.2⟩
    · exact ⟨vk_R.of (tb 2027 _ (by decide +kernel)) s8.1, s8.2⟩
    · exact ⟨vk_R.of (tb 2028 _ (by decide +kernel)) s9.1, s9.2⟩
    · exact ⟨vk_R.of (tb 2029 _ (by decide +kernel)) s10.1, s10.2⟩
    · exact ⟨vk_R.of (tb 2030 _ (by decide +kernel)) s11.1, s11.2⟩
    · exact ⟨vk_R.of (tb 2033 _ (by decide +kernel)) s12.1, s12.2⟩
set_option maxHeartbeats 8000000 in
set_option maxRecDepth 100000 in
theorem known_start {s : State} {b : Nat} (hts : ∀ w ∈ lw_tbl, w.before #[Value.ref b] s = true) : ∃ (D : va_G) (cy : Nat → ClassId), va_K D classes (tysq cy) s := by
  have tb : ∀ (i : Nat) (w : Cond), lw_tbl[i]? = some w → w.before #[Value.ref b] s = true := fun i w h => hts w (List.mem_of_getElem? h)
  obtain ⟨y0, hy0⟩ := cy_p (ty := .int) (fun C h => by cases h) (tb 299 _ (by decide +kernel))
  obtain ⟨y1, hy1⟩ := cy_p (ty := .char) (fun C h => by cases h) (tb 216 _ (by decide +kernel))
  obtain ⟨y2, hy2⟩ := cy_p (ty := .long) (fun C h => by cases h) (tb 2379 _ (by decide +kernel))
  obtain ⟨y3, hy3⟩ := cy_p (ty := .boolean) (fun C h => by cases h) (tb 2380 _ (by decide +kernel))
  obtain ⟨y4, hy4⟩ := cy_p (ty := .byte) (fun C h => by cases h) (tb 217 _ (by decide +kernel))
  obtain ⟨y5, hy5⟩ := cy_o (C := "HarbourDesk$Tool") (tb 219 _ (by decide +kernel))
  obtain ⟨y6, hy6⟩ := cy_o (C := "HarbourDesk$Rows") (tb 351 _ (by decide +kernel))
  obtain ⟨y7, hy7⟩ := cy_o (C := "HarbourDesk$DeskRecord") (tb 507 _ (by decide +kernel))
  obtain ⟨y8, hy8⟩ := cy_o (C := "HarbourDesk$Text") (tb 301 _ (by decide +kernel))
  obtain ⟨y9, hy9⟩ := cy_o (C := "HarbourDesk$Place") (tb 226 _ (by decide +kernel))
  obtain ⟨y10, hy10⟩ := cy_o (C := "HarbourDesk$Option") (tb 228 _ (by decide +kernel))
  obtain ⟨c0, i0, k0⟩ := u_known (C := RX0) (T := TX0) (N := 12) (n := 12) hts GWu0_in (tb 422 _ (by decide +kernel))
  obtain ⟨c1, i1, k1⟩ := u_known (C := RX1) (T := TX1) (N := 15) (n := 15) hts GWu1_in (tb 260 _ (by decide +kernel))
  obtain ⟨c2, i2, k2⟩ := u_known (C := RX2) (T := TX2) (N := 8) (n := 8) hts GWu2_in (tb 508 _ (by decide +kernel))
  obtain ⟨c3, i3, k3⟩ := u_known (C := RX3) (T := TX3) (N := 16) (n := 16) hts GWu3_in (tb 353 _ (by decide +kernel))
  obtain ⟨c4, i4, k4⟩ := u_known (C := RX4) (T := TX4) (N := 17) (n := 17) hts GWu4_in (tb 1103 _ (by decide +kernel))
  obtain ⟨c5, i5, k5⟩ := u_known (C := RX5) (T := TX5) (N := 7) (n := 7) hts GWu5_in (tb 910 _ (by decide +kernel))
  obtain ⟨c6, i6, k6⟩ := u_known (C := RX6) (T := TX6) (N := 7) (n := 7) hts GWu6_in (tb 476 _ (by decide +kernel))
  obtain ⟨c7, i7, k7⟩ := u_known (C := RX7) (T := TX7) (N := 6) (n := 6) hts GWu7_in (tb 547 _ (by decide +kernel))
  obtain ⟨c8, i8, k8⟩ := u_known (C := RX8) (T := TX8) (N := 7) (n := 7) hts GWu8_in (tb 266 _ (by decide +kernel))
  obtain ⟨c9, i9, k9⟩ := u_known (C := RX9) (T := TX9) (N := 1) (n := 1) hts GWu9_in (tb 882 _ (by decide +kernel))
  obtain ⟨c10, i10, k10⟩ := u_known (C := RX10) (T := TX10) (N := 5) (n := 5) hts GWu10_in (tb 220 _ (by decide +kernel))
  obtain ⟨c11, i11, k11⟩ := u_known (C := RX11) (T := TX11) (N := 15) (n := 15) hts GWu11_in (tb 177 _ (by decide +kernel))
  obtain ⟨c12, i12, k12⟩ := u_known (C := RX12) (T := TX12) (N := 114) (n := 114) hts GWu12_in (tb 1990 _ (by decide +kernel))
  obtain ⟨c13, i13, k13⟩ := u_known (C := RJ4) (T := TJ4) (N := 4) (n := 4) hts GWu13_in (tb 185 _ (by decide +kernel))
  refine ⟨(fun k => [c0, c1, c2, c3, c4, c5, c6, c7, c8, c9, c10, c11, c12, c13].getD k 0, fun k => [i0, i1, i2, i3, i4, i5, i6, i7, i8, i9, i10, i11, i12, i13].getD k (fun _ => 0)), fun k => [y0, y1, y2, y3, y4, y5, y6, y7, y8, y9, y10].getD k 0, fun k q hq => ?_, fun k q hq => ?_⟩
  · match k, hq with
    | 0, hq => cases hq; exact k0
    | 1, hq => cases hq; exact k1
    | 2, hq => cases hq; exact k2
    | 3, hq => cases hq; exact k3
    | 4, hq => cases hq; exact k4
    | 5, hq => cases hq; exact k5
    | 6, hq => cases hq; exact k6
    | 7, hq => cases hq; exact k7
    | 8, hq => cases hq; exact k8
    | 9, hq => cases hq; exact k9
    | 10, hq => cases hq; exact k10
    | 11, hq => cases hq; exact k11
    | 12, hq => cases hq; exact k12
    | 13, hq => cases hq; exact k13
    | k + 14, hq => simp [classes] at hq
  · match k, hq with
    | 0, hq => cases hq; exact hy0
    | 1, hq => cases hq; exact hy1
    | 2, hq => cases hq; exact hy2
    | 3, hq => cases hq; exact hy3
    | 4, hq => cases hq; exact hy4
    | 5, hq => cases hq; exact hy5
    | 6, hq => cases hq; exact hy6
    | 7, hq => cases hq; exact hy7
    | 8, hq => cases hq; exact hy8
    | 9, hq => cases hq; exact hy9
    | 10, hq => cases hq; exact hy10
    | k + 11, hq => simp [tysq] at hq
