/-! what every method here rests on beside the tables' words, and how it is handed on -/
def nwk : Cond → Bool
  | .fieldLinkNest .. => true
  | .methodLinkNest .. => true
  | .castable .. => true
  | .declares .. => true
  | _ => false
theorem nw_warm {w : Cond} {s U : State} (hk : nwk w = true) (hW : s.WarmedH U.vm) (h : va_Nw w s) : va_Nw w U := by
  cases w <;> first | exact va_Nw.warmF hW h | exact va_Nw.warmM hW h | exact va_Nw.warmC hW h | exact va_Nw.warmD hW h | (simp [nwk] at hk)
theorem nw_tab {w : Cond} (hk : nwk w = true) : w.onTables = true := by
  cases w <;> first | rfl | (simp [nwk] at hk)
theorem NW_ok : ∀ w ∈ NW, nwk w = true := by decide +kernel
abbrev KV : Type := (Nat → Nat) × (Nat → Nat)
def strq (kv : KV) (i L : Nat) (A : Nat → Prop) (U : State) (H : Heap) : Prop := va_O "java/lang/String" (kv.1 i) A U H ∧ va_OF "java/lang/String" "coder" "B" (.int 0) (kv.1 i) A U H ∧ va_OF "java/lang/String" "value" "[B" (.ref (kv.2 i)) (kv.1 i) A U H ∧ ∃ f : Nat → Int32, va_T .byte (kv.2 i) L (fun j => .int (f j)) A U H
theorem strq.pass {kv : KV} {i L : Nat} {A A' : Nat → Prop} {u U : State} {H H1 : Heap} (h : strq kv i L A u H) (ha : u.vm.Alike U.vm) (hq : ∀ a : Nat, a < H.size → ¬ A a → H1[a]? = H[a]?) (hF : ∀ q, A' q → A q) : strq kv i L A' U H1 := by
  obtain ⟨h1, h2, h3, f, h4⟩ := h
  exact ⟨((h1.moved ha).kept hq).narrow hF, ((h2.moved ha).kept hq).narrow hF, ((h3.moved ha).kept hq).narrow hF, f, ((h4.moved ha).kept hq).narrow hF⟩
def envq (kv : KV) (A : Nat → Prop) (U : State) (H : Heap) : Prop :=
  (∀ w ∈ NW, va_Nw w U) ∧ (∀ C ∈ AOs, va_AO C U) ∧ vx_Zq Bundle.tN "UNASSIGNED_STACK" Bundle.steD A U H ∧ vx_Zq Bundle.tN "SUPPRESSED_SENTINEL" Bundle.listD A U H ∧ va_Z "java/lang/String" "COMPACT_STRINGS" "Z" (.int 1) A U H ∧ va_Zq "jdk/internal/util/Preconditions" "SIOOBE_FORMATTER" "Ljava/util/function/BiFunction;" A U H ∧ (∀ q ∈ STL, va_Z "HarbourDeskModel" q.1 "J" (.long q.2) A U H) ∧ (∀ q ∈ STRS, vk_R RX12 q.2.1 q.2.2.1 (kv.1 q.1) U ∧ strq kv q.1 q.2.2.2 A U H)
theorem envq.pass {kv : KV} {A A' : Nat → Prop} {s U : State} {H : Heap} {locs : List Loc} (h : envq kv A s s.heap) (hS : va_S A s.heap H locs) (hF : ∀ q, A' q → A q) (hU : U.heap = H) (hW : s.WarmedH U.vm) : envq kv A' U U.heap := by
  have hq : ∀ a : Nat, a < s.heap.size → ¬ A a → U.heap[a]? = s.heap[a]? := fun a h1 h2 => by rw [hU]; exact hS.2.1 a h1 h2
  have ha := hW.alike
  obtain ⟨h1, h2, h3, h4, h5, h6, h7, h8⟩ := h
  exact ⟨fun w hw => nw_warm (NW_ok w hw) hW (h1 w hw), fun C hC => va_AO.moved ha (h2 C hC), ((h3.moved ha).kept hq).narrow hF, ((h4.moved ha).kept hq).narrow hF, ((h5.moved ha).kept hq).narrow hF, ((h6.moved ha).kept hq).narrow hF, fun q hq' => (((h7 q hq').moved ha).kept hq).narrow hF, fun q hq' => ⟨vk_R.warm hW (h8 q hq').1, (h8 q hq').2.pass ha hq hF⟩⟩
theorem envq.blind {kv : KV} {A : Nat → Prop} {U : State} {g : JFrame} {mk : MethodId} {a : Array Value} (h : envq kv A U U.heap) : envq kv A (U.calling g mk a) (U.calling g mk a).heap := by
  have ha : U.vm.Alike (U.calling g mk a).vm := Vm.Alike.refl U.vm
  obtain ⟨h1, h2, h3, h4, h5, h6, h7, h8⟩ := h
  exact ⟨fun w hw => va_Nw.same (u := U) (U := U.calling g mk a) (nw_tab (NW_ok w hw)) rfl (h1 w hw), fun C hC => va_AO.moved ha (h2 C hC), h3.moved ha, h4.moved ha, h5.moved ha, h6.moved ha, fun q hq' => (h7 q hq').moved ha, fun q hq' => ⟨vk_R.same rfl (h8 q hq').1, (h8 q hq').2.pass ha (fun _ _ _ => rfl) (fun _ h => h)⟩⟩
def pcq (D : va_G) (cy : Nat → ClassId) (kv : KV) (sz : Nat) (PRE : va_W) (U : State) : Prop := U.heap.size = sz ∧ va_P D classes PRE U.heap ∧ va_K D classes (tysq cy) U ∧ va_D (fun _ => True) PRE ∧ envq kv (va_A PRE sz) U U.heap
theorem pq_blind {D : va_G} {cy : Nat → ClassId} {kv : KV} {sz : Nat} {PRE : va_W} {av : List Value} : FrameBlind (va_Pc av (pcq D cy kv sz PRE)) := by
  intro a U g mk q
  obtain ⟨q0, q1, qP, qK, qD, qE⟩ := q
  exact ⟨q0, q1, qP, va_K.moved (u := U) (U := U.calling g mk a) (Vm.Alike.refl U.vm) qK, qD, qE.blind⟩
theorem pq_pass {D : va_G} {cy : Nat → ClassId} {kv : KV} {A : Nat → Prop} {s : State} {H : Heap} {locs : List Loc} {ws wc : va_W} {av : List Value} (hP : va_P D classes ws H) (hD : va_D A ws) (hK : va_K D classes (tysq cy) s) (hE : envq kv A s s.heap) (hS : va_S A s.heap H locs) (hA : ∀ q, s.heap.size ≤ q → A q) (isC : List Nat) (hC : isC.map (fun i => ws[i]?) = wc.map some) (hn : va_nd isC = true) : ∀ U : State, U.heap = H → s.WarmedH U.vm → va_Pc av (pcq D cy kv H.size wc) av.toArray U := by
  intro U hU hW
  have hC2 : isC.filterMap (fun i => ws[i]?) = wc := by
    have h : ∀ (l : List Nat) (w : va_W), l.map (fun i => ws[i]?) = w.map some → l.filterMap (fun i => ws[i]?) = w := by
      intro l
      induction l with
      | nil => intro w h; cases w with
        | nil => rfl
        | cons a w => simp at h
      | cons a l ih => intro w h; cases w with
        | nil => simp at h
        | cons b w =>
          simp only [List.map_cons, List.cons.injEq] at h
          rw [List.filterMap_cons, h.1]
          simp only
          rw [ih w h.2]
    exact h isC wc hC
  exact ⟨rfl, by rw [hU], by rw [hU]; exact hP.sub isC hC2, va_K.moved hW.alike hK, (hD.sub isC hn hC).weaken (fun _ _ _ _ => trivial), hE.pass hS (va_free (wc := wc) hD hS hA isC hC) hU hW⟩
def bq (D : va_G) (R : va_W → Prop) (A : Nat → Prop) (t : State) : Prop := ∃ w1 : va_W, R w1 ∧ va_P D classes w1 t.heap ∧ va_D A w1
section CQ
variable {p : Program} {l : Launch} {e : Env} {R : Room} {s : State} {m : MethodId} {args : Array Value} {below : List Frame} {meth : Method} {c : Code} {H : Heap} {locs : List Loc} {cells slots : Nat} {Q : State → Prop}
variable {pc : Nat} {ls : Array Slot} {rest st0 : List Value} {a : Array Value} {A : Nat → Prop} {mc ms : Nat} {D : va_G} {ws wc wr : va_W} {Rw : va_W → Prop} {k2 n2 : Nat}
theorem cq_i {post : Int32 → Prop} (hr : va_Run p l e R s m args below meth c H locs cells slots mc ms (F0 m pc ls st0) rest (va_Qi (fun r (_ : Unit) => post r) (fun _ t => bq D Rw (va_A wc H.size) t) (va_A wc H.size) a) (va_A wc H.size)) (hP : va_P D classes ws H) (hD : va_D A ws) (hS : va_S A s.heap H locs) (hA : ∀ q, s.heap.size ≤ q → A q) (isC isR : List Nat) (hC : isC.map (fun i => ws[i]?) = wc.map some) (hR : isR.map (fun i => ws[i]?) = wr.map some) (hn : va_nd isR = true) (hdis : ∀ i ∈ isR, i ∉ isC) (hk2 : cells + mc ≤ k2) (hn2 : slots + ms ≤ n2)
    (kk : ∀ (r : Int32) (w1 : va_W) (H1 : Heap) (locs1 : List Loc), post r → Rw w1 → va_P D classes (wr ++ w1) H1 → va_D A (wr ++ w1) → va_S A s.heap H1 locs1 → W p l e R s m args below meth c H1 locs1 k2 n2 Q (F0 m (pc + 3) ls (.int r :: rest))) : W p l e R s m args below meth c H locs cells slots Q (F0 m pc ls st0) := by
  have hF := va_free (wc := wc) hD hS hA isC hC
  refine va_calli hr hS (fun q _ h => hF q h) hF (fun r u t H1 locs1 ht hvm hw hB hz hk hS => ?_)
  obtain ⟨w1, hR1, hP1, hD1⟩ := hB
  rw [ht] at hP1
  obtain ⟨hP2, hD2⟩ := va_join (wr := wr) (w1 := w1) hP hD isC isR hC hR hn hdis hk hF hP1 hD1
  exact W.widen hk2 hn2 (kk r w1 H1 locs1 hw hR1 hP2 hD2 hS)
theorem cq_l {post : Int64 → Prop} (hr : va_Run p l e R s m args below meth c H locs cells slots mc ms (F0 m pc ls st0) rest (va_Ql (fun r (_ : Unit) => post r) (fun _ t => bq D Rw (va_A wc H.size) t) (va_A wc H.size) a) (va_A wc H.size)) (hP : va_P D classes ws H) (hD : va_D A ws) (hS : va_S A s.heap H locs) (hA : ∀ q, s.heap.size ≤ q → A q) (isC isR : List Nat) (hC : isC.map (fun i => ws[i]?) = wc.map some) (hR : isR.map (fun i => ws[i]?) = wr.map some) (hn : va_nd isR = true) (hdis : ∀ i ∈ isR, i ∉ isC) (hk2 : cells + mc ≤ k2) (hn2 : slots + ms ≤ n2)
    (kk : ∀ (r : Int64) (w1 : va_W) (H1 : Heap) (locs1 : List Loc), post r → Rw w1 → va_P D classes (wr ++ w1) H1 → va_D A (wr ++ w1) → va_S A s.heap H1 locs1 → W p l e R s m args below meth c H1 locs1 k2 n2 Q (F0 m (pc + 3) ls (.long r :: rest))) : W p l e R s m args below meth c H locs cells slots Q (F0 m pc ls st0) := by
  have hF := va_free (wc := wc) hD hS hA isC hC
  refine va_calll hr hS (fun q _ h => hF q h) hF (fun r u t H1 locs1 ht hvm hw hB hz hk hS => ?_)
  obtain ⟨w1, hR1, hP1, hD1⟩ := hB
  rw [ht] at hP1
  obtain ⟨hP2, hD2⟩ := va_join (wr := wr) (w1 := w1) hP hD isC isR hC hR hn hdis hk hF hP1 hD1
  exact W.widen hk2 hn2 (kk r w1 H1 locs1 hw hR1 hP2 hD2 hS)
theorem cq_v (hr : va_Run p l e R s m args below meth c H locs cells slots mc ms (F0 m pc ls st0) rest (va_Qv (fun (_ : Unit) => True) (fun _ t => bq D Rw (va_A wc H.size) t) (va_A wc H.size) a) (va_A wc H.size)) (hP : va_P D classes ws H) (hD : va_D A ws) (hS : va_S A s.heap H locs) (hA : ∀ q, s.heap.size ≤ q → A q) (isC isR : List Nat) (hC : isC.map (fun i => ws[i]?) = wc.map some) (hR : isR.map (fun i => ws[i]?) = wr.map some) (hn : va_nd isR = true) (hdis : ∀ i ∈ isR, i ∉ isC) (hk2 : cells + mc ≤ k2) (hn2 : slots + ms ≤ n2)
    (kk : ∀ (w1 : va_W) (H1 : Heap) (locs1 : List Loc), Rw w1 → va_P D classes (wr ++ w1) H1 → va_D A (wr ++ w1) → va_S A s.heap H1 locs1 → W p l e R s m args below meth c H1 locs1 k2 n2 Q (F0 m (pc + 3) ls rest)) : W p l e R s m args below meth c H locs cells slots Q (F0 m pc ls st0) := by
  have hF := va_free (wc := wc) hD hS hA isC hC
  refine va_callv hr hS (fun q _ h => hF q h) hF (fun u t H1 locs1 ht hvm hw hB hz hk hS => ?_)
  obtain ⟨w1, hR1, hP1, hD1⟩ := hB
  rw [ht] at hP1
  obtain ⟨hP2, hD2⟩ := va_join (wr := wr) (w1 := w1) hP hD isC isR hC hR hn hdis hk hF hP1 hD1
  exact W.widen hk2 hn2 (kk w1 H1 locs1 hR1 hP2 hD2 hS)
theorem cq_r {Rr : Nat → va_W → Prop} (hr : va_Run p l e R s m args below meth c H locs cells slots mc ms (F0 m pc ls st0) rest (va_Qr (fun (_ : Unit) => True) (fun _ ra t => bq D (Rr ra) (va_A wc H.size) t) (va_A wc H.size) a) (va_A wc H.size)) (hP : va_P D classes ws H) (hD : va_D A ws) (hS : va_S A s.heap H locs) (hA : ∀ q, s.heap.size ≤ q → A q) (isC isR : List Nat) (hC : isC.map (fun i => ws[i]?) = wc.map some) (hR : isR.map (fun i => ws[i]?) = wr.map some) (hn : va_nd isR = true) (hdis : ∀ i ∈ isR, i ∉ isC) (hk2 : cells + mc ≤ k2) (hn2 : slots + ms ≤ n2)
    (kk : ∀ (ra : Nat) (w1 : va_W) (H1 : Heap) (locs1 : List Loc), Rr ra w1 → va_P D classes (wr ++ w1) H1 → va_D A (wr ++ w1) → va_S A s.heap H1 locs1 → W p l e R s m args below meth c H1 locs1 k2 n2 Q (F0 m (pc + 3) ls (.ref ra :: rest))) : W p l e R s m args below meth c H locs cells slots Q (F0 m pc ls st0) := by
  have hF := va_free (wc := wc) hD hS hA isC hC
  refine va_callr hr hS (fun q _ h => hF q h) hF (fun u ra t H1 locs1 ht hvm hw hB hz hk hS => ?_)
  obtain ⟨w1, hR1, hP1, hD1⟩ := hB
  rw [ht] at hP1
  obtain ⟨hP2, hD2⟩ := va_join (wr := wr) (w1 := w1) hP hD isC isR hC hR hn hdis hk hF hP1 hD1
  exact W.widen hk2 hn2 (kk ra w1 H1 locs1 hR1 hP2 hD2 hS)
/-- a callee that answers null -/
theorem cq_n (hr : va_Run p l e R s m args below meth c H locs cells slots mc ms (F0 m pc ls st0) rest (va_Qq (fun r (_ : Unit) => r = none) (fun _ t => bq D Rw (va_A wc H.size) t) (va_A wc H.size) a) (va_A wc H.size)) (hP : va_P D classes ws H) (hD : va_D A ws) (hS : va_S A s.heap H locs) (hA : ∀ q, s.heap.size ≤ q → A q) (isC isR : List Nat) (hC : isC.map (fun i => ws[i]?) = wc.map some) (hR : isR.map (fun i => ws[i]?) = wr.map some) (hn : va_nd isR = true) (hdis : ∀ i ∈ isR, i ∉ isC) (hk2 : cells + mc ≤ k2) (hn2 : slots + ms ≤ n2)
    (kk : ∀ (w1 : va_W) (H1 : Heap) (locs1 : List Loc), Rw w1 → va_P D classes (wr ++ w1) H1 → va_D A (wr ++ w1) → va_S A s.heap H1 locs1 → W p l e R s m args below meth c H1 locs1 k2 n2 Q (F0 m (pc + 3) ls (.null :: rest))) : W p l e R s m args below meth c H locs cells slots Q (F0 m pc ls st0) := by
  have hF := va_free (wc := wc) hD hS hA isC hC
  refine va_callq hr hS (fun q _ h => hF q h) hF (fun r u t H1 locs1 ht hvm hw hB hz hk hS => ?_)
  subst hw
  obtain ⟨w1, hR1, hP1, hD1⟩ := hB
  rw [ht] at hP1
  obtain ⟨hP2, hD2⟩ := va_join (wr := wr) (w1 := w1) hP hD isC isR hC hR hn hdis hk hF hP1 hD1
  exact W.widen hk2 hn2 (kk w1 H1 locs1 hR1 hP2 hD2 hS)
/-- a callee that throws -/
theorem xq_of {E : String} {w1 : va_W} (hR : Rw w1) (hP : va_P D classes w1 H) (hD : va_D A w1) (hS : va_S A s.heap H locs) : ∀ t : State, s.vm.Alike t.vm → H.size ≤ t.heap.size → (∀ q : Nat, q < H.size → t.heap[q]? = H[q]?) → vx_X (fun (_ : Unit) => True) (fun E' _ t => E' = E ∧ bq D Rw A t) A E s t := by
  intro t _ hz hq
  exact ⟨(), trivial, ⟨rfl, w1, hR, hP.kept (fun k x hx => hq x.1 ((hP k x hx).lt)), hD⟩, Nat.le_trans hS.1 hz, fun q h1 h2 => (hq q (Nat.lt_of_lt_of_le h1 hS.1)).trans (hS.2.1 q h1 h2)⟩
theorem xq_call {EXC : String} (hr : vx_Run p l e R s m args below meth c H locs cells slots mc ms (F0 m pc ls st0) rest (va_Qv (fun (_ : Unit) => False) (fun _ _ => True) (fun _ => False) a) (vx_X (fun (_ : Unit) => True) (fun E _ t => E = EXC ∧ bq D Rw (va_A wc H.size) t) (va_A wc H.size)) (va_A wc H.size)) (hP : va_P D classes ws H) (hD : va_D A ws) (hS : va_S A s.heap H locs) (hA : ∀ q, s.heap.size ≤ q → A q) (isC isR : List Nat) (hC : isC.map (fun i => ws[i]?) = wc.map some) (hR : isR.map (fun i => ws[i]?) = wr.map some) (hn : va_nd isR = true) (hdis : ∀ i ∈ isR, i ∉ isC) (hk2 : cells + mc ≤ k2) (hn2 : slots + ms ≤ n2)
    (kx : ∀ (ce : Cell) (q9 : Addr) (w1 : va_W) (H1 : Heap) (locs1 : List Loc), Rw w1 → va_P D classes (wr ++ w1) H1 → va_D A (wr ++ w1) → va_S A s.heap H1 locs1 → H1[q9]? = some ce → ce.vm = .none → s.vm.findClass EXC = some ce.cls → vx_W p l e R s m args below meth c H1 locs1 k2 n2 Q (F0 m pc ls rest) q9) : W p l e R s m args below meth c H locs cells slots Q (F0 m pc ls st0) := by
  have hF := va_free (wc := wc) hD hS hA isC hC
  refine vx_callv hr hS (fun _ _ h => h.elim) hF (fun q _ h => hF q h) (fun E ce q9 u t H1 locs1 ht hvm hpx hB hz hk hS hce hcv hcl => ?_) (fun u t H1 locs1 ht hvm hw hB hz hk hS => hw.elim)
  obtain ⟨rfl, w1, hR1, hP1, hD1⟩ := hB
  rw [ht] at hP1
  obtain ⟨hP2, hD2⟩ := va_join (wr := wr) (w1 := w1) hP hD isC isR hC hR hn hdis hk hF hP1 hD1
  exact vx_widen hk2 hn2 (kx ce q9 w1 H1 locs1 hR1 hP2 hD2 hS hce hcv hcl)
end CQ
theorem st_recv {kv : KV} {i L : Nat} {A : Nat → Prop} {s : State} {H : Heap} {locs : List Loc} (h : strq kv i L A s s.heap) (hS : va_S A s.heap H locs) : ∃ cell : Cell, H[kv.1 i]? = some cell ∧ cell.vm.isStatics = false ∧ s.vm.findClass RJ0 = some cell.cls := by
  obtain ⟨⟨cell, h1, h2, h3, h4⟩, -⟩ := h
  exact ⟨cell, by rw [hS.2.1 _ (Array.getElem?_eq_some_iff.mp h1).1 h4]; exact h1, h2, h3⟩
theorem nw_at {kv : KV} {A : Nat → Prop} {U : State} {H : Heap} {w : Cond} (h : envq kv A U H) (hw : w ∈ NW) : va_Nw w U := h.1 w hw
