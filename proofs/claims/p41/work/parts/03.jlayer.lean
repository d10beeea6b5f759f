/-! THE J LAYER: W without the heap's own letters: a world is a list of cells, the locals are a list, and both stand in the goal. -/
def jWS : List Cond := lw_tbl.filter goodWord
theorem jWS_in : ∀ w ∈ jWS, w ∈ lw_tbl := fun _ h => (List.mem_filter.mp h).1
theorem jWS_good : GoodIn jWS jWS := fun _ h => ⟨h, good_of_word (List.mem_filter.mp h).2⟩
def jdec (b : ByteArray) (l : List (Nat × Instr × Nat)) : Bool := l.all (fun q => decide (decode b q.1 = .ok (q.2.1, q.2.2)))
theorem jd {b : ByteArray} {l : List (Nat × Instr × Nat)} (h : jdec b l = true) (k : Nat) {pc : Nat} {i : Instr} {len : Nat} (e : l[k]? = some (pc, i, len)) : decode b pc = .ok (i, len) := by
  have h1 := List.all_eq_true.mp h _ (List.mem_of_getElem? e)
  exact of_decide_eq_true h1
abbrev jty (t : Nat → ClassId) : List (ClassId × FieldType) := [(t 0, .int), (t 1, .array .int), (t 2, .object RX0)]
def jNests : List (String × Nat × MethodName) := [(RX10, 11, yX4_init), (RX6, 27, yX0_init), (RX10, 32, yX3_init), (RX2, 1, yX1_init), (RX9, 1, yX1_init), (RX7, 1, yX1_init), (RX8, 1, yX1_init), (RX3, 75, yX10_kept)]
def jFNests : List (String × Nat × String × String × String) := [(RX6, 45, RX4, "count", "I"), (RX10, 108, RX4, "count", "I"), (RX10, 146, RX0, "triggerSample", "I"), (RX5, 24, RX0, "taken", "I"), (RX3, 37, RX0, "taken", "I"), (RX10, 151, RX0, "taken", "I"), (RX10, 142, RX6, "captures", "[LTriggerwright$Capture;"), (RX10, 94, RX6, "complete", "I"), (RX10, 100, RX6, "caught", "LTriggerwright$Capture;"), (RX10, 73, RX6, "armed", "Z"), (RX10, 84, RX6, "pre", "I"), (RX10, 88, RX6, "post", "I"), (RX10, 91, RX6, "holdoff", "I"), (RX10, 188, RX6, "failed", "I"), (RX10, 191, RX6, "offence", "I"), (RX10, 207, RX3, "parts", "I"), (RX10, 210, RX3, "height", "I")]
def jStrs : List (String × Nat × String) := [(RX10, 196, "there was no offence"), (RX10, 229, "high is not greater than low"), (RX10, 232, "there is no such value"), (RX10, 238, "a parameter is out of range"), (RX10, 242, "there is no such record"), (RX10, 245, "there is no such position"), (RX10, 247, "the expression has 16 parts"), (RX10, 249, "there are too few parts on the stack"), (RX10, 251, "the stack has not just one part"), (RX10, 79, "the scope is armed")]
def jNcs : List (String × String) := [("java/lang/IllegalArgumentException", "java/lang/IllegalStateException"), ("java/lang/IllegalArgumentException", "java/lang/IndexOutOfBoundsException"), ("java/lang/IllegalArgumentException", "java/util/NoSuchElementException"), ("java/lang/IllegalStateException", "java/lang/IllegalArgumentException"), ("java/lang/IllegalStateException", "java/lang/IndexOutOfBoundsException"), ("java/lang/IllegalStateException", "java/util/NoSuchElementException"), ("java/lang/IndexOutOfBoundsException", "java/lang/IllegalArgumentException"), ("java/lang/IndexOutOfBoundsException", "java/lang/IllegalStateException"), ("java/lang/IndexOutOfBoundsException", "java/util/NoSuchElementException"), ("java/util/NoSuchElementException", "java/lang/IllegalArgumentException"), ("java/util/NoSuchElementException", "java/lang/IllegalStateException"), ("java/util/NoSuchElementException", "java/lang/IndexOutOfBoundsException")]
def jExs : List String := ["java/lang/IllegalArgumentException", "java/lang/IllegalStateException", "java/lang/IndexOutOfBoundsException", "java/util/NoSuchElementException"]
def jDecs : List MethodName := [⟨RX1, "firesAt", "(III)Z"⟩, ⟨RX1, "begunAnew", "()LTriggerwright$Condition;"⟩, ⟨"java/lang/Exception", "<init>", "(Ljava/lang/String;)V"⟩, ⟨"java/lang/RuntimeException", "<init>", "(Ljava/lang/String;)V"⟩, ⟨"java/lang/Throwable", "<init>", "(Ljava/lang/String;)V"⟩]
/-- what a method needs of the state beside its world -/
def jEnv (A : Nat → Prop) (U : State) (H : Heap) : Prop :=
  (vx_Zq Bundle.tN "UNASSIGNED_STACK" Bundle.steD A U H ∧ vx_Zq Bundle.tN "SUPPRESSED_SENTINEL" Bundle.listD A U H) ∧
  (∀ q ∈ jNests, va_Nw (.methodLinkNest q.1 q.2.1 q.2.2 RX10) U) ∧ (∀ q ∈ jFNests, va_Nw (.fieldLinkNest q.1 q.2.1 q.2.2.1 q.2.2.2.1 q.2.2.2.2 RX10) U) ∧ (∀ q ∈ jStrs, ∃ a, vk_R q.1 q.2.1 q.2.2 a U) ∧ (∀ q ∈ jNcs, va_Nc q.1 q.2 U) ∧ va_AO RX0 U ∧ va_AOA .int U ∧ (∀ q ∈ jExs, va_Nw (.castable q q) U) ∧ (∀ q ∈ jDecs, va_Nw (.declares q) U)
theorem jEnv.same {A : Nat → Prop} {u U : State} {H : Heap} (hv : U.vm = u.vm) (h : jEnv A u H) : jEnv A U H := by
  obtain ⟨⟨h1, h2⟩, h3, hf, h4, h5, h6, h7, h8, h9⟩ := h
  have hal : u.vm.Alike U.vm := by rw [hv]; exact Vm.Alike.refl _
  exact ⟨⟨h1.moved hal, h2.moved hal⟩, fun q hq => (h3 q hq).same rfl hv.symm, fun q hq => (hf q hq).same rfl hv.symm, fun q hq => (h4 q hq).elim (fun a ha => ⟨a, ha.same hv⟩), fun q hq => (h5 q hq).moved hal, h6.moved hal, h7.moved hal, fun q hq => (h8 q hq).same rfl hv.symm, fun q hq => (h9 q hq).same rfl hv.symm⟩
theorem jEnv.warm {A : Nat → Prop} {s U : State} {H : Heap} (hW : s.WarmedH U.vm) (h : jEnv A s H) : jEnv A U H := by
  obtain ⟨⟨h1, h2⟩, h3, hf, h4, h5, h6, h7, h8, h9⟩ := h
  exact ⟨⟨h1.moved hW.alike, h2.moved hW.alike⟩, fun q hq => va_Nw.warmM hW (h3 q hq), fun q hq => va_Nw.warmF hW (hf q hq), fun q hq => (h4 q hq).elim (fun a ha => ⟨a, ha.warm hW⟩), fun q hq => (h5 q hq).moved hW.alike, h6.moved hW.alike, h7.moved hW.alike, fun q hq => va_Nw.warmC hW (h8 q hq), fun q hq => va_Nw.warmD hW (h9 q hq)⟩
theorem jEnv.kept {A : Nat → Prop} {U : State} {H H1 : Heap} (h : jEnv A U H) (hq : ∀ a : Nat, a < H.size → ¬ A a → H1[a]? = H[a]?) : jEnv A U H1 := ⟨⟨h.1.1.kept hq, h.1.2.kept hq⟩, h.2⟩
theorem jEnv.narrow {A B : Nat → Prop} {U : State} {H : Heap} (h : jEnv A U H) (hAB : ∀ q, B q → A q) : jEnv B U H := ⟨⟨h.1.1.narrow hAB, h.1.2.narrow hAB⟩, h.2⟩
/-! contracts -/
def jPre (D : va_G) (t : Nat → ClassId) (sz : Nat) (wc : va_W) : State → Prop := fun U => U.heap.size = sz ∧ va_P D vwCl wc U.heap ∧ va_K D vwCl (jty t) U ∧ va_D (fun _ => True) wc ∧ jEnv (va_A wc sz) U U.heap
def jB (D : va_G) (t : Nat → ClassId) (sz : Nat) (wc w1 : va_W) (U : State) : Prop := va_P D vwCl w1 U.heap ∧ va_K D vwCl (jty t) U ∧ va_D (va_A wc sz) w1
def jQ (D : va_G) (t : Nat → ClassId) (sz : Nat) (wc : va_W) (post : Option Value → va_W → Prop) : Array Value → State → Outcome → State → Prop := fun _ st oc T => (∃ (v : Option Value) (u : va_W), oc = .returned v ∧ post v u ∧ jB D t sz wc u T) ∧ va_F (va_A wc sz) st T
def jX (D : va_G) (t : Nat → ClassId) (sz : Nat) (wc : va_W) (px : String → va_W → Prop) : String → State → State → Prop := fun E st T => (∃ u : va_W, px E u ∧ jB D t sz wc u T) ∧ va_F (va_A wc sz) st T
def jKx (l : Launch) (t : Nat → ClassId) (y : MethodName) (ws : List Cond) (rm : Room) (av : List Value) (wc : va_W) (post : Option Value → va_W → Prop) (px : String → va_W → Prop) : Prop :=
  ∀ (D : va_G) (sz : Nat), vx_Met l y ws rm (va_Pc av (jPre D t sz wc)) (jQ D t sz wc post) (jX D t sz wc px) rm.cells rm.slots (va_A wc sz)
theorem jPre_blind {D : va_G} {t : Nat → ClassId} {sz : Nat} {wc : va_W} {av : List Value} : FrameBlind (va_Pc av (jPre D t sz wc)) := by
  intro a U g mk h
  obtain ⟨h0, h1, h2, h3, h4, h5⟩ := h
  exact ⟨h0, h1, h2, va_K.moved (u := U) (U := U.calling g mk a) (Vm.Alike.refl U.vm) h3, h4, jEnv.same (u := U) (U := U.calling g mk a) rfl h5⟩
/-! the caller's world behind a call: the callee's cells put back in their places, new ones behind -/
def jput (ws : va_W) : List Nat → va_W → va_W
  | p :: ps, c :: cs => jput (ws.set p c) ps cs
  | _, _ => ws

theorem jput_len : ∀ (ps : List Nat) (cs ws : va_W), (jput ws ps cs).length = ws.length
  | [], _, _ => by simp [jput]
  | _ :: _, [], _ => by simp [jput]
  | p :: ps, c :: cs, ws => by rw [jput, jput_len ps cs, List.length_set]
theorem jput_out : ∀ (ps : List Nat) (cs ws : va_W) (k : Nat), k ∉ ps → (jput ws ps cs)[k]? = ws[k]?
  | [], _, _, _, _ => by simp [jput]
  | _ :: _, [], _, _, _ => by simp [jput]
  | p :: ps, c :: cs, ws, k, h => by
    rw [jput, jput_out ps cs _ k (fun q => h (List.mem_cons_of_mem _ q)), List.getElem?_set_ne (fun q => h (by rw [q]; exact List.mem_cons_self))]
theorem jput_in : ∀ (ps : List Nat) (cs ws : va_W), va_nd ps = true → (∀ p ∈ ps, p < ws.length) → ∀ (i k : Nat) (c : Nat × va_E), ps[i]? = some k → cs[i]? = some c → (jput ws ps cs)[k]? = some c
  | [], _, _, _, _, i, k, c, h, _ => by simp at h
  | _ :: _, [], _, _, _, i, k, c, _, h => by simp at h
  | p :: ps, d :: cs, ws, hn, hl, i, k, c, h1, h2 => by
    simp only [va_nd, Bool.and_eq_true, decide_eq_true_eq] at hn
    have hl' : ∀ q ∈ ps, q < (ws.set p d).length := fun q hq => by rw [List.length_set]; exact hl q (List.mem_cons_of_mem _ hq)
    rw [jput]
    cases i with
    | zero =>
      rw [List.getElem?_cons_zero] at h1 h2
      cases h1
      cases h2
      rw [jput_out ps cs _ p hn.1, List.getElem?_set_self (hl p List.mem_cons_self)]
    | succ i =>
      rw [List.getElem?_cons_succ] at h1 h2
      exact jput_in ps cs _ hn.2 hl' i k c h1 h2
theorem jput_join {A0 : Nat → Prop} {D : va_G} {cl : List vw_C} {ws wc w1 : va_W} {H H1 : Heap} (hP : va_P D cl ws H) (hD : va_D A0 ws) (isC : List Nat) (hC : isC.map (fun i => ws[i]?) = wc.map some) (hn : va_nd isC = true)
    (hk : ∀ q : Nat, q < H.size → ¬ va_A wc H.size q → H1[q]? = H[q]?) (hF : ∀ q, va_A wc H.size q → A0 q) (hP1 : va_P D cl w1 H1) (hD1 : va_D (va_A wc H.size) w1) (hsame : (w1.take wc.length).map Prod.fst = wc.map Prod.fst) :
    va_P D cl (jput ws isC (w1.take wc.length) ++ w1.drop wc.length) H1 ∧ va_D A0 (jput ws isC (w1.take wc.length) ++ w1.drop wc.length) := by
  have hlen : isC.length = wc.length := by simpa using congrArg List.length hC
  have htl : (w1.take wc.length).length = wc.length := by simpa using congrArg List.length hsame
  have hlt : ∀ p ∈ isC, p < ws.length := fun p hp => by
    obtain ⟨i, hi⟩ := List.getElem?_of_mem hp
    have h1 : (isC.map (fun i => ws[i]?))[i]? = some (ws[p]?) := by rw [List.getElem?_map, hi]; rfl
    rw [hC, List.getElem?_map] at h1
    cases hw : wc[i]? with
    | none => rw [hw] at h1; cases h1
    | some c => rw [hw] at h1; exact (List.getElem?_eq_some_iff.mp (Option.some.inj h1).symm).1
  -- the cells at the callee's places, by their places
  have atC : ∀ (i k : Nat), isC[i]? = some k → ∃ c c1, wc[i]? = some c ∧ ws[k]? = some c ∧ w1[i]? = some c1 ∧ i < wc.length ∧ c1.1 = c.1 ∧ (jput ws isC (w1.take wc.length))[k]? = some c1 := fun i k hi => by
    have h1 : (isC.map (fun i => ws[i]?))[i]? = some (ws[k]?) := by rw [List.getElem?_map, hi]; rfl
    rw [hC, List.getElem?_map] at h1
    cases hw : wc[i]? with
    | none => rw [hw] at h1; cases h1
    | some c =>
      rw [hw] at h1
      have hil := (List.getElem?_eq_some_iff.mp hw).1
      have h2 : (wc.map Prod.fst)[i]? = some c.1 := by rw [List.getElem?_map, hw]; rfl
      rw [← hsame, List.getElem?_map] at h2
      cases h3 : (w1.take wc.length)[i]? with
      | none => rw [h3] at h2; cases h2
      | some c1 =>
        rw [h3] at h2
        refine ⟨c, c1, rfl, (Option.some.inj h1).symm, ?_, hil, Option.some.inj h2, jput_in isC _ ws hn hlt i k c1 hi h3⟩
        rw [List.getElem?_take_of_lt hil] at h3
        exact h3
  have key : ∀ (k : Nat) (q : Nat × va_E), (jput ws isC (w1.take wc.length) ++ w1.drop wc.length)[k]? = some q →
      (∃ q0, k < ws.length ∧ ws[k]? = some q0 ∧ q0.1 = q.1 ∧ k ∉ isC ∧ q0 = q) ∨ (∃ i, w1[i]? = some q ∧ ((i < wc.length ∧ isC[i]? = some k ∧ k < ws.length) ∨ (wc.length ≤ i ∧ k = ws.length + (i - wc.length)))) := fun k q hk => by
    by_cases hl : k < ws.length
    · rw [List.getElem?_append_left (by rw [jput_len]; exact hl)] at hk
      by_cases hm : k ∈ isC
      · obtain ⟨i, hi⟩ := List.getElem?_of_mem hm
        obtain ⟨c, c1, a1, a2, a3, a4, a5, a6⟩ := atC i k hi
        rw [a6] at hk
        cases hk
        exact Or.inr ⟨i, a3, Or.inl ⟨a4, hi, hl⟩⟩
      · rw [jput_out isC _ ws k hm] at hk
        exact Or.inl ⟨q, hl, hk, rfl, hm, rfl⟩
    · rw [List.getElem?_append_right (by rw [jput_len]; omega), jput_len, List.getElem?_drop] at hk
      exact Or.inr ⟨wc.length + (k - ws.length), hk, Or.inr ⟨by omega, by omega⟩⟩
  have apart : ∀ (k : Nat) (q : Nat × va_E), ws[k]? = some q → k ∉ isC → q.1 < H.size ∧ ¬ va_A wc H.size q.1 := fun k q hk hm => by
    have hl := (hP k q hk).lt
    refine ⟨hl, fun h => ?_⟩
    rcases h with ⟨i, e, h⟩ | h
    · have hil : i < isC.length := by rw [hlen]; exact (List.getElem?_eq_some_iff.mp h).1
      have hi : isC[i]? = some isC[i] := List.getElem?_eq_getElem hil
      obtain ⟨c, c1, a1, a2, -⟩ := atC i _ hi
      rw [h] at a1
      cases a1
      have := hD.1 k isC[i] q (q.1, e) hk a2 rfl
      exact hm (by rw [this]; exact List.mem_of_getElem? hi)
    · omega
  refine ⟨fun k q hk9 => ?_, fun i j x y hx hy hxy => ?_, fun k q hk => ?_⟩
  · rcases key k q hk9 with ⟨q0, -, h1, -, hm, rfl⟩ | ⟨i, h1, -⟩
    · obtain ⟨g1, g2⟩ := apart k q0 h1 hm
      exact (hP k q0 h1).kept (hk q0.1 g1 g2)
    · exact hP1 i q h1
  · rcases key i x hx with ⟨x0, -, h1, -, hm, rfl⟩ | ⟨a, h1, h1'⟩ <;> rcases key j y hy with ⟨y0, -, h2, -, hm2, rfl⟩ | ⟨b, h2, h2'⟩
    · exact hD.1 i j x0 y0 h1 h2 hxy
    · exact absurd (hD1.2 b y h2) (by rw [← hxy]; exact (apart i x0 h1 hm).2)
    · exact absurd (hD1.2 a x h1) (by rw [hxy]; exact (apart j y0 h2 hm2).2)
    · have hab := hD1.1 a b x y h1 h2 hxy
      subst hab
      rcases h1' with ⟨l1, e1, -⟩ | ⟨l1, e1⟩ <;> rcases h2' with ⟨l2, e2, -⟩ | ⟨l2, e2⟩
      · exact Option.some.inj (e1.symm.trans e2)
      · omega
      · omega
      · omega
  · rcases key k q hk with ⟨q0, -, h1, -, hm, rfl⟩ | ⟨i, h1, -⟩
    · exact hD.2 k q0 h1
    · exact hF q.1 (hD1.2 i q h1)

def J (p : Program) (l : Launch) (e : Env) (R : Room) (s : State) (m : MethodId) (args : Array Value) (below : List Frame) (meth : Method) (c : Code) (D : va_G) (A : Nat → Prop) (nL : Nat) (Q : State → Prop) (ws : va_W) (lv : List (Nat × Value)) (pc : Nat) (st : List Value) (k n : Nat) : Prop :=
  ∀ (H : Heap) (locs : List Loc) (ls : Array Slot), va_P D vwCl ws H → va_D A ws → va_S A s.heap H locs → lv_has ls nL lv → W p l e R s m args below meth c H locs k n Q (F0 m pc ls st)
/-- the same with q thrown over the frame, of class E -/
def JX (p : Program) (l : Launch) (e : Env) (R : Room) (s : State) (m : MethodId) (args : Array Value) (below : List Frame) (meth : Method) (c : Code) (D : va_G) (A : Nat → Prop) (nL : Nat) (Q : State → Prop) (ws : va_W) (lv : List (Nat × Value)) (pc : Nat) (st : List Value) (k n : Nat) (E : String) : Prop :=
  ∀ (H : Heap) (locs : List Loc) (ls : Array Slot) (q : Nat) (ce : Cell), va_P D vwCl ws H → va_D A ws → va_S A s.heap H locs → lv_has ls nL lv → H[q]? = some ce → ce.vm = .none → s.vm.findClass E = some ce.cls → vx_W p l e R s m args below meth c H locs k n Q (F0 m pc ls st) q
def jC (p : Program) (l : Launch) (s : State) (m : MethodId) (args : Array Value) (c : Code) (D : va_G) (t : Nat → ClassId) (A : Nat → Prop) (own : String) (cc : ByteArray) (nL : Nat) : Prop :=
  p.tables.exec = Jvm.exec ∧ c.code = cc ∧ c.maxLocals = nL ∧ s.vm.findClass own = some m.cls ∧ (∀ w ∈ jWS, w.before args s = true) ∧ va_K D vwCl (jty t) s ∧ (∀ q, s.heap.size ≤ q → A q) ∧ jEnv A s s.heap ∧ l.stackTraces = false
def jM (below : List Frame) (args : Array Value) (s : State) (meth : Method) (c : Code) (D : va_G) (t : Nat → ClassId) (A : Nat → Prop) (Q : State → Prop) (rm : Room) (wc : va_W) (post : Option Value → va_W → Prop) (px : String → va_W → Prop) (ret : Option FieldType) (nm : String) : Prop :=
  Q = vx_MQ below (jQ D t s.heap.size wc post) (jX D t s.heap.size wc px) args s rm.cells rm.slots (va_A wc s.heap.size) ∧ A = va_A wc s.heap.size ∧ meth.sig.returnType = ret ∧ meth.locks = false ∧ (∀ x ∈ c.exceptionTable.toList, False) ∧ meth.name = nm
/-- a field that an instruction names: its place, its type, whether it is final -/
def jFd (own : String) (index ci f0 : Nat) (ty : FieldType) (fin : Bool) (args : Array Value) (s : State) : Prop := ∃ (C9 : String) (T9 : u_T) (N9 : Nat) (ty0 : Nat → FieldType), (∀ w ∈ u_ws C9 T9 N9, w ∈ jWS) ∧ vwCl[ci]? = some (C9, T9, N9) ∧ f0 < N9 ∧ ((Cond.fieldLink own index (T9 f0).1 (T9 f0).2.1 (T9 f0).2.2.1).before args s = true ∨ (Cond.fieldLinkNest own index (T9 f0).1 (T9 f0).2.1 (T9 f0).2.2.1 RX10).before args s = true) ∧ (∀ k, k < N9 → parseFieldDescriptor (T9 k).2.2.1 = some (ty0 k)) ∧ (∀ a, a < N9 → ∀ b, b < N9 → a ≠ b → (T9 a).2.1 ≠ (T9 b).2.1) ∧ ty0 f0 = ty ∧ (T9 f0).2.2.2 = fin
def jFdF (own : String) (index ci f0 : Nat) (ty : FieldType) (args : Array Value) (s : State) : Prop := ∃ (C9 : String) (T9 : u_T) (N9 : Nat) (ty0 : Nat → FieldType), (∀ w ∈ u_ws C9 T9 N9, w ∈ jWS) ∧ vwCl[ci]? = some (C9, T9, N9) ∧ f0 < N9 ∧ (Cond.fieldLink own index (T9 f0).1 (T9 f0).2.1 (T9 f0).2.2.1).before args s = true ∧ (∀ k, k < N9 → parseFieldDescriptor (T9 k).2.2.1 = some (ty0 k)) ∧ (∀ a, a < N9 → ∀ b, b < N9 → a ≠ b → (T9 a).2.1 ≠ (T9 b).2.1) ∧ ty0 f0 = ty ∧ (T9 f0).2.2.2 = true ∧ (T9 f0).1 = own
def jNew (own : String) (index ci : Nat) (C9 : String) (T9 : u_T) (N9 : Nat) (ty : Nat → FieldType) (args : Array Value) (s : State) : Prop := (∀ w ∈ u_ws C9 T9 N9, w ∈ jWS) ∧ (∀ k, k < N9 → parseFieldDescriptor (T9 k).2.2.1 = some (ty k)) ∧ vwCl[ci]? = some (C9, T9, N9) ∧ (Cond.classLink own index C9).before args s = true ∧ (Cond.instantiable C9 N9).before args s = true ∧ (Cond.initialized C9).before args s = true
/-- a method that an instruction names -/
def jY0 (y : MethodName) (bytes : ByteArray) (maxL : Nat) (ret : Option FieldType) (n9 : Nat) (args : Array Value) (s : State) : Prop := Cond.code y bytes maxL ret ∈ jWS ∧ (Cond.initialized y.cls).before args s = true ∧ (y.cls ≠ "java/lang/invoke/MethodHandle" ∧ y.cls ≠ "java/lang/invoke/VarHandle") ∧ (parseMethodDescriptor y.desc).map (fun d => d.parameters.length) = some n9
def jYV (own : String) (index : Nat) (y : MethodName) (bytes : ByteArray) (maxL : Nat) (ret : Option FieldType) (n9 : Nat) (args : Array Value) (s : State) : Prop := jY0 y bytes maxL ret n9 args s ∧ (Cond.methodLink own index y).before args s = true ∧ (Cond.instanceMethod y).before args s = true ∧ (Cond.selects y.cls y y).before args s = true
def jYS (own : String) (index : Nat) (y : MethodName) (bytes : ByteArray) (maxL : Nat) (ret : Option FieldType) (n9 : Nat) (args : Array Value) (s : State) : Prop := jY0 y bytes maxL ret n9 args s ∧ (Cond.methodLink own index y).before args s = true ∧ (Cond.static y).before args s = true
def jYSN (own : String) (index : Nat) (y : MethodName) (bytes : ByteArray) (maxL : Nat) (ret : Option FieldType) (n9 : Nat) (args : Array Value) (s : State) : Prop := jY0 y bytes maxL ret n9 args s ∧ va_Nw (.methodLinkNest own index y RX10) s ∧ (Cond.static y).before args s = true
def jYI (own : String) (index : Nat) (y : MethodName) (bytes : ByteArray) (maxL : Nat) (ret : Option FieldType) (n9 : Nat) (args : Array Value) (s : State) : Prop := jY0 y bytes maxL ret n9 args s ∧ (Cond.methodLink own index y).before args s = true ∧ (Cond.instanceMethod y).before args s = true ∧ y.name = "<init>"
def jYIN (own : String) (index : Nat) (y : MethodName) (bytes : ByteArray) (maxL : Nat) (ret : Option FieldType) (n9 : Nat) (args : Array Value) (s : State) : Prop := jY0 y bytes maxL ret n9 args s ∧ va_Nw (.methodLinkNest own index y RX10) s ∧ (Cond.instanceMethod y).before args s = true ∧ y.name = "<init>"
def jYU (own : String) (index : Nat) (C9 : String) (x y : MethodName) (bytes : ByteArray) (maxL : Nat) (ret : Option FieldType) (n9 : Nat) (args : Array Value) (s : State) : Prop := (Cond.code y bytes maxL ret ∈ jWS ∧ (Cond.initialized y.cls).before args s = true ∧ (x.cls ≠ "java/lang/invoke/MethodHandle" ∧ x.cls ≠ "java/lang/invoke/VarHandle" ∧ (parseMethodDescriptor x.desc).map (fun d => d.parameters.length) = some n9)) ∧ (Cond.methodLink own index x).before args s = true ∧ (Cond.sameMethod x.cls x.cls x.name x.desc).before args s = true ∧ (Cond.selects C9 x y).before args s = true ∧ (Cond.instanceMethod y).before args s = true ∧ va_Nw (.declares x) s
def jbb : Bool → Int32
  | true => 1
  | false => 0
theorem jbb_narrow (b : Bool) : narrow .boolean (.int (jbb b)) = .int (jbb b) := by cases b <;> rfl
theorem jbb_fits (b : Bool) : fits .boolean (.int (jbb b)) = true := by cases b <;> rfl
section JR
variable {p : Program} {l : Launch} {e : Env} {R : Room} {s : State} {m : MethodId} {args : Array Value} {below : List Frame} {meth : Method} {c : Code} {D : va_G} {t : Nat → ClassId} {A : Nat → Prop} {own : String} {cc : ByteArray} {nL : Nat} {Q : State → Prop} {ws : va_W} {lv : List (Nat × Value)} {pc : Nat} {rest : List Value} {k n : Nat}

theorem jr_iconst {x : Int} {v : Int32} (C : jC p l s m args c D t A own cc nL) (hd : decode cc pc = .ok (.iconst x, 1)) (hv : Int32.ofInt x = v) (k9 : J p l e R s m args below meth c D A nL Q ws lv (pc + 1) (.int v :: rest) k n) : J p l e R s m args below meth c D A nL Q ws lv pc rest k n := fun H locs ls hP hD hS hl => lv_iconst C.1 C.2.1 hd hv (k9 H locs ls hP hD hS hl)
theorem jr_bipush {x : Int} {v : Int32} (C : jC p l s m args c D t A own cc nL) (hd : decode cc pc = .ok (.bipush x, 2)) (hv : (Int8.ofInt x).toInt32 = v) (k9 : J p l e R s m args below meth c D A nL Q ws lv (pc + 2) (.int v :: rest) k n) : J p l e R s m args below meth c D A nL Q ws lv pc rest k n := fun H locs ls hP hD hS hl => lv_bipush C.1 C.2.1 hd hv (k9 H locs ls hP hD hS hl)
theorem jr_sipush {x : Int} {v : Int32} (C : jC p l s m args c D t A own cc nL) (hd : decode cc pc = .ok (.sipush x, 3)) (hv : (Int16.ofInt x).toInt32 = v) (k9 : J p l e R s m args below meth c D A nL Q ws lv (pc + 3) (.int v :: rest) k n) : J p l e R s m args below meth c D A nL Q ws lv pc rest k n := fun H locs ls hP hD hS hl => lv_sipush C.1 C.2.1 hd hv (k9 H locs ls hP hD hS hl)
theorem jr_lconst {x : Fin 2} {v : Int64} (C : jC p l s m args c D t A own cc nL) (hd : decode cc pc = .ok (.lconst x, 1)) (hv : Int64.ofNat (x : Nat) = v) (k9 : J p l e R s m args below meth c D A nL Q ws lv (pc + 1) (.long v :: rest) k n) : J p l e R s m args below meth c D A nL Q ws lv pc rest k n := fun H locs ls hP hD hS hl => lv_lconst C.1 C.2.1 hd hv (k9 H locs ls hP hD hS hl)
theorem jr_iadd {x y : Int32} (C : jC p l s m args c D t A own cc nL) (hd : decode cc pc = .ok (.iadd, 1)) (k9 : J p l e R s m args below meth c D A nL Q ws lv (pc + 1) (.int (x + y) :: rest) k n) : J p l e R s m args below meth c D A nL Q ws lv pc (.int y :: .int x :: rest) k n := fun H locs ls hP hD hS hl => lv_iadd C.1 C.2.1 hd (k9 H locs ls hP hD hS hl)
theorem jr_isub {x y : Int32} (C : jC p l s m args c D t A own cc nL) (hd : decode cc pc = .ok (.isub, 1)) (k9 : J p l e R s m args below meth c D A nL Q ws lv (pc + 1) (.int (x - y) :: rest) k n) : J p l e R s m args below meth c D A nL Q ws lv pc (.int y :: .int x :: rest) k n := fun H locs ls hP hD hS hl => lv_isub C.1 C.2.1 hd (k9 H locs ls hP hD hS hl)
theorem jr_imul {x y : Int32} (C : jC p l s m args c D t A own cc nL) (hd : decode cc pc = .ok (.imul, 1)) (k9 : J p l e R s m args below meth c D A nL Q ws lv (pc + 1) (.int (x * y) :: rest) k n) : J p l e R s m args below meth c D A nL Q ws lv pc (.int y :: .int x :: rest) k n := fun H locs ls hP hD hS hl => lv_imul C.1 C.2.1 hd (k9 H locs ls hP hD hS hl)
theorem jr_iand {x y : Int32} (C : jC p l s m args c D t A own cc nL) (hd : decode cc pc = .ok (.iand, 1)) (k9 : J p l e R s m args below meth c D A nL Q ws lv (pc + 1) (.int (x &&& y) :: rest) k n) : J p l e R s m args below meth c D A nL Q ws lv pc (.int y :: .int x :: rest) k n := fun H locs ls hP hD hS hl => lv_iand C.1 C.2.1 hd (k9 H locs ls hP hD hS hl)
theorem jr_ixor {x y : Int32} (C : jC p l s m args c D t A own cc nL) (hd : decode cc pc = .ok (.ixor, 1)) (k9 : J p l e R s m args below meth c D A nL Q ws lv (pc + 1) (.int (x ^^^ y) :: rest) k n) : J p l e R s m args below meth c D A nL Q ws lv pc (.int y :: .int x :: rest) k n := fun H locs ls hP hD hS hl => lv_ixor C.1 C.2.1 hd (k9 H locs ls hP hD hS hl)
theorem jr_lmul {x y : Int64} (C : jC p l s m args c D t A own cc nL) (hd : decode cc pc = .ok (.lmul, 1)) (k9 : J p l e R s m args below meth c D A nL Q ws lv (pc + 1) (.long (x * y) :: rest) k n) : J p l e R s m args below meth c D A nL Q ws lv pc (.long y :: .long x :: rest) k n := fun H locs ls hP hD hS hl => lv_lmul C.1 C.2.1 hd (k9 H locs ls hP hD hS hl)
theorem jr_ladd {x y : Int64} (C : jC p l s m args c D t A own cc nL) (hd : decode cc pc = .ok (.ladd, 1)) (k9 : J p l e R s m args below meth c D A nL Q ws lv (pc + 1) (.long (x + y) :: rest) k n) : J p l e R s m args below meth c D A nL Q ws lv pc (.long y :: .long x :: rest) k n := fun H locs ls hP hD hS hl => lv_ladd C.1 C.2.1 hd (k9 H locs ls hP hD hS hl)
theorem jr_lsub {x y : Int64} (C : jC p l s m args c D t A own cc nL) (hd : decode cc pc = .ok (.lsub, 1)) (k9 : J p l e R s m args below meth c D A nL Q ws lv (pc + 1) (.long (x - y) :: rest) k n) : J p l e R s m args below meth c D A nL Q ws lv pc (.long y :: .long x :: rest) k n := fun H locs ls hP hD hS hl => lv_lsub C.1 C.2.1 hd (k9 H locs ls hP hD hS hl)
theorem jr_lneg {x : Int64} (C : jC p l s m args c D t A own cc nL) (hd : decode cc pc = .ok (.lneg, 1)) (k9 : J p l e R s m args below meth c D A nL Q ws lv (pc + 1) (.long (-x) :: rest) k n) : J p l e R s m args below meth c D A nL Q ws lv pc (.long x :: rest) k n := fun H locs ls hP hD hS hl => lv_lneg C.1 C.2.1 hd (k9 H locs ls hP hD hS hl)
theorem jr_ineg {x : Int32} (C : jC p l s m args c D t A own cc nL) (hd : decode cc pc = .ok (.ineg, 1)) (k9 : J p l e R s m args below meth c D A nL Q ws lv (pc + 1) (.int (-x) :: rest) k n) : J p l e R s m args below meth c D A nL Q ws lv pc (.int x :: rest) k n := fun H locs ls hP hD hS hl => lv_ineg C.1 C.2.1 hd (k9 H locs ls hP hD hS hl)
theorem jr_idiv {x y : Int32} (C : jC p l s m args c D t A own cc nL) (hd : decode cc pc = .ok (.idiv, 1)) (hne : ¬ y = 0) (k9 : J p l e R s m args below meth c D A nL Q ws lv (pc + 1) (.int (x / y) :: rest) k n) : J p l e R s m args below meth c D A nL Q ws lv pc (.int y :: .int x :: rest) k n := fun H locs ls hP hD hS hl => lv_idiv C.1 C.2.1 hd hne (k9 H locs ls hP hD hS hl)
theorem jr_irem {x y : Int32} (C : jC p l s m args c D t A own cc nL) (hd : decode cc pc = .ok (.irem, 1)) (hne : ¬ y = 0) (k9 : J p l e R s m args below meth c D A nL Q ws lv (pc + 1) (.int (x - x / y * y) :: rest) k n) : J p l e R s m args below meth c D A nL Q ws lv pc (.int y :: .int x :: rest) k n := fun H locs ls hP hD hS hl => lv_irem C.1 C.2.1 hd hne (k9 H locs ls hP hD hS hl)
theorem jr_i2l {x : Int32} (C : jC p l s m args c D t A own cc nL) (hd : decode cc pc = .ok (.i2l, 1)) (k9 : J p l e R s m args below meth c D A nL Q ws lv (pc + 1) (.long x.toInt64 :: rest) k n) : J p l e R s m args below meth c D A nL Q ws lv pc (.int x :: rest) k n := fun H locs ls hP hD hS hl => lv_i2l C.1 C.2.1 hd rfl (k9 H locs ls hP hD hS hl)
theorem jr_l2i {x : Int64} (C : jC p l s m args c D t A own cc nL) (hd : decode cc pc = .ok (.l2i, 1)) (k9 : J p l e R s m args below meth c D A nL Q ws lv (pc + 1) (.int x.toInt32 :: rest) k n) : J p l e R s m args below meth c D A nL Q ws lv pc (.long x :: rest) k n := fun H locs ls hP hD hS hl => lv_l2i C.1 C.2.1 hd rfl (k9 H locs ls hP hD hS hl)
theorem jr_i2d {x : Int32} (C : jC p l s m args c D t A own cc nL) (hd : decode cc pc = .ok (.i2d, 1)) (k9 : J p l e R s m args below meth c D A nL Q ws lv (pc + 1) (.double (FP.i2d x) :: rest) k n) : J p l e R s m args below meth c D A nL Q ws lv pc (.int x :: rest) k n := fun H locs ls hP hD hS hl => lv_i2d C.1 C.2.1 hd (k9 H locs ls hP hD hS hl)
theorem jr_ddiv {x y : UInt64} (C : jC p l s m args c D t A own cc nL) (hd : decode cc pc = .ok (.ddiv, 1)) (hne : vf_n64 (FP.ddiv x y)) (k9 : J p l e R s m args below meth c D A nL Q ws lv (pc + 1) (.double (FP.ddiv x y) :: rest) k n) : J p l e R s m args below meth c D A nL Q ws lv pc (.double y :: .double x :: rest) k n := fun H locs ls hP hD hS hl => lv_ddiv C.1 C.2.1 hd hne (k9 H locs ls hP hD hS hl)
theorem jr_lcmp {x y : Int64} (C : jC p l s m args c D t A own cc nL) (hd : decode cc pc = .ok (.lcmp, 1)) (k9 : J p l e R s m args below meth c D A nL Q ws lv (pc + 1) (.int (lg_cmp x y) :: rest) k n) : J p l e R s m args below meth c D A nL Q ws lv pc (.long y :: .long x :: rest) k n := fun H locs ls hP hD hS hl => W.lcmp C.1 C.2.1 hd (k9 H locs ls hP hD hS hl)
theorem jr_dcmp {x y : UInt64} {op : CmpOp} (C : jC p l s m args c D t A own cc nL) (hd : decode cc pc = .ok (.dcmp op, 1)) (k9 : J p l e R s m args below meth c D A nL Q ws lv (pc + 1) (.int (Op.cmpValue (FP.dcmp x y) op) :: rest) k n) : J p l e R s m args below meth c D A nL Q ws lv pc (.double y :: .double x :: rest) k n := fun H locs ls hP hD hS hl => lv_dcmp C.1 C.2.1 hd (k9 H locs ls hP hD hS hl)
theorem jr_dup {v : Value} (C : jC p l s m args c D t A own cc nL) (hd : decode cc pc = .ok (.dup, 1)) (hv : v.category = 1) (k9 : J p l e R s m args below meth c D A nL Q ws lv (pc + 1) (v :: v :: rest) k n) : J p l e R s m args below meth c D A nL Q ws lv pc (v :: rest) k n := fun H locs ls hP hD hS hl => lv_dup C.1 C.2.1 hd hv (k9 H locs ls hP hD hS hl)
theorem jr_pop {v : Value} (C : jC p l s m args c D t A own cc nL) (hd : decode cc pc = .ok (.pop, 1)) (hv : v.category = 1) (k9 : J p l e R s m args below meth c D A nL Q ws lv (pc + 1) rest k n) : J p l e R s m args below meth c D A nL Q ws lv pc (v :: rest) k n := fun H locs ls hP hD hS hl => lv_pop C.1 C.2.1 hd hv (k9 H locs ls hP hD hS hl)
theorem jr_null (C : jC p l s m args c D t A own cc nL) (hd : decode cc pc = .ok (.aconst_null, 1)) (k9 : J p l e R s m args below meth c D A nL Q ws lv (pc + 1) (.null :: rest) k n) : J p l e R s m args below meth c D A nL Q ws lv pc rest k n := fun H locs ls hP hD hS hl => lv_null C.1 C.2.1 hd (k9 H locs ls hP hD hS hl)
theorem jr_goto {off : Int} (tgt : Nat) (C : jC p l s m args c D t A own cc nL) (hd : decode cc pc = .ok (.goto off, 3)) (ht : (pc : Int) + off = (tgt : Int)) (k9 : J p l e R s m args below meth c D A nL Q ws lv tgt rest k n) : J p l e R s m args below meth c D A nL Q ws lv pc rest k n := fun H locs ls hP hD hS hl => lv_goto C.1 C.2.1 hd ht (k9 H locs ls hP hD hS hl)
theorem jr_iload_n {i : Fin 4} {x : Int32} (C : jC p l s m args c D t A own cc nL) (hd : decode cc pc = .ok (.iload_n i, 1)) (j : Nat) (h9 : lv[j]? = some ((i : Nat), .int x)) (k9 : J p l e R s m args below meth c D A nL Q ws lv (pc + 1) (.int x :: rest) k n) : J p l e R s m args below meth c D A nL Q ws lv pc rest k n := fun H locs ls hP hD hS hl => lv_iload_n C.1 C.2.1 hd rfl (lv_at hl j h9) (k9 H locs ls hP hD hS hl)
theorem jr_iload {i : Nat} {x : Int32} (C : jC p l s m args c D t A own cc nL) (hd : decode cc pc = .ok (.iload i, 2)) (j : Nat) (h9 : lv[j]? = some (i, .int x)) (k9 : J p l e R s m args below meth c D A nL Q ws lv (pc + 2) (.int x :: rest) k n) : J p l e R s m args below meth c D A nL Q ws lv pc rest k n := fun H locs ls hP hD hS hl => lv_iload C.1 C.2.1 hd (lv_at hl j h9) (k9 H locs ls hP hD hS hl)
theorem jr_aload_n {i : Fin 4} {x : Nat} (C : jC p l s m args c D t A own cc nL) (hd : decode cc pc = .ok (.aload_n i, 1)) (j : Nat) (h9 : lv[j]? = some ((i : Nat), .ref x)) (k9 : J p l e R s m args below meth c D A nL Q ws lv (pc + 1) (.ref x :: rest) k n) : J p l e R s m args below meth c D A nL Q ws lv pc rest k n := fun H locs ls hP hD hS hl => lv_aload_n C.1 C.2.1 hd rfl (lv_at hl j h9) (k9 H locs ls hP hD hS hl)
theorem jr_aload {i : Nat} {x : Nat} (C : jC p l s m args c D t A own cc nL) (hd : decode cc pc = .ok (.aload i, 2)) (j : Nat) (h9 : lv[j]? = some (i, .ref x)) (k9 : J p l e R s m args below meth c D A nL Q ws lv (pc + 2) (.ref x :: rest) k n) : J p l e R s m args below meth c D A nL Q ws lv pc rest k n := fun H locs ls hP hD hS hl => lv_aload C.1 C.2.1 hd (lv_at hl j h9) (k9 H locs ls hP hD hS hl)
theorem jr_lload_n {i : Fin 4} {x : Int64} (C : jC p l s m args c D t A own cc nL) (hd : decode cc pc = .ok (.lload_n i, 1)) (j : Nat) (h9 : lv[j]? = some ((i : Nat), .long x)) (k9 : J p l e R s m args below meth c D A nL Q ws lv (pc + 1) (.long x :: rest) k n) : J p l e R s m args below meth c D A nL Q ws lv pc rest k n := fun H locs ls hP hD hS hl => lv_lload_n C.1 C.2.1 hd rfl (lv_at hl j h9) (k9 H locs ls hP hD hS hl)
theorem jr_lload {i : Nat} {x : Int64} (C : jC p l s m args c D t A own cc nL) (hd : decode cc pc = .ok (.lload i, 2)) (j : Nat) (h9 : lv[j]? = some (i, .long x)) (k9 : J p l e R s m args below meth c D A nL Q ws lv (pc + 2) (.long x :: rest) k n) : J p l e R s m args below meth c D A nL Q ws lv pc rest k n := fun H locs ls hP hD hS hl => lv_lload C.1 C.2.1 hd (lv_at hl j h9) (k9 H locs ls hP hD hS hl)
theorem jr_dload_n {i : Fin 4} {x : UInt64} (C : jC p l s m args c D t A own cc nL) (hd : decode cc pc = .ok (.dload_n i, 1)) (j : Nat) (h9 : lv[j]? = some ((i : Nat), .double x)) (k9 : J p l e R s m args below meth c D A nL Q ws lv (pc + 1) (.double x :: rest) k n) : J p l e R s m args below meth c D A nL Q ws lv pc rest k n := fun H locs ls hP hD hS hl => lv_dload_n C.1 C.2.1 hd rfl (lv_at hl j h9) (k9 H locs ls hP hD hS hl)
theorem jr_dload {i : Nat} {x : UInt64} (C : jC p l s m args c D t A own cc nL) (hd : decode cc pc = .ok (.dload i, 2)) (j : Nat) (h9 : lv[j]? = some (i, .double x)) (k9 : J p l e R s m args below meth c D A nL Q ws lv (pc + 2) (.double x :: rest) k n) : J p l e R s m args below meth c D A nL Q ws lv pc rest k n := fun H locs ls hP hD hS hl => lv_dload C.1 C.2.1 hd (lv_at hl j h9) (k9 H locs ls hP hD hS hl)
theorem jr_istore_n {i9 : Fin 4} {x : Int32} (i : Nat) (lv' : List (Nat × Value)) (C : jC p l s m args c D t A own cc nL) (hd : decode cc pc = .ok (.istore_n i9, 1)) (hi : (i9 : Nat) = i) (hn : i < nL) (h9 : (i, Value.int x) :: lv.filter (fun q => !(q.1 == i) && !(q.1 + 1 == i && q.2.category == 2)) = lv') (k9 : J p l e R s m args below meth c D A nL Q ws lv' (pc + 1) rest k n) : J p l e R s m args below meth c D A nL Q ws lv pc (.int x :: rest) k n := fun H locs ls hP hD hS hl => lv_istore_n C.1 C.2.1 hd hi hl hn h9 (fun ls' hl' => k9 H locs ls' hP hD hS hl')
theorem jr_istore {x : Int32} {i : Nat} (lv' : List (Nat × Value)) (C : jC p l s m args c D t A own cc nL) (hd : decode cc pc = .ok (.istore i, 2)) (hn : i < nL) (h9 : (i, Value.int x) :: lv.filter (fun q => !(q.1 == i) && !(q.1 + 1 == i && q.2.category == 2)) = lv') (k9 : J p l e R s m args below meth c D A nL Q ws lv' (pc + 2) rest k n) : J p l e R s m args below meth c D A nL Q ws lv pc (.int x :: rest) k n := fun H locs ls hP hD hS hl => lv_istore C.1 C.2.1 hd hl hn h9 (fun ls' hl' => k9 H locs ls' hP hD hS hl')
theorem jr_astore_n {i9 : Fin 4} {x : Nat} (i : Nat) (lv' : List (Nat × Value)) (C : jC p l s m args c D t A own cc nL) (hd : decode cc pc = .ok (.astore_n i9, 1)) (hi : (i9 : Nat) = i) (hn : i < nL) (h9 : (i, Value.ref x) :: lv.filter (fun q => !(q.1 == i) && !(q.1 + 1 == i && q.2.category == 2)) = lv') (k9 : J p l e R s m args below meth c D A nL Q ws lv' (pc + 1) rest k n) : J p l e R s m args below meth c D A nL Q ws lv pc (.ref x :: rest) k n := fun H locs ls hP hD hS hl => lv_astore_n C.1 C.2.1 hd hi hl hn h9 (fun ls' hl' => k9 H locs ls' hP hD hS hl')
theorem jr_astore {x : Nat} {i : Nat} (lv' : List (Nat × Value)) (C : jC p l s m args c D t A own cc nL) (hd : decode cc pc = .ok (.astore i, 2)) (hn : i < nL) (h9 : (i, Value.ref x) :: lv.filter (fun q => !(q.1 == i) && !(q.1 + 1 == i && q.2.category == 2)) = lv') (k9 : J p l e R s m args below meth c D A nL Q ws lv' (pc + 2) rest k n) : J p l e R s m args below meth c D A nL Q ws lv pc (.ref x :: rest) k n := fun H locs ls hP hD hS hl => lv_astore C.1 C.2.1 hd hl hn h9 (fun ls' hl' => k9 H locs ls' hP hD hS hl')
theorem jr_dstore_n {i9 : Fin 4} {x : UInt64} (i : Nat) (lv' : List (Nat × Value)) (C : jC p l s m args c D t A own cc nL) (hd : decode cc pc = .ok (.dstore_n i9, 1)) (hi : (i9 : Nat) = i) (hn : i + 1 < nL) (h9 : (i, Value.double x) :: lv.filter (fun q => !(q.1 == i) && (!(q.1 == i + 1) && !(q.1 + 1 == i && q.2.category == 2))) = lv') (k9 : J p l e R s m args below meth c D A nL Q ws lv' (pc + 1) rest k n) : J p l e R s m args below meth c D A nL Q ws lv pc (.double x :: rest) k n := fun H locs ls hP hD hS hl => lv_dstore_n C.1 C.2.1 hd hi hl hn h9 (fun ls' hl' => k9 H locs ls' hP hD hS hl')
theorem jr_dstore {x : UInt64} {i : Nat} (lv' : List (Nat × Value)) (C : jC p l s m args c D t A own cc nL) (hd : decode cc pc = .ok (.dstore i, 2)) (hn : i + 1 < nL) (h9 : (i, Value.double x) :: lv.filter (fun q => !(q.1 == i) && (!(q.1 == i + 1) && !(q.1 + 1 == i && q.2.category == 2))) = lv') (k9 : J p l e R s m args below meth c D A nL Q ws lv' (pc + 2) rest k n) : J p l e R s m args below meth c D A nL Q ws lv pc (.double x :: rest) k n := fun H locs ls hP hD hS hl => lv_dstore C.1 C.2.1 hd hl hn h9 (fun ls' hl' => k9 H locs ls' hP hD hS hl')
theorem jr_lstore_n {i9 : Fin 4} {x : Int64} (i : Nat) (lv' : List (Nat × Value)) (C : jC p l s m args c D t A own cc nL) (hd : decode cc pc = .ok (.lstore_n i9, 1)) (hi : (i9 : Nat) = i) (hn : i + 1 < nL) (h9 : (i, Value.long x) :: lv.filter (fun q => !(q.1 == i) && (!(q.1 == i + 1) && !(q.1 + 1 == i && q.2.category == 2))) = lv') (k9 : J p l e R s m args below meth c D A nL Q ws lv' (pc + 1) rest k n) : J p l e R s m args below meth c D A nL Q ws lv pc (.long x :: rest) k n := fun H locs ls hP hD hS hl => lv_lstore_n C.1 C.2.1 hd hi hl hn h9 (fun ls' hl' => k9 H locs ls' hP hD hS hl')
theorem jr_lstore {x : Int64} {i : Nat} (lv' : List (Nat × Value)) (C : jC p l s m args c D t A own cc nL) (hd : decode cc pc = .ok (.lstore i, 2)) (hn : i + 1 < nL) (h9 : (i, Value.long x) :: lv.filter (fun q => !(q.1 == i) && (!(q.1 == i + 1) && !(q.1 + 1 == i && q.2.category == 2))) = lv') (k9 : J p l e R s m args below meth c D A nL Q ws lv' (pc + 2) rest k n) : J p l e R s m args below meth c D A nL Q ws lv pc (.long x :: rest) k n := fun H locs ls hP hD hS hl => lv_lstore C.1 C.2.1 hd hl hn h9 (fun ls' hl' => k9 H locs ls' hP hD hS hl')
theorem jr_iinc {x v : Int32} {i : Nat} {z : Int} (lv' : List (Nat × Value)) (C : jC p l s m args c D t A own cc nL) (hd : decode cc pc = .ok (.iinc i z, 3)) (j : Nat) (hj : lv[j]? = some (i, .int x)) (hv : x + Int32.ofInt z = v) (hn : i < nL) (h9 : (i, Value.int v) :: lv.filter (fun q => !(q.1 == i) && !(q.1 + 1 == i && q.2.category == 2)) = lv') (k9 : J p l e R s m args below meth c D A nL Q ws lv' (pc + 3) rest k n) : J p l e R s m args below meth c D A nL Q ws lv pc rest k n := fun H locs ls hP hD hS hl => lv_iinc C.1 C.2.1 hd hl hj hv hn h9 (fun ls' hl' => k9 H locs ls' hP hD hS hl')
theorem jr_if_eq {x : Int32} {off : Int} (tgt : Nat) (C : jC p l s m args c D t A own cc nL) (hd : decode cc pc = .ok (.ifCond .eq off, 3)) (ht : (pc : Int) + off = (tgt : Int)) (kt : x = 0 → J p l e R s m args below meth c D A nL Q ws lv tgt rest k n) (kf : ¬ x = 0 → J p l e R s m args below meth c D A nL Q ws lv (pc + 3) rest k n) : J p l e R s m args below meth c D A nL Q ws lv pc (.int x :: rest) k n := fun H locs ls hP hD hS hl => lv_if_eq C.1 C.2.1 hd ht (fun h => kt h H locs ls hP hD hS hl) (fun h => kf h H locs ls hP hD hS hl)
theorem jr_if_ne {x : Int32} {off : Int} (tgt : Nat) (C : jC p l s m args c D t A own cc nL) (hd : decode cc pc = .ok (.ifCond .ne off, 3)) (ht : (pc : Int) + off = (tgt : Int)) (kt : ¬ x = 0 → J p l e R s m args below meth c D A nL Q ws lv tgt rest k n) (kf : x = 0 → J p l e R s m args below meth c D A nL Q ws lv (pc + 3) rest k n) : J p l e R s m args below meth c D A nL Q ws lv pc (.int x :: rest) k n := fun H locs ls hP hD hS hl => lv_if_ne C.1 C.2.1 hd ht (fun h => kt h H locs ls hP hD hS hl) (fun h => kf h H locs ls hP hD hS hl)
theorem jr_if_lt {x : Int32} {off : Int} (tgt : Nat) (C : jC p l s m args c D t A own cc nL) (hd : decode cc pc = .ok (.ifCond .lt off, 3)) (ht : (pc : Int) + off = (tgt : Int)) (kt : x < 0 → J p l e R s m args below meth c D A nL Q ws lv tgt rest k n) (kf : ¬ x < 0 → J p l e R s m args below meth c D A nL Q ws lv (pc + 3) rest k n) : J p l e R s m args below meth c D A nL Q ws lv pc (.int x :: rest) k n := fun H locs ls hP hD hS hl => lv_if_lt C.1 C.2.1 hd ht (fun h => kt h H locs ls hP hD hS hl) (fun h => kf h H locs ls hP hD hS hl)
theorem jr_if_ge {x : Int32} {off : Int} (tgt : Nat) (C : jC p l s m args c D t A own cc nL) (hd : decode cc pc = .ok (.ifCond .ge off, 3)) (ht : (pc : Int) + off = (tgt : Int)) (kt : 0 ≤ x → J p l e R s m args below meth c D A nL Q ws lv tgt rest k n) (kf : ¬ 0 ≤ x → J p l e R s m args below meth c D A nL Q ws lv (pc + 3) rest k n) : J p l e R s m args below meth c D A nL Q ws lv pc (.int x :: rest) k n := fun H locs ls hP hD hS hl => lv_if_ge C.1 C.2.1 hd ht (fun h => kt h H locs ls hP hD hS hl) (fun h => kf h H locs ls hP hD hS hl)
theorem jr_if_gt {x : Int32} {off : Int} (tgt : Nat) (C : jC p l s m args c D t A own cc nL) (hd : decode cc pc = .ok (.ifCond .gt off, 3)) (ht : (pc : Int) + off = (tgt : Int)) (kt : 0 < x → J p l e R s m args below meth c D A nL Q ws lv tgt rest k n) (kf : ¬ 0 < x → J p l e R s m args below meth c D A nL Q ws lv (pc + 3) rest k n) : J p l e R s m args below meth c D A nL Q ws lv pc (.int x :: rest) k n := fun H locs ls hP hD hS hl => lv_if_gt C.1 C.2.1 hd ht (fun h => kt h H locs ls hP hD hS hl) (fun h => kf h H locs ls hP hD hS hl)
theorem jr_if_le {x : Int32} {off : Int} (tgt : Nat) (C : jC p l s m args c D t A own cc nL) (hd : decode cc pc = .ok (.ifCond .le off, 3)) (ht : (pc : Int) + off = (tgt : Int)) (kt : x ≤ 0 → J p l e R s m args below meth c D A nL Q ws lv tgt rest k n) (kf : ¬ x ≤ 0 → J p l e R s m args below meth c D A nL Q ws lv (pc + 3) rest k n) : J p l e R s m args below meth c D A nL Q ws lv pc (.int x :: rest) k n := fun H locs ls hP hD hS hl => lv_if_le C.1 C.2.1 hd ht (fun h => kt h H locs ls hP hD hS hl) (fun h => kf h H locs ls hP hD hS hl)
theorem jr_icmp_eq {x y : Int32} {off : Int} (tgt : Nat) (C : jC p l s m args c D t A own cc nL) (hd : decode cc pc = .ok (.if_icmp .eq off, 3)) (ht : (pc : Int) + off = (tgt : Int)) (kt : x = y → J p l e R s m args below meth c D A nL Q ws lv tgt rest k n) (kf : ¬ x = y → J p l e R s m args below meth c D A nL Q ws lv (pc + 3) rest k n) : J p l e R s m args below meth c D A nL Q ws lv pc (.int y :: .int x :: rest) k n := fun H locs ls hP hD hS hl => lv_icmp_eq C.1 C.2.1 hd ht (fun h => kt h H locs ls hP hD hS hl) (fun h => kf h H locs ls hP hD hS hl)
theorem jr_icmp_ne {x y : Int32} {off : Int} (tgt : Nat) (C : jC p l s m args c D t A own cc nL) (hd : decode cc pc = .ok (.if_icmp .ne off, 3)) (ht : (pc : Int) + off = (tgt : Int)) (kt : ¬ x = y → J p l e R s m args below meth c D A nL Q ws lv tgt rest k n) (kf : x = y → J p l e R s m args below meth c D A nL Q ws lv (pc + 3) rest k n) : J p l e R s m args below meth c D A nL Q ws lv pc (.int y :: .int x :: rest) k n := fun H locs ls hP hD hS hl => lv_icmp_ne C.1 C.2.1 hd ht (fun h => kt h H locs ls hP hD hS hl) (fun h => kf h H locs ls hP hD hS hl)
theorem jr_icmp_lt {x y : Int32} {off : Int} (tgt : Nat) (C : jC p l s m args c D t A own cc nL) (hd : decode cc pc = .ok (.if_icmp .lt off, 3)) (ht : (pc : Int) + off = (tgt : Int)) (kt : x < y → J p l e R s m args below meth c D A nL Q ws lv tgt rest k n) (kf : ¬ x < y → J p l e R s m args below meth c D A nL Q ws lv (pc + 3) rest k n) : J p l e R s m args below meth c D A nL Q ws lv pc (.int y :: .int x :: rest) k n := fun H locs ls hP hD hS hl => lv_icmp_lt C.1 C.2.1 hd ht (fun h => kt h H locs ls hP hD hS hl) (fun h => kf h H locs ls hP hD hS hl)
theorem jr_icmp_ge {x y : Int32} {off : Int} (tgt : Nat) (C : jC p l s m args c D t A own cc nL) (hd : decode cc pc = .ok (.if_icmp .ge off, 3)) (ht : (pc : Int) + off = (tgt : Int)) (kt : y ≤ x → J p l e R s m args below meth c D A nL Q ws lv tgt rest k n) (kf : ¬ y ≤ x → J p l e R s m args below meth c D A nL Q ws lv (pc + 3) rest k n) : J p l e R s m args below meth c D A nL Q ws lv pc (.int y :: .int x :: rest) k n := fun H locs ls hP hD hS hl => lv_icmp_ge C.1 C.2.1 hd ht (fun h => kt h H locs ls hP hD hS hl) (fun h => kf h H locs ls hP hD hS hl)
theorem jr_icmp_gt {x y : Int32} {off : Int} (tgt : Nat) (C : jC p l s m args c D t A own cc nL) (hd : decode cc pc = .ok (.if_icmp .gt off, 3)) (ht : (pc : Int) + off = (tgt : Int)) (kt : y < x → J p l e R s m args below meth c D A nL Q ws lv tgt rest k n) (kf : ¬ y < x → J p l e R s m args below meth c D A nL Q ws lv (pc + 3) rest k n) : J p l e R s m args below meth c D A nL Q ws lv pc (.int y :: .int x :: rest) k n := fun H locs ls hP hD hS hl => lv_icmp_gt C.1 C.2.1 hd ht (fun h => kt h H locs ls hP hD hS hl) (fun h => kf h H locs ls hP hD hS hl)
theorem jr_icmp_le {x y : Int32} {off : Int} (tgt : Nat) (C : jC p l s m args c D t A own cc nL) (hd : decode cc pc = .ok (.if_icmp .le off, 3)) (ht : (pc : Int) + off = (tgt : Int)) (kt : x ≤ y → J p l e R s m args below meth c D A nL Q ws lv tgt rest k n) (kf : ¬ x ≤ y → J p l e R s m args below meth c D A nL Q ws lv (pc + 3) rest k n) : J p l e R s m args below meth c D A nL Q ws lv pc (.int y :: .int x :: rest) k n := fun H locs ls hP hD hS hl => lv_icmp_le C.1 C.2.1 hd ht (fun h => kt h H locs ls hP hD hS hl) (fun h => kf h H locs ls hP hD hS hl)
theorem jr_ifnull {a : Nat} {off : Int} (C : jC p l s m args c D t A own cc nL) (hd : decode cc pc = .ok (.ifnull off, 3)) (k9 : J p l e R s m args below meth c D A nL Q ws lv (pc + 3) rest k n) : J p l e R s m args below meth c D A nL Q ws lv pc (.ref a :: rest) k n := fun H locs ls hP hD hS hl => lv_ifnull C.1 C.2.1 hd (k9 H locs ls hP hD hS hl)
theorem jr_ifnullN {off : Int} (tgt : Nat) (C : jC p l s m args c D t A own cc nL) (hd : decode cc pc = .ok (.ifnull off, 3)) (ht : (pc : Int) + off = (tgt : Int)) (k9 : J p l e R s m args below meth c D A nL Q ws lv tgt rest k n) : J p l e R s m args below meth c D A nL Q ws lv pc (.null :: rest) k n := fun H locs ls hP hD hS hl => lv_ifnullN C.1 C.2.1 hd ht (k9 H locs ls hP hD hS hl)
theorem jr_ifnonnull {a : Nat} {off : Int} (tgt : Nat) (C : jC p l s m args c D t A own cc nL) (hd : decode cc pc = .ok (.ifnonnull off, 3)) (ht : (pc : Int) + off = (tgt : Int)) (k9 : J p l e R s m args below meth c D A nL Q ws lv tgt rest k n) : J p l e R s m args below meth c D A nL Q ws lv pc (.ref a :: rest) k n := fun H locs ls hP hD hS hl => lv_ifnonnull C.1 C.2.1 hd ht (k9 H locs ls hP hD hS hl)
theorem jr_ifnonnullN {off : Int} (C : jC p l s m args c D t A own cc nL) (hd : decode cc pc = .ok (.ifnonnull off, 3)) (k9 : J p l e R s m args below meth c D A nL Q ws lv (pc + 3) rest k n) : J p l e R s m args below meth c D A nL Q ws lv pc (.null :: rest) k n := fun H locs ls hP hD hS hl => lv_ifnonnullN C.1 C.2.1 hd (k9 H locs ls hP hD hS hl)
theorem jr_tabOut {dflt lo hi : Int} {offs : Array Int} {len : Nat} {x : Int32} (tgt : Nat) (C : jC p l s m args c D t A own cc nL) (hd : decode cc pc = .ok (.tableswitch dflt lo hi offs, len)) (h : x.toInt < lo ∨ hi < x.toInt) (ht : (pc : Int) + dflt = (tgt : Int)) (k9 : J p l e R s m args below meth c D A nL Q ws lv tgt rest k n) : J p l e R s m args below meth c D A nL Q ws lv pc (.int x :: rest) k n := fun H locs ls hP hD hS hl => lv_tableOut C.1 C.2.1 hd h ht (k9 H locs ls hP hD hS hl)
theorem jr_tabIn {dflt lo hi : Int} {offs : Array Int} {len : Nat} {x : Int32} {off : Int} (tgt : Nat) (C : jC p l s m args c D t A own cc nL) (hd : decode cc pc = .ok (.tableswitch dflt lo hi offs, len)) (h1 : ¬ x.toInt < lo) (h2 : ¬ hi < x.toInt) (ho : offs[(x.toInt - lo).toNat]? = some off) (ht : (pc : Int) + off = (tgt : Int)) (k9 : J p l e R s m args below meth c D A nL Q ws lv tgt rest k n) : J p l e R s m args below meth c D A nL Q ws lv pc (.int x :: rest) k n := fun H locs ls hP hD hS hl => lv_tableIn C.1 C.2.1 hd h1 h2 ho ht (k9 H locs ls hP hD hS hl)
theorem jr_ldc {i : Nat} {v : Int32} (C : jC p l s m args c D t A own cc nL) (hk : (Cond.constant own i v).before args s = true) (hd : decode cc pc = .ok (.ldc i, 2)) (k9 : J p l e R s m args below meth c D A nL Q ws lv (pc + 2) (.int v :: rest) k n) : J p l e R s m args below meth c D A nL Q ws lv pc rest k n := fun H locs ls hP hD hS hl => lv_ldc C.1 C.2.1 C.2.2.2.1 hk hd (k9 H locs ls hP hD hS hl)
theorem jr_ldc2 {i : Nat} {v : Int64} (C : jC p l s m args c D t A own cc nL) (hk : (Cond.constantLong own i v).before args s = true) (hd : decode cc pc = .ok (.ldc2_w i, 3)) (k9 : J p l e R s m args below meth c D A nL Q ws lv (pc + 3) (.long v :: rest) k n) : J p l e R s m args below meth c D A nL Q ws lv pc rest k n := fun H locs ls hP hD hS hl => lv_ldc2 C.1 C.2.1 C.2.2.2.1 hk hd (k9 H locs ls hP hD hS hl)
theorem jr_if_eq_b {b : Bool} {off : Int} (tgt : Nat) (C : jC p l s m args c D t A own cc nL) (hd : decode cc pc = .ok (.ifCond .eq off, 3)) (ht : (pc : Int) + off = (tgt : Int)) (kt : b = false → J p l e R s m args below meth c D A nL Q ws lv tgt rest k n) (kf : b = true → J p l e R s m args below meth c D A nL Q ws lv (pc + 3) rest k n) : J p l e R s m args below meth c D A nL Q ws lv pc (.int (jbb b) :: rest) k n := by
  refine jr_if_eq tgt C hd ht (fun h => ?_) (fun h => ?_)
  · cases b
    · exact kt rfl
    · exact absurd h (by decide)
  · cases b
    · exact absurd rfl h
    · exact kf rfl
theorem jr_if_ne_b {b : Bool} {off : Int} (tgt : Nat) (C : jC p l s m args c D t A own cc nL) (hd : decode cc pc = .ok (.ifCond .ne off, 3)) (ht : (pc : Int) + off = (tgt : Int)) (kt : b = true → J p l e R s m args below meth c D A nL Q ws lv tgt rest k n) (kf : b = false → J p l e R s m args below meth c D A nL Q ws lv (pc + 3) rest k n) : J p l e R s m args below meth c D A nL Q ws lv pc (.int (jbb b) :: rest) k n := by
  refine jr_if_ne tgt C hd ht (fun h => ?_) (fun h => ?_)
  · cases b
    · exact absurd rfl h
    · exact kt rfl
  · cases b
    · exact kf rfl
    · exact absurd h (by decide)
theorem jr_ws (ws' : va_W) (h : ws = ws') (k9 : J p l e R s m args below meth c D A nL Q ws' lv pc rest k n) : J p l e R s m args below meth c D A nL Q ws lv pc rest k n := h ▸ k9
theorem jr_st {st : List Value} (st' : List Value) (h : st = st') (k9 : J p l e R s m args below meth c D A nL Q ws lv pc st' k n) : J p l e R s m args below meth c D A nL Q ws lv pc st k n := h ▸ k9
theorem jr_lv (ks : List Nat) (lv' : List (Nat × Value)) (h : lv_pick lv ks = lv') (k9 : J p l e R s m args below meth c D A nL Q ws lv' pc rest k n) : J p l e R s m args below meth c D A nL Q ws lv pc rest k n := fun H locs ls hP hD hS hl => k9 H locs ls hP hD hS (lv_sub hl ks h)
theorem jr_widen {k' n' : Nat} (h1 : k ≤ k') (h2 : n ≤ n') (k9 : J p l e R s m args below meth c D A nL Q ws lv pc rest k' n') : J p l e R s m args below meth c D A nL Q ws lv pc rest k n := fun H locs ls hP hD hS hl => W.widen h1 h2 (k9 H locs ls hP hD hS hl)
theorem jr_topi {x : Int32} (k9 : ∀ y : Int32, y = x → J p l e R s m args below meth c D A nL Q ws lv pc (.int y :: rest) k n) : J p l e R s m args below meth c D A nL Q ws lv pc (.int x :: rest) k n := k9 x rfl
theorem jr_pc {pc' : Nat} (h : pc = pc') (k9 : J p l e R s m args below meth c D A nL Q ws lv pc' rest k n) : J p l e R s m args below meth c D A nL Q ws lv pc rest k n := h ▸ k9
theorem jr_get {index ci f0 : Nat} {ty : FieldType} {fin : Bool} {a : Nat} {fs : List Value} {v : Value} (C : jC p l s m args c D t A own cc nL) (hd : decode cc pc = .ok (.getfield index, 3)) (hF : jFd own index ci f0 ty fin args s) (q0 : Nat) (he : ws[q0]? = some (a, .inr (ci, fs))) (hv : fs[f0]? = some v) (k9 : J p l e R s m args below meth c D A nL Q ws lv (pc + 3) (v :: rest) k n) : J p l e R s m args below meth c D A nL Q ws lv pc (.ref a :: rest) k n := by
  obtain ⟨C9, T9, N9, ty0, hin, hc, hf, hlink | hlink, -⟩ := hF
  · exact fun H locs ls hP hD hS hl => va_get C.1 C.2.1 C.2.2.2.2.1 hin C.2.2.2.1 C.2.2.2.2.2.1 hP q0 he hc f0 hf hlink (fun x hx => hx) hv hd (k9 H locs ls hP hD hS hl)
  · exact fun H locs ls hP hD hS hl => va_getN C.1 C.2.1 C.2.2.2.2.1 hin C.2.2.2.1 C.2.2.2.2.2.1 hP q0 he hc f0 hf hlink (fun x hx => hx) hv hd (k9 H locs ls hP hD hS hl)
theorem jr_put {index ci f0 : Nat} {ty : FieldType} {a : Nat} {fs : List Value} {v : Value} (C : jC p l s m args c D t A own cc nL) (hd : decode cc pc = .ok (.putfield index, 3)) (hF : jFd own index ci f0 ty false args s) (q0 : Nat) (he : ws[q0]? = some (a, .inr (ci, fs))) (hn : narrow ty v = v) (hfit : fits ty v = true) (hl9 : f0 < fs.length) (k9 : J p l e R s m args below meth c D A nL Q (ws.set q0 (a, .inr (ci, fs.set f0 v))) lv (pc + 3) rest k n) : J p l e R s m args below meth c D A nL Q ws lv pc (v :: .ref a :: rest) k n := by
  obtain ⟨C9, T9, N9, ty0, hin, hc, hf, hlink | hlink, hty, hnm, rfl, hfin⟩ := hF
  · exact fun H locs ls hP hD hS hl => va_put C.1 C.2.1 C.2.2.2.2.1 hin ty0 hty hnm C.2.2.2.1 C.2.2.2.2.2.1 hP hD hS q0 he hc f0 hf hlink (fun x hx => hx) hfin (hty f0 hf) hn hfit hl9 hd (fun H1 l1 hP1 hD1 hS1 => k9 H1 l1 ls hP1 hD1 hS1 hl)
  · exact fun H locs ls hP hD hS hl => va_putN C.1 C.2.1 C.2.2.2.2.1 hin ty0 hty hnm C.2.2.2.1 C.2.2.2.2.2.1 hP hD hS q0 he hc f0 hf hlink (fun x hx => hx) hfin (hty f0 hf) hn hfit hl9 hd (fun H1 l1 hP1 hD1 hS1 => k9 H1 l1 ls hP1 hD1 hS1 hl)
theorem jr_putF {index ci f0 : Nat} {ty : FieldType} {a : Nat} {fs : List Value} {v : Value} (C : jC p l s m args c D t A own cc nL) (hin2 : meth.name = "<init>") (hd : decode cc pc = .ok (.putfield index, 3)) (hF : jFdF own index ci f0 ty args s) (q0 : Nat) (he : ws[q0]? = some (a, .inr (ci, fs))) (hn : narrow ty v = v) (hfit : fits ty v = true) (hl9 : f0 < fs.length) (k9 : J p l e R s m args below meth c D A nL Q (ws.set q0 (a, .inr (ci, fs.set f0 v))) lv (pc + 3) rest k n) : J p l e R s m args below meth c D A nL Q ws lv pc (v :: .ref a :: rest) k n := by
  obtain ⟨C9, T9, N9, ty0, hin, hc, hf, hlink, hty, hnm, rfl, hfin, hdc⟩ := hF
  exact fun H locs ls hP hD hS hl => va_putF C.1 C.2.1 C.2.2.2.2.1 hin ty0 hty hnm C.2.2.2.1 C.2.2.2.2.2.1 hP hD hS q0 he hc f0 hf hlink (fun x hx => hx) hfin hin2 hdc (hty f0 hf) hn hfit hl9 hd (fun H1 l1 hP1 hD1 hS1 => k9 H1 l1 ls hP1 hD1 hS1 hl)
theorem jr_new {index ci : Nat} {C9 : String} {T9 : u_T} {N9 : Nat} {ty : Nat → FieldType} (fs : List Value) (C : jC p l s m args c D t A own cc nL) (hd : decode cc pc = .ok (.new index, 3)) (hF : jNew own index ci C9 T9 N9 ty args s) (hfs : ∀ j, j < N9 → defaultValue (ty j) = vp_V fs j) (hcells : k + 1 ≤ R.cells) (hslots : n + N9 ≤ R.slots) (k9 : ∀ q : Nat, J p l e R s m args below meth c D A nL Q (ws ++ [(q, .inr (ci, fs))]) lv (pc + 3) (.ref q :: rest) (k + 1) (n + N9)) : J p l e R s m args below meth c D A nL Q ws lv pc rest k n :=
  fun H locs ls hP hD hS hl => va_new C.1 C.2.1 C.2.2.2.2.1 hF.1 ty hF.2.1 C.2.2.2.1 hF.2.2.2.1 hF.2.2.2.2.1 hF.2.2.2.2.2 C.2.2.2.2.2.1 hP hD hS C.2.2.2.2.2.2.1 hF.2.2.1 hfs hcells hslots hd (fun q H1 hP1 hD1 hS1 => k9 q H1 locs ls hP1 hD1 hS1 hl)
theorem jr_iald {a n9 : Nat} {i : Int32} {f : Nat → Int32} (C : jC p l s m args c D t A own cc nL) (hd : decode cc pc = .ok (.iaload, 1)) (q0 : Nat) (ha : ws[q0]? = some (a, .inl (t 0, n9, .inl f))) (hin : vp_in i n9) (k9 : J p l e R s m args below meth c D A nL Q ws lv (pc + 1) (.int (f i.toNatClampNeg) :: rest) k n) : J p l e R s m args below meth c D A nL Q ws lv pc (.int i :: .ref a :: rest) k n := fun H locs ls hP hD hS hl => va_iald C.1 C.2.1 C.2.2.2.2.2.1 hP q0 0 ha rfl hin hd (k9 H locs ls hP hD hS hl)
theorem jr_ialdN {a n9 : Nat} {i : Int32} {f : Nat → Int32} (C : jC p l s m args c D t A own cc nL) (hd : decode cc pc = .ok (.iaload, 1)) (q0 j : Nat) (ha : ws[q0]? = some (a, .inl (t 0, n9, .inl f))) (hi : i = nI j) (hj : j < n9) (hn : n9 < 2147483648) (k9 : J p l e R s m args below meth c D A nL Q ws lv (pc + 1) (.int (f j) :: rest) k n) : J p l e R s m args below meth c D A nL Q ws lv pc (.int i :: .ref a :: rest) k n := by
  subst hi
  refine jr_iald C hd q0 ha (vp_in_nI hj hn) ?_
  rw [nI_clamp (Nat.lt_trans hj hn)]
  exact k9
theorem jr_iast {a n9 : Nat} {i : Int32} {x : Int32} {f : Nat → Int32} (C : jC p l s m args c D t A own cc nL) (hd : decode cc pc = .ok (.iastore, 1)) (q0 : Nat) (ha : ws[q0]? = some (a, .inl (t 0, n9, .inl f))) (hin : vp_in i n9) (k9 : J p l e R s m args below meth c D A nL Q (ws.set q0 (a, .inl (t 0, n9, .inl (upd f i.toNatClampNeg x)))) lv (pc + 1) rest k n) : J p l e R s m args below meth c D A nL Q ws lv pc (.int x :: .int i :: .ref a :: rest) k n := fun H locs ls hP hD hS hl => va_iast C.1 C.2.1 C.2.2.2.2.2.1 hP hD hS q0 0 ha rfl hin hd (fun H1 l1 hP1 hD1 hS1 => k9 H1 l1 ls hP1 hD1 hS1 hl)
theorem jr_iastN {a n9 : Nat} {i : Int32} {x : Int32} {f : Nat → Int32} (C : jC p l s m args c D t A own cc nL) (hd : decode cc pc = .ok (.iastore, 1)) (q0 j : Nat) (ha : ws[q0]? = some (a, .inl (t 0, n9, .inl f))) (hi : i = nI j) (hj : j < n9) (hn : n9 < 2147483648) (k9 : J p l e R s m args below meth c D A nL Q (ws.set q0 (a, .inl (t 0, n9, .inl (upd f j x)))) lv (pc + 1) rest k n) : J p l e R s m args below meth c D A nL Q ws lv pc (.int x :: .int i :: .ref a :: rest) k n := by
  subst hi
  refine jr_iast C hd q0 ha (vp_in_nI hj hn) ?_
  rw [nI_clamp (Nat.lt_trans hj hn)]
  exact k9
theorem jr_alen {a n9 : Nat} {z : vp_A} {ty : FieldType} (C : jC p l s m args c D t A own cc nL) (hd : decode cc pc = .ok (.arraylength, 1)) (q0 t0 : Nat) {cA : ClassId} (ha : ws[q0]? = some (a, .inl (cA, z))) (ht : (jty t)[t0]? = some (cA, ty)) (hz : z.1 = n9) (k9 : J p l e R s m args below meth c D A nL Q ws lv (pc + 1) (.int (nI n9) :: rest) k n) : J p l e R s m args below meth c D A nL Q ws lv pc (.ref a :: rest) k n := fun H locs ls hP hD hS hl => va_alen C.1 C.2.1 C.2.2.2.2.2.1 hP q0 t0 ha ht (show Int32.ofNat z.1 = nI n9 by rw [hz]; rfl) hd (k9 H locs ls hP hD hS hl)
theorem jr_aldq {a n9 : Nat} {i : Int32} {f : Nat → Option Nat} {v : Value} (C : jC p l s m args c D t A own cc nL) (hd : decode cc pc = .ok (.aaload, 1)) (q0 j : Nat) (ha : ws[q0]? = some (a, .inl (t 2, n9, .inr (.inr (.inr (.inr f)))))) (hi : i = nI j) (hj : j < n9) (hn : n9 < 2147483648) (hv : va_rf (f j) = v) (k9 : J p l e R s m args below meth c D A nL Q ws lv (pc + 1) (v :: rest) k n) : J p l e R s m args below meth c D A nL Q ws lv pc (.int i :: .ref a :: rest) k n := by
  subst hi hv
  exact fun H locs ls hP hD hS hl => va_aldq C.1 C.2.1 C.2.2.2.2.2.1 hP q0 2 ha rfl (vp_in_nI hj hn) hd (by rw [nI_clamp (Nat.lt_trans hj hn)]; exact k9 H locs ls hP hD hS hl)
theorem jr_alda {a n9 : Nat} {i : Int32} {f : Nat → Option Nat} {v : Value} (C : jC p l s m args c D t A own cc nL) (hd : decode cc pc = .ok (.aaload, 1)) (q0 j : Nat) (ha : ws[q0]? = some (a, .inl (t 1, n9, .inr (.inr (.inr (.inr f)))))) (hi : i = nI j) (hj : j < n9) (hn : n9 < 2147483648) (hv : va_rf (f j) = v) (k9 : J p l e R s m args below meth c D A nL Q ws lv (pc + 1) (v :: rest) k n) : J p l e R s m args below meth c D A nL Q ws lv pc (.int i :: .ref a :: rest) k n := by
  subst hi hv
  intro H locs ls hP hD hS hl
  have hin : vp_in (nI j) n9 := vp_in_nI hj hn
  have hlt : (nI j).toNatClampNeg < n9 := by rw [nI_clamp (Nat.lt_trans hj hn)]; exact hj
  have hk := k9 H locs ls hP hD hS hl
  rw [show va_rf (f j) = va_rf (f (nI j).toNatClampNeg) by rw [nI_clamp (Nat.lt_trans hj hn)]] at hk
  exact W.aald (v := va_rf (f (nI j).toNatClampNeg)) (ty := .array .int) C.1 C.2.1 (hP q0 _ ha) ((C.2.2.2.2.2.1.2 1 _ rfl).1 n9 (fun j => va_rf (f j))) rfl (fun q => by cases q) (by show ¬ (nI j < 0 ∨ (arrV _ _ _).slots.size ≤ _); rw [arrV_size]; exact hin) (by show (arrV _ _ _).slots[_]? = _; rw [arrV_read _ _ hlt]) rfl rfl hd hk
theorem jr_astq {a n9 v ci : Nat} {i : Int32} {f : Nat → Option Nat} {vs : List Value} (C : jC p l s m args c D t A own cc nL) (hd : decode cc pc = .ok (.aastore, 1)) (q0 j qk : Nat) (ha : ws[q0]? = some (a, .inl (t 2, n9, .inr (.inr (.inr (.inr f)))))) (hv : ws[qk]? = some (v, .inr (0, vs))) (hi : i = nI j) (hj : j < n9) (hn : n9 < 2147483648) (k9 : J p l e R s m args below meth c D A nL Q (ws.set q0 (a, .inl (t 2, n9, .inr (.inr (.inr (.inr (va_up f j (some v)))))))) lv (pc + 1) rest k n) : J p l e R s m args below meth c D A nL Q ws lv pc (.ref v :: .int i :: .ref a :: rest) k n := by
  subst hi
  exact fun H locs ls hP hD hS hl => va_astq (r := (RX0, TX0, 4)) C.1 C.2.1 C.2.2.2.2.2.1 hP hD hS q0 2 qk 0 ha rfl hv rfl (vp_in_nI hj hn) hd (fun H1 l1 hP1 hD1 hS1 => by rw [nI_clamp (Nat.lt_trans hj hn)] at hP1 hD1; exact k9 H1 l1 ls hP1 hD1 hS1 hl)
theorem jr_newaI {i : Int32} (C : jC p l s m args c D t A own cc nL) (harr : (Cond.arrayClass .int).before args s = true) (hd : decode cc pc = .ok (.newarray .int, 2)) (N' : Nat) (hi : i = nI N') (hN : N' < 100000) (hcells : k + 1 ≤ R.cells) (hslots : n + N' ≤ R.slots) (k9 : ∀ q : Nat, J p l e R s m args below meth c D A nL Q (ws ++ [(q, .inl (t 0, N', .inl (fun _ => 0)))]) lv (pc + 2) (.ref q :: rest) (k + 1) (n + N')) : J p l e R s m args below meth c D A nL Q ws lv pc (.int i :: rest) k n := by
  subst hi
  intro H locs ls hP hD hS hl
  refine va_newa (atype := .int) (a0 := (N', .inl (fun _ => 0))) C.1 C.2.1 harr rfl C.2.2.2.2.2.1 hP hD hS C.2.2.2.2.2.2.1 (fun cA => rfl) (nI_pos (by omega)) (nI_clamp (by omega)) (by show N' * _ ≤ _; simp only [componentBytes, newarray.typeOf]; omega) hcells hslots hd (fun q cA H1 hK1 hP1 hD1 hS1 => ?_)
  have e1 := (hK1.2 3 _ rfl).2
  have e2 := (hK1.2 0 _ rfl).2
  have e3 : cA = t 0 := Option.some.inj (e1.symm.trans e2)
  subst e3
  exact k9 q H1 locs ls hP1 hD1 hS1 hl
theorem jr_iret {v : Int32} {rm : Room} {wc : va_W} {post : Option Value → va_W → Prop} {px : String → va_W → Prop} {ret : Option FieldType} {nm : String} (C : jC p l s m args c D t A own cc nL) (M : jM below args s meth c D t A Q rm wc post px ret nm) (hd : decode cc pc = .ok (.ireturn, 1)) (hr : ret = some .int) (hk : k ≤ rm.cells) (hn9 : n ≤ rm.slots) (hp : post (some (.int v)) ws) : J p l e R s m args below meth c D A nL Q ws lv pc [.int v] k n := by
  obtain ⟨rfl, rfl, hrt, hlk, -, -⟩ := M
  subst hr
  intro H locs ls hP hD hS hl
  refine W.widen hk hn9 (vx_ret ?_)
  exact W.iret (v := v) C.1 C.2.1 hrt (fun T hT hW => ⟨⟨_, ws, rfl, hp, by rw [hT]; exact hP, va_K.moved hW.alike C.2.2.2.2.2.1, hD⟩, hS.F hT⟩) hS.2.2 hd hlk
theorem jr_zret {v : Int32} (hz : narrow .boolean (.int v) = .int v) {rm : Room} {wc : va_W} {post : Option Value → va_W → Prop} {px : String → va_W → Prop} {ret : Option FieldType} {nm : String} (C : jC p l s m args c D t A own cc nL) (M : jM below args s meth c D t A Q rm wc post px ret nm) (hd : decode cc pc = .ok (.ireturn, 1)) (hr : ret = some .boolean) (hk : k ≤ rm.cells) (hn9 : n ≤ rm.slots) (hp : post (some (.int v)) ws) : J p l e R s m args below meth c D A nL Q ws lv pc [.int v] k n := by
  obtain ⟨rfl, rfl, hrt, hlk, -, -⟩ := M
  subst hr
  intro H locs ls hP hD hS hl
  refine W.widen hk hn9 (vx_ret ?_)
  exact W.zret (v := v) C.1 C.2.1 hrt hz (fun T hT hW => ⟨⟨_, ws, rfl, hp, by rw [hT]; exact hP, va_K.moved hW.alike C.2.2.2.2.2.1, hD⟩, hS.F hT⟩) hS.2.2 hd hlk
theorem jr_dret {v : UInt64} {rm : Room} {wc : va_W} {post : Option Value → va_W → Prop} {px : String → va_W → Prop} {ret : Option FieldType} {nm : String} (C : jC p l s m args c D t A own cc nL) (M : jM below args s meth c D t A Q rm wc post px ret nm) (hd : decode cc pc = .ok (.dreturn, 1)) (hr : ret = some .double) (hk : k ≤ rm.cells) (hn9 : n ≤ rm.slots) (hp : post (some (.double v)) ws) : J p l e R s m args below meth c D A nL Q ws lv pc [.double v] k n := by
  obtain ⟨rfl, rfl, hrt, hlk, -, -⟩ := M
  subst hr
  intro H locs ls hP hD hS hl
  refine W.widen hk hn9 (vx_ret ?_)
  exact W.dret (v := v) C.1 C.2.1 hrt (fun T hT hW => ⟨⟨_, ws, rfl, hp, by rw [hT]; exact hP, va_K.moved hW.alike C.2.2.2.2.2.1, hD⟩, hS.F hT⟩) hS.2.2 hd hlk
theorem jr_vret {rm : Room} {wc : va_W} {post : Option Value → va_W → Prop} {px : String → va_W → Prop} {ret : Option FieldType} {nm : String} (C : jC p l s m args c D t A own cc nL) (M : jM below args s meth c D t A Q rm wc post px ret nm) (hd : decode cc pc = .ok (.return_, 1)) (hr : ret = none) (hk : k ≤ rm.cells) (hn9 : n ≤ rm.slots) (hp : post (none) ws) : J p l e R s m args below meth c D A nL Q ws lv pc [] k n := by
  obtain ⟨rfl, rfl, hrt, hlk, -, -⟩ := M
  subst hr
  intro H locs ls hP hD hS hl
  refine W.widen hk hn9 (vx_ret ?_)
  exact W.vret C.1 C.2.1 hrt (fun T hT hW => ⟨⟨_, ws, rfl, hp, by rw [hT]; exact hP, va_K.moved hW.alike C.2.2.2.2.2.1, hD⟩, hS.F hT⟩) hS.2.2 hd hlk
theorem jr_aret {v : Nat} {rm : Room} {wc : va_W} {post : Option Value → va_W → Prop} {px : String → va_W → Prop} {rt : String} {nm : String} (C : jC p l s m args c D t A own cc nL) (M : jM below args s meth c D t A Q rm wc post px (some (.object rt)) nm) (hd : decode cc pc = .ok (.areturn, 1)) (hk : k ≤ rm.cells) (hn9 : n ≤ rm.slots) (hp : post (some (.ref v)) ws) : J p l e R s m args below meth c D A nL Q ws lv pc [.ref v] k n := by
  obtain ⟨rfl, rfl, hrt, hlk, -, -⟩ := M
  intro H locs ls hP hD hS hl
  refine W.widen hk hn9 (vx_ret ?_)
  exact W.aret (v := .ref v) C.1 C.2.1 hrt (Or.inl ⟨_, rfl⟩) (Or.inr ⟨_, rfl⟩) (fun T hT hW => ⟨⟨_, ws, rfl, hp, by rw [hT]; exact hP, va_K.moved hW.alike C.2.2.2.2.2.1, hD⟩, hS.F hT⟩) hS.2.2 hd hlk
theorem jr_out {E : String} {rm : Room} {wc : va_W} {post : Option Value → va_W → Prop} {px : String → va_W → Prop} {ret : Option FieldType} {nm : String} (C : jC p l s m args c D t A own cc nL) (M : jM below args s meth c D t A Q rm wc post px ret nm) (hk : k ≤ rm.cells) (hn9 : n ≤ rm.slots) (hp : px E ws) : JX p l e R s m args below meth c D A nL Q ws lv pc rest k n E := by
  obtain ⟨rfl, rfl, hrt, hlk, hno, -⟩ := M
  intro H locs ls q ce hP hD hS hl hc hv hcl
  exact vx_out (fun x hx => (hno x hx).elim) hlk hc hv hcl (fun T hT hA => ⟨⟨ws, hp, by rw [hT]; exact hP, va_K.moved hA C.2.2.2.2.2.1, hD⟩, hS.F hT⟩) hS.2.2 hk hn9
theorem jr_throw {E text : String} {ik is ic : Nat} {rm : Room} {wc : va_W} {post : Option Value → va_W → Prop} {px : String → va_W → Prop} {ret : Option FieldType} {nm : String} (C : jC p l s m args c D t A own cc nL) (M : jM below args s meth c D t A Q R wc post px ret nm)
    (hcls : Bundle.fit E = true) (hk : (Cond.classLink own ik E).before args s = true) (hini : (Cond.initialized E).before args s = true) (hstr : (own, is, text) ∈ jStrs) (hat : ∀ w ∈ vx_atS own ic E ["java/lang/RuntimeException", "java/lang/Exception"], w.before args s = true)
    (hgood : ∀ w ∈ Cond.classLink own ik E :: Cond.initialized E :: vx_atS own ic E ["java/lang/RuntimeException", "java/lang/Exception"], vx_ot w = true)
    (d0 : decode cc pc = .ok (.new ik, 3)) (d3 : decode cc (pc + 3) = .ok (.dup, 1)) (d4 : decode cc (pc + 4) = .ok (.ldc is, 2)) (d6 : decode cc (pc + 6) = .ok (.invokespecial ic, 3)) (d9 : decode cc (pc + 9) = .ok (.athrow, 1))
    (hrm : 5 < R.frames ∧ (rest.map fun v => v.category).sum + 82 ≤ R.locals ∧ k + 1 ≤ R.cells ∧ n + 6 ≤ R.slots) (hp : px E ws) : J p l e R s m args below meth c D A nL Q ws lv pc rest k n := by
  obtain ⟨rfl, rfl, hrt, hlk, hno, -⟩ := M
  intro H locs ls hP hD hS hl
  obtain ⟨hx, hb, hml, hown, hts, hK, hA, ⟨⟨hU, hN⟩, -, -, hst, -⟩, hfl⟩ := C
  obtain ⟨sa, hsa⟩ := hst _ hstr
  exact vx_throwS (names := ["java/lang/RuntimeException", "java/lang/Exception"]) (text := text) hx hb hfl hown hcls (by decide +kernel) hk hini hsa hat hgood hU hN hS (hl.1.trans hml.symm) d0 d3 d4 d6 d9 (fun x hx => (hno x hx).elim) hrm.1 hrm.2.1 hrm.2.2.1 hrm.2.2.2 hlk
    (fun T hA1 hz hq => ⟨⟨ws, hp, hP.kept (fun k9 q9 h9 => hq _ (hP k9 q9 h9).lt), va_K.moved hA1 hK, hD⟩, ⟨Nat.le_trans hS.1 hz, fun q h1 h2 => (hq q (Nat.lt_of_lt_of_le h1 hS.1)).trans (hS.2.1 q h1 h2)⟩⟩) hS.2.2 hrm.2.2.1 hrm.2.2.2
theorem jr_pre {av : List Value} {wc : va_W} {H : Heap} {locs : List Loc} (C : jC p l s m args c D t A own cc nL) (hP : va_P D vwCl ws H) (hD : va_D A ws) (hS : va_S A s.heap H locs) (isC : List Nat) (hC : isC.map (fun i => ws[i]?) = wc.map some) (hn : va_nd isC = true) :
    PreS s H (va_Pc av (jPre D t H.size wc)) av := by
  have hF := va_free (wc := wc) hD hS C.2.2.2.2.2.2.1 isC hC
  refine ⟨jPre_blind, fun U hU hW => ⟨rfl, by rw [hU], ?_, va_K.moved hW.alike C.2.2.2.2.2.1, ?_, ?_⟩⟩
  · rw [hU]
    intro k9 q9 h9
    have h1 : (isC.map (fun i => ws[i]?))[k9]? = some (some q9) := by rw [hC, List.getElem?_map, h9]; rfl
    rw [List.getElem?_map] at h1
    cases hi : isC[k9]? with
    | none => rw [hi] at h1; cases h1
    | some i => rw [hi] at h1; exact hP i q9 (Option.some.inj h1)
  · exact (hD.sub isC hn hC).weaken (fun _ _ _ _ => trivial)
  · have h1 : jEnv A s H := C.2.2.2.2.2.2.2.1.kept (fun a h1 h2 => hS.2.1 a h1 h2)
    rw [hU]
    exact (h1.narrow hF).warm hW
theorem jr_call {rm : Room} {a : Array Value} {wc : va_W} {post : Option Value → va_W → Prop} {px : String → va_W → Prop} {st : List Value} (C : jC p l s m args c D t A own cc nL) (isC : List Nat) (hC : isC.map (fun i => ws[i]?) = wc.map some) (hn : va_nd isC = true)
    (hr : ∀ (H : Heap) (locs : List Loc) (ls : Array Slot), va_P D vwCl ws H → va_D A ws → va_S A s.heap H locs → lv_has ls nL lv → vx_Run p l e R s m args below meth c H locs k n rm.cells rm.slots (F0 m pc ls st) rest (jQ D t H.size wc post a) (jX D t H.size wc px) (va_A wc H.size))
    (hsame : ∀ v u, post v u → (u.take wc.length).map Prod.fst = wc.map Prod.fst) (hsameX : ∀ E u, px E u → (u.take wc.length).map Prod.fst = wc.map Prod.fst)
    (kx : ∀ E u, px E u → JX p l e R s m args below meth c D A nL Q (jput ws isC (u.take wc.length) ++ u.drop wc.length) lv pc rest (k + rm.cells) (n + rm.slots) E)
    (kk : ∀ v u, post v u → J p l e R s m args below meth c D A nL Q (jput ws isC (u.take wc.length) ++ u.drop wc.length) lv (pc + 3) (v.toList ++ rest) (k + rm.cells) (n + rm.slots)) : J p l e R s m args below meth c D A nL Q ws lv pc st k n := by
  intro H locs ls hP hD hS hl T hT X
  have hF := va_free (wc := wc) hD hS C.2.2.2.2.2.2.1 isC hC
  rcases hr H locs ls hP hD hS hl T hT X with ⟨v, st₀, t1, T', L, h0, X', hL, e1, e2, ⟨⟨v', u, hv, hp, hB⟩, hFr⟩, hst⟩ | ⟨q, st₀, t1, T', L, E, ce, h0, X', hL, e1, e2, ⟨⟨u, hp, hB⟩, hFr⟩, hce, hcv, hcl, hst⟩
  · cases hv
    obtain ⟨hz, hk, hS'⟩ := vx_keep h0 e1 hS (fun q _ h => hF q h) hF hL hFr
    obtain ⟨b1, b2, b3⟩ := hB
    obtain ⟨hP', hD'⟩ := jput_join (w1 := u) (H1 := T'.heap) hP hD isC hC hn hk hF (by rw [e1]; exact b1) b3 (hsame _ _ hp)
    obtain ⟨t2, a1, a2⟩ := kk v u hp T'.heap (locs ++ L) ls hP' hD' hS' hl T' rfl X'
    exact ⟨t2, hst t2 a1, a2⟩
  · obtain ⟨hz, hk, hS'⟩ := vx_keep h0 e1 hS (fun q _ h => hF q h) hF hL hFr
    obtain ⟨b1, b2, b3⟩ := hB
    obtain ⟨hP', hD'⟩ := jput_join (w1 := u) (H1 := T'.heap) hP hD isC hC hn hk hF (by rw [e1]; exact b1) b3 (hsameX _ _ hp)
    obtain ⟨t2, a1, a2⟩ := kx E u hp T'.heap (locs ++ L) ls q ce hP' hD' hS' hl (by rw [e1]; exact hce) hcv hcl T' rfl X'
    exact ⟨t2, hst.trans a1, a2⟩
theorem jr_cw {R : Room} {s : State} {args : Array Value} {own : String} {index : Nat} {y : MethodName} {bytes : ByteArray} {maxL : Nat} {ret : Option FieldType} {rm : Room} {n9 : Nat} (hts : ∀ w ∈ jWS, w.before args s = true) (h0 : jY0 y bytes maxL ret n9 args s) (hl : (Cond.methodLink own index y).before args s = true) (hR : rm.frames + 1 ≤ R.frames ∧ 8 + (maxL + 11) + rm.locals ≤ R.locals) : CallB R s args own index y bytes maxL ret (Cond.code y bytes maxL ret :: jWS) rm rm.cells rm.slots n9 :=
  callB_of n9 hts (fun w h => (List.mem_cons.mp h).elim (fun e => by rw [e]; exact jWS_good _ h0.1) (fun h => jWS_good w h)) rfl rfl rfl h0.2.1 hl ⟨h0.2.2.1.1, h0.2.2.1.2, h0.2.2.2⟩ hR
theorem jr_cn {R : Room} {s : State} {args : Array Value} {own : String} {index : Nat} {y : MethodName} {bytes : ByteArray} {maxL : Nat} {ret : Option FieldType} {rm : Room} {n9 : Nat} (hts : ∀ w ∈ jWS, w.before args s = true) (h0 : jY0 y bytes maxL ret n9 args s) (hl : va_Nw (.methodLinkNest own index y RX10) s) (hR : rm.frames + 1 ≤ R.frames ∧ 8 + (maxL + 11) + rm.locals ≤ R.locals) : va_CN R s args own index y RX10 bytes maxL ret (Cond.code y bytes maxL ret :: jWS) rm rm.cells rm.slots n9 :=
  va_cnB n9 hts (fun w h => (List.mem_cons.mp h).elim (fun e => by rw [e]; exact jWS_good _ h0.1) (fun h => jWS_good w h)) rfl rfl rfl hl h0.2.1 ⟨h0.2.2.1.1, h0.2.2.1.2, h0.2.2.2⟩ hR
theorem jr_callV {y : MethodName} {n9 b ci q0 : Nat} {fs : List Value} {rm : Room} {wc : va_W} {post : Option Value → va_W → Prop} {px : String → va_W → Prop} {st : List Value} {bytes : ByteArray} {maxL : Nat} {ret : Option FieldType} {index : Nat} (As : List Value) (C : jC p l s m args c D t A own cc nL) (hd : decode cc pc = .ok (.invokevirtual index, 3)) (hy : jYV own index y bytes maxL ret n9 args s) (hM : jKx l t y (Cond.code y bytes maxL ret :: jWS) rm (.ref b :: As) wc post px) (isC : List Nat) (hC : isC.map (fun i => ws[i]?) = wc.map some) (hn : va_nd isC = true) (he : ws[q0]? = some (b, .inr (ci, fs))) (hcl : (vwCl[ci]?).map (fun q => q.1) = some y.cls) (hst : st = As.reverse ++ .ref b :: rest) (hn9 : As.length = n9) (hR : rm.frames + 1 ≤ R.frames ∧ 8 + (maxL + 11) + rm.locals ≤ R.locals ∧ k + rm.cells ≤ R.cells ∧ n + rm.slots ≤ R.slots) (hW : (rest.map fun v => v.category).sum ≤ 8) (hsame : ∀ v u, post v u → (u.take wc.length).map Prod.fst = wc.map Prod.fst) (hsameX : ∀ E u, px E u → (u.take wc.length).map Prod.fst = wc.map Prod.fst) (kx : ∀ E u, px E u → JX p l e R s m args below meth c D A nL Q (jput ws isC (u.take wc.length) ++ u.drop wc.length) lv pc rest (k + rm.cells) (n + rm.slots) E) (kk : ∀ v u, post v u → J p l e R s m args below meth c D A nL Q (jput ws isC (u.take wc.length) ++ u.drop wc.length) lv (pc + 3) (v.toList ++ rest) (k + rm.cells) (n + rm.slots)) : J p l e R s m args below meth c D A nL Q ws lv pc st k n := by
  subst hst
  refine jr_call (a := (Value.ref b :: As).toArray) C isC hC hn (fun H locs ls hP hD hS hl => ?_) hsame hsameX kx kk
  have hpre := jr_pre (av := .ref b :: As) C hP hD hS isC hC hn
  obtain ⟨r, hr, cell, q1, q2, q3, q4⟩ := hP q0 _ he
  have hcls : s.vm.findClass y.cls = some cell.cls := by
    rw [show vwCl[ci]? = some r from hr] at hcl
    have h5 := (C.2.2.2.2.2.1.1 ci r hr).2.1
    rw [← Option.some.inj hcl, q2]
    exact h5
  exact vx_runV (As := As) (rest := rest) (g := F0 m pc ls _) ⟨C.1, C.2.1, C.2.2.1, C.2.2.2.1, C.2.2.2.2.1⟩ (hM D H.size) ⟨jr_cw C.2.2.2.2.1 hy.1 hy.2.1 ⟨hR.1, hR.2.1⟩, hy.2.2.1, hy.2.2.2⟩ ⟨hpre.1, ⟨cell, q1, by rw [q3]; rfl, hcls⟩, hpre.2⟩ rfl hn9 hl.1 rfl (lv_room hW) hd ⟨hR.2.2.1, hR.2.2.2⟩
theorem jr_callS {y : MethodName} {n9 : Nat} {rm : Room} {wc : va_W} {post : Option Value → va_W → Prop} {px : String → va_W → Prop} {st : List Value} {bytes : ByteArray} {maxL : Nat} {ret : Option FieldType} {index : Nat} (As : List Value) (C : jC p l s m args c D t A own cc nL) (hd : decode cc pc = .ok (.invokestatic index, 3)) (hy : jYS own index y bytes maxL ret n9 args s) (hM : jKx l t y (Cond.code y bytes maxL ret :: jWS) rm As wc post px) (isC : List Nat) (hC : isC.map (fun i => ws[i]?) = wc.map some) (hn : va_nd isC = true) (hst : st = As.reverse ++ rest) (hn9 : As.length = n9) (hR : rm.frames + 1 ≤ R.frames ∧ 8 + (maxL + 11) + rm.locals ≤ R.locals ∧ k + rm.cells ≤ R.cells ∧ n + rm.slots ≤ R.slots) (hW : (rest.map fun v => v.category).sum ≤ 8) (hsame : ∀ v u, post v u → (u.take wc.length).map Prod.fst = wc.map Prod.fst) (hsameX : ∀ E u, px E u → (u.take wc.length).map Prod.fst = wc.map Prod.fst) (kx : ∀ E u, px E u → JX p l e R s m args below meth c D A nL Q (jput ws isC (u.take wc.length) ++ u.drop wc.length) lv pc rest (k + rm.cells) (n + rm.slots) E) (kk : ∀ v u, post v u → J p l e R s m args below meth c D A nL Q (jput ws isC (u.take wc.length) ++ u.drop wc.length) lv (pc + 3) (v.toList ++ rest) (k + rm.cells) (n + rm.slots)) : J p l e R s m args below meth c D A nL Q ws lv pc st k n := by
  subst hst
  refine jr_call (a := As.toArray) C isC hC hn (fun H locs ls hP hD hS hl => ?_) hsame hsameX kx kk
  have hpre := jr_pre (av := As) C hP hD hS isC hC hn
  exact vx_runS (As := As) (rest := rest) (g := F0 m pc ls _) ⟨C.1, C.2.1, C.2.2.1, C.2.2.2.1, C.2.2.2.2.1⟩ (hM D H.size) ⟨jr_cw C.2.2.2.2.1 hy.1 hy.2.1 ⟨hR.1, hR.2.1⟩, hy.2.2⟩ hpre rfl hn9 hl.1 rfl (lv_room hW) hd ⟨hR.2.2.1, hR.2.2.2⟩
theorem jr_callSN {y : MethodName} {n9 : Nat} {rm : Room} {wc : va_W} {post : Option Value → va_W → Prop} {px : String → va_W → Prop} {st : List Value} {bytes : ByteArray} {maxL : Nat} {ret : Option FieldType} {index : Nat} (As : List Value) (C : jC p l s m args c D t A own cc nL) (hd : decode cc pc = .ok (.invokestatic index, 3)) (hy : jYSN own index y bytes maxL ret n9 args s) (hM : jKx l t y (Cond.code y bytes maxL ret :: jWS) rm As wc post px) (isC : List Nat) (hC : isC.map (fun i => ws[i]?) = wc.map some) (hn : va_nd isC = true) (hst : st = As.reverse ++ rest) (hn9 : As.length = n9) (hR : rm.frames + 1 ≤ R.frames ∧ 8 + (maxL + 11) + rm.locals ≤ R.locals ∧ k + rm.cells ≤ R.cells ∧ n + rm.slots ≤ R.slots) (hW : (rest.map fun v => v.category).sum ≤ 8) (hsame : ∀ v u, post v u → (u.take wc.length).map Prod.fst = wc.map Prod.fst) (hsameX : ∀ E u, px E u → (u.take wc.length).map Prod.fst = wc.map Prod.fst) (kx : ∀ E u, px E u → JX p l e R s m args below meth c D A nL Q (jput ws isC (u.take wc.length) ++ u.drop wc.length) lv pc rest (k + rm.cells) (n + rm.slots) E) (kk : ∀ v u, post v u → J p l e R s m args below meth c D A nL Q (jput ws isC (u.take wc.length) ++ u.drop wc.length) lv (pc + 3) (v.toList ++ rest) (k + rm.cells) (n + rm.slots)) : J p l e R s m args below meth c D A nL Q ws lv pc st k n := by
  subst hst
  refine jr_call (a := As.toArray) C isC hC hn (fun H locs ls hP hD hS hl => ?_) hsame hsameX kx kk
  have hpre := jr_pre (av := As) C hP hD hS isC hC hn
  exact vx_runSN (As := As) (rest := rest) (g := F0 m pc ls _) ⟨C.1, C.2.1, C.2.2.1, C.2.2.2.1, C.2.2.2.2.1⟩ (hM D H.size) ⟨jr_cn C.2.2.2.2.1 hy.1 hy.2.1 ⟨hR.1, hR.2.1⟩, hy.2.2, trivial⟩ hpre rfl hn9 hl.1 rfl (lv_room hW) hd ⟨hR.2.2.1, hR.2.2.2⟩
theorem jr_callI {y : MethodName} {n9 b : Nat} {rm : Room} {wc : va_W} {post : Option Value → va_W → Prop} {px : String → va_W → Prop} {st : List Value} {bytes : ByteArray} {maxL : Nat} {index : Nat} (As : List Value) (C : jC p l s m args c D t A own cc nL) (hd : decode cc pc = .ok (.invokespecial index, 3)) (hy : jYI own index y bytes maxL none n9 args s) (hM : jKx l t y (Cond.code y bytes maxL none :: jWS) rm (.ref b :: As) wc post px) (isC : List Nat) (hC : isC.map (fun i => ws[i]?) = wc.map some) (hn : va_nd isC = true) (hst : st = As.reverse ++ .ref b :: rest) (hn9 : As.length = n9) (hR : rm.frames + 1 ≤ R.frames ∧ 8 + (maxL + 11) + rm.locals ≤ R.locals ∧ k + rm.cells ≤ R.cells ∧ n + rm.slots ≤ R.slots) (hW : (rest.map fun v => v.category).sum ≤ 8) (hsame : ∀ v u, post v u → (u.take wc.length).map Prod.fst = wc.map Prod.fst) (hsameX : ∀ E u, px E u → (u.take wc.length).map Prod.fst = wc.map Prod.fst) (kx : ∀ E u, px E u → JX p l e R s m args below meth c D A nL Q (jput ws isC (u.take wc.length) ++ u.drop wc.length) lv pc rest (k + rm.cells) (n + rm.slots) E) (kk : ∀ v u, post v u → J p l e R s m args below meth c D A nL Q (jput ws isC (u.take wc.length) ++ u.drop wc.length) lv (pc + 3) (v.toList ++ rest) (k + rm.cells) (n + rm.slots)) : J p l e R s m args below meth c D A nL Q ws lv pc st k n := by
  subst hst
  refine jr_call (a := (Value.ref b :: As).toArray) C isC hC hn (fun H locs ls hP hD hS hl => ?_) hsame hsameX kx kk
  have hpre := jr_pre (av := .ref b :: As) C hP hD hS isC hC hn
  exact vx_runI (As := As) (rest := rest) (g := F0 m pc ls _) ⟨C.1, C.2.1, C.2.2.1, C.2.2.2.1, C.2.2.2.2.1⟩ (hM D H.size) ⟨jr_cw C.2.2.2.2.1 hy.1 hy.2.1 ⟨hR.1, hR.2.1⟩, hy.2.2.2, hy.2.2.1⟩ hpre rfl hn9 hl.1 rfl (lv_room hW) hd ⟨hR.2.2.1, hR.2.2.2⟩
theorem jr_callIN {y : MethodName} {n9 b : Nat} {rm : Room} {wc : va_W} {post : Option Value → va_W → Prop} {px : String → va_W → Prop} {st : List Value} {bytes : ByteArray} {maxL : Nat} {index : Nat} (As : List Value) (C : jC p l s m args c D t A own cc nL) (hd : decode cc pc = .ok (.invokespecial index, 3)) (hy : jYIN own index y bytes maxL none n9 args s) (hM : jKx l t y (Cond.code y bytes maxL none :: jWS) rm (.ref b :: As) wc post px) (isC : List Nat) (hC : isC.map (fun i => ws[i]?) = wc.map some) (hn : va_nd isC = true) (hst : st = As.reverse ++ .ref b :: rest) (hn9 : As.length = n9) (hR : rm.frames + 1 ≤ R.frames ∧ 8 + (maxL + 11) + rm.locals ≤ R.locals ∧ k + rm.cells ≤ R.cells ∧ n + rm.slots ≤ R.slots) (hW : (rest.map fun v => v.category).sum ≤ 8) (hsame : ∀ v u, post v u → (u.take wc.length).map Prod.fst = wc.map Prod.fst) (hsameX : ∀ E u, px E u → (u.take wc.length).map Prod.fst = wc.map Prod.fst) (kx : ∀ E u, px E u → JX p l e R s m args below meth c D A nL Q (jput ws isC (u.take wc.length) ++ u.drop wc.length) lv pc rest (k + rm.cells) (n + rm.slots) E) (kk : ∀ v u, post v u → J p l e R s m args below meth c D A nL Q (jput ws isC (u.take wc.length) ++ u.drop wc.length) lv (pc + 3) (v.toList ++ rest) (k + rm.cells) (n + rm.slots)) : J p l e R s m args below meth c D A nL Q ws lv pc st k n := by
  subst hst
  refine jr_call (a := (Value.ref b :: As).toArray) C isC hC hn (fun H locs ls hP hD hS hl => ?_) hsame hsameX kx kk
  have hpre := jr_pre (av := .ref b :: As) C hP hD hS isC hC hn
  exact vx_runIN (As := As) (rest := rest) (g := F0 m pc ls _) ⟨C.1, C.2.1, C.2.2.1, C.2.2.2.1, C.2.2.2.2.1⟩ (hM D H.size) ⟨jr_cn C.2.2.2.2.1 hy.1 hy.2.1 ⟨hR.1, hR.2.1⟩, hy.2.2.2, hy.2.2.1⟩ hpre rfl hn9 hl.1 rfl (lv_room hW) hd ⟨hR.2.2.1, hR.2.2.2⟩
theorem jr_callU {C9 : String} {x y : MethodName} {n9 b ci q0 : Nat} {fs : List Value} {rm : Room} {wc : va_W} {post : Option Value → va_W → Prop} {px : String → va_W → Prop} {st : List Value} {bytes : ByteArray} {maxL : Nat} {ret : Option FieldType} {index : Nat} (As : List Value) (C : jC p l s m args c D t A own cc nL) (hd : decode cc pc = .ok (.invokevirtual index, 3)) (hy : jYU own index C9 x y bytes maxL ret n9 args s) (hM : jKx l t y (Cond.code y bytes maxL ret :: jWS) rm (.ref b :: As) wc post px) (isC : List Nat) (hC : isC.map (fun i => ws[i]?) = wc.map some) (hn : va_nd isC = true) (he : ws[q0]? = some (b, .inr (ci, fs))) (hcl : (vwCl[ci]?).map (fun q => q.1) = some C9) (hst : st = As.reverse ++ .ref b :: rest) (hn9 : As.length = n9) (hR : rm.frames + 1 ≤ R.frames ∧ 8 + (maxL + 11) + rm.locals ≤ R.locals ∧ k + rm.cells ≤ R.cells ∧ n + rm.slots ≤ R.slots) (hW : (rest.map fun v => v.category).sum ≤ 8) (hsame : ∀ v u, post v u → (u.take wc.length).map Prod.fst = wc.map Prod.fst) (hsameX : ∀ E u, px E u → (u.take wc.length).map Prod.fst = wc.map Prod.fst) (kx : ∀ E u, px E u → JX p l e R s m args below meth c D A nL Q (jput ws isC (u.take wc.length) ++ u.drop wc.length) lv pc rest (k + rm.cells) (n + rm.slots) E) (kk : ∀ v u, post v u → J p l e R s m args below meth c D A nL Q (jput ws isC (u.take wc.length) ++ u.drop wc.length) lv (pc + 3) (v.toList ++ rest) (k + rm.cells) (n + rm.slots)) : J p l e R s m args below meth c D A nL Q ws lv pc st k n := by
  subst hst
  refine jr_call (a := (Value.ref b :: As).toArray) C isC hC hn (fun H locs ls hP hD hS hl => ?_) hsame hsameX kx kk
  have hpre := jr_pre (av := .ref b :: As) C hP hD hS isC hC hn
  obtain ⟨r, hr, cell, q1, q2, q3, q4⟩ := hP q0 _ he
  have hcls : s.vm.findClass C9 = some cell.cls := by
    rw [show vwCl[ci]? = some r from hr] at hcl
    have h5 := (C.2.2.2.2.2.1.1 ci r hr).2.1
    rw [← Option.some.inj hcl, q2]
    exact h5
  have hc9 : Cond.code y bytes maxL ret ∈ Cond.code y bytes maxL ret :: jWS := List.mem_cons_self
  have hG : GoodIn jWS (Cond.code y bytes maxL ret :: jWS) := fun w h => (List.mem_cons.mp h).elim (fun e => by rw [e]; exact jWS_good _ hy.1.1) (fun h => jWS_good w h)
  exact vx_runU (As := As) (rest := rest) (g := F0 m pc ls _) (owner := x.cls) ⟨C.1, C.2.1, C.2.2.1, C.2.2.2.1, C.2.2.2.2.1⟩ (hM D H.size) ⟨⟨rfl, rfl, hR.1, hR.2.1, pay_in C.2.2.2.2.1 hG, hc9⟩, C.2.2.2.2.1 _ hy.1.1, hy.1.2.1, ⟨hy.1.2.2.1, hy.1.2.2.2.1⟩, fun sig h => by have h2 := hy.1.2.2.2.2; rw [h] at h2; exact (Option.some.inj h2).symm, hy.2.1, hy.2.2.1, va_Decl.abs hy.2.2.2.2.2, hy.2.2.2.1, hy.2.2.2.2.1⟩ ⟨hpre.1, ⟨cell, q1, by rw [q3]; rfl, hcls⟩, hpre.2⟩ rfl hn9 hl.1 rfl (lv_room hW) hd ⟨hR.2.2.1, hR.2.2.2⟩
theorem jr_norm (ws' : va_W) (st' : List Value) (pc' k' n' : Nat) {st : List Value} (h1 : ws = ws') (h2 : st = st') (h3 : pc = pc') (h4 : k = k') (h5 : n = n') (k9 : J p l e R s m args below meth c D A nL Q ws' lv pc' st' k' n') : J p l e R s m args below meth c D A nL Q ws lv pc st k n := by
  subst h1 h2 h3 h4 h5
  exact k9
theorem jr_norm0 (lv' : List (Nat × Value)) (h : lv = lv') (k9 : J p l e R s m args below meth c D A nL Q ws lv' pc rest k n) : J p l e R s m args below meth c D A nL Q ws lv pc rest k n := h ▸ k9
theorem jr_objInit {i a : Nat} (C : jC p l s m args c D t A own cc nL) (hd : decode cc pc = .ok (.invokespecial i, 3)) (h : (Cond.methodLink own i objectInit).before args s = true ∧ (Cond.instanceMethod objectInit).before args s = true ∧ (Cond.code objectInit ⟨#[0xb1]⟩ 1 none).before args s = true) (hR : 1 ≤ R.frames) (hR2 : (rest.map fun v => v.category).sum + 12 ≤ R.locals) (k9 : J p l e R s m args below meth c D A nL Q ws lv (pc + 3) rest k n) : J p l e R s m args below meth c D A nL Q ws lv pc (.ref a :: rest) k n := fun H locs ls hP hD hS hl => W.objInit C.1 C.2.1 C.2.2.2.1 h.1 h.2.1 h.2.2 rfl (hl.1.trans C.2.2.1.symm) rfl hd hR (show 2 * 0 + _ + 12 ≤ _ by omega) (k9 H locs ls hP hD hS hl)
theorem jr_aload_nN {i : Fin 4} (C : jC p l s m args c D t A own cc nL) (hd : decode cc pc = .ok (.aload_n i, 1)) (j : Nat) (h9 : lv[j]? = some ((i : Nat), .null)) (k9 : J p l e R s m args below meth c D A nL Q ws lv (pc + 1) (.null :: rest) k n) : J p l e R s m args below meth c D A nL Q ws lv pc rest k n := fun H locs ls hP hD hS hl => lv_aload_nN C.1 C.2.1 hd rfl (lv_at hl j h9) (k9 H locs ls hP hD hS hl)
theorem jr_dconst0 (C : jC p l s m args c D t A own cc nL) (hd : decode cc pc = .ok (.dconst 0, 1)) (k9 : J p l e R s m args below meth c D A nL Q ws lv (pc + 1) (.double 0 :: rest) k n) : J p l e R s m args below meth c D A nL Q ws lv pc rest k n := fun H locs ls hP hD hS hl => lv_dconst0 C.1 C.2.1 hd (k9 H locs ls hP hD hS hl)
theorem jb01n {x : Int32} (h : x = 0 ∨ x = 1) : narrow .boolean (.int x) = .int x := by rcases h with rfl | rfl <;> rfl
theorem jb01f {x : Int32} (h : x = 0 ∨ x = 1) : fits .boolean (.int x) = true := by rcases h with rfl | rfl <;> rfl
def jupD (f : Nat → UInt64) (k : Nat) (x : UInt64) : Nat → UInt64 := fun j => if j = k then x else f j
/-- a contract out of a walk -/
theorem jK_of {y : MethodName} {cc : ByteArray} {nL : Nat} {ret : Option FieldType} {rm : Room} {av : List Value} {wc : va_W} {post : Option Value → va_W → Prop} {px : String → va_W → Prop} (hfl : l.stackTraces = false) (hy : plainName y.cls = true) (hsl : (lg_sl av).length ≤ nL)
    (body : ∀ (p : Program) (e : Env) (s : State) (m : MethodId) (args : Array Value) (below : List Frame) (meth : Method) (c : Code) (D : va_G) (A : Nat → Prop) (Q : State → Prop), jC p l s m args c D t A y.cls cc nL → jM below args s meth c D t A Q rm wc post px ret y.name → J p l e rm s m args below meth c D A nL Q wc (lv_args 0 av) 0 [] 0 0) : jKx l t y (Cond.code y cc nL ret :: jWS) rm av wc post px := by
  intro D sz
  refine vx_ofW (cc := cc) (maxL := nL) (ret := ret) hy rfl ?_
  intro p e s m args below meth c s₁ B hml hno hv
  obtain ⟨rfl, hsz, hP, hK, hD0, hE⟩ := hv
  subst hsz
  have hts := atoms_spec (ws := Cond.code y cc nL ret :: jWS) B.pre
  have hown : s.vm.findClass y.cls = some m.cls := findClass_of_methodNamed B.named
  have C : jC p l s m av.toArray c D t (va_A wc s.heap.size) y.cls cc nL := ⟨B.exec, B.bytes, hml, hown, fun w h => hts w (List.mem_cons_of_mem _ h), hK, fun q h => Or.inr h, hE, hfl⟩
  have hl := lv_entry av (n := nL) hsl
  rw [lg_entry_eq]
  exact body p e s m av.toArray below meth c D (va_A wc s.heap.size) _ C ⟨rfl, rfl, B.returns, B.notSynchronized, hno, (name_of_methodNamed B.named B.method).1⟩ s.heap [] _ hP (hD0.self (sz := s.heap.size)) va_S.rf hl
end JR
