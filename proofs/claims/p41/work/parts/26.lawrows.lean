/-! the law: its wrappers' words -/
def jYSW (own : String) (index : Nat) (y : MethodName) (bytes : ByteArray) (maxL : Nat) (ret : Option FieldType) (hh : List (Nat × Nat × Nat × Nat)) (n9 : Nat) (args : Array Value) (s : State) : Prop := (Cond.codeWith y bytes maxL ret hh ∈ jWS ∧ (Cond.initialized y.cls).before args s = true ∧ (y.cls ≠ "java/lang/invoke/MethodHandle" ∧ y.cls ≠ "java/lang/invoke/VarHandle") ∧ (parseMethodDescriptor y.desc).map (fun d => d.parameters.length) = some n9) ∧ (Cond.methodLink own index y).before args s = true ∧ (Cond.static y).before args s = true
def jwl_0 : List Cond := [.methodLink RL 182 yL_sets, .static yL_sets, .initialized RL]
set_option maxRecDepth 100000 in
theorem jwx_0 : GoodIn tables_1_1 jwl_0 := goodIn_r _ [223, 224, 0] (by decide +kernel) (by decide +kernel)
theorem jw_0 : ∀ w ∈ jwl_0, w ∈ jWS := fun w h => jm_1 _ (jwx_0 w h).1 (jgood_of (jwx_0 w h).2)
def jwl_1 : List Cond := [.codeWith yL_sets cL_sets 8 (some .int) [(0, 13, 14, 39), (0, 13, 19, 41)]]
set_option maxRecDepth 100000 in
theorem jwx_1 : GoodIn tables_1_1 jwl_1 := goodIn_r _ [225] rfl (by decide +kernel)
theorem jw_1 : ∀ w ∈ jwl_1, w ∈ jWS := fun w h => jm_1 _ (jwx_1 w h).1 (jgood_of (jwx_1 w h).2)
def jwl_2 : List Cond := [.methodLink RL 212 yL_holds, .static yL_holds, .methodLink RL 179 yL_comes, .static yL_comes]
set_option maxRecDepth 100000 in
theorem jwx_2 : GoodIn tables_1_2 jwl_2 := goodIn_r _ [197, 198, 204, 205] (by decide +kernel) (by decide +kernel)
theorem jw_2 : ∀ w ∈ jwl_2, w ∈ jWS := fun w h => jm_2 _ (jwx_2 w h).1 (jgood_of (jwx_2 w h).2)
def jwl_3 : List Cond := [.codeWith yL_holds cL_holds 3 (some .int) [(0, 5, 6, 39)], .codeWith yL_comes cL_comes 7 (some .int) [(0, 31, 32, 39)]]
set_option maxRecDepth 100000 in
theorem jwx_3 : GoodIn tables_1_2 jwl_3 := goodIn_r _ [199, 206] rfl (by decide +kernel)
theorem jw_3 : ∀ w ∈ jwl_3, w ∈ jWS := fun w h => jm_2 _ (jwx_3 w h).1 (jgood_of (jwx_3 w h).2)
def jwl_4 : List Cond := [.methodLink RL 194 yL_puts, .static yL_puts, .methodLink RL 165 yL_offence, .static yL_offence, .methodLink RL 117 yL_value, .static yL_value, .methodLink RL 124 yL_measured, .static yL_measured]
set_option maxRecDepth 100000 in
theorem jwx_4 : GoodIn tables_1_3 jwl_4 := goodIn_r _ [51, 52, 107, 108, 162, 163, 179, 180] (by decide +kernel) (by decide +kernel)
theorem jw_4 : ∀ w ∈ jwl_4, w ∈ jWS := fun w h => jm_3 _ (jwx_4 w h).1 (jgood_of (jwx_4 w h).2)
def jwl_5 : List Cond := [.codeWith yL_puts cL_puts 4 (some .int) [(0, 43, 44, 39), (0, 43, 48, 41)], .codeWith yL_offence cL_offence 2 (some .int) [(0, 4, 5, 92)], .codeWith yL_value cL_value 5 (some .int) [(0, 7, 8, 58), (0, 7, 14, 39)], .codeWith yL_measured cL_measured 7 (some .int) [(0, 53, 54, 58), (0, 53, 59, 39), (0, 53, 64, 41), (0, 53, 69, 92)]]
set_option maxRecDepth 100000 in
theorem jwx_5 : GoodIn tables_1_3 jwl_5 := goodIn_r _ [53, 109, 164, 181] rfl (by decide +kernel)
theorem jw_5 : ∀ w ∈ jwl_5, w ∈ jWS := fun w h => jm_3 _ (jwx_5 w h).1 (jgood_of (jwx_5 w h).2)
def jwl_6 : List Cond := [.methodLink RL 132 yL_rescanned, .static yL_rescanned, .methodLink RL 143 yL_grouped, .static yL_grouped, .methodLink RL 173 yL_traced, .static yL_traced]
set_option maxRecDepth 100000 in
theorem jwx_6 : GoodIn tables_1_4 jwl_6 := goodIn_r _ [18, 19, 51, 52, 79, 80] (by decide +kernel) (by decide +kernel)
theorem jw_6 : ∀ w ∈ jwl_6, w ∈ jWS := fun w h => jm_4 _ (jwx_6 w h).1 (jgood_of (jwx_6 w h).2)
def jwl_7 : List Cond := [.codeWith yL_rescanned cL_rescanned 3 (some .int) [(0, 5, 6, 58)], .codeWith yL_grouped cL_grouped 7 (some .int) [(0, 45, 46, 39), (0, 45, 52, 58)], .codeWith yL_traced cL_traced 4 (some .int) [(0, 6, 7, 58), (0, 6, 11, 41)]]
set_option maxRecDepth 100000 in
theorem jwx_7 : GoodIn tables_1_4 jwl_7 := goodIn_r _ [20, 53, 81] rfl (by decide +kernel)
theorem jw_7 : ∀ w ∈ jwl_7, w ∈ jWS := fun w h => jm_4 _ (jwx_7 w h).1 (jgood_of (jwx_7 w h).2)
theorem jy_L_182 {p : Program} {l : Launch} {s : State} {m : MethodId} {args : Array Value} {c : Code} {D : va_G} {t : Nat → ClassId} {A : Nat → Prop} {cc : ByteArray} {nL : Nat} (C : jC p l s m args c D t A RL cc nL) : jYSW RL 182 yL_sets cL_sets 8 (some .int) [(0, 13, 14, 39), (0, 13, 19, 41)] 7 args s := ⟨⟨(jw_1 _ (List.mem_of_getElem? (i := 0) rfl)), C.2.2.2.2.1 _ (jw_0 _ (List.mem_of_getElem? (i := 2) rfl)), by decide +kernel, by decide +kernel⟩, C.2.2.2.2.1 _ (jw_0 _ (List.mem_of_getElem? (i := 0) rfl)), C.2.2.2.2.1 _ (jw_0 _ (List.mem_of_getElem? (i := 1) rfl))⟩
theorem jy_L_212 {p : Program} {l : Launch} {s : State} {m : MethodId} {args : Array Value} {c : Code} {D : va_G} {t : Nat → ClassId} {A : Nat → Prop} {cc : ByteArray} {nL : Nat} (C : jC p l s m args c D t A RL cc nL) : jYSW RL 212 yL_holds cL_holds 3 (some .int) [(0, 5, 6, 39)] 2 args s := ⟨⟨(jw_3 _ (List.mem_of_getElem? (i := 0) rfl)), C.2.2.2.2.1 _ (jw_0 _ (List.mem_of_getElem? (i := 2) rfl)), by decide +kernel, by decide +kernel⟩, C.2.2.2.2.1 _ (jw_2 _ (List.mem_of_getElem? (i := 0) rfl)), C.2.2.2.2.1 _ (jw_2 _ (List.mem_of_getElem? (i := 1) rfl))⟩
theorem jy_L_179 {p : Program} {l : Launch} {s : State} {m : MethodId} {args : Array Value} {c : Code} {D : va_G} {t : Nat → ClassId} {A : Nat → Prop} {cc : ByteArray} {nL : Nat} (C : jC p l s m args c D t A RL cc nL) : jYSW RL 179 yL_comes cL_comes 7 (some .int) [(0, 31, 32, 39)] 6 args s := ⟨⟨(jw_3 _ (List.mem_of_getElem? (i := 1) rfl)), C.2.2.2.2.1 _ (jw_0 _ (List.mem_of_getElem? (i := 2) rfl)), by decide +kernel, by decide +kernel⟩, C.2.2.2.2.1 _ (jw_2 _ (List.mem_of_getElem? (i := 2) rfl)), C.2.2.2.2.1 _ (jw_2 _ (List.mem_of_getElem? (i := 3) rfl))⟩
theorem jy_L_194 {p : Program} {l : Launch} {s : State} {m : MethodId} {args : Array Value} {c : Code} {D : va_G} {t : Nat → ClassId} {A : Nat → Prop} {cc : ByteArray} {nL : Nat} (C : jC p l s m args c D t A RL cc nL) : jYSW RL 194 yL_puts cL_puts 4 (some .int) [(0, 43, 44, 39), (0, 43, 48, 41)] 3 args s := ⟨⟨(jw_5 _ (List.mem_of_getElem? (i := 0) rfl)), C.2.2.2.2.1 _ (jw_0 _ (List.mem_of_getElem? (i := 2) rfl)), by decide +kernel, by decide +kernel⟩, C.2.2.2.2.1 _ (jw_4 _ (List.mem_of_getElem? (i := 0) rfl)), C.2.2.2.2.1 _ (jw_4 _ (List.mem_of_getElem? (i := 1) rfl))⟩
theorem jy_L_165 {p : Program} {l : Launch} {s : State} {m : MethodId} {args : Array Value} {c : Code} {D : va_G} {t : Nat → ClassId} {A : Nat → Prop} {cc : ByteArray} {nL : Nat} (C : jC p l s m args c D t A RL cc nL) : jYSW RL 165 yL_offence cL_offence 2 (some .int) [(0, 4, 5, 92)] 1 args s := ⟨⟨(jw_5 _ (List.mem_of_getElem? (i := 1) rfl)), C.2.2.2.2.1 _ (jw_0 _ (List.mem_of_getElem? (i := 2) rfl)), by decide +kernel, by decide +kernel⟩, C.2.2.2.2.1 _ (jw_4 _ (List.mem_of_getElem? (i := 2) rfl)), C.2.2.2.2.1 _ (jw_4 _ (List.mem_of_getElem? (i := 3) rfl))⟩
theorem jy_L_117 {p : Program} {l : Launch} {s : State} {m : MethodId} {args : Array Value} {c : Code} {D : va_G} {t : Nat → ClassId} {A : Nat → Prop} {cc : ByteArray} {nL : Nat} (C : jC p l s m args c D t A RL cc nL) : jYSW RL 117 yL_value cL_value 5 (some .int) [(0, 7, 8, 58), (0, 7, 14, 39)] 4 args s := ⟨⟨(jw_5 _ (List.mem_of_getElem? (i := 2) rfl)), C.2.2.2.2.1 _ (jw_0 _ (List.mem_of_getElem? (i := 2) rfl)), by decide +kernel, by decide +kernel⟩, C.2.2.2.2.1 _ (jw_4 _ (List.mem_of_getElem? (i := 4) rfl)), C.2.2.2.2.1 _ (jw_4 _ (List.mem_of_getElem? (i := 5) rfl))⟩
theorem jy_L_124 {p : Program} {l : Launch} {s : State} {m : MethodId} {args : Array Value} {c : Code} {D : va_G} {t : Nat → ClassId} {A : Nat → Prop} {cc : ByteArray} {nL : Nat} (C : jC p l s m args c D t A RL cc nL) : jYSW RL 124 yL_measured cL_measured 7 (some .int) [(0, 53, 54, 58), (0, 53, 59, 39), (0, 53, 64, 41), (0, 53, 69, 92)] 6 args s := ⟨⟨(jw_5 _ (List.mem_of_getElem? (i := 3) rfl)), C.2.2.2.2.1 _ (jw_0 _ (List.mem_of_getElem? (i := 2) rfl)), by decide +kernel, by decide +kernel⟩, C.2.2.2.2.1 _ (jw_4 _ (List.mem_of_getElem? (i := 6) rfl)), C.2.2.2.2.1 _ (jw_4 _ (List.mem_of_getElem? (i := 7) rfl))⟩
theorem jy_L_132 {p : Program} {l : Launch} {s : State} {m : MethodId} {args : Array Value} {c : Code} {D : va_G} {t : Nat → ClassId} {A : Nat → Prop} {cc : ByteArray} {nL : Nat} (C : jC p l s m args c D t A RL cc nL) : jYSW RL 132 yL_rescanned cL_rescanned 3 (some .int) [(0, 5, 6, 58)] 2 args s := ⟨⟨(jw_7 _ (List.mem_of_getElem? (i := 0) rfl)), C.2.2.2.2.1 _ (jw_0 _ (List.mem_of_getElem? (i := 2) rfl)), by decide +kernel, by decide +kernel⟩, C.2.2.2.2.1 _ (jw_6 _ (List.mem_of_getElem? (i := 0) rfl)), C.2.2.2.2.1 _ (jw_6 _ (List.mem_of_getElem? (i := 1) rfl))⟩
theorem jy_L_143 {p : Program} {l : Launch} {s : State} {m : MethodId} {args : Array Value} {c : Code} {D : va_G} {t : Nat → ClassId} {A : Nat → Prop} {cc : ByteArray} {nL : Nat} (C : jC p l s m args c D t A RL cc nL) : jYSW RL 143 yL_grouped cL_grouped 7 (some .int) [(0, 45, 46, 39), (0, 45, 52, 58)] 6 args s := ⟨⟨(jw_7 _ (List.mem_of_getElem? (i := 1) rfl)), C.2.2.2.2.1 _ (jw_0 _ (List.mem_of_getElem? (i := 2) rfl)), by decide +kernel, by decide +kernel⟩, C.2.2.2.2.1 _ (jw_6 _ (List.mem_of_getElem? (i := 2) rfl)), C.2.2.2.2.1 _ (jw_6 _ (List.mem_of_getElem? (i := 3) rfl))⟩
theorem jy_L_173 {p : Program} {l : Launch} {s : State} {m : MethodId} {args : Array Value} {c : Code} {D : va_G} {t : Nat → ClassId} {A : Nat → Prop} {cc : ByteArray} {nL : Nat} (C : jC p l s m args c D t A RL cc nL) : jYSW RL 173 yL_traced cL_traced 4 (some .int) [(0, 6, 7, 58), (0, 6, 11, 41)] 3 args s := ⟨⟨(jw_7 _ (List.mem_of_getElem? (i := 2) rfl)), C.2.2.2.2.1 _ (jw_0 _ (List.mem_of_getElem? (i := 2) rfl)), by decide +kernel, by decide +kernel⟩, C.2.2.2.2.1 _ (jw_6 _ (List.mem_of_getElem? (i := 4) rfl)), C.2.2.2.2.1 _ (jw_6 _ (List.mem_of_getElem? (i := 5) rfl))⟩
/-! a method with a table of handlers -/
def jMW (below : List Frame) (args : Array Value) (s : State) (meth : Method) (c : Code) (D : va_G) (t : Nat → ClassId) (A : Nat → Prop) (Q : State → Prop) (rm : Room) (wc : va_W) (post : Option Value → va_W → Prop) (px : String → va_W → Prop) (ret : Option FieldType) (hh : List (Nat × Nat × Nat × Nat)) : Prop :=
  Q = vx_MQ below (jQ D t s.heap.size wc post) (jX D t s.heap.size wc px) args s rm.cells rm.slots (va_A wc s.heap.size) ∧ A = va_A wc s.heap.size ∧ meth.sig.returnType = ret ∧ meth.locks = false ∧ c.exceptionTable.toList = tableOf hh
section JWR
variable {p : Program} {l : Launch} {e : Env} {R : Room} {s : State} {m : MethodId} {args : Array Value} {below : List Frame} {meth : Method} {c : Code} {D : va_G} {t : Nat → ClassId} {A : Nat → Prop} {own : String} {cc : ByteArray} {nL : Nat} {Q : State → Prop} {ws : va_W} {lv : List (Nat × Value)} {pc : Nat} {rest : List Value} {k n : Nat}
theorem jw_iret {v : Int32} {rm : Room} {wc : va_W} {post : Option Value → va_W → Prop} {px : String → va_W → Prop} {ret : Option FieldType} {hh : List (Nat × Nat × Nat × Nat)} (C : jC p l s m args c D t A own cc nL) (M : jMW below args s meth c D t A Q rm wc post px ret hh) (hd : decode cc pc = .ok (.ireturn, 1)) (hr : ret = some .int) (hk : k ≤ rm.cells) (hn9 : n ≤ rm.slots) (hp : post (some (.int v)) ws) : J p l e R s m args below meth c D A nL Q ws lv pc [.int v] k n := by
  obtain ⟨rfl, rfl, hrt, hlk, -⟩ := M
  subst hr
  intro H locs ls hP hD hS hl
  refine W.widen hk hn9 (vx_ret ?_)
  exact W.iret (v := v) C.1 C.2.1 hrt (fun T hT hW => ⟨⟨_, ws, rfl, hp, by rw [hT]; exact hP, va_K.moved hW.alike C.2.2.2.2.2.1, hD⟩, hS.F hT⟩) hS.2.2 hd hlk
theorem jw_pass {E : String} {own : String} {t0 : Nat} {nm : String} (C : jC p l s m args c D t A own cc nL) (h0 : t0 ≠ 0) (hk : (Cond.classLink own t0 nm).before args s = true) (hn : (E, nm) ∈ jNcs) : t0 ≠ 0 ∧ ∃ nm : String, (Cond.classLink own t0 nm).before args s = true ∧ va_Nc E nm s := ⟨h0, nm, hk, C.2.2.2.2.2.2.2.1.2.2.2.2.1 _ hn⟩
theorem jr_catch {E : String} {hh : List (Nat × Nat × Nat × Nat)} (x : Nat × Nat × Nat × Nat) (pre suf : List (Nat × Nat × Nat × Nat)) (C : jC p l s m args c D t A own cc nL) (hT : c.exceptionTable.toList = tableOf hh) (hs : hh = pre ++ x :: suf)
    (hpass : ∀ z ∈ pre, z.2.2.2 ≠ 0 ∧ ∃ nm : String, (Cond.classLink own z.2.2.2 nm).before args s = true ∧ va_Nc E nm s) (hx : covers ⟨x.1, x.2.1, x.2.2.1, x.2.2.2⟩ pc = true) (h0 : x.2.2.2 ≠ 0) (hlink : (Cond.classLink own x.2.2.2 E).before args s = true) (hE : E ∈ jExs)
    (k9 : ∀ q : Nat, J p l e R s m args below meth c D A nL Q ws lv x.2.2.1 [.ref q] k n) : JX p l e R s m args below meth c D A nL Q ws lv pc rest k n E := by
  intro H locs ls q ce hP hD hS hl hc hv hcl
  refine vx_catch C.2.2.2.1 (tableOf pre) ⟨x.1, x.2.1, x.2.2.1, x.2.2.2⟩ (tableOf suf) (by rw [hT, hs]; unfold tableOf; rw [List.map_append, List.map_cons]) (fun z hz => ?_) hx h0 hlink (va_Nw.use rfl (C.2.2.2.2.2.2.2.1.2.2.2.2.2.2.2.1 _ hE)) hc hv hcl (k9 q H locs ls hP hD hS hl)
  obtain ⟨w, hw, rfl⟩ := List.mem_map.mp hz
  exact Or.inr (hpass w hw)
theorem jK_ofW {y : MethodName} {cc : ByteArray} {nL : Nat} {ret : Option FieldType} {hh : List (Nat × Nat × Nat × Nat)} {rm : Room} {av : List Value} {wc : va_W} {post : Option Value → va_W → Prop} {px : String → va_W → Prop} (hfl : l.stackTraces = false) (hy : plainName y.cls = true) (hsl : (lg_sl av).length ≤ nL)
    (body : ∀ (p : Program) (e : Env) (s : State) (m : MethodId) (args : Array Value) (below : List Frame) (meth : Method) (c : Code) (D : va_G) (A : Nat → Prop) (Q : State → Prop), jC p l s m args c D t A y.cls cc nL → jMW below args s meth c D t A Q rm wc post px ret hh → J p l e rm s m args below meth c D A nL Q wc (lv_args 0 av) 0 [] 0 0) : jKx l t y (Cond.codeWith y cc nL ret hh :: jWS) rm av wc post px := by
  intro D sz
  refine vx_ofWH (cc := cc) (maxL := nL) (ret := ret) (hh := hh) hy rfl ?_
  intro p e s m args below meth c s₁ B hml hv
  obtain ⟨rfl, hsz, hP, hK, hD0, hE⟩ := hv
  subst hsz
  have hts := atoms_spec (ws := Cond.codeWith y cc nL ret hh :: jWS) B.pre
  have hown : s.vm.findClass y.cls = some m.cls := findClass_of_methodNamed B.named
  have C : jC p l s m av.toArray c D t (va_A wc s.heap.size) y.cls cc nL := ⟨B.exec, B.bytes, hml, hown, fun w h => hts w (List.mem_cons_of_mem _ h), hK, fun q h => Or.inr h, hE, hfl⟩
  have hl := lv_entry av (n := nL) hsl
  rw [lg_entry_eq]
  exact body p e s m av.toArray below meth c D (va_A wc s.heap.size) _ C ⟨rfl, rfl, B.returns, B.notSynchronized, vx_table (x := y) B (hts _ List.mem_cons_self)⟩ s.heap [] _ hP (hD0.self (sz := s.heap.size)) va_S.rf hl
theorem jr_callW {y : MethodName} {hh : List (Nat × Nat × Nat × Nat)} {n9 : Nat} {rm : Room} {wc : va_W} {post : Option Value → va_W → Prop} {px : String → va_W → Prop} {st : List Value} {bytes : ByteArray} {maxL : Nat} {ret : Option FieldType} {index : Nat} (As : List Value) (C : jC p l s m args c D t A own cc nL) (hd : decode cc pc = .ok (.invokestatic index, 3)) (hy : jYSW own index y bytes maxL ret hh n9 args s) (hM : jKx l t y (Cond.codeWith y bytes maxL ret hh :: jWS) rm As wc post px) (isC : List Nat) (hC : isC.map (fun i => ws[i]?) = wc.map some) (hn : va_nd isC = true) (hst : st = As.reverse ++ rest) (hn9 : As.length = n9) (hR : rm.frames + 1 ≤ R.frames ∧ 8 + (maxL + 11) + rm.locals ≤ R.locals ∧ k + rm.cells ≤ R.cells ∧ n + rm.slots ≤ R.slots) (hW : (rest.map fun v => v.category).sum ≤ 8) (hsame : ∀ v u, post v u → (u.take wc.length).map Prod.fst = wc.map Prod.fst) (hsameX : ∀ E u, px E u → (u.take wc.length).map Prod.fst = wc.map Prod.fst) (kx : ∀ E u, px E u → JX p l e R s m args below meth c D A nL Q (jput ws isC (u.take wc.length) ++ u.drop wc.length) lv pc rest (k + rm.cells) (n + rm.slots) E) (kk : ∀ v u, post v u → J p l e R s m args below meth c D A nL Q (jput ws isC (u.take wc.length) ++ u.drop wc.length) lv (pc + 3) (v.toList ++ rest) (k + rm.cells) (n + rm.slots)) : J p l e R s m args below meth c D A nL Q ws lv pc st k n := by
  subst hst
  refine jr_call (a := As.toArray) C isC hC hn (fun H locs ls hP hD hS hl => ?_) hsame hsameX kx kk
  have hpre := jr_pre (av := As) C hP hD hS isC hC hn
  have hG : GoodIn jWS (Cond.codeWith y bytes maxL ret hh :: jWS) := fun w h => (List.mem_cons.mp h).elim (fun e => by rw [e]; exact jWS_good _ hy.1.1) (fun h => jWS_good w h)
  exact vx_runSX (hh := hh) (As := As) (rest := rest) (g := F0 m pc ls _) ⟨C.1, C.2.1, C.2.2.1, C.2.2.2.1, C.2.2.2.2.1⟩ (hM D H.size) ⟨⟨rfl, rfl, hR.1, hR.2.1, pay_in C.2.2.2.2.1 hG, List.mem_cons_self⟩, C.2.2.2.2.1 _ hy.1.1, hy.1.2.1, hy.1.2.2.1, fun sig h => by have h2 := hy.1.2.2.2; rw [h] at h2; exact (Option.some.inj h2).symm, hy.2.1, hy.2.2⟩ hpre rfl hn9 hl.1 rfl (lv_room hW) hd ⟨hR.2.2.1, hR.2.2.2⟩
/-- the script -/
theorem jr_sld {b L j : Nat} {i : Int32} {xs : Nat → Int32} (C : jC p l s m args c D t A own cc nL) (hX : va_X b L xs s s.heap) (hbl : b < s.heap.size) (hbA : ¬ A b) (hd : decode cc pc = .ok (.iaload, 1)) (hi : i = nI j) (hj : j < L) (hL : L ≤ 3072) (k9 : J p l e R s m args below meth c D A nL Q ws lv (pc + 1) (.int (xs j) :: rest) k n) : J p l e R s m args below meth c D A nL Q ws lv pc (.int i :: .ref b :: rest) k n := by
  subst hi
  intro H locs ls hP hD hS hl
  refine va_sld C.1 C.2.1 hX hbl hbA hS (vp_in_nI hj (by omega)) hd ?_
  rw [nI_clamp (by omega)]
  exact k9 H locs ls hP hD hS hl
theorem jr_slen {b L : Nat} {xs : Nat → Int32} (C : jC p l s m args c D t A own cc nL) (hX : va_X b L xs s s.heap) (hbl : b < s.heap.size) (hbA : ¬ A b) (hd : decode cc pc = .ok (.arraylength, 1)) (k9 : J p l e R s m args below meth c D A nL Q ws lv (pc + 1) (.int (nI L) :: rest) k n) : J p l e R s m args below meth c D A nL Q ws lv pc (.ref b :: rest) k n := fun H locs ls hP hD hS hl => va_slen C.1 C.2.1 hX hbl hbA hS hd (k9 H locs ls hP hD hS hl)
end JWR
/-! a method that reads the script -/
def jPs (D : va_G) (t : Nat → ClassId) (sz : Nat) (wc : va_W) (b L : Nat) (xs : Nat → Int32) : State → Prop := fun U => jPre D t sz wc U ∧ va_X b L xs U U.heap ∧ b < sz ∧ ¬ va_A wc sz b
def jKs (l : Launch) (t : Nat → ClassId) (y : MethodName) (ws : List Cond) (rm : Room) (av : List Value) (wc : va_W) (post : Option Value → va_W → Prop) (px : String → va_W → Prop) (b L : Nat) (xs : Nat → Int32) : Prop :=
  ∀ (D : va_G) (sz : Nat), vx_Met l y ws rm (va_Pc av (jPs D t sz wc b L xs)) (jQ D t sz wc post) (jX D t sz wc px) rm.cells rm.slots (va_A wc sz)
theorem jPs_blind {D : va_G} {t : Nat → ClassId} {sz : Nat} {wc : va_W} {av : List Value} {b L : Nat} {xs : Nat → Int32} : FrameBlind (va_Pc av (jPs D t sz wc b L xs)) := by
  intro a U g mk h
  obtain ⟨h0, h1, h2, h3⟩ := h
  exact ⟨h0, (jPre_blind a U g mk ⟨h0, h1⟩).2, va_X.moved (u := U) (U := U.calling g mk a) (Vm.Alike.refl U.vm) h2, h3⟩
section JSR
variable {p : Program} {l : Launch} {e : Env} {R : Room} {s : State} {m : MethodId} {args : Array Value} {below : List Frame} {meth : Method} {c : Code} {D : va_G} {t : Nat → ClassId} {A : Nat → Prop} {own : String} {cc : ByteArray} {nL : Nat} {Q : State → Prop} {ws : va_W} {lv : List (Nat × Value)} {pc : Nat} {rest : List Value} {k n : Nat}
theorem jKs_of {y : MethodName} {cc : ByteArray} {nL : Nat} {ret : Option FieldType} {rm : Room} {av : List Value} {wc : va_W} {post : Option Value → va_W → Prop} {px : String → va_W → Prop} {b L : Nat} {xs : Nat → Int32} (hfl : l.stackTraces = false) (hy : plainName y.cls = true) (hsl : (lg_sl av).length ≤ nL)
    (body : ∀ (p : Program) (e : Env) (s : State) (m : MethodId) (args : Array Value) (below : List Frame) (meth : Method) (c : Code) (D : va_G) (A : Nat → Prop) (Q : State → Prop), jC p l s m args c D t A y.cls cc nL → jM below args s meth c D t A Q rm wc post px ret y.name → va_X b L xs s s.heap → b < s.heap.size → ¬ A b → J p l e rm s m args below meth c D A nL Q wc (lv_args 0 av) 0 [] 0 0) : jKs l t y (Cond.code y cc nL ret :: jWS) rm av wc post px b L xs := by
  intro D sz
  refine vx_ofW (cc := cc) (maxL := nL) (ret := ret) hy rfl ?_
  intro p e s m args below meth c s₁ B hml hno hv
  obtain ⟨rfl, ⟨hsz, hP, hK, hD0, hE⟩, hX, hb, hbA⟩ := hv
  subst hsz
  have hts := atoms_spec (ws := Cond.code y cc nL ret :: jWS) B.pre
  have hown : s.vm.findClass y.cls = some m.cls := findClass_of_methodNamed B.named
  have C : jC p l s m av.toArray c D t (va_A wc s.heap.size) y.cls cc nL := ⟨B.exec, B.bytes, hml, hown, fun w h => hts w (List.mem_cons_of_mem _ h), hK, fun q h => Or.inr h, hE, hfl⟩
  have hl := lv_entry av (n := nL) hsl
  rw [lg_entry_eq]
  exact body p e s m av.toArray below meth c D (va_A wc s.heap.size) _ C ⟨rfl, rfl, B.returns, B.notSynchronized, hno, (name_of_methodNamed B.named B.method).1⟩ hX hb hbA s.heap [] _ hP (hD0.self (sz := s.heap.size)) va_S.rf hl
theorem jr_callS_s {y : MethodName} {n9 : Nat} {rm : Room} {wc : va_W} {post : Option Value → va_W → Prop} {px : String → va_W → Prop} {st : List Value} {bytes : ByteArray} {maxL : Nat} {ret : Option FieldType} {index : Nat} {b L : Nat} {xs : Nat → Int32} (hX : va_X b L xs s s.heap) (hbl : b < s.heap.size) (hbA : ¬ A b) (As : List Value) (C : jC p l s m args c D t A own cc nL) (hd : decode cc pc = .ok (.invokestatic index, 3)) (hy : jYS own index y bytes maxL ret n9 args s) (hM : jKs l t y (Cond.code y bytes maxL ret :: jWS) rm As wc post px b L xs) (isC : List Nat) (hC : isC.map (fun i => ws[i]?) = wc.map some) (hn : va_nd isC = true) (hst : st = As.reverse ++ rest) (hn9 : As.length = n9) (hR : rm.frames + 1 ≤ R.frames ∧ 8 + (maxL + 11) + rm.locals ≤ R.locals ∧ k + rm.cells ≤ R.cells ∧ n + rm.slots ≤ R.slots) (hW : (rest.map fun v => v.category).sum ≤ 8) (hsame : ∀ v u, post v u → (u.take wc.length).map Prod.fst = wc.map Prod.fst) (hsameX : ∀ E u, px E u → (u.take wc.length).map Prod.fst = wc.map Prod.fst) (kx : ∀ E u, px E u → JX p l e R s m args below meth c D A nL Q (jput ws isC (u.take wc.length) ++ u.drop wc.length) lv pc rest (k + rm.cells) (n + rm.slots) E) (kk : ∀ v u, post v u → J p l e R s m args below meth c D A nL Q (jput ws isC (u.take wc.length) ++ u.drop wc.length) lv (pc + 3) (v.toList ++ rest) (k + rm.cells) (n + rm.slots)) : J p l e R s m args below meth c D A nL Q ws lv pc st k n := by
  subst hst
  refine jr_call (a := As.toArray) C isC hC hn (fun H locs ls hP hD hS hl => ?_) hsame hsameX kx kk
  have h0 := jr_pre (av := As) C hP hD hS isC hC hn
  have hF := va_free (wc := wc) hD hS C.2.2.2.2.2.2.1 isC hC
  have hpre : PreS s H (va_Pc As (jPs D t H.size wc b L xs)) As := ⟨jPs_blind, fun U hU hW => ⟨rfl, (h0.2 U hU hW).2, by rw [hU]; exact va_X.moved hW.alike (hX.kept (hS.2.1 b hbl hbA)), Nat.lt_of_lt_of_le hbl hS.1, fun q => hbA (hF b q)⟩⟩
  exact vx_runS (As := As) (rest := rest) (g := F0 m pc ls _) ⟨C.1, C.2.1, C.2.2.1, C.2.2.2.1, C.2.2.2.2.1⟩ (hM D H.size) ⟨jr_cw C.2.2.2.2.1 hy.1 hy.2.1 ⟨hR.1, hR.2.1⟩, hy.2.2⟩ hpre rfl hn9 hl.1 rfl (lv_room hW) hd ⟨hR.2.2.1, hR.2.2.2⟩
end JSR
theorem jpool_afterN {t : Nat → ClassId} {ad : Nat → Nat} {K K' : Nat → JCap} {pre wcx w1 N : va_W} {is : List Nat} (n : Nat) (hn : pre.length = n) (h1 : w1.length = wcx.length) (h2 : is.length = w1.length) (h3 : ∀ i ∈ is, i < n) : jput (pre ++ jpool t ad K) (is ++ (List.range 32).map (fun i => n + i)) (((w1 ++ jpool t ad K') ++ N).take (wcx ++ jpool t ad K).length) ++ ((w1 ++ jpool t ad K') ++ N).drop (wcx ++ jpool t ad K).length = (jput pre is w1 ++ jpool t ad K') ++ N := by
  have hl : (wcx ++ jpool t ad K).length = (w1 ++ jpool t ad K').length := by rw [List.length_append, List.length_append, jpool_len, jpool_len, h1]
  have e1 : ((w1 ++ jpool t ad K') ++ N).take (wcx ++ jpool t ad K).length = (w1 ++ jpool t ad K').take (wcx ++ jpool t ad K).length := by rw [hl, List.take_left, List.take_length]
  have e2 : ((w1 ++ jpool t ad K') ++ N).drop (wcx ++ jpool t ad K).length = N := by rw [hl, List.drop_left]
  have e3 := jpool_after (t := t) (ad := ad) (K := K) (K' := K') (pre := pre) (wcx := wcx) (w1 := w1) (is := is) n hn h1 h2 h3
  rw [e1, e2]
  rw [(jpool_take h1).2, List.append_nil] at e3
  rw [e3]
theorem jpool_sameN {t : Nat → ClassId} {ad : Nat → Nat} {K K' : Nat → JCap} {wcx w1 N : va_W} (h : w1.map Prod.fst = wcx.map Prod.fst) : (((w1 ++ jpool t ad K') ++ N).take (wcx ++ jpool t ad K).length).map Prod.fst = (wcx ++ jpool t ad K).map Prod.fst := by
  have h1 : w1.length = wcx.length := by simpa using congrArg List.length h
  have hl : (wcx ++ jpool t ad K).length = (w1 ++ jpool t ad K').length := by rw [List.length_append, List.length_append, jpool_len, jpool_len, h1]
  have e := jpool_same (t := t) (ad := ad) (K := K) (K' := K') h
  rw [hl, List.take_left]
  rw [hl, List.take_length] at e
  exact e
/-- the world's cells, forgotten or in another order -/
theorem jr_pick {p : Program} {l : Launch} {e : Env} {R : Room} {s : State} {m : MethodId} {args : Array Value} {below : List Frame} {meth : Method} {c : Code} {D : va_G} {A : Nat → Prop} {nL : Nat} {Q : State → Prop} {ws : va_W} {lv : List (Nat × Value)} {pc : Nat} {st : List Value} {k n : Nat} (wc : va_W) (isC : List Nat) (hC : isC.map (fun i => ws[i]?) = wc.map some) (hn : va_nd isC = true) (k9 : J p l e R s m args below meth c D A nL Q wc lv pc st k n) : J p l e R s m args below meth c D A nL Q ws lv pc st k n := by
  intro H locs ls hP hD hS hl
  refine k9 H locs ls ?_ (hD.sub isC hn hC) hS hl
  intro k9 q9 h9
  have h1 : (isC.map (fun i => ws[i]?))[k9]? = some (some q9) := by rw [hC, List.getElem?_map, h9]; rfl
  rw [List.getElem?_map] at h1
  cases hi : isC[k9]? with
  | none => rw [hi] at h1; cases h1
  | some i => rw [hi] at h1; exact hP i q9 (Option.some.inj h1)

