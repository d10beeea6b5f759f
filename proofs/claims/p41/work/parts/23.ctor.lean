theorem jcl_X0_9 {args : Array Value} {s : State} (h : ∀ w ∈ jWS, w.before args s = true) : (Cond.classLink RX0 9 "[[I").before args s = true := h _ (jm_1 _ (List.mem_of_getElem? (i := 60) (by decide +kernel)) (by decide +kernel))
theorem jcl_X4_9 {args : Array Value} {s : State} (h : ∀ w ∈ jWS, w.before args s = true) : (Cond.classLink RX4 9 "[[I").before args s = true := h _ (jm_1 _ (List.mem_of_getElem? (i := 35) (by decide +kernel)) (by decide +kernel))
theorem jcl_X6_9 {args : Array Value} {s : State} (h : ∀ w ∈ jWS, w.before args s = true) : (Cond.classLink RX6 9 RX0).before args s = true := h _ (jm_1 _ (List.mem_of_getElem? (i := 53) (by decide +kernel)) (by decide +kernel))
theorem jr_mna {p : Program} {l : Launch} {e : Env} {R : Room} {s : State} {m : MethodId} {args : Array Value} {below : List Frame} {meth : Method} {c : Code} {D : va_G} {t : Nat → ClassId} {A : Nat → Prop} {own : String} {cc : ByteArray} {nL : Nat} {Q : State → Prop} {ws : va_W} {lv : List (Nat × Value)} {pc : Nat} {rest : List Value} {k n : Nat} {index : Nat} {k0 : Int32} (C : jC p l s m args c D t A own cc nL) (hcl : (Cond.classLink own index "[[I").before args s = true) (harr : (Cond.arrayClass .int).before args s = true) (hd : decode cc pc = .ok (.multianewarray index 2, 4)) (K' : Nat) (hk : k0 = nI K') (hK : K' < 100000) (hcells : k + 3 ≤ R.cells) (hslots : n + (2 + 2 * K') ≤ R.slots)
    (k9 : ∀ q r0 r1 : Nat, J p l e R s m args below meth c D A nL Q (ws ++ [(q, .inl (t 1, 2, .inr (.inr (.inr (.inr (jr2 r0 r1)))))), (r0, .inl (t 0, K', .inl (fun _ => 0))), (r1, .inl (t 0, K', .inl (fun _ => 0)))]) lv (pc + 4) (.ref q :: rest) (k + 3) (n + (2 + 2 * K'))) : J p l e R s m args below meth c D A nL Q ws lv pc (.int k0 :: .int 2 :: rest) k n := by
  subst hk
  intro H locs ls hP hD hS hl
  obtain ⟨f, hf⟩ : ∃ f : Nat → va_E, f = fun _ => .inl (t 0, 0, .inl (fun _ => 0)) := ⟨_, rfl⟩
  have e0 : ws ++ va_pl [] f = ws := List.append_nil _
  have hP0 : va_P D vwCl (ws ++ va_pl [] f) H := by rw [e0]; exact hP
  have hD0 : va_D A (ws ++ va_pl [] f) := by rw [e0]; exact hD
  have hcy : s.vm.findClass (FieldType.array .int).toString = some (t 0) := (C.2.2.2.2.2.1.2 0 _ rfl).2
  refine va_mna (ty := .int) (cy := t 0) (X := ws) (L := []) (f := f) (z := (K', .inl (fun _ => 0))) (N' := 2) (K' := K') C.1 C.2.1 C.2.2.2.1 hcl C.2.2.2.2.2.2.2.1.2.2.2.2.2.2.1 harr hcy C.2.2.2.2.2.1 hP0 hD0 hS C.2.2.2.2.2.2.1 (n := 2) (k := nI K') (by decide) (nI_pos (by omega)) (by decide) (nI_clamp (by omega)) (by omega) (by show K' * _ ≤ _; simp only [componentBytes]; omega) (by omega) rfl rfl (by omega) (by omega) (fun cA => by first | exact arrV_new _ _ _ | rfl) hd (fun q r cA H1 hr hL hK1 hP1 hD1 hS1 => ?_)
  have e1 := (hK1.2 3 _ rfl).2
  have e2 := (hK1.2 1 _ rfl).2
  have e3 : cA = t 1 := Option.some.inj (e1.symm.trans e2)
  subst e3
  have hfn : (fun i : Nat => if i < 2 then some (r i) else none) = jr2 (r 0) (r 1) := by
    funext i
    unfold jr2
    match i with
    | 0 => rfl
    | 1 => rfl
    | i + 2 => simp
  have ew : (ws ++ [(q, .inl (t 1, 2, .inr (.inr (.inr (.inr (fun i : Nat => if i < 2 then some (r i) else none))))))]) ++ va_pl ([] ++ (List.range 2).map r) (vr_up f ((List.range 2).map r) (.inl (t 0, K', .inl (fun _ => 0)))) = ws ++ [(q, .inl (t 1, 2, .inr (.inr (.inr (.inr (jr2 (r 0) (r 1))))))), (r 0, .inl (t 0, K', .inl (fun _ => 0))), (r 1, .inl (t 0, K', .inl (fun _ => 0)))] := by
    rw [hfn, show (List.range 2).map r = [r 0, r 1] from rfl, List.append_assoc]
    show ws ++ [_, (r 0, vr_up f [r 0, r 1] _ (r 0)), (r 1, vr_up f [r 0, r 1] _ (r 1))] = _
    rw [vr_up_in (by simp), vr_up_in (by simp)]
  rw [ew] at hP1 hD1
  exact W.widen (by omega) (by omega) (k9 q (r 0) (r 1) H1 locs ls hP1 hD1 hS1 hl)
theorem jr_newq {p : Program} {l : Launch} {e : Env} {R : Room} {s : State} {m : MethodId} {args : Array Value} {below : List Frame} {meth : Method} {c : Code} {D : va_G} {t : Nat → ClassId} {A : Nat → Prop} {own : String} {cc : ByteArray} {nL : Nat} {Q : State → Prop} {ws : va_W} {lv : List (Nat × Value)} {pc : Nat} {rest : List Value} {k n : Nat} {index : Nat} {i : Int32} (C : jC p l s m args c D t A own cc nL) (hcl : (Cond.classLink own index RX0).before args s = true) (hd : decode cc pc = .ok (.anewarray index, 3)) (N' : Nat) (hi : i = nI N') (hN : N' < 100000) (hcells : k + 1 ≤ R.cells) (hslots : n + N' ≤ R.slots)
    (k9 : ∀ q : Nat, J p l e R s m args below meth c D A nL Q (ws ++ [(q, .inl (t 2, N', .inr (.inr (.inr (.inr (fun _ => none))))))]) lv (pc + 3) (.ref q :: rest) (k + 1) (n + N')) : J p l e R s m args below meth c D A nL Q ws lv pc (.int i :: rest) k n := by
  subst hi
  intro H locs ls hP hD hS hl
  refine va_newq C.1 C.2.1 C.2.2.2.1 hcl C.2.2.2.2.2.2.2.1.2.2.2.2.2.1 C.2.2.2.2.2.1 hP hD hS C.2.2.2.2.2.2.1 (nI_pos (by omega)) (nI_clamp (by omega)) (by omega) hcells hslots hd (fun q cA H1 hK1 hP1 hD1 hS1 => ?_)
  obtain ⟨kA, comp, f1, f2, f3, f4⟩ := (hK1.2 3 _ rfl).2
  obtain ⟨kA2, comp2, g1, g2, g3, g4⟩ := (hK1.2 2 _ rfl).2
  have e3 : cA = t 2 := Option.some.inj (f4.symm.trans g4)
  subst e3
  exact k9 q H1 locs ls hP1 hD1 hS1 hl
theorem jr_ext {p : Program} {l : Launch} {e : Env} {R : Room} {s : State} {m : MethodId} {args : Array Value} {below : List Frame} {meth : Method} {c : Code} {D : va_G} {A : Nat → Prop} {nL : Nat} {Q : State → Prop} {lv : List (Nat × Value)} {pc : Nat} {k n : Nat} {st : List Value} (pre post : va_W) (a n9 : Nat) (cA : ClassId) (f g : Nat → Option Nat) (h : ∀ j, j < n9 → f j = g j) (k9 : J p l e R s m args below meth c D A nL Q (pre ++ (a, .inl (cA, n9, .inr (.inr (.inr (.inr g))))) :: post) lv pc st k n) : J p l e R s m args below meth c D A nL Q (pre ++ (a, .inl (cA, n9, .inr (.inr (.inr (.inr f))))) :: post) lv pc st k n := by
  intro H locs ls hP hD hS hl
  refine k9 H locs ls (va_P_mem.mpr fun q hq => ?_) (va_D_mem.mpr ⟨?_, fun q hq => ?_⟩) hS hl
  · rcases List.mem_append.mp hq with hq | hq
    · exact va_P_mem.mp hP q (List.mem_append_left _ hq)
    · rcases List.mem_cons.mp hq with rfl | hq
      · have h1 := va_P_mem.mp hP _ (List.mem_append_right _ List.mem_cons_self)
        have h2 : H[a]? = some (vp_cell cA (n9, .inr (.inr (.inr (.inr f))))) := h1
        show H[a]? = some (vp_cell cA (n9, .inr (.inr (.inr (.inr g)))))
        rw [h2, vp_cell_q, vp_cell_q]
        unfold arrV
        have : (fun (j : Fin n9) => va_rf (f j.val)) = (fun (j : Fin n9) => va_rf (g j.val)) := by
          funext j
          rw [h j.val j.isLt]
        rw [this]
      · exact va_P_mem.mp hP q (List.mem_append_right _ (List.mem_cons_of_mem _ hq))
  · have := (va_D_mem.mp hD).1
    simpa [List.map_append] using this
  · rcases List.mem_append.mp hq with hq | hq
    · exact (va_D_mem.mp hD).2 q (List.mem_append_left _ hq)
    · rcases List.mem_cons.mp hq with rfl | hq
      · exact (va_D_mem.mp hD).2 (a, .inl (cA, n9, .inr (.inr (.inr (.inr f))))) (List.mem_append_right _ List.mem_cons_self)
      · exact (va_D_mem.mp hD).2 q (List.mem_append_right _ (List.mem_cons_of_mem _ hq))
theorem jperm_newN {pre P N : va_W} : ((pre ++ P) ++ N).Perm ((pre ++ N) ++ P) := by
  rw [List.append_assoc, List.append_assoc]
  exact List.Perm.append_left _ List.perm_append_comm
set_option maxHeartbeats 8000000 in
set_option maxRecDepth 100000 in
theorem k_X0_init (l : Launch) (t : Nat → ClassId) (hfl : l.stackTraces = false) (h0 : Nat) : jKx l t yX0_init (Cond.code yX0_init cX0_init 1 none :: jWS) { frames := 1, cells := 3, slots := 100, locals := 12 } [.ref h0] [(h0, .inr (0, [.null, .int 0, .int 0, .int 0]))] (fun vv uu => (∃ a1 : Nat, ∃ a2 : Nat, ∃ a3 : Nat, vv = none ∧ uu = [(h0, .inr (0, [.ref a1, .int 0, .int 0, .int 0])), (a1, .inl (t 1, 2, .inr (.inr (.inr (.inr (jr2 a2 a3)))))), (a2, .inl (t 0, 49, .inl (fun _ => 0))), (a3, .inl (t 0, 49, .inl (fun _ => 0)))])) (fun _ _ => False) := by
  refine jK_of hfl (by decide +kernel) (Nat.le_of_ble_eq_true rfl) ?_
  intro p e s m args below meth c D A Q CC MM
  refine jr_norm0 [(0, .ref h0)] rfl ?_
  refine jr_aload_n CC (jd ddX0_init 0 rfl) 0 rfl ?_
  refine jr_objInit CC (jd ddX0_init 1 rfl) (joi_X0 CC.2.2.2.2.1) (by decide) (Nat.le_of_ble_eq_true rfl) ?_
  refine jr_aload_n CC (jd ddX0_init 2 rfl) 0 rfl ?_
  refine jr_iconst (v := 2) CC (jd ddX0_init 3 rfl) (by decide) ?_
  refine jr_bipush (v := 49) CC (jd ddX0_init 4 rfl) (by decide) ?_
  refine jr_mna CC (jcl_X0_9 CC.2.2.2.2.1) (jarr_int CC.2.2.2.2.1) (jd ddX0_init 5 rfl) 49 (by decide) (by decide) (Nat.le_of_ble_eq_true rfl) (Nat.le_of_ble_eq_true rfl) (fun q1 q2 q3 => ?_)
  refine jr_norm [(h0, .inr (0, [.null, .int 0, .int 0, .int 0])), (q1, .inl (t 1, 2, .inr (.inr (.inr (.inr (jr2 q2 q3)))))), (q2, .inl (t 0, 49, .inl (fun _ => 0))), (q3, .inl (t 0, 49, .inl (fun _ => 0)))] [.ref q1, .ref h0] 12 3 100 rfl rfl rfl rfl rfl ?_
  refine jr_putF CC MM.2.2.2.2.2 (jd ddX0_init 6 rfl) (jff_X0_11 CC) 0 rfl rfl rfl (Nat.le_of_ble_eq_true rfl) ?_
  exact jr_vret CC MM (jd ddX0_init 7 rfl) rfl (by decide) (by decide) ⟨q1, q2, q3, rfl, rfl⟩
set_option maxHeartbeats 8000000 in
set_option maxRecDepth 100000 in
theorem k_X4_init (l : Launch) (t : Nat → ClassId) (hfl : l.stackTraces = false) (h0 : Nat) : jKx l t yX4_init (Cond.code yX4_init cX4_init 1 none :: jWS) { frames := 1, cells := 3, slots := 34, locals := 12 } [.ref h0] [(h0, .inr (3, [.null, .int 0]))] (fun vv uu => (∃ a1 : Nat, ∃ a2 : Nat, ∃ a3 : Nat, vv = none ∧ uu = [(h0, .inr (3, [.ref a1, .int 0])), (a1, .inl (t 1, 2, .inr (.inr (.inr (.inr (jr2 a2 a3)))))), (a2, .inl (t 0, 16, .inl (fun _ => 0))), (a3, .inl (t 0, 16, .inl (fun _ => 0)))])) (fun _ _ => False) := by
  refine jK_of hfl (by decide +kernel) (Nat.le_of_ble_eq_true rfl) ?_
  intro p e s m args below meth c D A Q CC MM
  refine jr_norm0 [(0, .ref h0)] rfl ?_
  refine jr_aload_n CC (jd ddX4_init 0 rfl) 0 rfl ?_
  refine jr_objInit CC (jd ddX4_init 1 rfl) (joi_X4 CC.2.2.2.2.1) (by decide) (Nat.le_of_ble_eq_true rfl) ?_
  refine jr_aload_n CC (jd ddX4_init 2 rfl) 0 rfl ?_
  refine jr_iconst (v := 2) CC (jd ddX4_init 3 rfl) (by decide) ?_
  refine jr_bipush (v := 16) CC (jd ddX4_init 4 rfl) (by decide) ?_
  refine jr_mna CC (jcl_X4_9 CC.2.2.2.2.1) (jarr_int CC.2.2.2.2.1) (jd ddX4_init 5 rfl) 16 (by decide) (by decide) (Nat.le_of_ble_eq_true rfl) (Nat.le_of_ble_eq_true rfl) (fun q1 q2 q3 => ?_)
  refine jr_norm [(h0, .inr (3, [.null, .int 0])), (q1, .inl (t 1, 2, .inr (.inr (.inr (.inr (jr2 q2 q3)))))), (q2, .inl (t 0, 16, .inl (fun _ => 0))), (q3, .inl (t 0, 16, .inl (fun _ => 0)))] [.ref q1, .ref h0] 12 3 34 rfl rfl rfl rfl rfl ?_
  refine jr_putF CC MM.2.2.2.2.2 (jd ddX4_init 6 rfl) (jff_X4_11 CC) 0 rfl rfl rfl (Nat.le_of_ble_eq_true rfl) ?_
  exact jr_vret CC MM (jd ddX4_init 7 rfl) rfl (by decide) (by decide) ⟨q1, q2, q3, rfl, rfl⟩
set_option maxHeartbeats 8000000 in
set_option maxRecDepth 100000 in
theorem k_X5_init (l : Launch) (t : Nat → ClassId) (hfl : l.stackTraces = false) (h0 : Nat) : jKx l t yX5_init (Cond.code yX5_init cX5_init 1 none :: jWS) { frames := 1, cells := 2, slots := 98, locals := 23 } [.ref h0] [(h0, .inr (4, [.null, .null]))] (fun vv uu => (∃ a1 : Nat, ∃ a2 : Nat, vv = none ∧ uu = [(h0, .inr (4, [.ref a1, .ref a2])), (a1, .inl (t 0, 49, .inl (jfill 49 (-128) (fun _ => 0)))), (a2, .inl (t 0, 49, .inl (jfill 49 127 (fun _ => 0))))])) (fun _ _ => False) := by
  refine jK_of hfl (by decide +kernel) (Nat.le_of_ble_eq_true rfl) ?_
  intro p e s m args below meth c D A Q CC MM
  refine jr_norm0 [(0, .ref h0)] rfl ?_
  refine jr_aload_n CC (jd ddX5_init 0 rfl) 0 rfl ?_
  refine jr_objInit CC (jd ddX5_init 1 rfl) (joi_X5 CC.2.2.2.2.1) (by decide) (Nat.le_of_ble_eq_true rfl) ?_
  refine jr_aload_n CC (jd ddX5_init 2 rfl) 0 rfl ?_
  refine jr_bipush (v := 49) CC (jd ddX5_init 3 rfl) (by decide) ?_
  refine jr_newaI CC (jarr_int CC.2.2.2.2.1) (jd ddX5_init 4 rfl) 49 (by decide) (by decide) (by decide) (by decide) (fun q1 => ?_)
  refine jr_putF CC MM.2.2.2.2.2 (jd ddX5_init 5 rfl) (jff_X5_9 CC) 0 rfl rfl rfl (Nat.le_of_ble_eq_true rfl) ?_
  refine jr_aload_n CC (jd ddX5_init 6 rfl) 0 rfl ?_
  refine jr_bipush (v := 49) CC (jd ddX5_init 7 rfl) (by decide) ?_
  refine jr_newaI CC (jarr_int CC.2.2.2.2.1) (jd ddX5_init 8 rfl) 49 (by decide) (by decide) (by decide) (by decide) (fun q2 => ?_)
  refine jr_putF CC MM.2.2.2.2.2 (jd ddX5_init 9 rfl) (jff_X5_15 CC) 0 rfl rfl rfl (Nat.le_of_ble_eq_true rfl) ?_
  refine jr_pc (pc' := 20) rfl ?_
  refine jr_aload_n CC (jd ddX5_init 10 rfl) 0 rfl ?_
  refine jr_get (v := .ref q1) CC (jd ddX5_init 11 rfl) (jf_X5_9 CC) 0 rfl rfl ?_
  refine jr_bipush (v := (-128)) CC (jd ddX5_init 12 rfl) (by decide) ?_
  refine jr_callS (rest := []) [.ref q1, .int (-128)] CC (jd ddX5_init 13 rfl) (jy_X5_18 CC) (k_J7_fill_53178 l t hfl q1 49 (fun _ => 0) (-128) (by decide)) [1] rfl (by decide) rfl rfl (by decide) (Nat.le_of_ble_eq_true rfl) (by rintro v u h; rcases h with ⟨rfl, rfl⟩ <;> rfl) (fun _ _ h => h.elim) (fun _ _ h => h.elim) (fun v u h => ?_)
  rcases h with ⟨rfl, rfl⟩
  refine jr_norm [(h0, .inr (4, [.ref q1, .ref q2])), (q1, .inl (t 0, 49, .inl (jfill 49 (-128) (fun _ => 0)))), (q2, .inl (t 0, 49, .inl (fun _ => 0)))] [] 29 2 98 rfl rfl rfl rfl rfl ?_
  refine jr_aload_n CC (jd ddX5_init 14 rfl) 0 rfl ?_
  refine jr_get (v := .ref q2) CC (jd ddX5_init 15 rfl) (jf_X5_15 CC) 0 rfl rfl ?_
  refine jr_bipush (v := 127) CC (jd ddX5_init 16 rfl) (by decide) ?_
  refine jr_callS (rest := []) [.ref q2, .int 127] CC (jd ddX5_init 17 rfl) (jy_X5_18 CC) (k_J7_fill_53178 l t hfl q2 49 (fun _ => 0) 127 (by decide)) [2] rfl (by decide) rfl rfl (by decide) (Nat.le_of_ble_eq_true rfl) (by rintro v u h; rcases h with ⟨rfl, rfl⟩ <;> rfl) (fun _ _ h => h.elim) (fun _ _ h => h.elim) (fun v u h => ?_)
  rcases h with ⟨rfl, rfl⟩
  refine jr_norm [(h0, .inr (4, [.ref q1, .ref q2])), (q1, .inl (t 0, 49, .inl (jfill 49 (-128) (fun _ => 0)))), (q2, .inl (t 0, 49, .inl (jfill 49 127 (fun _ => 0))))] [] 38 2 98 rfl rfl rfl rfl rfl ?_
  exact jr_vret CC MM (jd ddX5_init 18 rfl) rfl (by decide) (by decide) ⟨q1, q2, rfl, rfl⟩
set_option maxHeartbeats 8000000 in
set_option maxRecDepth 100000 in
theorem k_X3_init (l : Launch) (t : Nat → ClassId) (hfl : l.stackTraces = false) (h0 : Nat) : jKx l t yX3_init (Cond.code yX3_init cX3_init 1 none :: jWS) { frames := 1, cells := 4, slots := 64, locals := 12 } [.ref h0] [(h0, .inr (2, [.null, .null, .null, .null, .int 0, .int 0]))] (fun vv uu => (∃ a1 : Nat, ∃ a2 : Nat, ∃ a3 : Nat, ∃ a4 : Nat, vv = none ∧ uu = [(h0, .inr (2, [.ref a1, .ref a2, .ref a3, .ref a4, .int 0, .int 0])), (a1, .inl (t 0, 16, .inl (fun _ => 0))), (a2, .inl (t 0, 16, .inl (fun _ => 0))), (a3, .inl (t 0, 16, .inl (fun _ => 0))), (a4, .inl (t 0, 16, .inl (fun _ => 0)))])) (fun _ _ => False) := by
  refine jK_of hfl (by decide +kernel) (Nat.le_of_ble_eq_true rfl) ?_
  intro p e s m args below meth c D A Q CC MM
  refine jr_norm0 [(0, .ref h0)] rfl ?_
  refine jr_aload_n CC (jd ddX3_init 0 rfl) 0 rfl ?_
  refine jr_objInit CC (jd ddX3_init 1 rfl) (joi_X3 CC.2.2.2.2.1) (by decide) (Nat.le_of_ble_eq_true rfl) ?_
  refine jr_aload_n CC (jd ddX3_init 2 rfl) 0 rfl ?_
  refine jr_bipush (v := 16) CC (jd ddX3_init 3 rfl) (by decide) ?_
  refine jr_newaI CC (jarr_int CC.2.2.2.2.1) (jd ddX3_init 4 rfl) 16 (by decide) (by decide) (by decide) (by decide) (fun q1 => ?_)
  refine jr_putF CC MM.2.2.2.2.2 (jd ddX3_init 5 rfl) (jff_X3_9 CC) 0 rfl rfl rfl (Nat.le_of_ble_eq_true rfl) ?_
  refine jr_aload_n CC (jd ddX3_init 6 rfl) 0 rfl ?_
  refine jr_bipush (v := 16) CC (jd ddX3_init 7 rfl) (by decide) ?_
  refine jr_newaI CC (jarr_int CC.2.2.2.2.1) (jd ddX3_init 8 rfl) 16 (by decide) (by decide) (by decide) (by decide) (fun q2 => ?_)
  refine jr_putF CC MM.2.2.2.2.2 (jd ddX3_init 9 rfl) (jff_X3_15 CC) 0 rfl rfl rfl (Nat.le_of_ble_eq_true rfl) ?_
  refine jr_pc (pc' := 20) rfl ?_
  refine jr_aload_n CC (jd ddX3_init 10 rfl) 0 rfl ?_
  refine jr_bipush (v := 16) CC (jd ddX3_init 11 rfl) (by decide) ?_
  refine jr_newaI CC (jarr_int CC.2.2.2.2.1) (jd ddX3_init 12 rfl) 16 (by decide) (by decide) (by decide) (by decide) (fun q3 => ?_)
  refine jr_putF CC MM.2.2.2.2.2 (jd ddX3_init 13 rfl) (jff_X3_18 CC) 0 rfl rfl rfl (Nat.le_of_ble_eq_true rfl) ?_
  refine jr_aload_n CC (jd ddX3_init 14 rfl) 0 rfl ?_
  refine jr_bipush (v := 16) CC (jd ddX3_init 15 rfl) (by decide) ?_
  refine jr_newaI CC (jarr_int CC.2.2.2.2.1) (jd ddX3_init 16 rfl) 16 (by decide) (by decide) (by decide) (by decide) (fun q4 => ?_)
  refine jr_putF CC MM.2.2.2.2.2 (jd ddX3_init 17 rfl) (jff_X3_21 CC) 0 rfl rfl rfl (Nat.le_of_ble_eq_true rfl) ?_
  exact jr_vret CC MM (jd ddX3_init 18 rfl) rfl (by decide) (by decide) ⟨q1, q2, q3, q4, rfl, rfl⟩
def K0 : Nat → JCap := fun _ => (0, 0, 0, fun _ => 0, fun _ => 0)
def M0 : Nat → Int32 := fun i => match i with | 4 => 4 | 5 => 8 | 10 => -1 | _ => 0
def jlst (L : List Nat) : Nat → Nat := fun j => L.getD j 0
theorem jcaps8 (L : List Nat) (a0 a1 a2 a3 a4 a5 a6 a7 : Nat) (h0 : jlst L 0 = a0) (h1 : jlst L 4 = a1) (h2 : jlst L 8 = a2) (h3 : jlst L 12 = a3) (h4 : jlst L 16 = a4) (h5 : jlst L 20 = a5) (h6 : jlst L 24 = a6) (h7 : jlst L 28 = a7) :
    ∀ j, j < 8 → va_up (va_up (va_up (va_up (va_up (va_up (va_up (va_up (fun _ => none) 0 (some a0)) 1 (some a1)) 2 (some a2)) 3 (some a3)) 4 (some a4)) 5 (some a5)) 6 (some a6)) 7 (some a7) j = jcaps (jlst L) j := by
  intro j hj
  subst h0 h1 h2 h3 h4 h5 h6 h7
  match j, hj with
  | 0, _ => rfl
  | 1, _ => rfl
  | 2, _ => rfl
  | 3, _ => rfl
  | 4, _ => rfl
  | 5, _ => rfl
  | 6, _ => rfl
  | 7, _ => rfl
set_option maxHeartbeats 8000000 in
set_option maxRecDepth 100000 in
theorem k_X6_init (l : Launch) (t : Nat → ClassId) (hfl : l.stackTraces = false) (x2 : Nat) : jKx l t yX6_init (Cond.code yX6_init cX6_init 2 none :: jWS) { frames := 2, cells := 33, slots := 840, locals := 32 } [.ref x2] [(x2, .inr (5, [.null, .int 0, .null, .int 0, .int 0, .int 0, .int 0, .int 0, .int 0, .int 0, .int 0]))] (fun vv uu => (∃ ca : Nat, ∃ ad : Nat → Nat, vv = none ∧ uu = ([(x2, .inr (5, jmem M0 ca none)), (ca, .inl (t 2, 8, .inr (.inr (.inr (.inr (jcaps ad))))))] ++ jpool t ad K0))) (fun _ _ => False) := by
  refine jK_of hfl (by decide +kernel) (Nat.le_of_ble_eq_true rfl) ?_
  intro p e s m args below meth c D A Q CC MM
  refine jr_norm0 [(0, .ref x2)] rfl ?_
  refine jr_aload_n CC (jd ddX6_init 0 rfl) 0 rfl ?_
  refine jr_objInit CC (jd ddX6_init 1 rfl) (joi_X6 CC.2.2.2.2.1) (by decide) (Nat.le_of_ble_eq_true rfl) ?_
  refine jr_aload_n CC (jd ddX6_init 2 rfl) 0 rfl ?_
  refine jr_bipush (v := 8) CC (jd ddX6_init 3 rfl) (by decide) ?_
  refine jr_newq CC (jcl_X6_9 CC.2.2.2.2.1) (jd ddX6_init 4 rfl) 8 (by decide) (by decide) (Nat.le_of_ble_eq_true rfl) (Nat.le_of_ble_eq_true rfl) (fun q1 => ?_)
  refine jr_putF CC MM.2.2.2.2.2 (jd ddX6_init 5 rfl) (jff_X6_11 CC) 0 rfl rfl rfl (Nat.le_of_ble_eq_true rfl) ?_
  refine jr_aload_n CC (jd ddX6_init 6 rfl) 0 rfl ?_
  refine jr_iconst (v := 4) CC (jd ddX6_init 7 rfl) (by decide) ?_
  refine jr_put CC (jd ddX6_init 8 rfl) (jf_X6_17 CC) 0 rfl rfl rfl (Nat.le_of_ble_eq_true rfl) ?_
  refine jr_aload_n CC (jd ddX6_init 9 rfl) 0 rfl ?_
  refine jr_pc (pc' := 19) rfl ?_
  refine jr_bipush (v := 8) CC (jd ddX6_init 10 rfl) (by decide) ?_
  refine jr_put CC (jd ddX6_init 11 rfl) (jf_X6_21 CC) 0 rfl rfl rfl (Nat.le_of_ble_eq_true rfl) ?_
  refine jr_aload_n CC (jd ddX6_init 12 rfl) 0 rfl ?_
  refine jr_iconst (v := (-1)) CC (jd ddX6_init 13 rfl) (by decide) ?_
  refine jr_put CC (jd ddX6_init 14 rfl) (jf_X6_24 CC) 0 rfl rfl rfl (Nat.le_of_ble_eq_true rfl) ?_
  refine jr_iconst (v := 0) CC (jd ddX6_init 15 rfl) (by decide) ?_
  refine jr_istore_n 1 [(1, .int 0), (0, .ref x2)] CC (jd ddX6_init 16 rfl) rfl (by decide) rfl ?_
  refine jr_iload_n CC (jd ddX6_init 17 rfl) 0 rfl ?_
  refine jr_bipush (v := 8) CC (jd ddX6_init 18 rfl) (by decide) ?_
  refine jr_icmp_ge 56 CC (jd ddX6_init 19 rfl) (by decide) (fun h => absurd h (by decide)) (fun _ => ?_)
  refine jr_pc (pc' := 37) rfl ?_
  refine jr_aload_n CC (jd ddX6_init 20 rfl) 1 rfl ?_
  refine jr_get (v := .ref q1) CC (jd ddX6_init 21 rfl) (jf_X6_11 CC) 0 rfl rfl ?_
  refine jr_iload_n CC (jd ddX6_init 22 rfl) 0 rfl ?_
  refine jr_new [.null, .int 0, .int 0, .int 0] CC (jd ddX6_init 23 rfl) (jn_X6_9 CC) (by intro j hj; match j, hj with | 0, _ => rfl | 1, _ => rfl | 2, _ => rfl | 3, _ => rfl) (by decide) (by decide) (fun q3 => ?_)
  refine jr_dup CC (jd ddX6_init 24 rfl) rfl ?_
  refine jr_callIN (rest := [.ref q3, .int 0, .ref q1]) [] CC (jd ddX6_init 25 rfl) (jy_X6_27 CC) (k_X0_init l t hfl q3) [2] rfl (by decide) rfl rfl (by decide) (Nat.le_of_ble_eq_true rfl) (by rintro v u h; rcases h with ⟨a1, a2, a3, rfl, rfl⟩ <;> rfl) (fun _ _ h => h.elim) (fun _ _ h => h.elim) (fun v u h => ?_)
  rcases h with ⟨q4, q5, q6, rfl, rfl⟩
  refine jr_norm [(x2, .inr (5, [.ref q1, .int 0, .null, .int 0, .int 4, .int 8, .int 0, .int 0, .int 0, .int 0, .int (-1)])), (q1, .inl (t 2, 8, .inr (.inr (.inr (.inr (fun _ => none)))))), (q3, .inr (0, [.ref q4, .int 0, .int 0, .int 0])), (q4, .inl (t 1, 2, .inr (.inr (.inr (.inr (jr2 q5 q6)))))), (q5, .inl (t 0, 49, .inl (fun _ => 0))), (q6, .inl (t 0, 49, .inl (fun _ => 0)))] [.ref q3, .int 0, .ref q1] 49 5 112 rfl rfl rfl rfl rfl ?_
  refine jr_astq (ci := 0) CC (jd ddX6_init 26 rfl) 1 0 2 rfl rfl (by decide) (by decide) (by decide) ?_
  refine jr_iinc [(1, .int 1), (0, .ref x2)] CC (jd ddX6_init 27 rfl) 0 rfl (by decide) (by decide) rfl ?_
  refine jr_goto 31 CC (jd ddX6_init 28 rfl) (by decide) ?_
  refine jr_iload_n CC (jd ddX6_init 17 rfl) 0 rfl ?_
  refine jr_bipush (v := 8) CC (jd ddX6_init 18 rfl) (by decide) ?_
  refine jr_icmp_ge 56 CC (jd ddX6_init 19 rfl) (by decide) (fun h => absurd h (by decide)) (fun _ => ?_)
  refine jr_aload_n CC (jd ddX6_init 20 rfl) 1 rfl ?_
  refine jr_get (v := .ref q1) CC (jd ddX6_init 21 rfl) (jf_X6_11 CC) 0 rfl rfl ?_
  refine jr_iload_n CC (jd ddX6_init 22 rfl) 0 rfl ?_
  refine jr_new [.null, .int 0, .int 0, .int 0] CC (jd ddX6_init 23 rfl) (jn_X6_9 CC) (by intro j hj; match j, hj with | 0, _ => rfl | 1, _ => rfl | 2, _ => rfl | 3, _ => rfl) (by decide) (by decide) (fun q8 => ?_)
  refine jr_dup CC (jd ddX6_init 24 rfl) rfl ?_
  refine jr_callIN (rest := [.ref q8, .int 1, .ref q1]) [] CC (jd ddX6_init 25 rfl) (jy_X6_27 CC) (k_X0_init l t hfl q8) [6] rfl (by decide) rfl rfl (by decide) (Nat.le_of_ble_eq_true rfl) (by rintro v u h; rcases h with ⟨a1, a2, a3, rfl, rfl⟩ <;> rfl) (fun _ _ h => h.elim) (fun _ _ h => h.elim) (fun v u h => ?_)
  rcases h with ⟨q9, q10, q11, rfl, rfl⟩
  refine jr_norm [(x2, .inr (5, [.ref q1, .int 0, .null, .int 0, .int 4, .int 8, .int 0, .int 0, .int 0, .int 0, .int (-1)])), (q1, .inl (t 2, 8, .inr (.inr (.inr (.inr (va_up (fun _ => none) 0 (some q3))))))), (q3, .inr (0, [.ref q4, .int 0, .int 0, .int 0])), (q4, .inl (t 1, 2, .inr (.inr (.inr (.inr (jr2 q5 q6)))))), (q5, .inl (t 0, 49, .inl (fun _ => 0))), (q6, .inl (t 0, 49, .inl (fun _ => 0))), (q8, .inr (0, [.ref q9, .int 0, .int 0, .int 0])), (q9, .inl (t 1, 2, .inr (.inr (.inr (.inr (jr2 q10 q11)))))), (q10, .inl (t 0, 49, .inl (fun _ => 0))), (q11, .inl (t 0, 49, .inl (fun _ => 0)))] [.ref q8, .int 1, .ref q1] 49 9 216 rfl rfl rfl rfl rfl ?_
  refine jr_astq (ci := 0) CC (jd ddX6_init 26 rfl) 1 1 6 rfl rfl (by decide) (by decide) (by decide) ?_
  refine jr_iinc [(1, .int 2), (0, .ref x2)] CC (jd ddX6_init 27 rfl) 0 rfl (by decide) (by decide) rfl ?_
  refine jr_goto 31 CC (jd ddX6_init 28 rfl) (by decide) ?_
  refine jr_iload_n CC (jd ddX6_init 17 rfl) 0 rfl ?_
  refine jr_bipush (v := 8) CC (jd ddX6_init 18 rfl) (by decide) ?_
  refine jr_icmp_ge 56 CC (jd ddX6_init 19 rfl) (by decide) (fun h => absurd h (by decide)) (fun _ => ?_)
  refine jr_aload_n CC (jd ddX6_init 20 rfl) 1 rfl ?_
  refine jr_get (v := .ref q1) CC (jd ddX6_init 21 rfl) (jf_X6_11 CC) 0 rfl rfl ?_
  refine jr_iload_n CC (jd ddX6_init 22 rfl) 0 rfl ?_
  refine jr_new [.null, .int 0, .int 0, .int 0] CC (jd ddX6_init 23 rfl) (jn_X6_9 CC) (by intro j hj; match j, hj with | 0, _ => rfl | 1, _ => rfl | 2, _ => rfl | 3, _ => rfl) (by decide) (by decide) (fun q13 => ?_)
  refine jr_dup CC (jd ddX6_init 24 rfl) rfl ?_
  refine jr_callIN (rest := [.ref q13, .int 2, .ref q1]) [] CC (jd ddX6_init 25 rfl) (jy_X6_27 CC) (k_X0_init l t hfl q13) [10] rfl (by decide) rfl rfl (by decide) (Nat.le_of_ble_eq_true rfl) (by rintro v u h; rcases h with ⟨a1, a2, a3, rfl, rfl⟩ <;> rfl) (fun _ _ h => h.elim) (fun _ _ h => h.elim) (fun v u h => ?_)
  rcases h with ⟨q14, q15, q16, rfl, rfl⟩
  refine jr_norm [(x2, .inr (5, [.ref q1, .int 0, .null, .int 0, .int 4, .int 8, .int 0, .int 0, .int 0, .int 0, .int (-1)])), (q1, .inl (t 2, 8, .inr (.inr (.inr (.inr (va_up (va_up (fun _ => none) 0 (some q3)) 1 (some q8))))))), (q3, .inr (0, [.ref q4, .int 0, .int 0, .int 0])), (q4, .inl (t 1, 2, .inr (.inr (.inr (.inr (jr2 q5 q6)))))), (q5, .inl (t 0, 49, .inl (fun _ => 0))), (q6, .inl (t 0, 49, .inl (fun _ => 0))), (q8, .inr (0, [.ref q9, .int 0, .int 0, .int 0])), (q9, .inl (t 1, 2, .inr (.inr (.inr (.inr (jr2 q10 q11)))))), (q10, .inl (t 0, 49, .inl (fun _ => 0))), (q11, .inl (t 0, 49, .inl (fun _ => 0))), (q13, .inr (0, [.ref q14, .int 0, .int 0, .int 0])), (q14, .inl (t 1, 2, .inr (.inr (.inr (.inr (jr2 q15 q16)))))), (q15, .inl (t 0, 49, .inl (fun _ => 0))), (q16, .inl (t 0, 49, .inl (fun _ => 0)))] [.ref q13, .int 2, .ref q1] 49 13 320 rfl rfl rfl rfl rfl ?_
  refine jr_astq (ci := 0) CC (jd ddX6_init 26 rfl) 1 2 10 rfl rfl (by decide) (by decide) (by decide) ?_
  refine jr_iinc [(1, .int 3), (0, .ref x2)] CC (jd ddX6_init 27 rfl) 0 rfl (by decide) (by decide) rfl ?_
  refine jr_goto 31 CC (jd ddX6_init 28 rfl) (by decide) ?_
  refine jr_iload_n CC (jd ddX6_init 17 rfl) 0 rfl ?_
  refine jr_bipush (v := 8) CC (jd ddX6_init 18 rfl) (by decide) ?_
  refine jr_icmp_ge 56 CC (jd ddX6_init 19 rfl) (by decide) (fun h => absurd h (by decide)) (fun _ => ?_)
  refine jr_aload_n CC (jd ddX6_init 20 rfl) 1 rfl ?_
  refine jr_get (v := .ref q1) CC (jd ddX6_init 21 rfl) (jf_X6_11 CC) 0 rfl rfl ?_
  refine jr_iload_n CC (jd ddX6_init 22 rfl) 0 rfl ?_
  refine jr_new [.null, .int 0, .int 0, .int 0] CC (jd ddX6_init 23 rfl) (jn_X6_9 CC) (by intro j hj; match j, hj with | 0, _ => rfl | 1, _ => rfl | 2, _ => rfl | 3, _ => rfl) (by decide) (by decide) (fun q18 => ?_)
  refine jr_dup CC (jd ddX6_init 24 rfl) rfl ?_
  refine jr_callIN (rest := [.ref q18, .int 3, .ref q1]) [] CC (jd ddX6_init 25 rfl) (jy_X6_27 CC) (k_X0_init l t hfl q18) [14] rfl (by decide) rfl rfl (by decide) (Nat.le_of_ble_eq_true rfl) (by rintro v u h; rcases h with ⟨a1, a2, a3, rfl, rfl⟩ <;> rfl) (fun _ _ h => h.elim) (fun _ _ h => h.elim) (fun v u h => ?_)
  rcases h with ⟨q19, q20, q21, rfl, rfl⟩
  refine jr_norm [(x2, .inr (5, [.ref q1, .int 0, .null, .int 0, .int 4, .int 8, .int 0, .int 0, .int 0, .int 0, .int (-1)])), (q1, .inl (t 2, 8, .inr (.inr (.inr (.inr (va_up (va_up (va_up (fun _ => none) 0 (some q3)) 1 (some q8)) 2 (some q13))))))), (q3, .inr (0, [.ref q4, .int 0, .int 0, .int 0])), (q4, .inl (t 1, 2, .inr (.inr (.inr (.inr (jr2 q5 q6)))))), (q5, .inl (t 0, 49, .inl (fun _ => 0))), (q6, .inl (t 0, 49, .inl (fun _ => 0))), (q8, .inr (0, [.ref q9, .int 0, .int 0, .int 0])), (q9, .inl (t 1, 2, .inr (.inr (.inr (.inr (jr2 q10 q11)))))), (q10, .inl (t 0, 49, .inl (fun _ => 0))), (q11, .inl (t 0, 49, .inl (fun _ => 0))), (q13, .inr (0, [.ref q14, .int 0, .int 0, .int 0])), (q14, .inl (t 1, 2, .inr (.inr (.inr (.inr (jr2 q15 q16)))))), (q15, .inl (t 0, 49, .inl (fun _ => 0))), (q16, .inl (t 0, 49, .inl (fun _ => 0))), (q18, .inr (0, [.ref q19, .int 0, .int 0, .int 0])), (q19, .inl (t 1, 2, .inr (.inr (.inr (.inr (jr2 q20 q21)))))), (q20, .inl (t 0, 49, .inl (fun _ => 0))), (q21, .inl (t 0, 49, .inl (fun _ => 0)))] [.ref q18, .int 3, .ref q1] 49 17 424 rfl rfl rfl rfl rfl ?_
  refine jr_astq (ci := 0) CC (jd ddX6_init 26 rfl) 1 3 14 rfl rfl (by decide) (by decide) (by decide) ?_
  refine jr_iinc [(1, .int 4), (0, .ref x2)] CC (jd ddX6_init 27 rfl) 0 rfl (by decide) (by decide) rfl ?_
  refine jr_goto 31 CC (jd ddX6_init 28 rfl) (by decide) ?_
  refine jr_iload_n CC (jd ddX6_init 17 rfl) 0 rfl ?_
  refine jr_bipush (v := 8) CC (jd ddX6_init 18 rfl) (by decide) ?_
  refine jr_icmp_ge 56 CC (jd ddX6_init 19 rfl) (by decide) (fun h => absurd h (by decide)) (fun _ => ?_)
  refine jr_aload_n CC (jd ddX6_init 20 rfl) 1 rfl ?_
  refine jr_get (v := .ref q1) CC (jd ddX6_init 21 rfl) (jf_X6_11 CC) 0 rfl rfl ?_
  refine jr_iload_n CC (jd ddX6_init 22 rfl) 0 rfl ?_
  refine jr_new [.null, .int 0, .int 0, .int 0] CC (jd ddX6_init 23 rfl) (jn_X6_9 CC) (by intro j hj; match j, hj with | 0, _ => rfl | 1, _ => rfl | 2, _ => rfl | 3, _ => rfl) (by decide) (by decide) (fun q23 => ?_)
  refine jr_dup CC (jd ddX6_init 24 rfl) rfl ?_
  refine jr_callIN (rest := [.ref q23, .int 4, .ref q1]) [] CC (jd ddX6_init 25 rfl) (jy_X6_27 CC) (k_X0_init l t hfl q23) [18] rfl (by decide) rfl rfl (by decide) (Nat.le_of_ble_eq_true rfl) (by rintro v u h; rcases h with ⟨a1, a2, a3, rfl, rfl⟩ <;> rfl) (fun _ _ h => h.elim) (fun _ _ h => h.elim) (fun v u h => ?_)
  rcases h with ⟨q24, q25, q26, rfl, rfl⟩
  refine jr_norm [(x2, .inr (5, [.ref q1, .int 0, .null, .int 0, .int 4, .int 8, .int 0, .int 0, .int 0, .int 0, .int (-1)])), (q1, .inl (t 2, 8, .inr (.inr (.inr (.inr (va_up (va_up (va_up (va_up (fun _ => none) 0 (some q3)) 1 (some q8)) 2 (some q13)) 3 (some q18))))))), (q3, .inr (0, [.ref q4, .int 0, .int 0, .int 0])), (q4, .inl (t 1, 2, .inr (.inr (.inr (.inr (jr2 q5 q6)))))), (q5, .inl (t 0, 49, .inl (fun _ => 0))), (q6, .inl (t 0, 49, .inl (fun _ => 0))), (q8, .inr (0, [.ref q9, .int 0, .int 0, .int 0])), (q9, .inl (t 1, 2, .inr (.inr (.inr (.inr (jr2 q10 q11)))))), (q10, .inl (t 0, 49, .inl (fun _ => 0))), (q11, .inl (t 0, 49, .inl (fun _ => 0))), (q13, .inr (0, [.ref q14, .int 0, .int 0, .int 0])), (q14, .inl (t 1, 2, .inr (.inr (.inr (.inr (jr2 q15 q16)))))), (q15, .inl (t 0, 49, .inl (fun _ => 0))), (q16, .inl (t 0, 49, .inl (fun _ => 0))), (q18, .inr (0, [.ref q19, .int 0, .int 0, .int 0])), (q19, .inl (t 1, 2, .inr (.inr (.inr (.inr (jr2 q20 q21)))))), (q20, .inl (t 0, 49, .inl (fun _ => 0))), (q21, .inl (t 0, 49, .inl (fun _ => 0))), (q23, .inr (0, [.ref q24, .int 0, .int 0, .int 0])), (q24, .inl (t 1, 2, .inr (.inr (.inr (.inr (jr2 q25 q26)))))), (q25, .inl (t 0, 49, .inl (fun _ => 0))), (q26, .inl (t 0, 49, .inl (fun _ => 0)))] [.ref q23, .int 4, .ref q1] 49 21 528 rfl rfl rfl rfl rfl ?_
  refine jr_astq (ci := 0) CC (jd ddX6_init 26 rfl) 1 4 18 rfl rfl (by decide) (by decide) (by decide) ?_
  refine jr_iinc [(1, .int 5), (0, .ref x2)] CC (jd ddX6_init 27 rfl) 0 rfl (by decide) (by decide) rfl ?_
  refine jr_goto 31 CC (jd ddX6_init 28 rfl) (by decide) ?_
  refine jr_iload_n CC (jd ddX6_init 17 rfl) 0 rfl ?_
  refine jr_bipush (v := 8) CC (jd ddX6_init 18 rfl) (by decide) ?_
  refine jr_icmp_ge 56 CC (jd ddX6_init 19 rfl) (by decide) (fun h => absurd h (by decide)) (fun _ => ?_)
  refine jr_aload_n CC (jd ddX6_init 20 rfl) 1 rfl ?_
  refine jr_get (v := .ref q1) CC (jd ddX6_init 21 rfl) (jf_X6_11 CC) 0 rfl rfl ?_
  refine jr_iload_n CC (jd ddX6_init 22 rfl) 0 rfl ?_
  refine jr_new [.null, .int 0, .int 0, .int 0] CC (jd ddX6_init 23 rfl) (jn_X6_9 CC) (by intro j hj; match j, hj with | 0, _ => rfl | 1, _ => rfl | 2, _ => rfl | 3, _ => rfl) (by decide) (by decide) (fun q28 => ?_)
  refine jr_dup CC (jd ddX6_init 24 rfl) rfl ?_
  refine jr_callIN (rest := [.ref q28, .int 5, .ref q1]) [] CC (jd ddX6_init 25 rfl) (jy_X6_27 CC) (k_X0_init l t hfl q28) [22] rfl (by decide) rfl rfl (by decide) (Nat.le_of_ble_eq_true rfl) (by rintro v u h; rcases h with ⟨a1, a2, a3, rfl, rfl⟩ <;> rfl) (fun _ _ h => h.elim) (fun _ _ h => h.elim) (fun v u h => ?_)
  rcases h with ⟨q29, q30, q31, rfl, rfl⟩
  refine jr_norm [(x2, .inr (5, [.ref q1, .int 0, .null, .int 0, .int 4, .int 8, .int 0, .int 0, .int 0, .int 0, .int (-1)])), (q1, .inl (t 2, 8, .inr (.inr (.inr (.inr (va_up (va_up (va_up (va_up (va_up (fun _ => none) 0 (some q3)) 1 (some q8)) 2 (some q13)) 3 (some q18)) 4 (some q23))))))), (q3, .inr (0, [.ref q4, .int 0, .int 0, .int 0])), (q4, .inl (t 1, 2, .inr (.inr (.inr (.inr (jr2 q5 q6)))))), (q5, .inl (t 0, 49, .inl (fun _ => 0))), (q6, .inl (t 0, 49, .inl (fun _ => 0))), (q8, .inr (0, [.ref q9, .int 0, .int 0, .int 0])), (q9, .inl (t 1, 2, .inr (.inr (.inr (.inr (jr2 q10 q11)))))), (q10, .inl (t 0, 49, .inl (fun _ => 0))), (q11, .inl (t 0, 49, .inl (fun _ => 0))), (q13, .inr (0, [.ref q14, .int 0, .int 0, .int 0])), (q14, .inl (t 1, 2, .inr (.inr (.inr (.inr (jr2 q15 q16)))))), (q15, .inl (t 0, 49, .inl (fun _ => 0))), (q16, .inl (t 0, 49, .inl (fun _ => 0))), (q18, .inr (0, [.ref q19, .int 0, .int 0, .int 0])), (q19, .inl (t 1, 2, .inr (.inr (.inr (.inr (jr2 q20 q21)))))), (q20, .inl (t 0, 49, .inl (fun _ => 0))), (q21, .inl (t 0, 49, .inl (fun _ => 0))), (q23, .inr (0, [.ref q24, .int 0, .int 0, .int 0])), (q24, .inl (t 1, 2, .inr (.inr (.inr (.inr (jr2 q25 q26)))))), (q25, .inl (t 0, 49, .inl (fun _ => 0))), (q26, .inl (t 0, 49, .inl (fun _ => 0))), (q28, .inr (0, [.ref q29, .int 0, .int 0, .int 0])), (q29, .inl (t 1, 2, .inr (.inr (.inr (.inr (jr2 q30 q31)))))), (q30, .inl (t 0, 49, .inl (fun _ => 0))), (q31, .inl (t 0, 49, .inl (fun _ => 0)))] [.ref q28, .int 5, .ref q1] 49 25 632 rfl rfl rfl rfl rfl ?_
  refine jr_astq (ci := 0) CC (jd ddX6_init 26 rfl) 1 5 22 rfl rfl (by decide) (by decide) (by decide) ?_
  refine jr_iinc [(1, .int 6), (0, .ref x2)] CC (jd ddX6_init 27 rfl) 0 rfl (by decide) (by decide) rfl ?_
  refine jr_goto 31 CC (jd ddX6_init 28 rfl) (by decide) ?_
  refine jr_iload_n CC (jd ddX6_init 17 rfl) 0 rfl ?_
  refine jr_bipush (v := 8) CC (jd ddX6_init 18 rfl) (by decide) ?_
  refine jr_icmp_ge 56 CC (jd ddX6_init 19 rfl) (by decide) (fun h => absurd h (by decide)) (fun _ => ?_)
  refine jr_aload_n CC (jd ddX6_init 20 rfl) 1 rfl ?_
  refine jr_get (v := .ref q1) CC (jd ddX6_init 21 rfl) (jf_X6_11 CC) 0 rfl rfl ?_
  refine jr_iload_n CC (jd ddX6_init 22 rfl) 0 rfl ?_
  refine jr_new [.null, .int 0, .int 0, .int 0] CC (jd ddX6_init 23 rfl) (jn_X6_9 CC) (by intro j hj; match j, hj with | 0, _ => rfl | 1, _ => rfl | 2, _ => rfl | 3, _ => rfl) (by decide) (by decide) (fun q33 => ?_)
  refine jr_dup CC (jd ddX6_init 24 rfl) rfl ?_
  refine jr_callIN (rest := [.ref q33, .int 6, .ref q1]) [] CC (jd ddX6_init 25 rfl) (jy_X6_27 CC) (k_X0_init l t hfl q33) [26] rfl (by decide) rfl rfl (by decide) (Nat.le_of_ble_eq_true rfl) (by rintro v u h; rcases h with ⟨a1, a2, a3, rfl, rfl⟩ <;> rfl) (fun _ _ h => h.elim) (fun _ _ h => h.elim) (fun v u h => ?_)
  rcases h with ⟨q34, q35, q36, rfl, rfl⟩
  refine jr_norm [(x2, .inr (5, [.ref q1, .int 0, .null, .int 0, .int 4, .int 8, .int 0, .int 0, .int 0, .int 0, .int (-1)])), (q1, .inl (t 2, 8, .inr (.inr (.inr (.inr (va_up (va_up (va_up (va_up (va_up (va_up (fun _ => none) 0 (some q3)) 1 (some q8)) 2 (some q13)) 3 (some q18)) 4 (some q23)) 5 (some q28))))))), (q3, .inr (0, [.ref q4, .int 0, .int 0, .int 0])), (q4, .inl (t 1, 2, .inr (.inr (.inr (.inr (jr2 q5 q6)))))), (q5, .inl (t 0, 49, .inl (fun _ => 0))), (q6, .inl (t 0, 49, .inl (fun _ => 0))), (q8, .inr (0, [.ref q9, .int 0, .int 0, .int 0])), (q9, .inl (t 1, 2, .inr (.inr (.inr (.inr (jr2 q10 q11)))))), (q10, .inl (t 0, 49, .inl (fun _ => 0))), (q11, .inl (t 0, 49, .inl (fun _ => 0))), (q13, .inr (0, [.ref q14, .int 0, .int 0, .int 0])), (q14, .inl (t 1, 2, .inr (.inr (.inr (.inr (jr2 q15 q16)))))), (q15, .inl (t 0, 49, .inl (fun _ => 0))), (q16, .inl (t 0, 49, .inl (fun _ => 0))), (q18, .inr (0, [.ref q19, .int 0, .int 0, .int 0])), (q19, .inl (t 1, 2, .inr (.inr (.inr (.inr (jr2 q20 q21)))))), (q20, .inl (t 0, 49, .inl (fun _ => 0))), (q21, .inl (t 0, 49, .inl (fun _ => 0))), (q23, .inr (0, [.ref q24, .int 0, .int 0, .int 0])), (q24, .inl (t 1, 2, .inr (.inr (.inr (.inr (jr2 q25 q26)))))), (q25, .inl (t 0, 49, .inl (fun _ => 0))), (q26, .inl (t 0, 49, .inl (fun _ => 0))), (q28, .inr (0, [.ref q29, .int 0, .int 0, .int 0])), (q29, .inl (t 1, 2, .inr (.inr (.inr (.inr (jr2 q30 q31)))))), (q30, .inl (t 0, 49, .inl (fun _ => 0))), (q31, .inl (t 0, 49, .inl (fun _ => 0))), (q33, .inr (0, [.ref q34, .int 0, .int 0, .int 0])), (q34, .inl (t 1, 2, .inr (.inr (.inr (.inr (jr2 q35 q36)))))), (q35, .inl (t 0, 49, .inl (fun _ => 0))), (q36, .inl (t 0, 49, .inl (fun _ => 0)))] [.ref q33, .int 6, .ref q1] 49 29 736 rfl rfl rfl rfl rfl ?_
  refine jr_astq (ci := 0) CC (jd ddX6_init 26 rfl) 1 6 26 rfl rfl (by decide) (by decide) (by decide) ?_
  refine jr_iinc [(1, .int 7), (0, .ref x2)] CC (jd ddX6_init 27 rfl) 0 rfl (by decide) (by decide) rfl ?_
  refine jr_goto 31 CC (jd ddX6_init 28 rfl) (by decide) ?_
  refine jr_iload_n CC (jd ddX6_init 17 rfl) 0 rfl ?_
  refine jr_bipush (v := 8) CC (jd ddX6_init 18 rfl) (by decide) ?_
  refine jr_icmp_ge 56 CC (jd ddX6_init 19 rfl) (by decide) (fun h => absurd h (by decide)) (fun _ => ?_)
  refine jr_aload_n CC (jd ddX6_init 20 rfl) 1 rfl ?_
  refine jr_get (v := .ref q1) CC (jd ddX6_init 21 rfl) (jf_X6_11 CC) 0 rfl rfl ?_
  refine jr_iload_n CC (jd ddX6_init 22 rfl) 0 rfl ?_
  refine jr_new [.null, .int 0, .int 0, .int 0] CC (jd ddX6_init 23 rfl) (jn_X6_9 CC) (by intro j hj; match j, hj with | 0, _ => rfl | 1, _ => rfl | 2, _ => rfl | 3, _ => rfl) (by decide) (by decide) (fun q38 => ?_)
  refine jr_dup CC (jd ddX6_init 24 rfl) rfl ?_
  refine jr_callIN (rest := [.ref q38, .int 7, .ref q1]) [] CC (jd ddX6_init 25 rfl) (jy_X6_27 CC) (k_X0_init l t hfl q38) [30] rfl (by decide) rfl rfl (by decide) (Nat.le_of_ble_eq_true rfl) (by rintro v u h; rcases h with ⟨a1, a2, a3, rfl, rfl⟩ <;> rfl) (fun _ _ h => h.elim) (fun _ _ h => h.elim) (fun v u h => ?_)
  rcases h with ⟨q39, q40, q41, rfl, rfl⟩
  refine jr_norm [(x2, .inr (5, [.ref q1, .int 0, .null, .int 0, .int 4, .int 8, .int 0, .int 0, .int 0, .int 0, .int (-1)])), (q1, .inl (t 2, 8, .inr (.inr (.inr (.inr (va_up (va_up (va_up (va_up (va_up (va_up (va_up (fun _ => none) 0 (some q3)) 1 (some q8)) 2 (some q13)) 3 (some q18)) 4 (some q23)) 5 (some q28)) 6 (some q33))))))), (q3, .inr (0, [.ref q4, .int 0, .int 0, .int 0])), (q4, .inl (t 1, 2, .inr (.inr (.inr (.inr (jr2 q5 q6)))))), (q5, .inl (t 0, 49, .inl (fun _ => 0))), (q6, .inl (t 0, 49, .inl (fun _ => 0))), (q8, .inr (0, [.ref q9, .int 0, .int 0, .int 0])), (q9, .inl (t 1, 2, .inr (.inr (.inr (.inr (jr2 q10 q11)))))), (q10, .inl (t 0, 49, .inl (fun _ => 0))), (q11, .inl (t 0, 49, .inl (fun _ => 0))), (q13, .inr (0, [.ref q14, .int 0, .int 0, .int 0])), (q14, .inl (t 1, 2, .inr (.inr (.inr (.inr (jr2 q15 q16)))))), (q15, .inl (t 0, 49, .inl (fun _ => 0))), (q16, .inl (t 0, 49, .inl (fun _ => 0))), (q18, .inr (0, [.ref q19, .int 0, .int 0, .int 0])), (q19, .inl (t 1, 2, .inr (.inr (.inr (.inr (jr2 q20 q21)))))), (q20, .inl (t 0, 49, .inl (fun _ => 0))), (q21, .inl (t 0, 49, .inl (fun _ => 0))), (q23, .inr (0, [.ref q24, .int 0, .int 0, .int 0])), (q24, .inl (t 1, 2, .inr (.inr (.inr (.inr (jr2 q25 q26)))))), (q25, .inl (t 0, 49, .inl (fun _ => 0))), (q26, .inl (t 0, 49, .inl (fun _ => 0))), (q28, .inr (0, [.ref q29, .int 0, .int 0, .int 0])), (q29, .inl (t 1, 2, .inr (.inr (.inr (.inr (jr2 q30 q31)))))), (q30, .inl (t 0, 49, .inl (fun _ => 0))), (q31, .inl (t 0, 49, .inl (fun _ => 0))), (q33, .inr (0, [.ref q34, .int 0, .int 0, .int 0])), (q34, .inl (t 1, 2, .inr (.inr (.inr (.inr (jr2 q35 q36)))))), (q35, .inl (t 0, 49, .inl (fun _ => 0))), (q36, .inl (t 0, 49, .inl (fun _ => 0))), (q38, .inr (0, [.ref q39, .int 0, .int 0, .int 0])), (q39, .inl (t 1, 2, .inr (.inr (.inr (.inr (jr2 q40 q41)))))), (q40, .inl (t 0, 49, .inl (fun _ => 0))), (q41, .inl (t 0, 49, .inl (fun _ => 0)))] [.ref q38, .int 7, .ref q1] 49 33 840 rfl rfl rfl rfl rfl ?_
  refine jr_astq (ci := 0) CC (jd ddX6_init 26 rfl) 1 7 30 rfl rfl (by decide) (by decide) (by decide) ?_
  refine jr_iinc [(1, .int 8), (0, .ref x2)] CC (jd ddX6_init 27 rfl) 0 rfl (by decide) (by decide) rfl ?_
  refine jr_goto 31 CC (jd ddX6_init 28 rfl) (by decide) ?_
  refine jr_iload_n CC (jd ddX6_init 17 rfl) 0 rfl ?_
  refine jr_bipush (v := 8) CC (jd ddX6_init 18 rfl) (by decide) ?_
  refine jr_icmp_ge 56 CC (jd ddX6_init 19 rfl) (by decide) (fun _ => ?_) (fun h => absurd h (by decide))
  refine jr_ws ([(x2, .inr (5, [.ref q1, .int 0, .null, .int 0, .int 4, .int 8, .int 0, .int 0, .int 0, .int 0, .int (-1)]))] ++ (q1, .inl (t 2, 8, .inr (.inr (.inr (.inr (va_up (va_up (va_up (va_up (va_up (va_up (va_up (va_up (fun _ => none) 0 (some q3)) 1 (some q8)) 2 (some q13)) 3 (some q18)) 4 (some q23)) 5 (some q28)) 6 (some q33)) 7 (some q38))))))) :: [(q3, .inr (0, [.ref q4, .int 0, .int 0, .int 0])), (q4, .inl (t 1, 2, .inr (.inr (.inr (.inr (jr2 q5 q6)))))), (q5, .inl (t 0, 49, .inl (fun _ => 0))), (q6, .inl (t 0, 49, .inl (fun _ => 0))), (q8, .inr (0, [.ref q9, .int 0, .int 0, .int 0])), (q9, .inl (t 1, 2, .inr (.inr (.inr (.inr (jr2 q10 q11)))))), (q10, .inl (t 0, 49, .inl (fun _ => 0))), (q11, .inl (t 0, 49, .inl (fun _ => 0))), (q13, .inr (0, [.ref q14, .int 0, .int 0, .int 0])), (q14, .inl (t 1, 2, .inr (.inr (.inr (.inr (jr2 q15 q16)))))), (q15, .inl (t 0, 49, .inl (fun _ => 0))), (q16, .inl (t 0, 49, .inl (fun _ => 0))), (q18, .inr (0, [.ref q19, .int 0, .int 0, .int 0])), (q19, .inl (t 1, 2, .inr (.inr (.inr (.inr (jr2 q20 q21)))))), (q20, .inl (t 0, 49, .inl (fun _ => 0))), (q21, .inl (t 0, 49, .inl (fun _ => 0))), (q23, .inr (0, [.ref q24, .int 0, .int 0, .int 0])), (q24, .inl (t 1, 2, .inr (.inr (.inr (.inr (jr2 q25 q26)))))), (q25, .inl (t 0, 49, .inl (fun _ => 0))), (q26, .inl (t 0, 49, .inl (fun _ => 0))), (q28, .inr (0, [.ref q29, .int 0, .int 0, .int 0])), (q29, .inl (t 1, 2, .inr (.inr (.inr (.inr (jr2 q30 q31)))))), (q30, .inl (t 0, 49, .inl (fun _ => 0))), (q31, .inl (t 0, 49, .inl (fun _ => 0))), (q33, .inr (0, [.ref q34, .int 0, .int 0, .int 0])), (q34, .inl (t 1, 2, .inr (.inr (.inr (.inr (jr2 q35 q36)))))), (q35, .inl (t 0, 49, .inl (fun _ => 0))), (q36, .inl (t 0, 49, .inl (fun _ => 0))), (q38, .inr (0, [.ref q39, .int 0, .int 0, .int 0])), (q39, .inl (t 1, 2, .inr (.inr (.inr (.inr (jr2 q40 q41)))))), (q40, .inl (t 0, 49, .inl (fun _ => 0))), (q41, .inl (t 0, 49, .inl (fun _ => 0)))]) rfl ?_
  refine jr_ext [(x2, .inr (5, [.ref q1, .int 0, .null, .int 0, .int 4, .int 8, .int 0, .int 0, .int 0, .int 0, .int (-1)]))] [(q3, .inr (0, [.ref q4, .int 0, .int 0, .int 0])), (q4, .inl (t 1, 2, .inr (.inr (.inr (.inr (jr2 q5 q6)))))), (q5, .inl (t 0, 49, .inl (fun _ => 0))), (q6, .inl (t 0, 49, .inl (fun _ => 0))), (q8, .inr (0, [.ref q9, .int 0, .int 0, .int 0])), (q9, .inl (t 1, 2, .inr (.inr (.inr (.inr (jr2 q10 q11)))))), (q10, .inl (t 0, 49, .inl (fun _ => 0))), (q11, .inl (t 0, 49, .inl (fun _ => 0))), (q13, .inr (0, [.ref q14, .int 0, .int 0, .int 0])), (q14, .inl (t 1, 2, .inr (.inr (.inr (.inr (jr2 q15 q16)))))), (q15, .inl (t 0, 49, .inl (fun _ => 0))), (q16, .inl (t 0, 49, .inl (fun _ => 0))), (q18, .inr (0, [.ref q19, .int 0, .int 0, .int 0])), (q19, .inl (t 1, 2, .inr (.inr (.inr (.inr (jr2 q20 q21)))))), (q20, .inl (t 0, 49, .inl (fun _ => 0))), (q21, .inl (t 0, 49, .inl (fun _ => 0))), (q23, .inr (0, [.ref q24, .int 0, .int 0, .int 0])), (q24, .inl (t 1, 2, .inr (.inr (.inr (.inr (jr2 q25 q26)))))), (q25, .inl (t 0, 49, .inl (fun _ => 0))), (q26, .inl (t 0, 49, .inl (fun _ => 0))), (q28, .inr (0, [.ref q29, .int 0, .int 0, .int 0])), (q29, .inl (t 1, 2, .inr (.inr (.inr (.inr (jr2 q30 q31)))))), (q30, .inl (t 0, 49, .inl (fun _ => 0))), (q31, .inl (t 0, 49, .inl (fun _ => 0))), (q33, .inr (0, [.ref q34, .int 0, .int 0, .int 0])), (q34, .inl (t 1, 2, .inr (.inr (.inr (.inr (jr2 q35 q36)))))), (q35, .inl (t 0, 49, .inl (fun _ => 0))), (q36, .inl (t 0, 49, .inl (fun _ => 0))), (q38, .inr (0, [.ref q39, .int 0, .int 0, .int 0])), (q39, .inl (t 1, 2, .inr (.inr (.inr (.inr (jr2 q40 q41)))))), (q40, .inl (t 0, 49, .inl (fun _ => 0))), (q41, .inl (t 0, 49, .inl (fun _ => 0)))] q1 8 (t 2) (va_up (va_up (va_up (va_up (va_up (va_up (va_up (va_up (fun _ => none) 0 (some q3)) 1 (some q8)) 2 (some q13)) 3 (some q18)) 4 (some q23)) 5 (some q28)) 6 (some q33)) 7 (some q38)) (jcaps (jlst [q3, q4, q5, q6, q8, q9, q10, q11, q13, q14, q15, q16, q18, q19, q20, q21, q23, q24, q25, q26, q28, q29, q30, q31, q33, q34, q35, q36, q38, q39, q40, q41])) (jcaps8 [q3, q4, q5, q6, q8, q9, q10, q11, q13, q14, q15, q16, q18, q19, q20, q21, q23, q24, q25, q26, q28, q29, q30, q31, q33, q34, q35, q36, q38, q39, q40, q41] q3 q8 q13 q18 q23 q28 q33 q38 rfl rfl rfl rfl rfl rfl rfl rfl) ?_
  refine jr_ws ([(x2, .inr (5, jmem M0 q1 none)), (q1, .inl (t 2, 8, .inr (.inr (.inr (.inr (jcaps (jlst [q3, q4, q5, q6, q8, q9, q10, q11, q13, q14, q15, q16, q18, q19, q20, q21, q23, q24, q25, q26, q28, q29, q30, q31, q33, q34, q35, q36, q38, q39, q40, q41])))))))] ++ jpool t (jlst [q3, q4, q5, q6, q8, q9, q10, q11, q13, q14, q15, q16, q18, q19, q20, q21, q23, q24, q25, q26, q28, q29, q30, q31, q33, q34, q35, q36, q38, q39, q40, q41]) K0) rfl ?_
  exact jr_vret CC MM (jd ddX6_init 29 rfl) rfl (by decide) (by decide) ⟨q1, (jlst [q3, q4, q5, q6, q8, q9, q10, q11, q13, q14, q15, q16, q18, q19, q20, q21, q23, q24, q25, q26, q28, q29, q30, q31, q33, q34, q35, q36, q38, q39, q40, q41]), rfl, rfl⟩
