set_option maxHeartbeats 8000000 in
set_option maxRecDepth 100000 in
theorem k_X2_begunAnew (l : Launch) (t : Nat → ClassId) (hfl : l.stackTraces = false) (h0 : Nat) (G : Nat → Int32) (hb : G 3 = 0 ∨ G 3 = 1) : jKx l t yX2_begunAnew (Cond.code yX2_begunAnew cX2_begunAnew 1 (some (.object "Triggerwright$Condition")) :: jWS) { frames := 3, cells := 1, slots := 5, locals := 56 } [.ref h0] [(h0, .inr (1, jcond 1 G))] (fun vv uu => (∃ q9 : Nat, vv = some (.ref q9) ∧ uu = [(h0, .inr (1, jcond 1 G)), (q9, .inr (1, jcond 1 (cNew 1 G)))])) (fun _ _ => False) := by
  refine jK_of hfl (by decide +kernel) (Nat.le_of_ble_eq_true rfl) ?_
  intro p e s m args below meth c D A Q CC MM
  refine jr_norm0 [(0, .ref h0)] rfl ?_
  refine jr_new [.int 0, .int 0, .int 0, .int 0, .int 0] CC (jd ddX2_begunAnew 0 rfl) (jn_X2_8 CC) (by intro j hj; match j, hj with | 0, _ => rfl | 1, _ => rfl | 2, _ => rfl | 3, _ => rfl | 4, _ => rfl) (by decide) (by decide) (fun q1 => ?_)
  refine jr_dup CC (jd ddX2_begunAnew 1 rfl) rfl ?_
  refine jr_aload_n CC (jd ddX2_begunAnew 2 rfl) 0 rfl ?_
  refine jr_get (v := .int (G 0)) CC (jd ddX2_begunAnew 3 rfl) (jf_X2_7 CC) 0 rfl rfl ?_
  refine jr_aload_n CC (jd ddX2_begunAnew 4 rfl) 0 rfl ?_
  refine jr_get (v := .int (G 1)) CC (jd ddX2_begunAnew 5 rfl) (jf_X2_13 CC) 0 rfl rfl ?_
  refine jr_aload_n CC (jd ddX2_begunAnew 6 rfl) 0 rfl ?_
  refine jr_get (v := .int (G 2)) CC (jd ddX2_begunAnew 7 rfl) (jf_X2_16 CC) 0 rfl rfl ?_
  refine jr_aload_n CC (jd ddX2_begunAnew 8 rfl) 0 rfl ?_
  refine jr_get (v := .int (G 3)) CC (jd ddX2_begunAnew 9 rfl) (jf_X2_19 CC) 0 rfl rfl ?_
  refine jr_pc (pc' := 20) rfl ?_
  refine jr_callI (rest := [.ref q1]) [.int (G 0), .int (G 1), .int (G 2), .int (G 3)] CC (jd ddX2_begunAnew 10 rfl) (jy_X2_26 CC) (k_X2_init l t hfl q1 (G 0) (G 1) (G 2) (G 3) hb) [1] rfl (by decide) rfl rfl (by decide) (Nat.le_of_ble_eq_true rfl) (by rintro v u h; rcases h with ⟨rfl, rfl⟩ <;> rfl) (fun _ _ h => h.elim) (fun _ _ h => h.elim) (fun v u h => ?_)
  rcases h with ⟨rfl, rfl⟩
  refine jr_norm [(h0, .inr (1, jcond 1 G)), (q1, .inr (1, jcond 1 (gE (G 0) (G 1) (G 2) (G 3))))] [.ref q1] 23 1 5 rfl rfl rfl rfl rfl ?_
  exact jr_aret CC MM (jd ddX2_begunAnew 11 rfl) (by decide) (by decide) ⟨q1, rfl, rfl⟩
set_option maxHeartbeats 8000000 in
set_option maxRecDepth 100000 in
theorem k_X7_begunAnew (l : Launch) (t : Nat → ClassId) (hfl : l.stackTraces = false) (h0 : Nat) (G : Nat → Int32) : jKx l t yX7_begunAnew (Cond.code yX7_begunAnew cX7_begunAnew 1 (some (.object "Triggerwright$Condition")) :: jWS) { frames := 3, cells := 1, slots := 6, locals := 55 } [.ref h0] [(h0, .inr (6, jcond 6 G))] (fun vv uu => (∃ q9 : Nat, vv = some (.ref q9) ∧ uu = [(h0, .inr (6, jcond 6 G)), (q9, .inr (6, jcond 6 (cNew 6 G)))])) (fun _ _ => False) := by
  refine jK_of hfl (by decide +kernel) (Nat.le_of_ble_eq_true rfl) ?_
  intro p e s m args below meth c D A Q CC MM
  refine jr_norm0 [(0, .ref h0)] rfl ?_
  refine jr_new [.int 0, .int 0, .int 0, .int 0, .int 0, .int 0] CC (jd ddX7_begunAnew 0 rfl) (jn_X7_8 CC) (by intro j hj; match j, hj with | 0, _ => rfl | 1, _ => rfl | 2, _ => rfl | 3, _ => rfl | 4, _ => rfl | 5, _ => rfl) (by decide) (by decide) (fun q1 => ?_)
  refine jr_dup CC (jd ddX7_begunAnew 1 rfl) rfl ?_
  refine jr_aload_n CC (jd ddX7_begunAnew 2 rfl) 0 rfl ?_
  refine jr_get (v := .int (G 0)) CC (jd ddX7_begunAnew 3 rfl) (jf_X7_7 CC) 0 rfl rfl ?_
  refine jr_aload_n CC (jd ddX7_begunAnew 4 rfl) 0 rfl ?_
  refine jr_get (v := .int (G 1)) CC (jd ddX7_begunAnew 5 rfl) (jf_X7_13 CC) 0 rfl rfl ?_
  refine jr_aload_n CC (jd ddX7_begunAnew 6 rfl) 0 rfl ?_
  refine jr_get (v := .int (G 2)) CC (jd ddX7_begunAnew 7 rfl) (jf_X7_16 CC) 0 rfl rfl ?_
  refine jr_callI (rest := [.ref q1]) [.int (G 0), .int (G 1), .int (G 2)] CC (jd ddX7_begunAnew 8 rfl) (jy_X7_29 CC) (k_X7_init l t hfl q1 (G 0) (G 1) (G 2)) [1] rfl (by decide) rfl rfl (by decide) (Nat.le_of_ble_eq_true rfl) (by rintro v u h; rcases h with ⟨rfl, rfl⟩ <;> rfl) (fun _ _ h => h.elim) (fun _ _ h => h.elim) (fun v u h => ?_)
  rcases h with ⟨rfl, rfl⟩
  refine jr_norm [(h0, .inr (6, jcond 6 G)), (q1, .inr (6, jcond 6 (gR (G 0) (G 1) (G 2))))] [.ref q1] 19 1 6 rfl rfl rfl rfl rfl ?_
  exact jr_aret CC MM (jd ddX7_begunAnew 9 rfl) (by decide) (by decide) ⟨q1, rfl, rfl⟩
set_option maxHeartbeats 8000000 in
set_option maxRecDepth 100000 in
theorem k_X8_begunAnew (l : Launch) (t : Nat → ClassId) (hfl : l.stackTraces = false) (h0 : Nat) (G : Nat → Int32) : jKx l t yX8_begunAnew (Cond.code yX8_begunAnew cX8_begunAnew 1 (some (.object "Triggerwright$Condition")) :: jWS) { frames := 3, cells := 1, slots := 8, locals := 55 } [.ref h0] [(h0, .inr (7, jcond 7 G))] (fun vv uu => (∃ q9 : Nat, vv = some (.ref q9) ∧ uu = [(h0, .inr (7, jcond 7 G)), (q9, .inr (7, jcond 7 (cNew 7 G)))])) (fun _ _ => False) := by
  refine jK_of hfl (by decide +kernel) (Nat.le_of_ble_eq_true rfl) ?_
  intro p e s m args below meth c D A Q CC MM
  refine jr_norm0 [(0, .ref h0)] rfl ?_
  refine jr_new [.int 0, .int 0, .int 0, .int 0, .int 0, .int 0, .int 0, .int 0] CC (jd ddX8_begunAnew 0 rfl) (jn_X8_8 CC) (by intro j hj; match j, hj with | 0, _ => rfl | 1, _ => rfl | 2, _ => rfl | 3, _ => rfl | 4, _ => rfl | 5, _ => rfl | 6, _ => rfl | 7, _ => rfl) (by decide) (by decide) (fun q1 => ?_)
  refine jr_dup CC (jd ddX8_begunAnew 1 rfl) rfl ?_
  refine jr_aload_n CC (jd ddX8_begunAnew 2 rfl) 0 rfl ?_
  refine jr_get (v := .int (G 0)) CC (jd ddX8_begunAnew 3 rfl) (jf_X8_7 CC) 0 rfl rfl ?_
  refine jr_aload_n CC (jd ddX8_begunAnew 4 rfl) 0 rfl ?_
  refine jr_get (v := .int (G 1)) CC (jd ddX8_begunAnew 5 rfl) (jf_X8_13 CC) 0 rfl rfl ?_
  refine jr_aload_n CC (jd ddX8_begunAnew 6 rfl) 0 rfl ?_
  refine jr_get (v := .int (G 2)) CC (jd ddX8_begunAnew 7 rfl) (jf_X8_16 CC) 0 rfl rfl ?_
  refine jr_callI (rest := [.ref q1]) [.int (G 0), .int (G 1), .int (G 2)] CC (jd ddX8_begunAnew 8 rfl) (jy_X8_35 CC) (k_X8_init l t hfl q1 (G 0) (G 1) (G 2)) [1] rfl (by decide) rfl rfl (by decide) (Nat.le_of_ble_eq_true rfl) (by rintro v u h; rcases h with ⟨rfl, rfl⟩ <;> rfl) (fun _ _ h => h.elim) (fun _ _ h => h.elim) (fun v u h => ?_)
  rcases h with ⟨rfl, rfl⟩
  refine jr_norm [(h0, .inr (7, jcond 7 G)), (q1, .inr (7, jcond 7 (gS (G 0) (G 1) (G 2))))] [.ref q1] 19 1 8 rfl rfl rfl rfl rfl ?_
  exact jr_aret CC MM (jd ddX8_begunAnew 9 rfl) (by decide) (by decide) ⟨q1, rfl, rfl⟩
set_option maxHeartbeats 8000000 in
set_option maxRecDepth 100000 in
theorem k_X9_begunAnew (l : Launch) (t : Nat → ClassId) (hfl : l.stackTraces = false) (h0 : Nat) (G : Nat → Int32) (hb : G 4 = 0 ∨ G 4 = 1) : jKx l t yX9_begunAnew (Cond.code yX9_begunAnew cX9_begunAnew 1 (some (.object "Triggerwright$Condition")) :: jWS) { frames := 3, cells := 1, slots := 7, locals := 57 } [.ref h0] [(h0, .inr (8, jcond 8 G))] (fun vv uu => (∃ q9 : Nat, vv = some (.ref q9) ∧ uu = [(h0, .inr (8, jcond 8 G)), (q9, .inr (8, jcond 8 (cNew 8 G)))])) (fun _ _ => False) := by
  refine jK_of hfl (by decide +kernel) (Nat.le_of_ble_eq_true rfl) ?_
  intro p e s m args below meth c D A Q CC MM
  refine jr_norm0 [(0, .ref h0)] rfl ?_
  refine jr_new [.int 0, .int 0, .int 0, .int 0, .int 0, .int 0, .int 0] CC (jd ddX9_begunAnew 0 rfl) (jn_X9_8 CC) (by intro j hj; match j, hj with | 0, _ => rfl | 1, _ => rfl | 2, _ => rfl | 3, _ => rfl | 4, _ => rfl | 5, _ => rfl | 6, _ => rfl) (by decide) (by decide) (fun q1 => ?_)
  refine jr_dup CC (jd ddX9_begunAnew 1 rfl) rfl ?_
  refine jr_aload_n CC (jd ddX9_begunAnew 2 rfl) 0 rfl ?_
  refine jr_get (v := .int (G 0)) CC (jd ddX9_begunAnew 3 rfl) (jf_X9_7 CC) 0 rfl rfl ?_
  refine jr_aload_n CC (jd ddX9_begunAnew 4 rfl) 0 rfl ?_
  refine jr_get (v := .int (G 1)) CC (jd ddX9_begunAnew 5 rfl) (jf_X9_13 CC) 0 rfl rfl ?_
  refine jr_aload_n CC (jd ddX9_begunAnew 6 rfl) 0 rfl ?_
  refine jr_get (v := .int (G 2)) CC (jd ddX9_begunAnew 7 rfl) (jf_X9_16 CC) 0 rfl rfl ?_
  refine jr_aload_n CC (jd ddX9_begunAnew 8 rfl) 0 rfl ?_
  refine jr_get (v := .int (G 3)) CC (jd ddX9_begunAnew 9 rfl) (jf_X9_19 CC) 0 rfl rfl ?_
  refine jr_pc (pc' := 20) rfl ?_
  refine jr_aload_n CC (jd ddX9_begunAnew 10 rfl) 0 rfl ?_
  refine jr_get (v := .int (G 4)) CC (jd ddX9_begunAnew 11 rfl) (jf_X9_22 CC) 0 rfl rfl ?_
  refine jr_callI (rest := [.ref q1]) [.int (G 0), .int (G 1), .int (G 2), .int (G 3), .int (G 4)] CC (jd ddX9_begunAnew 12 rfl) (jy_X9_32 CC) (k_X9_init l t hfl q1 (G 0) (G 1) (G 2) (G 3) (G 4) hb) [1] rfl (by decide) rfl rfl (by decide) (Nat.le_of_ble_eq_true rfl) (by rintro v u h; rcases h with ⟨rfl, rfl⟩ <;> rfl) (fun _ _ h => h.elim) (fun _ _ h => h.elim) (fun v u h => ?_)
  rcases h with ⟨rfl, rfl⟩
  refine jr_norm [(h0, .inr (8, jcond 8 G)), (q1, .inr (8, jcond 8 (gW (G 0) (G 1) (G 2) (G 3) (G 4))))] [.ref q1] 27 1 7 rfl rfl rfl rfl rfl ?_
  exact jr_aret CC MM (jd ddX9_begunAnew 13 rfl) (by decide) (by decide) ⟨q1, rfl, rfl⟩
/-- what the fields of a condition keep to -/
def cOK (ci : Nat) (G : Nat → Int32) : Prop := (ci = 1 → G 3 = 0 ∨ G 3 = 1) ∧ (ci = 8 → G 4 = 0 ∨ G 4 = 1)
theorem set_self9 {α : Type} {ws : List α} {i : Nat} {x : α} (h : ws[i]? = some x) : ws.set i x = ws := by
  apply List.ext_getElem?
  intro j
  rw [List.getElem?_set]
  split
  · rename_i h2; subst h2
    have hl := (List.getElem?_eq_some_iff.mp h).1
    rw [if_pos hl, h]
  · rfl
theorem jr_begun {p : Program} {l : Launch} {e : Env} {R : Room} {s : State} {m : MethodId} {args : Array Value} {below : List Frame} {meth : Method} {c : Code} {D : va_G} {t : Nat → ClassId} {A : Nat → Prop} {cc : ByteArray} {nL : Nat} {Q : State → Prop} {ws : va_W} {lv : List (Nat × Value)} {pc : Nat} {rest : List Value} {k n : Nat} {ci b : Nat} {G : Nat → Int32} (hfl : l.stackTraces = false) (q0 : Nat) (CC : jC p l s m args c D t A RX10 cc nL) (hd : decode cc pc = .ok (.invokevirtual 181, 3)) (hci : ci = 1 ∨ ci = 6 ∨ ci = 7 ∨ ci = 8) (hok : cOK ci G) (he : ws[q0]? = some (b, .inr (ci, jcond ci G))) (hR : 4 ≤ R.frames ∧ 77 ≤ R.locals ∧ k + 1 ≤ R.cells ∧ n + 8 ≤ R.slots) (hW : (rest.map fun v => v.category).sum ≤ 8) (k9 : ∀ q, J p l e R s m args below meth c D A nL Q (ws ++ [(q, .inr (ci, jcond ci (cNew ci G)))]) lv (pc + 3) (.ref q :: rest) (k + 1) (n + 8)) : J p l e R s m args below meth c D A nL Q ws lv pc (.ref b :: rest) k n := by
  rcases hci with rfl | rfl | rfl | rfl
  · refine jr_callU (q0 := q0) (rest := rest) [] CC hd (jy_X10_181_X2 CC) (k_X2_begunAnew l t hfl b G (hok.1 rfl)) [q0] (by simp only [List.map, he]) rfl he rfl rfl rfl ⟨Nat.le_trans (Nat.le_of_ble_eq_true rfl) hR.1, Nat.le_trans (Nat.le_of_ble_eq_true rfl) hR.2.1, hR.2.2.1, Nat.le_trans (Nat.add_le_add_left (Nat.le_of_ble_eq_true rfl) n) hR.2.2.2⟩ hW (by rintro v u ⟨q, rfl, rfl⟩; rfl) (fun _ _ h => h.elim) (fun _ _ h => h.elim) (fun v u h => ?_)
    obtain ⟨q, rfl, rfl⟩ := h
    refine jr_widen (k' := k + 1) (n' := n + 8) (Nat.le_refl _) (Nat.add_le_add_left (Nat.le_of_ble_eq_true rfl) n) ?_
    have e9 : ws.set q0 (b, .inr (1, jcond 1 G)) = ws := set_self9 he
    refine jr_ws (ws.set q0 (b, .inr (1, jcond 1 G)) ++ [(q, .inr (1, jcond 1 (cNew 1 G)))]) rfl ?_
    rw [e9]
    exact k9 q
  · refine jr_callU (q0 := q0) (rest := rest) [] CC hd (jy_X10_181_X7 CC) (k_X7_begunAnew l t hfl b G) [q0] (by simp only [List.map, he]) rfl he rfl rfl rfl ⟨Nat.le_trans (Nat.le_of_ble_eq_true rfl) hR.1, Nat.le_trans (Nat.le_of_ble_eq_true rfl) hR.2.1, hR.2.2.1, Nat.le_trans (Nat.add_le_add_left (Nat.le_of_ble_eq_true rfl) n) hR.2.2.2⟩ hW (by rintro v u ⟨q, rfl, rfl⟩; rfl) (fun _ _ h => h.elim) (fun _ _ h => h.elim) (fun v u h => ?_)
    obtain ⟨q, rfl, rfl⟩ := h
    refine jr_widen (k' := k + 1) (n' := n + 8) (Nat.le_refl _) (Nat.add_le_add_left (Nat.le_of_ble_eq_true rfl) n) ?_
    have e9 : ws.set q0 (b, .inr (6, jcond 6 G)) = ws := set_self9 he
    refine jr_ws (ws.set q0 (b, .inr (6, jcond 6 G)) ++ [(q, .inr (6, jcond 6 (cNew 6 G)))]) rfl ?_
    rw [e9]
    exact k9 q
  · refine jr_callU (q0 := q0) (rest := rest) [] CC hd (jy_X10_181_X8 CC) (k_X8_begunAnew l t hfl b G) [q0] (by simp only [List.map, he]) rfl he rfl rfl rfl ⟨Nat.le_trans (Nat.le_of_ble_eq_true rfl) hR.1, Nat.le_trans (Nat.le_of_ble_eq_true rfl) hR.2.1, hR.2.2.1, Nat.le_trans (Nat.add_le_add_left (Nat.le_of_ble_eq_true rfl) n) hR.2.2.2⟩ hW (by rintro v u ⟨q, rfl, rfl⟩; rfl) (fun _ _ h => h.elim) (fun _ _ h => h.elim) (fun v u h => ?_)
    obtain ⟨q, rfl, rfl⟩ := h
    refine jr_widen (k' := k + 1) (n' := n + 8) (Nat.le_refl _) (Nat.add_le_add_left (Nat.le_of_ble_eq_true rfl) n) ?_
    have e9 : ws.set q0 (b, .inr (7, jcond 7 G)) = ws := set_self9 he
    refine jr_ws (ws.set q0 (b, .inr (7, jcond 7 G)) ++ [(q, .inr (7, jcond 7 (cNew 7 G)))]) rfl ?_
    rw [e9]
    exact k9 q
  · refine jr_callU (q0 := q0) (rest := rest) [] CC hd (jy_X10_181_X9 CC) (k_X9_begunAnew l t hfl b G (hok.2 rfl)) [q0] (by simp only [List.map, he]) rfl he rfl rfl rfl ⟨Nat.le_trans (Nat.le_of_ble_eq_true rfl) hR.1, Nat.le_trans (Nat.le_of_ble_eq_true rfl) hR.2.1, hR.2.2.1, Nat.le_trans (Nat.add_le_add_left (Nat.le_of_ble_eq_true rfl) n) hR.2.2.2⟩ hW (by rintro v u ⟨q, rfl, rfl⟩; rfl) (fun _ _ h => h.elim) (fun _ _ h => h.elim) (fun v u h => ?_)
    obtain ⟨q, rfl, rfl⟩ := h
    refine jr_widen (k' := k + 1) (n' := n + 8) (Nat.le_refl _) (Nat.add_le_add_left (Nat.le_of_ble_eq_true rfl) n) ?_
    have e9 : ws.set q0 (b, .inr (8, jcond 8 G)) = ws := set_self9 he
    refine jr_ws (ws.set q0 (b, .inr (8, jcond 8 G)) ++ [(q, .inr (8, jcond 8 (cNew 8 G)))]) rfl ?_
    rw [e9]
    exact k9 q
theorem jperm_new {pre P : va_W} {x : Nat × va_E} : ((pre ++ P) ++ [x]).Perm ((pre ++ [x]) ++ P) := by
  rw [List.append_assoc, List.append_assoc]
  exact List.Perm.append_left _ List.perm_append_comm
theorem jr_drop1 {p : Program} {l : Launch} {e : Env} {R : Room} {s : State} {m : MethodId} {args : Array Value} {below : List Frame} {meth : Method} {c : Code} {D : va_G} {A : Nat → Prop} {nL : Nat} {Q : State → Prop} {lv : List (Nat × Value)} {pc : Nat} {st : List Value} {k n : Nat} (pre P : va_W) (x : Nat × va_E) (k9 : J p l e R s m args below meth c D A nL Q (pre ++ P) lv pc st k n) : J p l e R s m args below meth c D A nL Q ((pre ++ [x]) ++ P) lv pc st k n := by
  intro H locs ls hP hD hS hl
  have hs : (pre ++ P).Sublist ((pre ++ [x]) ++ P) := List.Sublist.append_right (List.sublist_append_left pre [x]) P
  refine k9 H locs ls (va_P_mem.mpr fun q hq => va_P_mem.mp hP q (hs.subset hq)) (va_D_mem.mpr ⟨?_, fun q hq => (va_D_mem.mp hD).2 q (hs.subset hq)⟩) hS hl
  exact (va_D_mem.mp hD).1.sublist (hs.map Prod.fst)
/-- a probe over the first i samples of a record -/
def jscanG (ci : Nat) (kr : JCap) (G : Nat → Int32) : Nat → (Nat → Int32)
  | 0 => G
  | i + 1 => cG ci (jscanG ci kr G i) (nI i) (kr.2.2.2.1 i) (kr.2.2.2.2 i)
def jscanN (ci : Nat) (kr : JCap) (G : Nat → Int32) : Nat → Nat
  | 0 => 0
  | i + 1 => if cR ci (jscanG ci kr G i) (nI i) (kr.2.2.2.1 i) (kr.2.2.2.2 i) = 0 then jscanN ci kr G i else jscanN ci kr G i + 1
theorem jscanN_le (ci : Nat) (kr : JCap) (G : Nat → Int32) (i : Nat) : jscanN ci kr G i ≤ i := by
  induction i with
  | zero => exact Nat.le_refl _
  | succ i ih => rw [jscanN]; split <;> omega
set_option maxHeartbeats 8000000 in
set_option maxRecDepth 100000 in
theorem k_X10_rescan (l : Launch) (t : Nat → ClassId) (hfl : l.stackTraces = false) (h0 : Nat) (x1 : Nat) (x2 : Nat) (x3 : Nat) (x4 : Nat) (x5 : Nat) (x6 : Nat) (fi : Int32) (M : Nat → Int32) (ca : Nat) (ci : Nat) (G : Nat → Int32) (cg : Option Nat) (ad : Nat → Nat) (K : Nat → JCap) (m8 : Nat) (x : Int32) (hci : ci = 1 ∨ ci = 6 ∨ ci = 7 ∨ ci = 8) (hok : cOK ci G) (hM1 : M 1 = nI m8) (hm8 : m8 ≤ 8) (hK : recOK K m8) : jKx l t yX10_rescan (Cond.code yX10_rescan cX10_rescan 6 (some .int) :: jWS) { frames := 7, cells := 2, slots := 14, locals := 103 } [.ref h0, .int x] ([(h0, .inr (9, [.ref x1, .ref x2, .ref x3, .ref x4, .ref x5, .ref x6, .int fi])), (x6, .inr (ci, jcond ci G)), (x2, .inr (5, jmem M ca cg)), (ca, .inl (t 2, 8, .inr (.inr (.inr (.inr (jcaps ad))))))] ++ jpool t ad K) (fun vv uu => (((eRec (M 1) x) = 0) ∧ vv = some (.int (nI (jscanN ci (K x.toNatClampNeg) (cNew ci G) (K x.toNatClampNeg).2.2.1.toNatClampNeg))) ∧ uu = ([(h0, .inr (9, [.ref x1, .ref x2, .ref x3, .ref x4, .ref x5, .ref x6, .int fi])), (x6, .inr (ci, jcond ci G)), (x2, .inr (5, jmem M ca cg)), (ca, .inl (t 2, 8, .inr (.inr (.inr (.inr (jcaps ad))))))] ++ jpool t ad K))) (fun EE uu => (((eRec (M 1) x) = 1) ∧ EE = "java/lang/IndexOutOfBoundsException" ∧ uu = ([(h0, .inr (9, [.ref x1, .ref x2, .ref x3, .ref x4, .ref x5, .ref x6, .int fi])), (x6, .inr (ci, jcond ci G)), (x2, .inr (5, jmem M ca cg)), (ca, .inl (t 2, 8, .inr (.inr (.inr (.inr (jcaps ad))))))] ++ jpool t ad K))) := by
  refine jK_of hfl (by decide +kernel) (Nat.le_of_ble_eq_true rfl) ?_
  intro p e s m args below meth c D A Q CC MM
  refine jr_norm0 [(0, .ref h0), (1, .int x)] rfl ?_
  refine jr_aload_n CC (jd ddX10_rescan 0 rfl) 0 rfl ?_
  refine jr_iload_n CC (jd ddX10_rescan 1 rfl) 1 rfl ?_
  refine jr_callV (q0 := 0) (rest := []) [.int x] CC (jd ddX10_rescan 2 rfl) (jy_X10_139 CC) (k_X10_checkRecord l t hfl h0 x1 x2 x3 x4 x5 x6 fi M ca cg x) [0, 2] rfl (by decide) rfl rfl rfl rfl (by decide) (Nat.le_of_ble_eq_true rfl) (by rintro v u h; rcases h with ⟨h0, rfl, rfl⟩ <;> rfl) (by rintro v u h; rcases h with ⟨h0, rfl, rfl⟩ <;> rfl) (fun E u hx => ?_) (fun v u h => ?_)
  · rcases hx with ⟨c1, rfl, rfl⟩
    exact jr_out CC MM (by decide) (by decide) ⟨by simp [eRec, jI, c1], rfl, rfl⟩
  · rcases h with ⟨c2, rfl, rfl⟩
    refine jr_ws (jput ([(h0, .inr (9, [.ref x1, .ref x2, .ref x3, .ref x4, .ref x5, .ref x6, .int fi])), (x6, .inr (ci, jcond ci G)), (x2, .inr (5, jmem M ca cg)), (ca, .inl (t 2, 8, .inr (.inr (.inr (.inr (jcaps ad))))))] ++ jpool t ad K) [0, 2] [(h0, .inr (9, [.ref x1, .ref x2, .ref x3, .ref x4, .ref x5, .ref x6, .int fi])), (x2, .inr (5, jmem M ca cg))]) (jdrop_nil (by rfl)) ?_
    refine jr_norm ([(h0, .inr (9, [.ref x1, .ref x2, .ref x3, .ref x4, .ref x5, .ref x6, .int fi])), (x6, .inr (ci, jcond ci G)), (x2, .inr (5, jmem M ca cg)), (ca, .inl (t 2, 8, .inr (.inr (.inr (.inr (jcaps ad))))))] ++ jpool t ad K) [] 5 1 6 rfl rfl rfl rfl rfl ?_
    obtain ⟨r, hr, rfl⟩ := jrec_nat (hM1 ▸ c2) hm8
    have ntr : (nI r).toNatClampNeg = r := nI_tn (by omega)
    refine jr_aload_n CC (jd ddX10_rescan 3 rfl) 0 rfl ?_
    refine jr_get (v := .ref x2) CC (jd ddX10_rescan 4 rfl) (jf_X10_19 CC) 0 rfl rfl ?_
    refine jr_get (v := .ref ca) CC (jd ddX10_rescan 5 rfl) (jf_X10_142 CC) 2 rfl rfl ?_
    refine jr_iload_n CC (jd ddX10_rescan 6 rfl) 1 rfl ?_
    refine jr_aldq (v := .ref (ad (4 * r))) CC (jd ddX10_rescan 7 rfl) 3 r rfl rfl (by omega) (by decide) rfl ?_
    refine jr_astore_n 2 [(2, .ref (ad (4 * r))), (0, .ref h0), (1, .int (nI r))] CC (jd ddX10_rescan 8 rfl) rfl (by decide) rfl ?_
    refine jr_aload_n CC (jd ddX10_rescan 9 rfl) 1 rfl ?_
    refine jr_get (v := .ref x6) CC (jd ddX10_rescan 10 rfl) (jf_X10_46 CC) 0 rfl rfl ?_
    refine jr_begun (rest := []) hfl 1 CC (jd ddX10_rescan 11 rfl) hci hok rfl ⟨Nat.le_of_ble_eq_true rfl, Nat.le_of_ble_eq_true rfl, Nat.le_of_ble_eq_true rfl, Nat.le_of_ble_eq_true rfl⟩ (Nat.le_of_ble_eq_true rfl) (fun q3 => ?_)
    refine jr_perm (jperm_new (pre := [(h0, .inr (9, [.ref x1, .ref x2, .ref x3, .ref x4, .ref x5, .ref x6, .int fi])), (x6, .inr (ci, jcond ci G)), (x2, .inr (5, jmem M ca cg)), (ca, .inl (t 2, 8, .inr (.inr (.inr (.inr (jcaps ad))))))]) (P := jpool t ad K)) ?_
    refine jr_norm ([(h0, .inr (9, [.ref x1, .ref x2, .ref x3, .ref x4, .ref x5, .ref x6, .int fi])), (x6, .inr (ci, jcond ci G)), (x2, .inr (5, jmem M ca cg)), (ca, .inl (t 2, 8, .inr (.inr (.inr (.inr (jcaps ad)))))), (q3, .inr (ci, jcond ci (cNew ci G)))] ++ jpool t ad K) [.ref q3] 22 2 14 rfl rfl rfl rfl rfl ?_
    refine jr_astore_n 3 [(3, .ref q3), (2, .ref (ad (4 * r))), (0, .ref h0), (1, .int (nI r))] CC (jd ddX10_rescan 12 rfl) rfl (by decide) rfl ?_
    obtain ⟨kk, hkk, hk49⟩ := hK r hr
    refine jr_focus [(h0, .inr (9, [.ref x1, .ref x2, .ref x3, .ref x4, .ref x5, .ref x6, .int fi])), (x6, .inr (ci, jcond ci G)), (x2, .inr (5, jmem M ca cg)), (ca, .inl (t 2, 8, .inr (.inr (.inr (.inr (jcaps ad)))))), (q3, .inr (ci, jcond ci (cNew ci G)))] r (by omega) ?_
    refine jr_ws ([(h0, .inr (9, [.ref x1, .ref x2, .ref x3, .ref x4, .ref x5, .ref x6, .int fi])), (x6, .inr (ci, jcond ci G)), (x2, .inr (5, jmem M ca cg)), (ca, .inl (t 2, 8, .inr (.inr (.inr (.inr (jcaps ad)))))), (q3, .inr (ci, jcond ci (cNew ci G))), ((ad (4 * r)), .inr (0, [.ref (ad (4 * r + 1)), .int ((K r).1), .int ((K r).2.1), .int ((K r).2.2.1)])), ((ad (4 * r + 1)), .inl (t 1, 2, .inr (.inr (.inr (.inr (jr2 (ad (4 * r + 2)) (ad (4 * r + 3)))))))), ((ad (4 * r + 2)), .inl (t 0, 49, .inl ((K r).2.2.2.1))), ((ad (4 * r + 3)), .inl (t 0, 49, .inl ((K r).2.2.2.2)))] ++ jpoolx t ad K r) rfl ?_
    refine jr_ws ([(h0, .inr (9, [.ref x1, .ref x2, .ref x3, .ref x4, .ref x5, .ref x6, .int fi])), (x6, .inr (ci, jcond ci G)), (x2, .inr (5, jmem M ca cg)), (ca, .inl (t 2, 8, .inr (.inr (.inr (.inr (jcaps ad)))))), (q3, .inr (ci, jcond ci (cNew ci G))), ((ad (4 * r)), .inr (0, [.ref (ad (4 * r + 1)), .int ((K r).1), .int ((K r).2.1), .int (nI kk)])), ((ad (4 * r + 1)), .inl (t 1, 2, .inr (.inr (.inr (.inr (jr2 (ad (4 * r + 2)) (ad (4 * r + 3)))))))), ((ad (4 * r + 2)), .inl (t 0, 49, .inl ((K r).2.2.2.1))), ((ad (4 * r + 3)), .inl (t 0, 49, .inl ((K r).2.2.2.2)))] ++ jpoolx t ad K r) (by rw [hkk]) ?_
    refine jr_iconst (v := 0) CC (jd ddX10_rescan 13 rfl) (by decide) ?_
    refine jr_istore [(4, .int 0), (3, .ref q3), (2, .ref (ad (4 * r))), (0, .ref h0), (1, .int (nI r))] CC (jd ddX10_rescan 14 rfl) (by decide) rfl ?_
    refine jr_iconst (v := 0) CC (jd ddX10_rescan 15 rfl) (by decide) ?_
    refine jr_istore [(5, .int 0), (4, .int 0), (3, .ref q3), (2, .ref (ad (4 * r))), (0, .ref h0), (1, .int (nI r))] CC (jd ddX10_rescan 16 rfl) (by decide) rfl ?_
    have hL4 : ∀ (d9 : Nat) (i : Nat) (hi : i ≤ kk), kk - i < d9 → J p l e { frames := 7, cells := 2, slots := 14, locals := 103 } s m args below meth c D A 6 Q ([(h0, .inr (9, [.ref x1, .ref x2, .ref x3, .ref x4, .ref x5, .ref x6, .int fi])), (x6, .inr (ci, jcond ci G)), (x2, .inr (5, jmem M ca cg)), (ca, .inl (t 2, 8, .inr (.inr (.inr (.inr (jcaps ad)))))), (q3, .inr (ci, jcond ci (jscanG ci (K r) (cNew ci G) i))), ((ad (4 * r)), .inr (0, [.ref (ad (4 * r + 1)), .int ((K r).1), .int ((K r).2.1), .int (nI kk)])), ((ad (4 * r + 1)), .inl (t 1, 2, .inr (.inr (.inr (.inr (jr2 (ad (4 * r + 2)) (ad (4 * r + 3)))))))), ((ad (4 * r + 2)), .inl (t 0, 49, .inl ((K r).2.2.2.1))), ((ad (4 * r + 3)), .inl (t 0, 49, .inl ((K r).2.2.2.2)))] ++ jpoolx t ad K r) [(0, .ref h0), (1, .int (nI r)), (2, .ref (ad (4 * r))), (3, .ref q3), (4, .int (nI (jscanN ci (K r) (cNew ci G) i))), (5, .int (nI i))] 29 [] 2 14 := by
      intro d9
      induction d9 with
      | zero => intro i hi hmu; exact absurd hmu (Nat.not_lt_zero _)
      | succ d9 ih29 =>
        intro i hi hmu
        refine jr_iload CC (jd ddX10_rescan 17 rfl) 5 rfl ?_
        refine jr_aload_n CC (jd ddX10_rescan 18 rfl) 2 rfl ?_
        refine jr_get (v := .int (nI kk)) CC (jd ddX10_rescan 19 rfl) (jf_X10_151 CC) 5 rfl rfl ?_
        refine jr_icmp_ge 70 CC (jd ddX10_rescan 20 rfl) (by decide) (fun c5 => ?_) (fun c5 => ?_)
        · have n5 := jle_of (a := kk) (b := i) c5 (by omega) (by omega)
          refine jr_iload CC (jd ddX10_rescan 36 rfl) 4 rfl ?_
          refine jr_ws ([(h0, .inr (9, [.ref x1, .ref x2, .ref x3, .ref x4, .ref x5, .ref x6, .int fi])), (x6, .inr (ci, jcond ci G)), (x2, .inr (5, jmem M ca cg)), (ca, .inl (t 2, 8, .inr (.inr (.inr (.inr (jcaps ad)))))), (q3, .inr (ci, jcond ci (jscanG ci (K r) (cNew ci G) i))), ((ad (4 * r)), .inr (0, [.ref (ad (4 * r + 1)), .int ((K r).1), .int ((K r).2.1), .int ((K r).2.2.1)])), ((ad (4 * r + 1)), .inl (t 1, 2, .inr (.inr (.inr (.inr (jr2 (ad (4 * r + 2)) (ad (4 * r + 3)))))))), ((ad (4 * r + 2)), .inl (t 0, 49, .inl ((K r).2.2.2.1))), ((ad (4 * r + 3)), .inl (t 0, 49, .inl ((K r).2.2.2.2)))] ++ jpoolx t ad K r) (by rw [hkk]) ?_
          refine jr_ws ([(h0, .inr (9, [.ref x1, .ref x2, .ref x3, .ref x4, .ref x5, .ref x6, .int fi])), (x6, .inr (ci, jcond ci G)), (x2, .inr (5, jmem M ca cg)), (ca, .inl (t 2, 8, .inr (.inr (.inr (.inr (jcaps ad)))))), (q3, .inr (ci, jcond ci (jscanG ci (K r) (cNew ci G) i)))] ++ (jcapw t ad r ((K r).1, (K r).2.1, (K r).2.2.1, (K r).2.2.2.1, (K r).2.2.2.2) ++ jpoolx t ad K r)) rfl ?_
          refine jr_unfocus [(h0, .inr (9, [.ref x1, .ref x2, .ref x3, .ref x4, .ref x5, .ref x6, .int fi])), (x6, .inr (ci, jcond ci G)), (x2, .inr (5, jmem M ca cg)), (ca, .inl (t 2, 8, .inr (.inr (.inr (.inr (jcaps ad)))))), (q3, .inr (ci, jcond ci (jscanG ci (K r) (cNew ci G) i)))] r (by omega) ?_
          refine jr_ws ([(h0, .inr (9, [.ref x1, .ref x2, .ref x3, .ref x4, .ref x5, .ref x6, .int fi])), (x6, .inr (ci, jcond ci G)), (x2, .inr (5, jmem M ca cg)), (ca, .inl (t 2, 8, .inr (.inr (.inr (.inr (jcaps ad)))))), (q3, .inr (ci, jcond ci (jscanG ci (K r) (cNew ci G) i)))] ++ jpool t ad K) (by rw [upK_eta]) ?_
          refine jr_drop1 [(h0, .inr (9, [.ref x1, .ref x2, .ref x3, .ref x4, .ref x5, .ref x6, .int fi])), (x6, .inr (ci, jcond ci G)), (x2, .inr (5, jmem M ca cg)), (ca, .inl (t 2, 8, .inr (.inr (.inr (.inr (jcaps ad))))))] (jpool t ad K) (q3, .inr (ci, jcond ci (jscanG ci (K r) (cNew ci G) i))) ?_
          exact jr_iret CC MM (jd ddX10_rescan 37 rfl) rfl (by decide) (by decide) ⟨by simp [eRec, jI, c2, ntr, hi, c5], by rw [ntr, hkk, nI_tn (show kk < 2147483648 by omega), show i = kk by omega], rfl⟩
        · have n5 := jle_not (a := kk) (b := i) c5 (by omega) (by omega)
          refine jr_aload_n CC (jd ddX10_rescan 21 rfl) 3 rfl ?_
          refine jr_iload CC (jd ddX10_rescan 22 rfl) 5 rfl ?_
          refine jr_aload_n CC (jd ddX10_rescan 23 rfl) 2 rfl ?_
          refine jr_iconst (v := 0) CC (jd ddX10_rescan 24 rfl) (by decide) ?_
          refine jr_iload CC (jd ddX10_rescan 25 rfl) 5 rfl ?_
          refine jr_callV (q0 := 5) (rest := [.int (nI i), .ref q3]) [.int 0, .int (nI i)] CC (jd ddX10_rescan 26 rfl) (jy_X10_158 CC) (k_X0_at_u l t hfl (ad (4 * r)) (ad (4 * r + 1)) (ad (4 * r + 2)) (ad (4 * r + 3)) ((K r).1) ((K r).2.1) (nI kk) ((K r).2.2.2.1) ((K r).2.2.2.2) 0 i (by first | assumption | omega | decide)) [5, 6, 7, 8] rfl (by decide) rfl rfl rfl rfl (by decide) (Nat.le_of_ble_eq_true rfl) (by rintro v u h; rcases h with ⟨rfl, rfl⟩ <;> rfl) (fun _ _ h => h.elim) (fun _ _ h => h.elim) (fun v u h => ?_)
          rcases h with ⟨rfl, rfl⟩
          refine jr_ws (jput ([(h0, .inr (9, [.ref x1, .ref x2, .ref x3, .ref x4, .ref x5, .ref x6, .int fi])), (x6, .inr (ci, jcond ci G)), (x2, .inr (5, jmem M ca cg)), (ca, .inl (t 2, 8, .inr (.inr (.inr (.inr (jcaps ad)))))), (q3, .inr (ci, jcond ci (jscanG ci (K r) (cNew ci G) i))), ((ad (4 * r)), .inr (0, [.ref (ad (4 * r + 1)), .int ((K r).1), .int ((K r).2.1), .int (nI kk)])), ((ad (4 * r + 1)), .inl (t 1, 2, .inr (.inr (.inr (.inr (jr2 (ad (4 * r + 2)) (ad (4 * r + 3)))))))), ((ad (4 * r + 2)), .inl (t 0, 49, .inl ((K r).2.2.2.1))), ((ad (4 * r + 3)), .inl (t 0, 49, .inl ((K r).2.2.2.2)))] ++ jpoolx t ad K r) [5, 6, 7, 8] [((ad (4 * r)), .inr (0, [.ref (ad (4 * r + 1)), .int ((K r).1), .int ((K r).2.1), .int (nI kk)])), ((ad (4 * r + 1)), .inl (t 1, 2, .inr (.inr (.inr (.inr (jr2 (ad (4 * r + 2)) (ad (4 * r + 3)))))))), ((ad (4 * r + 2)), .inl (t 0, 49, .inl ((K r).2.2.2.1))), ((ad (4 * r + 3)), .inl (t 0, 49, .inl ((K r).2.2.2.2)))]) (jdrop_nil (by rfl)) ?_
          refine jr_norm ([(h0, .inr (9, [.ref x1, .ref x2, .ref x3, .ref x4, .ref x5, .ref x6, .int fi])), (x6, .inr (ci, jcond ci G)), (x2, .inr (5, jmem M ca cg)), (ca, .inl (t 2, 8, .inr (.inr (.inr (.inr (jcaps ad)))))), (q3, .inr (ci, jcond ci (jscanG ci (K r) (cNew ci G) i))), ((ad (4 * r)), .inr (0, [.ref (ad (4 * r + 1)), .int ((K r).1), .int ((K r).2.1), .int (nI kk)])), ((ad (4 * r + 1)), .inl (t 1, 2, .inr (.inr (.inr (.inr (jr2 (ad (4 * r + 2)) (ad (4 * r + 3)))))))), ((ad (4 * r + 2)), .inl (t 0, 49, .inl ((K r).2.2.2.1))), ((ad (4 * r + 3)), .inl (t 0, 49, .inl ((K r).2.2.2.2)))] ++ jpoolx t ad K r) [.int (jsel 0 (((K r).2.2.2.1) i) (((K r).2.2.2.2) i)), .int (nI i), .ref q3] 48 2 14 rfl rfl rfl rfl rfl ?_
          refine jr_st [.int ((K r).2.2.2.1 i), .int (nI i), .ref q3] (by simp [jsel]) ?_
          refine jr_aload_n CC (jd ddX10_rescan 27 rfl) 2 rfl ?_
          refine jr_iconst (v := 1) CC (jd ddX10_rescan 28 rfl) (by decide) ?_
          refine jr_iload CC (jd ddX10_rescan 29 rfl) 5 rfl ?_
          refine jr_callV (q0 := 5) (rest := [.int ((K r).2.2.2.1 i), .int (nI i), .ref q3]) [.int 1, .int (nI i)] CC (jd ddX10_rescan 30 rfl) (jy_X10_158 CC) (k_X0_at_u l t hfl (ad (4 * r)) (ad (4 * r + 1)) (ad (4 * r + 2)) (ad (4 * r + 3)) ((K r).1) ((K r).2.1) (nI kk) ((K r).2.2.2.1) ((K r).2.2.2.2) 1 i (by first | assumption | omega | decide)) [5, 6, 7, 8] rfl (by decide) rfl rfl rfl rfl (by decide) (Nat.le_of_ble_eq_true rfl) (by rintro v u h; rcases h with ⟨rfl, rfl⟩ <;> rfl) (fun _ _ h => h.elim) (fun _ _ h => h.elim) (fun v u h => ?_)
          rcases h with ⟨rfl, rfl⟩
          refine jr_ws (jput ([(h0, .inr (9, [.ref x1, .ref x2, .ref x3, .ref x4, .ref x5, .ref x6, .int fi])), (x6, .inr (ci, jcond ci G)), (x2, .inr (5, jmem M ca cg)), (ca, .inl (t 2, 8, .inr (.inr (.inr (.inr (jcaps ad)))))), (q3, .inr (ci, jcond ci (jscanG ci (K r) (cNew ci G) i))), ((ad (4 * r)), .inr (0, [.ref (ad (4 * r + 1)), .int ((K r).1), .int ((K r).2.1), .int (nI kk)])), ((ad (4 * r + 1)), .inl (t 1, 2, .inr (.inr (.inr (.inr (jr2 (ad (4 * r + 2)) (ad (4 * r + 3)))))))), ((ad (4 * r + 2)), .inl (t 0, 49, .inl ((K r).2.2.2.1))), ((ad (4 * r + 3)), .inl (t 0, 49, .inl ((K r).2.2.2.2)))] ++ jpoolx t ad K r) [5, 6, 7, 8] [((ad (4 * r)), .inr (0, [.ref (ad (4 * r + 1)), .int ((K r).1), .int ((K r).2.1), .int (nI kk)])), ((ad (4 * r + 1)), .inl (t 1, 2, .inr (.inr (.inr (.inr (jr2 (ad (4 * r + 2)) (ad (4 * r + 3)))))))), ((ad (4 * r + 2)), .inl (t 0, 49, .inl ((K r).2.2.2.1))), ((ad (4 * r + 3)), .inl (t 0, 49, .inl ((K r).2.2.2.2)))]) (jdrop_nil (by rfl)) ?_
          refine jr_norm ([(h0, .inr (9, [.ref x1, .ref x2, .ref x3, .ref x4, .ref x5, .ref x6, .int fi])), (x6, .inr (ci, jcond ci G)), (x2, .inr (5, jmem M ca cg)), (ca, .inl (t 2, 8, .inr (.inr (.inr (.inr (jcaps ad)))))), (q3, .inr (ci, jcond ci (jscanG ci (K r) (cNew ci G) i))), ((ad (4 * r)), .inr (0, [.ref (ad (4 * r + 1)), .int ((K r).1), .int ((K r).2.1), .int (nI kk)])), ((ad (4 * r + 1)), .inl (t 1, 2, .inr (.inr (.inr (.inr (jr2 (ad (4 * r + 2)) (ad (4 * r + 3)))))))), ((ad (4 * r + 2)), .inl (t 0, 49, .inl ((K r).2.2.2.1))), ((ad (4 * r + 3)), .inl (t 0, 49, .inl ((K r).2.2.2.2)))] ++ jpoolx t ad K r) [.int (jsel 1 (((K r).2.2.2.1) i) (((K r).2.2.2.2) i)), .int ((K r).2.2.2.1 i), .int (nI i), .ref q3] 55 2 14 rfl rfl rfl rfl rfl ?_
          refine jr_st [.int ((K r).2.2.2.2 i), .int ((K r).2.2.2.1 i), .int (nI i), .ref q3] (by simp [jsel]) ?_
          refine jr_fires (rest := []) hfl 4 CC (jd ddX10_rescan 31 rfl) hci rfl (by decide) (Nat.le_of_ble_eq_true rfl) ?_
          refine jr_norm ([(h0, .inr (9, [.ref x1, .ref x2, .ref x3, .ref x4, .ref x5, .ref x6, .int fi])), (x6, .inr (ci, jcond ci G)), (x2, .inr (5, jmem M ca cg)), (ca, .inl (t 2, 8, .inr (.inr (.inr (.inr (jcaps ad)))))), (q3, .inr (ci, jcond ci (cG ci (jscanG ci (K r) (cNew ci G) i) (nI i) ((K r).2.2.2.1 i) ((K r).2.2.2.2 i)))), ((ad (4 * r)), .inr (0, [.ref (ad (4 * r + 1)), .int ((K r).1), .int ((K r).2.1), .int (nI kk)])), ((ad (4 * r + 1)), .inl (t 1, 2, .inr (.inr (.inr (.inr (jr2 (ad (4 * r + 2)) (ad (4 * r + 3)))))))), ((ad (4 * r + 2)), .inl (t 0, 49, .inl ((K r).2.2.2.1))), ((ad (4 * r + 3)), .inl (t 0, 49, .inl ((K r).2.2.2.2)))] ++ jpoolx t ad K r) [.int (cR ci (jscanG ci (K r) (cNew ci G) i) (nI i) ((K r).2.2.2.1 i) ((K r).2.2.2.2 i))] 58 2 14 rfl rfl rfl rfl rfl ?_
          refine jr_if_eq 64 CC (jd ddX10_rescan 32 rfl) (by decide) (fun c6 => ?_) (fun c6 => ?_)
          · refine jr_iinc [(5, .int (nI (i + 1))), (0, .ref h0), (1, .int (nI r)), (2, .ref (ad (4 * r))), (3, .ref q3), (4, .int (nI (jscanN ci (K r) (cNew ci G) i)))] CC (jd ddX10_rescan 34 rfl) 5 rfl (nI_1 _) (by decide) rfl ?_
            refine jr_goto 29 CC (jd ddX10_rescan 35 rfl) (by decide) ?_
            refine jr_ws ([(h0, .inr (9, [.ref x1, .ref x2, .ref x3, .ref x4, .ref x5, .ref x6, .int fi])), (x6, .inr (ci, jcond ci G)), (x2, .inr (5, jmem M ca cg)), (ca, .inl (t 2, 8, .inr (.inr (.inr (.inr (jcaps ad)))))), (q3, .inr (ci, jcond ci (jscanG ci (K r) (cNew ci G) (i + 1)))), ((ad (4 * r)), .inr (0, [.ref (ad (4 * r + 1)), .int ((K r).1), .int ((K r).2.1), .int (nI kk)])), ((ad (4 * r + 1)), .inl (t 1, 2, .inr (.inr (.inr (.inr (jr2 (ad (4 * r + 2)) (ad (4 * r + 3)))))))), ((ad (4 * r + 2)), .inl (t 0, 49, .inl ((K r).2.2.2.1))), ((ad (4 * r + 3)), .inl (t 0, 49, .inl ((K r).2.2.2.2)))] ++ jpoolx t ad K r) rfl ?_
            refine jr_norm0 [(5, .int (nI (i + 1))), (0, .ref h0), (1, .int (nI r)), (2, .ref (ad (4 * r))), (3, .ref q3), (4, .int (nI (jscanN ci (K r) (cNew ci G) (i + 1))))] (by rw [jscanN, if_pos c6]) ?_
            refine jr_norm ([(h0, .inr (9, [.ref x1, .ref x2, .ref x3, .ref x4, .ref x5, .ref x6, .int fi])), (x6, .inr (ci, jcond ci G)), (x2, .inr (5, jmem M ca cg)), (ca, .inl (t 2, 8, .inr (.inr (.inr (.inr (jcaps ad)))))), (q3, .inr (ci, jcond ci (jscanG ci (K r) (cNew ci G) (i + 1)))), ((ad (4 * r)), .inr (0, [.ref (ad (4 * r + 1)), .int ((K r).1), .int ((K r).2.1), .int (nI kk)])), ((ad (4 * r + 1)), .inl (t 1, 2, .inr (.inr (.inr (.inr (jr2 (ad (4 * r + 2)) (ad (4 * r + 3)))))))), ((ad (4 * r + 2)), .inl (t 0, 49, .inl ((K r).2.2.2.1))), ((ad (4 * r + 3)), .inl (t 0, 49, .inl ((K r).2.2.2.2)))] ++ jpoolx t ad K r) [] 29 2 14 rfl rfl rfl rfl rfl ?_
            refine jr_lv [1, 2, 3, 4, 5, 0] [(0, .ref h0), (1, .int (nI r)), (2, .ref (ad (4 * r))), (3, .ref q3), (4, .int (nI (jscanN ci (K r) (cNew ci G) (i + 1)))), (5, .int (nI (i + 1)))] rfl ?_
            exact ih29 (i + 1) (by omega) (by omega)
          · refine jr_iinc [(4, .int (nI (jscanN ci (K r) (cNew ci G) i + 1))), (0, .ref h0), (1, .int (nI r)), (2, .ref (ad (4 * r))), (3, .ref q3), (5, .int (nI i))] CC (jd ddX10_rescan 33 rfl) 4 rfl (nI_1 _) (by decide) rfl ?_
            refine jr_iinc [(5, .int (nI (i + 1))), (4, .int (nI (jscanN ci (K r) (cNew ci G) i + 1))), (0, .ref h0), (1, .int (nI r)), (2, .ref (ad (4 * r))), (3, .ref q3)] CC (jd ddX10_rescan 34 rfl) 5 rfl (nI_1 _) (by decide) rfl ?_
            refine jr_goto 29 CC (jd ddX10_rescan 35 rfl) (by decide) ?_
            refine jr_ws ([(h0, .inr (9, [.ref x1, .ref x2, .ref x3, .ref x4, .ref x5, .ref x6, .int fi])), (x6, .inr (ci, jcond ci G)), (x2, .inr (5, jmem M ca cg)), (ca, .inl (t 2, 8, .inr (.inr (.inr (.inr (jcaps ad)))))), (q3, .inr (ci, jcond ci (jscanG ci (K r) (cNew ci G) (i + 1)))), ((ad (4 * r)), .inr (0, [.ref (ad (4 * r + 1)), .int ((K r).1), .int ((K r).2.1), .int (nI kk)])), ((ad (4 * r + 1)), .inl (t 1, 2, .inr (.inr (.inr (.inr (jr2 (ad (4 * r + 2)) (ad (4 * r + 3)))))))), ((ad (4 * r + 2)), .inl (t 0, 49, .inl ((K r).2.2.2.1))), ((ad (4 * r + 3)), .inl (t 0, 49, .inl ((K r).2.2.2.2)))] ++ jpoolx t ad K r) rfl ?_
            refine jr_norm0 [(5, .int (nI (i + 1))), (4, .int (nI (jscanN ci (K r) (cNew ci G) (i + 1)))), (0, .ref h0), (1, .int (nI r)), (2, .ref (ad (4 * r))), (3, .ref q3)] (by rw [jscanN, if_neg c6]) ?_
            refine jr_norm ([(h0, .inr (9, [.ref x1, .ref x2, .ref x3, .ref x4, .ref x5, .ref x6, .int fi])), (x6, .inr (ci, jcond ci G)), (x2, .inr (5, jmem M ca cg)), (ca, .inl (t 2, 8, .inr (.inr (.inr (.inr (jcaps ad)))))), (q3, .inr (ci, jcond ci (jscanG ci (K r) (cNew ci G) (i + 1)))), ((ad (4 * r)), .inr (0, [.ref (ad (4 * r + 1)), .int ((K r).1), .int ((K r).2.1), .int (nI kk)])), ((ad (4 * r + 1)), .inl (t 1, 2, .inr (.inr (.inr (.inr (jr2 (ad (4 * r + 2)) (ad (4 * r + 3)))))))), ((ad (4 * r + 2)), .inl (t 0, 49, .inl ((K r).2.2.2.1))), ((ad (4 * r + 3)), .inl (t 0, 49, .inl ((K r).2.2.2.2)))] ++ jpoolx t ad K r) [] 29 2 14 rfl rfl rfl rfl rfl ?_
            refine jr_lv [2, 3, 4, 5, 1, 0] [(0, .ref h0), (1, .int (nI r)), (2, .ref (ad (4 * r))), (3, .ref q3), (4, .int (nI (jscanN ci (K r) (cNew ci G) (i + 1)))), (5, .int (nI (i + 1)))] rfl ?_
            exact ih29 (i + 1) (by omega) (by omega)
    refine jr_norm ([(h0, .inr (9, [.ref x1, .ref x2, .ref x3, .ref x4, .ref x5, .ref x6, .int fi])), (x6, .inr (ci, jcond ci G)), (x2, .inr (5, jmem M ca cg)), (ca, .inl (t 2, 8, .inr (.inr (.inr (.inr (jcaps ad)))))), (q3, .inr (ci, jcond ci (jscanG ci (K r) (cNew ci G) 0))), ((ad (4 * r)), .inr (0, [.ref (ad (4 * r + 1)), .int ((K r).1), .int ((K r).2.1), .int (nI kk)])), ((ad (4 * r + 1)), .inl (t 1, 2, .inr (.inr (.inr (.inr (jr2 (ad (4 * r + 2)) (ad (4 * r + 3)))))))), ((ad (4 * r + 2)), .inl (t 0, 49, .inl ((K r).2.2.2.1))), ((ad (4 * r + 3)), .inl (t 0, 49, .inl ((K r).2.2.2.2)))] ++ jpoolx t ad K r) [] 29 2 14 rfl rfl rfl rfl rfl ?_
    refine jr_lv [4, 5, 3, 2, 1, 0] [(0, .ref h0), (1, .int (nI r)), (2, .ref (ad (4 * r))), (3, .ref q3), (4, .int (nI (jscanN ci (K r) (cNew ci G) 0))), (5, .int (nI 0))] rfl ?_
    exact hL4 (kk - 0 + 1) 0 (Nat.zero_le _) (Nat.lt_succ_self _)
