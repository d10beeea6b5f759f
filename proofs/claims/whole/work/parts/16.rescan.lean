set_option maxHeartbeats 8000000 in
set_option maxRecDepth 100000 in
theorem k_X2_begunAnew (l : Launch) (t : Nat → ClassId) (hfl : l.stackTraces = false) (h0 : Nat) (G : Nat → Int32) (hb : G 3 = 0 ∨ G 3 = 1) : jKx l t yX2_begunAnew (Cond.code yX2_begunAnew cX2_begunAnew 1 (some (.object "Triggerwright$Condition")) :: jWS) { frames := 3, cells := 1, slots := 5, locals := 56 } [.ref h0] [(h0, .inr (1, jcond 1 G))] (fun vv uu => (∃ q9 : Nat, vv = some (.ref q9) ∧ uu = [(h0, .inr (1, jcond 1 G)), (q9, .inr (1, jcond 1 (cNew 1 G)))])) (fun _ _ => False) := by
  refine jK_of hfl (by decide +kernel) (Nat.le_of_ble_eq_true rfl) ?_
  intro p e s m args below meth c D A Q CC MM
  refine jr_norm0 [(0, .ref h0)] rfl ?_
  refine jr_new [.int 0, .int 0, .int 0, .int 0, .int 0] CC (jd ddX2_begunAnew 0 rfl) (jn_X2_8 CC) (by intro j hj; match j, hj with | 0, _ => rfl | 1, _ => rfl | 2, _ => rfl | 3, _ => rfl | 4, _ => rfl) (by decide) (by decide) (fun q1 => ?_)
  refine jr_dup CC (jd ddX2_begunAnew 1 rfl) rfl ?_
  refine jr_aload_n CC (jd ddX2_begunAnew 2 rfl) 0 rfl ?_
  refine jr_get (v := .int (G 0)) CC (jd ddX2_begunAnew 3 rfl) (jf_X2_7 CC) 0 rfl rfl ?_
  refine jr_aload_n CC (jd ddX2_begunAnew 4 rfl) 0 rfl ?_
  refine jr_get (v := .int (G 1)) CC (jd ddX2_begunAnew 5 rfl) (jf_X2_13 CC) 0 rfl rfl ?_
  refine jr_aload_n CC (jd ddX2_begunAnew 6 rfl) 0 rfl ?_
  refine jr_get (v := .int (G 2)) CC (jd ddX2_begunAnew 7 rfl) (jf_X2_16 CC) 0 rfl rfl ?_
  refine jr_aload_n CC (jd ddX2_begunAnew 8 rfl) 0 rfl ?_
  refine jr_get (v := .int (G 3)) CC (jd ddX2_begunAnew 9 rfl) (jf_X2_19 CC) 0 rfl rfl ?_
  refine jr_pc (pc' := 20) rfl ?_
  refine jr_callI (rest := [.ref q1]) [.int (G 0), .int (G 1), .int (G 2), .int (G 3)] CC (jd ddX2_begunAnew 10 rfl) (jy_X2_26 CC) (k_X2_init l t hfl q1 (G 0) (G 1) (G 2) (G 3) hb) [1] rfl (by decide) rfl rfl (by decide) (Nat.le_of_ble_eq_true rfl) (by rintro v u h; rcases h with ⟨rfl, rfl⟩ <;> rfl) (fun _ _ h => h.elim) (fun _ _ h => h.elim) (fun v u h => ?_)
  rcases h with ⟨rfl, rfl⟩
  refine jr_norm [(h0, .inr (1, jcond 1 G)), (q1, .inr (1, jcond 1 (gE (G 0) (G 1) (G 2) (G 3))))] [.ref q1] 23 1 5 rfl rfl rfl rfl rfl ?_
  exact jr_aret CC MM (jd ddX2_begunAnew 11 rfl) (by decide) (by decide) ⟨q1, rfl, rfl⟩
set_option maxHeartbeats 8000000 in
set_option maxRecDepth 100000 in
theorem k_X7_begunAnew (l : Launch) (t : Nat → ClassId) (hfl : l.stackTraces = false) (h0 : Nat) (G : Nat → Int32) : jKx l t yX7_begunAnew (Cond.code yX7_begunAnew cX7_begunAnew 1 (some (.object "Triggerwright$Condition")) :: jWS) { frames := 3, cells := 1, slots := 6, locals := 55 } [.ref h0] [(h0, .inr (6, jcond 6 G))] (fun vv uu => (∃ q9 : Nat, vv = some (.ref q9) ∧ uu = [(h0, .inr (6, jcond 6 G)), (q9, .inr (6, jcond 6 (cNew 6 G)))])) (fun _ _ => False) := by
  refine jK_of hfl (by decide +kernel) (Nat.le_of_ble_eq_true rfl) ?_
  intro p e s m args below meth c D A Q CC MM
  refine jr_norm0 [(0, .ref h0)] rfl ?_
  refine jr_new [.int 0, .int 0, .int 0, .int 0, .int 0, .int 0] CC (jd ddX7_begunAnew 0 rfl) (jn_X7_8 CC) (by intro j hj; match j, hj with | 0, _ => rfl | 1, _ => rfl | 2, _ => rfl | 3, _ => rfl | 4, _ => rfl | 5, _ => rfl) (by decide) (by decide) (fun q1 => ?_)
  refine jr_dup CC (jd ddX7_begunAnew 1 rfl) rfl ?_
  refine jr_aload_n CC (jd ddX7_begunAnew 2 rfl) 0 rfl ?_
  refine jr_get (v := .int (G 0)) CC (jd ddX7_begunAnew 3 rfl) (jf_X7_7 CC) 0 rfl rfl ?_
  refine jr_aload_n CC (jd ddX7_begunAnew 4 rfl) 0 rfl ?_
  refine jr_get (v := .int (G 1)) CC (jd ddX7_begunAnew 5 rfl) (jf_X7_13 CC) 0 rfl rfl ?_
  refine jr_aload_n CC (jd ddX7_begunAnew 6 rfl) 0 rfl ?_
  refine jr_get (v := .int (G 2)) CC (jd ddX7_begunAnew 7 rfl) (jf_X7_16 CC) 0 rfl rfl ?_
  refine jr_callI (rest := [.ref q1]) [.int (G 0), .int (G 1), .int (G 2)] CC (jd ddX7_begunAnew 8 rfl) (jy_X7_29 CC) (k_X7_init l t hfl q1 (G 0) (G 1) (G 2)) [1] rfl (by decide) rfl rfl (by decide) (Nat.le_of_ble_eq_true rfl) (by rintro v u h; rcases h with ⟨rfl, rfl⟩ <;> rfl) (fun _ _ h => h.elim) (fun _ _ h => h.elim) (fun v u h => ?_)
  rcases h with ⟨rfl, rfl⟩
  refine jr_norm [(h0, .inr (6, jcond 6 G)), (q1, .inr (6, jcond 6 (gR (G 0) (G 1) (G 2))))] [.ref q1] 19 1 6 rfl rfl rfl rfl rfl ?_
  exact jr_aret CC MM (jd ddX7_begunAnew 9 rfl) (by decide) (by decide) ⟨q1, rfl, rfl⟩
set_option maxHeartbeats 8000000 in
set_option maxRecDepth 100000 in
theorem k_X8_begunAnew (l : Launch) (t : Nat → ClassId) (hfl : l.stackTraces = false) (h0 : Nat) (G : Nat → Int32) : jKx l t yX8_begunAnew (Cond.code yX8_begunAnew cX8_begunAnew 1 (some (.object "Triggerwright$Condition")) :: jWS) { frames := 3, cells := 1, slots := 8, locals := 55 } [.ref h0] [(h0, .inr (7, jcond 7 G))] (fun vv uu => (∃ q9 : Nat, vv = some (.ref q9) ∧ uu = [(h0, .inr (7, jcond 7 G)), (q9, .inr (7, jcond 7 (cNew 7 G)))])) (fun _ _ => False) := by
  refine jK_of hfl (by decide +kernel) (Nat.le_of_ble_eq_true rfl) ?_
  intro p e s m args below meth c D A Q CC MM
  refine jr_norm0 [(0, .ref h0)] rfl ?_
  refine jr_new [.int 0, .int 0, .int 0, .int 0, .int 0, .int 0, .int 0, .int 0] CC (jd ddX8_begunAnew 0 rfl) (jn_X8_8 CC) (by intro j hj; match j, hj with | 0, _ => rfl | 1, _ => rfl | 2, _ => rfl | 3, _ => rfl | 4, _ => rfl | 5, _ => rfl | 6, _ => rfl | 7, _ => rfl) (by decide) (by decide) (fun q1 => ?_)
  refine jr_dup CC (jd ddX8_begunAnew 1 rfl) rfl ?_
  refine jr_aload_n CC (jd ddX8_begunAnew 2 rfl) 0 rfl ?_
  refine jr_get (v := .int (G 0)) CC (jd ddX8_begunAnew 3 rfl) (jf_X8_7 CC) 0 rfl rfl ?_
  refine jr_aload_n CC (jd ddX8_begunAnew 4 rfl) 0 rfl ?_
  refine jr_get (v := .int (G 1)) CC (jd ddX8_begunAnew 5 rfl) (jf_X8_13 CC) 0 rfl rfl ?_
  refine jr_aload_n CC (jd ddX8_begunAnew 6 rfl) 0 rfl ?_
  refine jr_get (v := .int (G 2)) CC (jd ddX8_begunAnew 7 rfl) (jf_X8_16 CC) 0 rfl rfl ?_
  refine jr_callI (rest := [.ref q1]) [.int (G 0), .int (G 1), .int (G 2)] CC (jd ddX8_begunAnew 8 rfl) (jy_X8_35 CC) (k_X8_init l t hfl q1 (G 0) (G 1) (G 2)) [1] rfl (by decide) rfl rfl (by decide) (Nat.le_of_ble_eq_true rfl) (by rintro v u h; rcases h with ⟨rfl, rfl⟩ <;> rfl) (fun _ _ h => h.elim) (fun _ _ h => h.elim) (fun v u h => ?_)
  rcases h with ⟨rfl, rfl⟩
  refine jr_norm [(h0, .inr (7, jcond 7 G)), (q1, .inr (7, jcond 7 (gS (G 0) (G 1) (G 2))))] [.ref q1] 19 1 8 rfl rfl rfl rfl rfl ?_
  exact jr_aret CC MM (jd ddX8_begunAnew 9 rfl) (by decide) (by decide) ⟨q1, rfl, rfl⟩
set_option maxHeartbeats 8000000 in
set_option maxRecDepth 100000 in
theorem k_X9_begunAnew (l : Launch) (t : Nat → ClassId) (hfl : l.stackTraces = false) (h0 : Nat) (G : Nat → Int32) (hb : G 4 = 0 ∨ G 4 = 1) : jKx l t yX9_begunAnew (Cond.code yX9_begunAnew cX9_begunAnew 1 (some (.object "Triggerwright$Condition")) :: jWS) { frames := 3, cells := 1, slots := 7, locals := 57 } [.ref h0] [(h0, .inr (8, jcond 8 G))] (fun vv uu => (∃ q9 : Nat, vv = some (.ref q9) ∧ uu = [(h0, .inr (8, jcond 8 G)), (q9, .inr (8, jcond 8 (cNew 8 G)))])) (fun _ _ => False) := by
  refine jK_of hfl (by decide +kernel) (Nat.le_of_ble_eq_true rfl) ?_
  intro p e s m args below meth c D A Q CC MM
  refine jr_norm0 [(0, .ref h0)] rfl ?_
  refine jr_new [.int 0, .int 0, .int 0, .int 0, .int 0, .int 0, .int 0] CC (jd ddX9_begunAnew 0 rfl) (jn_X9_8 CC) (by intro j hj; match j, hj with | 0, _ => rfl | 1, _ => rfl | 2, _ => rfl | 3, _ => rfl | 4, _ => rfl | 5, _ => rfl | 6, _ => rfl) (by decide) (by decide) (fun q1 => ?_)
  refine jr_dup CC (jd ddX9_begunAnew 1 rfl) rfl ?_
  refine jr_aload_n CC (jd ddX9_begunAnew 2 rfl) 0 rfl ?_
  refine jr_get (v := .int (G 0)) CC (jd ddX9_begunAnew 3 rfl) (jf_X9_7 CC) 0 rfl rfl ?_
  refine jr_aload_n CC (jd ddX9_begunAnew 4 rfl) 0 rfl ?_
  refine jr_get (v := .int (G 1)) CC (jd ddX9_begunAnew 5 rfl) (jf_X9_13 CC) 0 rfl rfl ?_
  refine jr_aload_n CC (jd ddX9_begunAnew 6 rfl) 0 rfl ?_
  refine jr_get (v := .int (G 2)) CC (jd ddX9_begunAnew 7 rfl) (jf_X9_16 CC) 0 rfl rfl ?_
  refine jr_aload_n CC (jd ddX9_begunAnew 8 rfl) 0 rfl ?_
  refine jr_get (v := .int (G 3)) CC (jd ddX9_begunAnew 9 rfl) (jf_X9_19 CC) 0 rfl rfl ?_
  refine jr_pc (pc' := 20) rfl ?_
  refine jr_aload_n CC (jd ddX9_begunAnew 10 rfl) 0 rfl ?_
  refine jr_get (v := .int (G 4)) CC (jd ddX9_begunAnew 11 rfl) (jf_X9_22 CC) 0 rfl rfl ?_
  refine jr_callI (rest := [.ref q1]) [.int (G 0), .int (G 1), .int (G 2), .int (G 3), .int (G 4)] CC (jd ddX9_begunAnew 12 rfl) (jy_X9_32 CC) (k_X9_init l t hfl q1 (G 0) (G 1) (G 2) (G 3) (G 4) hb) [1] rfl (by decide) rfl rfl (by decide) (Nat.le_of_ble_eq_true rfl) (by rintro v u h; rcases h with ⟨rfl, rfl⟩ <;> rfl) (fun _ _ h => h.elim) (fun _ _ h => h.elim) (fun v u h => ?_)
  rcases h with ⟨rfl, rfl⟩
  refine jr_norm [(h0, .inr (8, jcond 8 G)), (q1, .inr (8, jcond 8 (gW (G 0) (G 1) (G 2) (G 3) (G 4))))] [.ref q1] 27 1 7 rfl rfl rfl rfl rfl ?_
  exact jr_aret CC MM (jd ddX9_begunAnew 13 rfl) (by decide) (by decide) ⟨q1, rfl, rfl⟩
/-- what the fields of a condition keep to -/
def cOK (ci : Nat) (G : Nat → Int32) : Prop := (ci = 1 → G 3 = 0 ∨ G 3 = 1) ∧ (ci = 8 → G 4 = 0 ∨ G 4 = 1)
theorem set_self9 {α : Type} {ws : List α} {i : Nat} {x : α} (h : ws[i]? = some x) : ws.set i x = ws := by
  apply List.ext_getElem?
  intro j
  rw [List.getElem?_set]
  split
  · rename_i h2; subst h2
    have hl := (List.getElem?_eq_some_iff.mp h).1
    rw [if_pos hl, h]
  · rfl
theorem jr_begun {p : Program} {l : Launch} {e : Env} {R : Room} {s : State} {m : MethodId} {args : Array Value} {below : List Frame} {meth : Method} {c : Code} {D : va_G} {t : Nat → ClassId} {A : Nat → Prop} {cc : ByteArray} {nL : Nat} {Q : State → Prop} {ws : va_W} {lv : List (Nat × Value)} {pc : Nat} {rest : List Value} {k n : Nat} {ci b : Nat} {G : Nat → Int32} (hfl : l.stackTraces = false) (q0 : Nat) (CC : jC p l s m args c D t A RX10 cc nL) (hd : decode cc pc = .ok (.invokevirtual 181, 3)) (hci : ci = 1 ∨ ci = 6 ∨ ci = 7 ∨ ci = 8) (hok : cOK ci G) (he : ws[q0]? = some (b, .inr (ci, jcond ci G))) (hR : 4 ≤ R.frames ∧ 77 ≤ R.locals ∧ k + 1 ≤ R.cells ∧ n + 8 ≤ R.slots) (hW : (rest.map fun v => v.category).sum ≤ 8) (k9 : ∀ q, J p l e R s m args below meth c D A nL Q (ws ++ [(q, .inr (ci, jcond ci (cNew ci G)))]) lv (pc + 3) (.ref q :: rest) (k + 1) (n + 8)) : J p l e R s m args below meth c D A nL Q ws lv pc (.ref b :: rest) k n := by
  rcases hci with rfl | rfl | rfl | rfl
  · refine jr_callU (q0 := q0) (rest := rest) [] CC hd (jy_X10_181_X2 CC) (k_X2_begunAnew l t hfl b G (hok.1 rfl)) [q0] (by simp only [List.map, he]) rfl he rfl rfl rfl ⟨Nat.le_trans (Nat.le_of_ble_eq_true rfl) hR.1, Nat.le_trans (Nat.le_of_ble_eq_true rfl) hR.2.1, hR.2.2.1, Nat.le_trans (Nat.add_le_add_left (Nat.le_of_ble_eq_true rfl) n) hR.2.2.2⟩ hW (by rintro v u ⟨q, rfl, rfl⟩; rfl) (fun _ _ h => h.elim) (fun _ _ h => h.elim) (fun v u h => ?_)
    obtain ⟨q, rfl, rfl⟩ := h
    refine jr_widen (k' := k + 1) (n' := n + 8) (Nat.le_refl _) (Nat.add_le_add_left (Nat.le_of_ble_eq_true rfl) n) ?_
    have e9 : ws.set q0 (b, .inr (1, jcond 1 G)) = ws := set_self9 he
    refine jr_ws (ws.set q0 (b, .inr (1, jcond 1 G)) ++ [(q, .inr (1, jcond 1 (cNew 1 G)))]) rfl ?_
    rw [e9]
    exact k9 q
  · refine jr_callU (q0 := q0) (rest := rest) [] CC hd (jy_X10_181_X7 CC) (k_X7_begunAnew l t hfl b G) [q0] (by simp only [List.map, he]) rfl he rfl rfl rfl ⟨Nat.le_trans (Nat.le_of_ble_eq_true rfl) hR.1, Nat.le_trans (Nat.le_of_ble_eq_true rfl) hR.2.1, hR.2.2.1, Nat.le_trans (Nat.add_le_add_left (Nat.le_of_ble_eq_true rfl) n) hR.2.2.2⟩ hW (by rintro v u ⟨q, rfl, rfl⟩; rfl) (fun _ _ h => h.elim) (fun _ _ h => h.elim) (fun v u h => ?_)
    obtain ⟨q, rfl, rfl⟩ := h
    refine jr_widen (k' := k + 1) (n' := n + 8) (Nat.le_refl _) (Nat.add_le_add_left (Nat.le_of_ble_eq_true rfl) n) ?_
    have e9 : ws.set q0 (b, .inr (6, jcond 6 G)) = ws := set_self9 he
    refine jr_ws (ws.set q0 (b, .inr (6, jcond 6 G)) ++ [(q, .inr (6, jcond 6 (cNew 6 G)))]) rfl ?_
    rw [e9]
    exact k9 q
  · refine jr_callU (q0 := q0) (rest := rest) [] CC hd (jy_X10_181_X8 CC) (k_X8_begunAnew l t hfl b G) [q0] (by simp only [List.map, he]) rfl he rfl rfl rfl ⟨Nat.le_trans (Nat.le_of_ble_eq_true rfl) hR.1, Nat.le_trans (Nat.le_of_ble_eq_true rfl) hR.2.1, hR.2.2.1, Nat.le_trans (Nat.add_le_add_left (Nat.le_of_ble_eq_true rfl) n) hR.2.2.2⟩ hW (by rintro v u ⟨q, rfl, rfl⟩; rfl) (fun _ _ h => h.elim) (fun _ _ h => h.elim) (fun v u h => ?_)
    obtain ⟨q, rfl, rfl⟩ := h
    refine jr_widen (k' := k + 1) (n' := n + 8) (Nat.le_refl _) (Nat.add_le_add_left (Nat.le_of_ble_eq_true rfl) n) ?_
    have e9 : ws.set q0 (b, .inr (7, jcond 7 G)) = ws := set_self9 he
    refine jr_ws (ws.set q0 (b, .inr (7, jcond 7 G)) ++ [(q, .inr (7, jcond 7 (cNew 7 G)))]) rfl ?_
    rw [e9]
    exact k9 q
  · refine jr_callU (q0 := q0) (rest := rest) [] CC hd (jy_X10_181_X9 CC) (k_X9_begunAnew l t hfl b G (hok.2 rfl)) [q0] (by simp only [List.map, he]) rfl he rfl rfl rfl ⟨Nat.le_trans (Nat.le_of_ble_eq_true rfl) hR.1, Nat.le_trans (Nat.le_of_ble_eq_true rfl) hR.2.1, hR.2.2.1, Nat.le_trans (Nat.add_le_add_left (Nat.le_of_ble_eq_true rfl) n) hR.2.2.2⟩ hW (by rintro v u ⟨q, rfl, rfl⟩; rfl) (fun _ _ h => h.elim) (fun _ _ h => h.elim) (fun v u h => ?_)
    obtain ⟨q, rfl, rfl⟩ := h
    refine jr_widen (k' := k + 1) (n' := n + 8) (Nat.le_refl _) (Nat.add_le_add_left (Nat.le_of_ble_eq_true rfl) n) ?_
    have e9 : ws.set q0 (b, .inr (8, jcond 8 G)) = ws := set_self9 he
    refine jr_ws (ws.set q0 (b, .inr (8, jcond 8 G)) ++ [(q, .inr (8, jcond 8 (cNew 8 G)))]) rfl ?_
    rw [e9]
    exact k9 q
