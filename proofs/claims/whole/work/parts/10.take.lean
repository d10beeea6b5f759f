theorem jr_fires {p : Program} {l : Launch} {e : Env} {R : Room} {s : State} {m : MethodId} {args : Array Value} {below : List Frame} {meth : Method} {c : Code} {D : va_G} {t : Nat → ClassId} {A : Nat → Prop} {cc : ByteArray} {nL : Nat} {Q : State → Prop} {ws : va_W} {lv : List (Nat × Value)} {pc : Nat} {rest : List Value} {k n : Nat} {ci b : Nat} {G : Nat → Int32} {nr a b2 : Int32} (hfl : l.stackTraces = false) (q0 : Nat) (CC : jC p l s m args c D t A RX10 cc nL) (hd : decode cc pc = .ok (.invokevirtual 122, 3)) (hci : ci = 1 ∨ ci = 6 ∨ ci = 7 ∨ ci = 8) (he : ws[q0]? = some (b, .inr (ci, jcond ci G))) (hR : 1 ≤ R.frames ∧ 26 ≤ R.locals ∧ k ≤ R.cells ∧ n ≤ R.slots) (hW : (rest.map fun v => v.category).sum ≤ 8) (k9 : J p l e R s m args below meth c D A nL Q (ws.set q0 (b, .inr (ci, jcond ci (cG ci G nr a b2)))) lv (pc + 3) (.int (cR ci G nr a b2) :: rest) k n) : J p l e R s m args below meth c D A nL Q ws lv pc (.int b2 :: .int a :: .int nr :: .ref b :: rest) k n := by
  rcases hci with rfl | rfl | rfl | rfl
  · refine jr_callU (q0 := q0) (rest := rest) [.int nr, .int a, .int b2] CC hd (jy_X10_122_X2 CC) (k_X2_firesAt l t hfl b G nr a b2) [q0] (by simp only [List.map, he]) rfl he rfl rfl rfl ⟨hR.1, Nat.le_trans (Nat.le_of_ble_eq_true rfl) hR.2.1, hR.2.2.1, hR.2.2.2⟩ hW (by rintro v u ⟨rfl, rfl⟩; rfl) (fun _ _ h => h.elim) (fun _ _ h => h.elim) (fun v u h => ?_)
    obtain ⟨rfl, rfl⟩ := h
    refine jr_ws _ (List.append_nil _) ?_
    exact k9
  · refine jr_callU (q0 := q0) (rest := rest) [.int nr, .int a, .int b2] CC hd (jy_X10_122_X7 CC) (k_X7_firesAt l t hfl b G nr a b2) [q0] (by simp only [List.map, he]) rfl he rfl rfl rfl ⟨hR.1, Nat.le_trans (Nat.le_of_ble_eq_true rfl) hR.2.1, hR.2.2.1, hR.2.2.2⟩ hW (by rintro v u ⟨rfl, rfl⟩; rfl) (fun _ _ h => h.elim) (fun _ _ h => h.elim) (fun v u h => ?_)
    obtain ⟨rfl, rfl⟩ := h
    refine jr_ws _ (List.append_nil _) ?_
    exact k9
  · refine jr_callU (q0 := q0) (rest := rest) [.int nr, .int a, .int b2] CC hd (jy_X10_122_X8 CC) (k_X8_firesAt l t hfl b G nr a b2) [q0] (by simp only [List.map, he]) rfl he rfl rfl rfl ⟨hR.1, Nat.le_trans (Nat.le_of_ble_eq_true rfl) hR.2.1, hR.2.2.1, hR.2.2.2⟩ hW (by rintro v u ⟨rfl, rfl⟩; rfl) (fun _ _ h => h.elim) (fun _ _ h => h.elim) (fun v u h => ?_)
    obtain ⟨rfl, rfl⟩ := h
    refine jr_ws _ (List.append_nil _) ?_
    exact k9
  · refine jr_callU (q0 := q0) (rest := rest) [.int nr, .int a, .int b2] CC hd (jy_X10_122_X9 CC) (k_X9_firesAt l t hfl b G nr a b2) [q0] (by simp only [List.map, he]) rfl he rfl rfl rfl ⟨hR.1, Nat.le_trans (Nat.le_of_ble_eq_true rfl) hR.2.1, hR.2.2.1, hR.2.2.2⟩ hW (by rintro v u ⟨rfl, rfl⟩; rfl) (fun _ _ h => h.elim) (fun _ _ h => h.elim) (fun v u h => ?_)
    obtain ⟨rfl, rfl⟩ := h
    refine jr_ws _ (List.append_nil _) ?_
    exact k9
def jcgE (f : Bool) (ad : Nat → Nat) (r : Nat) : Option Nat := match f with
  | true => some (ad (4 * r))
  | false => none
def mAddK (K : Nat → JCap) (r k : Nat) (a b : Int32) : Nat → JCap := upK K r ((K r).1, (K r).2.1, nI (k + 1), upd (K r).2.2.2.1 k a, upd (K r).2.2.2.2 k b)
/-- the record r is complete, of k samples: the mask -/
def mJudge (M : Nat → Int32) (f0 fl ce : Nat → Int32) (r k : Nat) : Nat → Int32 := if jlow f0 fl ce k 0 = -1 then M else if M 10 = -1 then upd (upd M 9 (M 9 + 1)) 10 (100 * nI r + jlow f0 fl ce k 0) else upd M 9 (M 9 + 1)
def mDone (M : Nat → Int32) : Nat → Int32 := if M 1 + 1 < 8 then upd M 1 (M 1 + 1) else upd (upd M 1 (M 1 + 1)) 3 0
/-- a sample joins the record r that is being caught, which had k -/
def mCont (M : Nat → Int32) (K : Nat → JCap) (r k : Nat) (a b : Int32) (fl ce : Nat → Int32) : (Nat → Int32) × Bool × (Nat → JCap) × Int32 :=
  if nI (k + 1) < (K r).2.1 then (M, true, mAddK K r k a b, 0) else (mJudge (mDone M) (upd (K r).2.2.2.1 k a) fl ce r (k + 1), false, mAddK K r k a b, 1)
def mBegM (M : Nat → Int32) (n : Nat) : Nat → Int32 := upd (upd M 7 1) 8 (nI n)
def mBegK (M : Nat → Int32) (K : Nat → JCap) (r n P : Nat) (u0 u1 : Nat → Int32) : Nat → JCap := upK K r (nI n, M 4 + 1 + M 5, nI P, jcp n P P u0 (K r).2.2.2.1, jcp n P P u1 (K r).2.2.2.2)
/-- a sample and the memory; fr: whether the condition fires there -/
def mStep (f : Bool) (M : Nat → Int32) (K : Nat → JCap) (r k P n : Nat) (u0 u1 : Nat → Int32) (fr a b : Int32) (fl ce : Nat → Int32) : (Nat → Int32) × Bool × (Nat → JCap) × Int32 := match f with
  | true => mCont M K r k a b fl ce
  | false => if fr = 0 then (M, false, K, 0) else if mayT M (nI n) = 0 then (M, false, K, 0) else mCont (mBegM M n) (mBegK M K r n P u0 u1) r P a b fl ce
def fiS (fi fr : Int32) : Int32 := if fr = 0 then fi else fi + 1
