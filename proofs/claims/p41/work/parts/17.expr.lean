theorem jsw2 {x : Int32} (c0 : ¬ x = 0) (c1 : ¬ x = 1) (c2 : ¬ x = 2) : x.toInt < 0 ∨ 2 < x.toInt := by
  have h0 : x.toInt ≠ 0 := fun h => c0 (Int32.toInt_inj.mp h)
  have h1 : x.toInt ≠ 1 := fun h => c1 (Int32.toInt_inj.mp h)
  have h2 : x.toInt ≠ 2 := fun h => c2 (Int32.toInt_inj.mp h)
  omega
theorem jsw3 {x : Int32} (c0 : ¬ x = 0) (c1 : ¬ x = 1) (c2 : ¬ x = 2) (c3 : ¬ x = 3) : x.toInt < 0 ∨ 3 < x.toInt := by
  have h0 : x.toInt ≠ 0 := fun h => c0 (Int32.toInt_inj.mp h)
  have h1 : x.toInt ≠ 1 := fun h => c1 (Int32.toInt_inj.mp h)
  have h2 : x.toInt ≠ 2 := fun h => c2 (Int32.toInt_inj.mp h)
  have h3 : x.toInt ≠ 3 := fun h => c3 (Int32.toInt_inj.mp h)
  omega
def jk6 (x : Int64) : Int32 := jkept x (-1000000) 1000000
/-- an operation of one operand: its value, and what is carried behind it -/
def oneR (d op ca ps : Int32) : Int32 := if d = 0 then -op else if d = 1 then jabs op else if d = 2 then jk6 (op - (if ps = 0 then op else ca)).toInt64 else jk6 (ca + op).toInt64
def oneC (d op ca : Int32) : Int32 := if d = 0 then ca else if d = 1 then ca else if d = 2 then op else jk6 (ca + op).toInt64
def twoR (d a b : Int32) : Int32 := if d = 0 then jk6 (a + b).toInt64 else if d = 1 then jk6 (a - b).toInt64 else if d = 2 then jk6 (a.toInt64 * b.toInt64) else if d = 3 then jmin a b else jmax a b
theorem upd_own (f : Nat → Int32) (q : Nat) : upd f q (f q) = f := by
  funext j; unfold upd; split
  · rename_i h; rw [h]
  · rfl
theorem upd_at (f : Nat → Int32) (q : Nat) (v : Int32) : upd f q v q = v := if_pos rfl
set_option maxHeartbeats 8000000 in
set_option maxRecDepth 100000 in
theorem k_X3_ofTwo (l : Launch) (t : Nat → ClassId) (hfl : l.stackTraces = false) (d : Int32) (a : Int32) (b : Int32) : jKx l t yX3_ofTwo (Cond.code yX3_ofTwo cX3_ofTwo 3 (some .int) :: jWS) { frames := 3, cells := 0, slots := 0, locals := 61 } [.int d, .int a, .int b] [] (fun vv uu => (vv = some (.int (twoR d a b)) ∧ uu = [])) (fun _ _ => False) := by
  refine jK_of hfl (by decide +kernel) (Nat.le_of_ble_eq_true rfl) ?_
  intro p e s m args below meth c D A Q CC MM
  refine jr_norm0 [(0, .int d), (1, .int a), (2, .int b)] rfl ?_
  refine jr_iload_n CC (jd ddX3_ofTwo 0 rfl) 0 rfl ?_
  refine (Decidable.em (d = 0)).elim (fun c1 => ?_) (fun c1 => ?_)
  · refine jr_tabIn 32 CC (jd ddX3_ofTwo 1 rfl) (by rw [c1]; decide) (by rw [c1]; decide) (by rw [c1]; rfl) (by decide) ?_
    refine jr_iload_n CC (jd ddX3_ofTwo 2 rfl) 1 rfl ?_
    refine jr_iload_n CC (jd ddX3_ofTwo 3 rfl) 2 rfl ?_
    refine jr_iadd CC (jd ddX3_ofTwo 4 rfl) ?_
    refine jr_i2l CC (jd ddX3_ofTwo 5 rfl) ?_
    refine jr_callS (rest := []) [.long (Int32.toInt64 (a + b))] CC (jd ddX3_ofTwo 6 rfl) (jy_X3_63 CC) (k_X3_keptResult l t hfl (Int32.toInt64 (a + b))) [] rfl (by decide) rfl rfl (by decide) (Nat.le_of_ble_eq_true rfl) (by rintro v u h; rcases h with ⟨rfl, rfl⟩ <;> rfl) (fun _ _ h => h.elim) (fun _ _ h => h.elim) (fun v u h => ?_)
    rcases h with ⟨rfl, rfl⟩
    refine jr_norm [] [.int (jkept (Int32.toInt64 (a + b)) (-1000000) 1000000)] 39 0 0 rfl rfl rfl rfl rfl ?_
    exact jr_iret CC MM (jd ddX3_ofTwo 7 rfl) rfl (by decide) (by decide) ⟨by simp [twoR, jk6, c1], rfl⟩
  refine (Decidable.em (d = 1)).elim (fun c2 => ?_) (fun c2 => ?_)
  · refine jr_tabIn 40 CC (jd ddX3_ofTwo 1 rfl) (by rw [c2]; decide) (by rw [c2]; decide) (by rw [c2]; rfl) (by decide) ?_
    refine jr_iload_n CC (jd ddX3_ofTwo 8 rfl) 1 rfl ?_
    refine jr_iload_n CC (jd ddX3_ofTwo 9 rfl) 2 rfl ?_
    refine jr_isub CC (jd ddX3_ofTwo 10 rfl) ?_
    refine jr_i2l CC (jd ddX3_ofTwo 11 rfl) ?_
    refine jr_callS (rest := []) [.long (Int32.toInt64 (a - b))] CC (jd ddX3_ofTwo 12 rfl) (jy_X3_63 CC) (k_X3_keptResult l t hfl (Int32.toInt64 (a - b))) [] rfl (by decide) rfl rfl (by decide) (Nat.le_of_ble_eq_true rfl) (by rintro v u h; rcases h with ⟨rfl, rfl⟩ <;> rfl) (fun _ _ h => h.elim) (fun _ _ h => h.elim) (fun v u h => ?_)
    rcases h with ⟨rfl, rfl⟩
    refine jr_norm [] [.int (jkept (Int32.toInt64 (a - b)) (-1000000) 1000000)] 47 0 0 rfl rfl rfl rfl rfl ?_
    exact jr_iret CC MM (jd ddX3_ofTwo 13 rfl) rfl (by decide) (by decide) ⟨by simp [twoR, jk6, c1, c2], rfl⟩
  refine (Decidable.em (d = 2)).elim (fun c3 => ?_) (fun c3 => ?_)
  · refine jr_tabIn 48 CC (jd ddX3_ofTwo 1 rfl) (by rw [c3]; decide) (by rw [c3]; decide) (by rw [c3]; rfl) (by decide) ?_
    refine jr_iload_n CC (jd ddX3_ofTwo 14 rfl) 1 rfl ?_
    refine jr_i2l CC (jd ddX3_ofTwo 15 rfl) ?_
    refine jr_iload_n CC (jd ddX3_ofTwo 16 rfl) 2 rfl ?_
    refine jr_i2l CC (jd ddX3_ofTwo 17 rfl) ?_
    refine jr_lmul CC (jd ddX3_ofTwo 18 rfl) ?_
    refine jr_callS (rest := []) [.long ((Int32.toInt64 a) * (Int32.toInt64 b))] CC (jd ddX3_ofTwo 19 rfl) (jy_X3_63 CC) (k_X3_keptResult l t hfl ((Int32.toInt64 a) * (Int32.toInt64 b))) [] rfl (by decide) rfl rfl (by decide) (Nat.le_of_ble_eq_true rfl) (by rintro v u h; rcases h with ⟨rfl, rfl⟩ <;> rfl) (fun _ _ h => h.elim) (fun _ _ h => h.elim) (fun v u h => ?_)
    rcases h with ⟨rfl, rfl⟩
    refine jr_norm [] [.int (jkept ((Int32.toInt64 a) * (Int32.toInt64 b)) (-1000000) 1000000)] 56 0 0 rfl rfl rfl rfl rfl ?_
    exact jr_iret CC MM (jd ddX3_ofTwo 20 rfl) rfl (by decide) (by decide) ⟨by simp [twoR, jk6, c1, c2, c3], rfl⟩
  refine (Decidable.em (d = 3)).elim (fun c4 => ?_) (fun c4 => ?_)
  · refine jr_tabIn 57 CC (jd ddX3_ofTwo 1 rfl) (by rw [c4]; decide) (by rw [c4]; decide) (by rw [c4]; rfl) (by decide) ?_
    refine jr_iload_n CC (jd ddX3_ofTwo 21 rfl) 1 rfl ?_
    refine jr_iload_n CC (jd ddX3_ofTwo 22 rfl) 2 rfl ?_
    refine jr_mmin CC (jd ddX3_ofTwo 23 rfl) (jy_X3_67 CC) (by decide) (Nat.le_of_ble_eq_true rfl) (by decide) (by decide) ?_
    exact jr_iret CC MM (jd ddX3_ofTwo 24 rfl) rfl (by decide) (by decide) ⟨by simp [twoR, jk6, c1, c2, c3, c4], rfl⟩
  refine jr_tabOut 63 CC (jd ddX3_ofTwo 1 rfl) (jsw3 c1 c2 c3 c4) (by decide) ?_
  refine jr_iload_n CC (jd ddX3_ofTwo 25 rfl) 1 rfl ?_
  refine jr_iload_n CC (jd ddX3_ofTwo 26 rfl) 2 rfl ?_
  refine jr_mmax CC (jd ddX3_ofTwo 27 rfl) (jy_X3_70 CC) (by decide) (Nat.le_of_ble_eq_true rfl) (by decide) (by decide) ?_
  exact jr_iret CC MM (jd ddX3_ofTwo 28 rfl) rfl (by decide) (by decide) ⟨by simp [twoR, jk6, c1, c2, c3, c4], rfl⟩
set_option maxHeartbeats 8000000 in
set_option maxRecDepth 100000 in
theorem k_X3_ofOne (l : Launch) (t : Nat → ClassId) (hfl : l.stackTraces = false) (x4 : Nat) (e0 : Nat) (e1 : Nat) (e2 : Nat) (e3 : Nat) (pn : Int32) (ht : Int32) (DA : Nat → Int32) (CA : Nat → Int32) (q : Nat) (op : Int32) (ps : Int32) (hq : q < 16) : jKx l t yX3_ofOne (Cond.code yX3_ofOne cX3_ofOne 5 (some .int) :: jWS) { frames := 3, cells := 0, slots := 0, locals := 61 } [.ref x4, .int (nI q), .int op, .int ps] [(x4, .inr (2, [.ref e0, .ref e1, .ref e2, .ref e3, .int pn, .int ht])), (e1, .inl (t 0, 16, .inl DA)), (e2, .inl (t 0, 16, .inl CA))] (fun vv uu => (vv = some (.int (oneR (DA q) op (CA q) ps)) ∧ uu = [(x4, .inr (2, [.ref e0, .ref e1, .ref e2, .ref e3, .int pn, .int ht])), (e1, .inl (t 0, 16, .inl DA)), (e2, .inl (t 0, 16, .inl (upd CA q (oneC (DA q) op (CA q)))))])) (fun _ _ => False) := by
  refine jK_of hfl (by decide +kernel) (Nat.le_of_ble_eq_true rfl) ?_
  intro p e s m args below meth c D A Q CC MM
  refine jr_norm0 [(0, .ref x4), (1, .int (nI q)), (2, .int op), (3, .int ps)] rfl ?_
  refine jr_aload_n CC (jd ddX3_ofOne 0 rfl) 0 rfl ?_
  refine jr_get (v := .ref e1) CC (jd ddX3_ofOne 1 rfl) (jf_X3_15 CC) 0 rfl rfl ?_
  refine jr_iload_n CC (jd ddX3_ofOne 2 rfl) 1 rfl ?_
  refine jr_ialdN CC (jd ddX3_ofOne 3 rfl) 1 q rfl rfl (by omega) (by decide) ?_
  refine (Decidable.em ((DA q) = 0)).elim (fun c1 => ?_) (fun c1 => ?_)
  · refine jr_tabIn 32 CC (jd ddX3_ofOne 4 rfl) (by rw [c1]; decide) (by rw [c1]; decide) (by rw [c1]; rfl) (by decide) ?_
    refine jr_iload_n CC (jd ddX3_ofOne 5 rfl) 2 rfl ?_
    refine jr_ineg CC (jd ddX3_ofOne 6 rfl) ?_
    exact jr_iret CC MM (jd ddX3_ofOne 7 rfl) rfl (by decide) (by decide) ⟨by simp [oneR, jk6, upd_at, c1], by simp [oneC, jk6, upd_own, c1]⟩
  refine (Decidable.em ((DA q) = 1)).elim (fun c2 => ?_) (fun c2 => ?_)
  · refine jr_tabIn 35 CC (jd ddX3_ofOne 4 rfl) (by rw [c2]; decide) (by rw [c2]; decide) (by rw [c2]; rfl) (by decide) ?_
    refine jr_iload_n CC (jd ddX3_ofOne 8 rfl) 2 rfl ?_
    refine jr_mabs CC (jd ddX3_ofOne 9 rfl) (jy_X3_57 CC) (by decide) (Nat.le_of_ble_eq_true rfl) (by decide) (by decide) ?_
    exact jr_iret CC MM (jd ddX3_ofOne 10 rfl) rfl (by decide) (by decide) ⟨by simp [oneR, jk6, upd_at, c1, c2], by simp [oneC, jk6, upd_own, c1, c2]⟩
  refine (Decidable.em ((DA q) = 2)).elim (fun c3 => ?_) (fun c3 => ?_)
  · refine jr_tabIn 40 CC (jd ddX3_ofOne 4 rfl) (by rw [c3]; decide) (by rw [c3]; decide) (by rw [c3]; rfl) (by decide) ?_
    refine jr_iload_n CC (jd ddX3_ofOne 11 rfl) 3 rfl ?_
    refine jr_if_ne 48 CC (jd ddX3_ofOne 12 rfl) (by decide) (fun c4 => ?_) (fun c4 => ?_)
    · refine jr_aload_n CC (jd ddX3_ofOne 15 rfl) 0 rfl ?_
      refine jr_get (v := .ref e2) CC (jd ddX3_ofOne 16 rfl) (jf_X3_18 CC) 0 rfl rfl ?_
      refine jr_iload_n CC (jd ddX3_ofOne 17 rfl) 1 rfl ?_
      refine jr_pc (pc' := 53) rfl ?_
      refine jr_ialdN CC (jd ddX3_ofOne 18 rfl) 2 q rfl rfl (by omega) (by decide) ?_
      refine jr_istore [(4, .int (CA q)), (0, .ref x4), (1, .int (nI q)), (2, .int op), (3, .int ps)] CC (jd ddX3_ofOne 19 rfl) (by decide) rfl ?_
      refine jr_aload_n CC (jd ddX3_ofOne 20 rfl) 1 rfl ?_
      refine jr_get (v := .ref e2) CC (jd ddX3_ofOne 21 rfl) (jf_X3_18 CC) 0 rfl rfl ?_
      refine jr_iload_n CC (jd ddX3_ofOne 22 rfl) 2 rfl ?_
      refine jr_iload_n CC (jd ddX3_ofOne 23 rfl) 3 rfl ?_
      refine jr_iastN CC (jd ddX3_ofOne 24 rfl) 2 q rfl rfl (by omega) (by decide) ?_
      refine jr_iload_n CC (jd ddX3_ofOne 25 rfl) 3 rfl ?_
      refine jr_iload CC (jd ddX3_ofOne 26 rfl) 0 rfl ?_
      refine jr_isub CC (jd ddX3_ofOne 27 rfl) ?_
      refine jr_pc (pc' := 67) rfl ?_
      refine jr_i2l CC (jd ddX3_ofOne 28 rfl) ?_
      refine jr_callS (rest := []) [.long (Int32.toInt64 (op - (CA q)))] CC (jd ddX3_ofOne 29 rfl) (jy_X3_63 CC) (k_X3_keptResult l t hfl (Int32.toInt64 (op - (CA q)))) [] rfl (by decide) rfl rfl (by decide) (Nat.le_of_ble_eq_true rfl) (by rintro v u h; rcases h with ⟨rfl, rfl⟩ <;> rfl) (fun _ _ h => h.elim) (fun _ _ h => h.elim) (fun v u h => ?_)
      rcases h with ⟨rfl, rfl⟩
      refine jr_norm [(x4, .inr (2, [.ref e0, .ref e1, .ref e2, .ref e3, .int pn, .int ht])), (e1, .inl (t 0, 16, .inl DA)), (e2, .inl (t 0, 16, .inl (upd CA q op)))] [.int (jkept (Int32.toInt64 (op - (CA q))) (-1000000) 1000000)] 71 0 0 rfl rfl rfl rfl rfl ?_
      exact jr_iret CC MM (jd ddX3_ofOne 30 rfl) rfl (by decide) (by decide) ⟨by simp [oneR, jk6, upd_at, c1, c2, c3, c4], by simp [oneC, jk6, upd_own, c1, c2, c3, c4]⟩
    · refine jr_iload_n CC (jd ddX3_ofOne 13 rfl) 2 rfl ?_
      refine jr_goto 54 CC (jd ddX3_ofOne 14 rfl) (by decide) ?_
      refine jr_istore [(4, .int op), (0, .ref x4), (1, .int (nI q)), (2, .int op), (3, .int ps)] CC (jd ddX3_ofOne 19 rfl) (by decide) rfl ?_
      refine jr_aload_n CC (jd ddX3_ofOne 20 rfl) 1 rfl ?_
      refine jr_get (v := .ref e2) CC (jd ddX3_ofOne 21 rfl) (jf_X3_18 CC) 0 rfl rfl ?_
      refine jr_iload_n CC (jd ddX3_ofOne 22 rfl) 2 rfl ?_
      refine jr_iload_n CC (jd ddX3_ofOne 23 rfl) 3 rfl ?_
      refine jr_iastN CC (jd ddX3_ofOne 24 rfl) 2 q rfl rfl (by omega) (by decide) ?_
      refine jr_iload_n CC (jd ddX3_ofOne 25 rfl) 3 rfl ?_
      refine jr_iload CC (jd ddX3_ofOne 26 rfl) 0 rfl ?_
      refine jr_isub CC (jd ddX3_ofOne 27 rfl) ?_
      refine jr_i2l CC (jd ddX3_ofOne 28 rfl) ?_
      refine jr_pc (pc' := 68) rfl ?_
      refine jr_callS (rest := []) [.long (Int32.toInt64 (op - op))] CC (jd ddX3_ofOne 29 rfl) (jy_X3_63 CC) (k_X3_keptResult l t hfl (Int32.toInt64 (op - op))) [] rfl (by decide) rfl rfl (by decide) (Nat.le_of_ble_eq_true rfl) (by rintro v u h; rcases h with ⟨rfl, rfl⟩ <;> rfl) (fun _ _ h => h.elim) (fun _ _ h => h.elim) (fun v u h => ?_)
      rcases h with ⟨rfl, rfl⟩
      refine jr_norm [(x4, .inr (2, [.ref e0, .ref e1, .ref e2, .ref e3, .int pn, .int ht])), (e1, .inl (t 0, 16, .inl DA)), (e2, .inl (t 0, 16, .inl (upd CA q op)))] [.int (jkept (Int32.toInt64 (op - op)) (-1000000) 1000000)] 71 0 0 rfl rfl rfl rfl rfl ?_
      exact jr_iret CC MM (jd ddX3_ofOne 30 rfl) rfl (by decide) (by decide) ⟨by simp [oneR, jk6, upd_at, c1, c2, c3, c4], by simp [oneC, jk6, upd_own, c1, c2, c3, c4]⟩
  refine jr_tabOut 72 CC (jd ddX3_ofOne 4 rfl) (jsw2 c1 c2 c3) (by decide) ?_
  refine jr_aload_n CC (jd ddX3_ofOne 31 rfl) 0 rfl ?_
  refine jr_get (v := .ref e2) CC (jd ddX3_ofOne 32 rfl) (jf_X3_18 CC) 0 rfl rfl ?_
  refine jr_iload_n CC (jd ddX3_ofOne 33 rfl) 1 rfl ?_
  refine jr_aload_n CC (jd ddX3_ofOne 34 rfl) 0 rfl ?_
  refine jr_get (v := .ref e2) CC (jd ddX3_ofOne 35 rfl) (jf_X3_18 CC) 0 rfl rfl ?_
  refine jr_pc (pc' := 81) rfl ?_
  refine jr_iload_n CC (jd ddX3_ofOne 36 rfl) 1 rfl ?_
  refine jr_ialdN CC (jd ddX3_ofOne 37 rfl) 2 q rfl rfl (by omega) (by decide) ?_
  refine jr_iload_n CC (jd ddX3_ofOne 38 rfl) 2 rfl ?_
  refine jr_iadd CC (jd ddX3_ofOne 39 rfl) ?_
  refine jr_i2l CC (jd ddX3_ofOne 40 rfl) ?_
  refine jr_callS (rest := [.int (nI q), .ref e2]) [.long (Int32.toInt64 ((CA q) + op))] CC (jd ddX3_ofOne 41 rfl) (jy_X3_63 CC) (k_X3_keptResult l t hfl (Int32.toInt64 ((CA q) + op))) [] rfl (by decide) rfl rfl (by decide) (Nat.le_of_ble_eq_true rfl) (by rintro v u h; rcases h with ⟨rfl, rfl⟩ <;> rfl) (fun _ _ h => h.elim) (fun _ _ h => h.elim) (fun v u h => ?_)
  rcases h with ⟨rfl, rfl⟩
  refine jr_norm [(x4, .inr (2, [.ref e0, .ref e1, .ref e2, .ref e3, .int pn, .int ht])), (e1, .inl (t 0, 16, .inl DA)), (e2, .inl (t 0, 16, .inl CA))] [.int (jkept (Int32.toInt64 ((CA q) + op)) (-1000000) 1000000), .int (nI q), .ref e2] 89 0 0 rfl rfl rfl rfl rfl ?_
  refine jr_iastN CC (jd ddX3_ofOne 42 rfl) 2 q rfl rfl (by omega) (by decide) ?_
  refine jr_aload_n CC (jd ddX3_ofOne 43 rfl) 0 rfl ?_
  refine jr_get (v := .ref e2) CC (jd ddX3_ofOne 44 rfl) (jf_X3_18 CC) 0 rfl rfl ?_
  refine jr_iload_n CC (jd ddX3_ofOne 45 rfl) 1 rfl ?_
  refine jr_ialdN CC (jd ddX3_ofOne 46 rfl) 2 q rfl rfl (by omega) (by decide) ?_
  exact jr_iret CC MM (jd ddX3_ofOne 47 rfl) rfl (by decide) (by decide) ⟨by simp [oneR, jk6, upd_at, c1, c2, c3], by simp [oneC, jk6, upd_own, c1, c2, c3]⟩
/-- a part of the expression at a place of a record: how many numbers lie on the stack, the stack, what is carried -/
def cstep (KA DA f0 f1 : Nat → Int32) (ps q : Nat) (F : Nat × (Nat → Int32) × (Nat → Int32)) : Nat × (Nat → Int32) × (Nat → Int32) :=
  if KA q = 3 ∧ 2 ≤ F.1 then (F.1 - 1, upd F.2.1 (F.1 - 1 - 1) (twoR (DA q) (F.2.1 (F.1 - 1 - 1)) (F.2.1 (F.1 - 1))), F.2.2)
  else if KA q = 2 ∧ 1 ≤ F.1 then (F.1, upd F.2.1 (F.1 - 1) (oneR (DA q) (F.2.1 (F.1 - 1)) (F.2.2 q) (nI ps)), upd F.2.2 q (oneC (DA q) (F.2.1 (F.1 - 1)) (F.2.2 q)))
  else if F.1 < 16 then (F.1 + 1, upd F.2.1 F.1 (if KA q = 0 then jsel (DA q) (f0 ps) (f1 ps) else DA q), F.2.2)
  else F
def crun (KA DA f0 f1 : Nat → Int32) (ps : Nat) (ST CA : Nat → Int32) : Nat → Nat × (Nat → Int32) × (Nat → Int32)
  | 0 => (0, ST, CA)
  | q + 1 => cstep KA DA f0 f1 ps q (crun KA DA f0 f1 ps ST CA q)
theorem crun_le (KA DA f0 f1 : Nat → Int32) (ps : Nat) (ST CA : Nat → Int32) (q : Nat) : (crun KA DA f0 f1 ps ST CA q).1 ≤ 16 := by
  induction q with
  | zero => exact Nat.zero_le _
  | succ q ih =>
    rw [crun, cstep]
    split
    · exact Nat.le_trans (Nat.sub_le _ _) ih
    · split
      · exact ih
      · split
        · rename_i h; exact h
        · exact ih
theorem jm1 {a : Nat} (h : 1 ≤ a) : nI a + (-1) = nI (a - 1) := by
  obtain ⟨b, rfl⟩ : ∃ b, a = b + 1 := ⟨a - 1, by omega⟩
  exact pk_m1 b
theorem jsub1 {a : Nat} (h : 1 ≤ a) : nI a - 1 = nI (a - 1) := by
  rw [show nI a = nI (a - 1 + 1) by rw [Nat.sub_add_cancel h], ← nI_1]
  exact Int32.add_sub_cancel _ _
set_option maxHeartbeats 8000000 in
set_option maxRecDepth 100000 in
theorem k_X3_compute (l : Launch) (t : Nat → ClassId) (hfl : l.stackTraces = false) (x4 : Nat) (e0 : Nat) (e1 : Nat) (e2 : Nat) (e3 : Nat) (ht : Int32) (KA : Nat → Int32) (DA : Nat → Int32) (CA : Nat → Int32) (ST : Nat → Int32) (pn : Nat) (h0 : Nat) (h1 : Nat) (h2 : Nat) (h3 : Nat) (tr : Int32) (wa : Int32) (f0 : Nat → Int32) (f1 : Nat → Int32) (kk : Nat) (ps : Nat) (hpn : pn ≤ 16) (hps : ps < 49) : jKx l t yX3_compute (Cond.code yX3_compute cX3_compute 5 (some .int) :: jWS) { frames := 4, cells := 0, slots := 0, locals := 85 } [.ref x4, .ref h0, .int (nI ps)] [(x4, .inr (2, [.ref e0, .ref e1, .ref e2, .ref e3, .int (nI pn), .int ht])), (e0, .inl (t 0, 16, .inl KA)), (e1, .inl (t 0, 16, .inl DA)), (e2, .inl (t 0, 16, .inl CA)), (e3, .inl (t 0, 16, .inl ST)), (h0, .inr (0, [.ref h1, .int tr, .int wa, .int (nI kk)])), (h1, .inl (t 1, 2, .inr (.inr (.inr (.inr (jr2 h2 h3)))))), (h2, .inl (t 0, 49, .inl f0)), (h3, .inl (t 0, 49, .inl f1))] (fun vv uu => (vv = some (.int ((crun KA DA f0 f1 ps ST CA pn).2.1 0)) ∧ uu = [(x4, .inr (2, [.ref e0, .ref e1, .ref e2, .ref e3, .int (nI pn), .int ht])), (e0, .inl (t 0, 16, .inl KA)), (e1, .inl (t 0, 16, .inl DA)), (e2, .inl (t 0, 16, .inl ((crun KA DA f0 f1 ps ST CA pn).2.2))), (e3, .inl (t 0, 16, .inl ((crun KA DA f0 f1 ps ST CA pn).2.1))), (h0, .inr (0, [.ref h1, .int tr, .int wa, .int (nI kk)])), (h1, .inl (t 1, 2, .inr (.inr (.inr (.inr (jr2 h2 h3)))))), (h2, .inl (t 0, 49, .inl f0)), (h3, .inl (t 0, 49, .inl f1))])) (fun _ _ => False) := by
  refine jK_of hfl (by decide +kernel) (Nat.le_of_ble_eq_true rfl) ?_
  intro p e s m args below meth c D A Q CC MM
  refine jr_norm0 [(0, .ref x4), (1, .ref h0), (2, .int (nI ps))] rfl ?_
  refine jr_iconst (v := 0) CC (jd ddX3_compute 0 rfl) (by decide) ?_
  refine jr_istore_n 3 [(3, .int 0), (0, .ref x4), (1, .ref h0), (2, .int (nI ps))] CC (jd ddX3_compute 1 rfl) rfl (by decide) rfl ?_
  refine jr_iconst (v := 0) CC (jd ddX3_compute 2 rfl) (by decide) ?_
  refine jr_istore [(4, .int 0), (3, .int 0), (0, .ref x4), (1, .ref h0), (2, .int (nI ps))] CC (jd ddX3_compute 3 rfl) (by decide) rfl ?_
  have hL1 : ∀ (d9 : Nat) (q : Nat) (hq9 : q ≤ pn), pn - q < d9 → J p l e { frames := 4, cells := 0, slots := 0, locals := 85 } s m args below meth c D A 5 Q [(x4, .inr (2, [.ref e0, .ref e1, .ref e2, .ref e3, .int (nI pn), .int ht])), (e0, .inl (t 0, 16, .inl KA)), (e1, .inl (t 0, 16, .inl DA)), (e2, .inl (t 0, 16, .inl ((crun KA DA f0 f1 ps ST CA q).2.2))), (e3, .inl (t 0, 16, .inl ((crun KA DA f0 f1 ps ST CA q).2.1))), (h0, .inr (0, [.ref h1, .int tr, .int wa, .int (nI kk)])), (h1, .inl (t 1, 2, .inr (.inr (.inr (.inr (jr2 h2 h3)))))), (h2, .inl (t 0, 49, .inl f0)), (h3, .inl (t 0, 49, .inl f1))] [(0, .ref x4), (1, .ref h0), (2, .int (nI ps)), (3, .int (nI (crun KA DA f0 f1 ps ST CA q).1)), (4, .int (nI q))] 5 [] 0 0 := by
    intro d9
    induction d9 with
    | zero => intro q hq9 hmu; exact absurd hmu (Nat.not_lt_zero _)
    | succ d9 ih5 =>
      intro q hq9 hmu
      refine jr_iload CC (jd ddX3_compute 4 rfl) 4 rfl ?_
      refine jr_aload_n CC (jd ddX3_compute 5 rfl) 0 rfl ?_
      refine jr_get (v := .int (nI pn)) CC (jd ddX3_compute 6 rfl) (jf_X3_24 CC) 0 rfl rfl ?_
      refine jr_icmp_ge 163 CC (jd ddX3_compute 7 rfl) (by decide) (fun c2 => ?_) (fun c2 => ?_)
      · have n2 := jle_of (a := pn) (b := q) c2 (by omega) (by omega)
        refine jr_aload_n CC (jd ddX3_compute 93 rfl) 0 rfl ?_
        refine jr_get (v := .ref e3) CC (jd ddX3_compute 94 rfl) (jf_X3_21 CC) 0 rfl rfl ?_
        refine jr_iconst (v := 0) CC (jd ddX3_compute 95 rfl) (by decide) ?_
        refine jr_ialdN CC (jd ddX3_compute 96 rfl) 4 0 rfl (by decide) (by decide) (by decide) ?_
        exact jr_iret CC MM (jd ddX3_compute 97 rfl) rfl (by decide) (by decide) (by have e9 : q = pn := (by omega); subst e9; exact ⟨rfl, rfl⟩)
      · have n2 := jle_not (a := pn) (b := q) c2 (by omega) (by omega)
        have hF := crun_le KA DA f0 f1 ps ST CA q
        refine jr_aload_n CC (jd ddX3_compute 8 rfl) 0 rfl ?_
        refine jr_get (v := .ref e0) CC (jd ddX3_compute 9 rfl) (jf_X3_9 CC) 0 rfl rfl ?_
        refine jr_iload CC (jd ddX3_compute 10 rfl) 4 rfl ?_
        refine jr_ialdN CC (jd ddX3_compute 11 rfl) 1 q rfl rfl (by omega) (by decide) ?_
        refine jr_iconst (v := 3) CC (jd ddX3_compute 12 rfl) (by decide) ?_
        refine jr_icmp_ne 68 CC (jd ddX3_compute 13 rfl) (by decide) (fun c3 => ?_) (fun c3 => ?_)
        · refine jr_pc (pc' := 68) rfl ?_
          refine jr_aload_n CC (jd ddX3_compute 40 rfl) 0 rfl ?_
          refine jr_get (v := .ref e0) CC (jd ddX3_compute 41 rfl) (jf_X3_9 CC) 0 rfl rfl ?_
          refine jr_iload CC (jd ddX3_compute 42 rfl) 4 rfl ?_
          refine jr_ialdN CC (jd ddX3_compute 43 rfl) 1 q rfl rfl (by omega) (by decide) ?_
          refine jr_iconst (v := 2) CC (jd ddX3_compute 44 rfl) (by decide) ?_
          refine jr_icmp_ne 110 CC (jd ddX3_compute 45 rfl) (by decide) (fun c4 => ?_) (fun c4 => ?_)
          · refine jr_iload_n CC (jd ddX3_compute 66 rfl) 3 rfl ?_
            refine jr_bipush (v := 16) CC (jd ddX3_compute 67 rfl) (by decide) ?_
            refine jr_icmp_ge 157 CC (jd ddX3_compute 68 rfl) (by decide) (fun c5 => ?_) (fun c5 => ?_)
            · have n5 := jle_of (a := 16) (b := ((crun KA DA f0 f1 ps ST CA q).1)) c5 (by omega) (by omega)
              refine jr_iinc [(4, .int (nI (q + 1))), (0, .ref x4), (1, .ref h0), (2, .int (nI ps)), (3, .int (nI (crun KA DA f0 f1 ps ST CA q).1))] CC (jd ddX3_compute 91 rfl) 4 rfl (nI_1 _) (by decide) rfl ?_
              refine jr_pc (pc' := 160) rfl ?_
              refine jr_goto 5 CC (jd ddX3_compute 92 rfl) (by decide) ?_
              have e9 : (crun KA DA f0 f1 ps ST CA (q + 1)) = ((crun KA DA f0 f1 ps ST CA q).1, (crun KA DA f0 f1 ps ST CA q).2.1, (crun KA DA f0 f1 ps ST CA q).2.2) := by rw [crun, cstep, if_neg (fun h => c3 h.1), if_neg (fun h => c4 h.1), if_neg (by omega)]
              refine jr_ws [(x4, .inr (2, [.ref e0, .ref e1, .ref e2, .ref e3, .int (nI pn), .int ht])), (e0, .inl (t 0, 16, .inl KA)), (e1, .inl (t 0, 16, .inl DA)), (e2, .inl (t 0, 16, .inl ((crun KA DA f0 f1 ps ST CA (q + 1)).2.2))), (e3, .inl (t 0, 16, .inl ((crun KA DA f0 f1 ps ST CA (q + 1)).2.1))), (h0, .inr (0, [.ref h1, .int tr, .int wa, .int (nI kk)])), (h1, .inl (t 1, 2, .inr (.inr (.inr (.inr (jr2 h2 h3)))))), (h2, .inl (t 0, 49, .inl f0)), (h3, .inl (t 0, 49, .inl f1))] (by rw [e9] <;> rfl) ?_
              refine jr_norm0 [(4, .int (nI (q + 1))), (0, .ref x4), (1, .ref h0), (2, .int (nI ps)), (3, .int (nI (crun KA DA f0 f1 ps ST CA (q + 1)).1))] (by rw [e9] <;> rfl) ?_
              refine jr_norm [(x4, .inr (2, [.ref e0, .ref e1, .ref e2, .ref e3, .int (nI pn), .int ht])), (e0, .inl (t 0, 16, .inl KA)), (e1, .inl (t 0, 16, .inl DA)), (e2, .inl (t 0, 16, .inl ((crun KA DA f0 f1 ps ST CA (q + 1)).2.2))), (e3, .inl (t 0, 16, .inl ((crun KA DA f0 f1 ps ST CA (q + 1)).2.1))), (h0, .inr (0, [.ref h1, .int tr, .int wa, .int (nI kk)])), (h1, .inl (t 1, 2, .inr (.inr (.inr (.inr (jr2 h2 h3)))))), (h2, .inl (t 0, 49, .inl f0)), (h3, .inl (t 0, 49, .inl f1))] [] 5 0 0 rfl rfl rfl rfl rfl ?_
              refine jr_lv [1, 2, 3, 4, 0] [(0, .ref x4), (1, .ref h0), (2, .int (nI ps)), (3, .int (nI (crun KA DA f0 f1 ps ST CA (q + 1)).1)), (4, .int (nI (q + 1)))] rfl ?_
              exact ih5 (q + 1) (by omega) (by omega)
            · have n5 := jle_not (a := 16) (b := ((crun KA DA f0 f1 ps ST CA q).1)) c5 (by omega) (by omega)
              refine jr_aload_n CC (jd ddX3_compute 69 rfl) 0 rfl ?_
              refine jr_pc (pc' := 117) rfl ?_
              refine jr_get (v := .ref e3) CC (jd ddX3_compute 70 rfl) (jf_X3_21 CC) 0 rfl rfl ?_
              refine jr_iload_n CC (jd ddX3_compute 71 rfl) 3 rfl ?_
              refine jr_aload_n CC (jd ddX3_compute 72 rfl) 0 rfl ?_
              refine jr_get (v := .ref e0) CC (jd ddX3_compute 73 rfl) (jf_X3_9 CC) 0 rfl rfl ?_
              refine jr_iload CC (jd ddX3_compute 74 rfl) 4 rfl ?_
              refine jr_ialdN CC (jd ddX3_compute 75 rfl) 1 q rfl rfl (by omega) (by decide) ?_
              refine jr_if_ne 146 CC (jd ddX3_compute 76 rfl) (by decide) (fun c6 => ?_) (fun c6 => ?_)
              · refine jr_aload_n CC (jd ddX3_compute 85 rfl) 0 rfl ?_
                refine jr_get (v := .ref e1) CC (jd ddX3_compute 86 rfl) (jf_X3_15 CC) 0 rfl rfl ?_
                refine jr_iload CC (jd ddX3_compute 87 rfl) 4 rfl ?_
                refine jr_pc (pc' := 152) rfl ?_
                refine jr_ialdN CC (jd ddX3_compute 88 rfl) 2 q rfl rfl (by omega) (by decide) ?_
                refine jr_iastN CC (jd ddX3_compute 89 rfl) 4 ((crun KA DA f0 f1 ps ST CA q).1) rfl rfl (by omega) (by decide) ?_
                refine jr_iinc [(3, .int (nI ((crun KA DA f0 f1 ps ST CA q).1 + 1))), (0, .ref x4), (1, .ref h0), (2, .int (nI ps)), (4, .int (nI q))] CC (jd ddX3_compute 90 rfl) 3 rfl (nI_1 _) (by decide) rfl ?_
                refine jr_iinc [(4, .int (nI (q + 1))), (3, .int (nI ((crun KA DA f0 f1 ps ST CA q).1 + 1))), (0, .ref x4), (1, .ref h0), (2, .int (nI ps))] CC (jd ddX3_compute 91 rfl) 4 rfl (nI_1 _) (by decide) rfl ?_
                refine jr_goto 5 CC (jd ddX3_compute 92 rfl) (by decide) ?_
                have e9 : (crun KA DA f0 f1 ps ST CA (q + 1)) = (((crun KA DA f0 f1 ps ST CA q).1 + 1), (upd ((crun KA DA f0 f1 ps ST CA q).2.1) ((crun KA DA f0 f1 ps ST CA q).1) (DA q)), (crun KA DA f0 f1 ps ST CA q).2.2) := by rw [crun, cstep, if_neg (fun h => c3 h.1), if_neg (fun h => c4 h.1), if_pos n5, if_neg c6]
                refine jr_ws [(x4, .inr (2, [.ref e0, .ref e1, .ref e2, .ref e3, .int (nI pn), .int ht])), (e0, .inl (t 0, 16, .inl KA)), (e1, .inl (t 0, 16, .inl DA)), (e2, .inl (t 0, 16, .inl ((crun KA DA f0 f1 ps ST CA (q + 1)).2.2))), (e3, .inl (t 0, 16, .inl ((crun KA DA f0 f1 ps ST CA (q + 1)).2.1))), (h0, .inr (0, [.ref h1, .int tr, .int wa, .int (nI kk)])), (h1, .inl (t 1, 2, .inr (.inr (.inr (.inr (jr2 h2 h3)))))), (h2, .inl (t 0, 49, .inl f0)), (h3, .inl (t 0, 49, .inl f1))] (by rw [e9] <;> rfl) ?_
                refine jr_norm0 [(4, .int (nI (q + 1))), (3, .int (nI (crun KA DA f0 f1 ps ST CA (q + 1)).1)), (0, .ref x4), (1, .ref h0), (2, .int (nI ps))] (by rw [e9] <;> rfl) ?_
                refine jr_norm [(x4, .inr (2, [.ref e0, .ref e1, .ref e2, .ref e3, .int (nI pn), .int ht])), (e0, .inl (t 0, 16, .inl KA)), (e1, .inl (t 0, 16, .inl DA)), (e2, .inl (t 0, 16, .inl ((crun KA DA f0 f1 ps ST CA (q + 1)).2.2))), (e3, .inl (t 0, 16, .inl ((crun KA DA f0 f1 ps ST CA (q + 1)).2.1))), (h0, .inr (0, [.ref h1, .int tr, .int wa, .int (nI kk)])), (h1, .inl (t 1, 2, .inr (.inr (.inr (.inr (jr2 h2 h3)))))), (h2, .inl (t 0, 49, .inl f0)), (h3, .inl (t 0, 49, .inl f1))] [] 5 0 0 rfl rfl rfl rfl rfl ?_
                refine jr_lv [2, 3, 4, 1, 0] [(0, .ref x4), (1, .ref h0), (2, .int (nI ps)), (3, .int (nI (crun KA DA f0 f1 ps ST CA (q + 1)).1)), (4, .int (nI (q + 1)))] rfl ?_
                exact ih5 (q + 1) (by omega) (by omega)
              · refine jr_aload_n CC (jd ddX3_compute 77 rfl) 1 rfl ?_
                refine jr_aload_n CC (jd ddX3_compute 78 rfl) 0 rfl ?_
                refine jr_get (v := .ref e1) CC (jd ddX3_compute 79 rfl) (jf_X3_15 CC) 0 rfl rfl ?_
                refine jr_pc (pc' := 136) rfl ?_
                refine jr_iload CC (jd ddX3_compute 80 rfl) 4 rfl ?_
                refine jr_ialdN CC (jd ddX3_compute 81 rfl) 2 q rfl rfl (by omega) (by decide) ?_
                refine jr_iload_n CC (jd ddX3_compute 82 rfl) 2 rfl ?_
                refine jr_callV (q0 := 5) (rest := [.int (nI (crun KA DA f0 f1 ps ST CA q).1), .ref e3]) [.int (DA q), .int (nI ps)] CC (jd ddX3_compute 83 rfl) (jy_X3_53 CC) (k_X0_at_u l t hfl h0 h1 h2 h3 tr wa (nI kk) f0 f1 (DA q) ps hps) [5, 6, 7, 8] rfl (by decide) rfl rfl rfl rfl (by decide) (Nat.le_of_ble_eq_true rfl) (by rintro v u h; rcases h with ⟨rfl, rfl⟩ <;> rfl) (fun _ _ h => h.elim) (fun _ _ h => h.elim) (fun v u h => ?_)
                rcases h with ⟨rfl, rfl⟩
                refine jr_norm [(x4, .inr (2, [.ref e0, .ref e1, .ref e2, .ref e3, .int (nI pn), .int ht])), (e0, .inl (t 0, 16, .inl KA)), (e1, .inl (t 0, 16, .inl DA)), (e2, .inl (t 0, 16, .inl ((crun KA DA f0 f1 ps ST CA q).2.2))), (e3, .inl (t 0, 16, .inl ((crun KA DA f0 f1 ps ST CA q).2.1))), (h0, .inr (0, [.ref h1, .int tr, .int wa, .int (nI kk)])), (h1, .inl (t 1, 2, .inr (.inr (.inr (.inr (jr2 h2 h3)))))), (h2, .inl (t 0, 49, .inl f0)), (h3, .inl (t 0, 49, .inl f1))] [.int (jsel (DA q) (f0 ps) (f1 ps)), .int (nI (crun KA DA f0 f1 ps ST CA q).1), .ref e3] 143 0 0 rfl rfl rfl rfl rfl ?_
                refine jr_goto 153 CC (jd ddX3_compute 84 rfl) (by decide) ?_
                refine jr_iastN CC (jd ddX3_compute 89 rfl) 4 ((crun KA DA f0 f1 ps ST CA q).1) rfl rfl (by omega) (by decide) ?_
                refine jr_iinc [(3, .int (nI ((crun KA DA f0 f1 ps ST CA q).1 + 1))), (0, .ref x4), (1, .ref h0), (2, .int (nI ps)), (4, .int (nI q))] CC (jd ddX3_compute 90 rfl) 3 rfl (nI_1 _) (by decide) rfl ?_
                refine jr_iinc [(4, .int (nI (q + 1))), (3, .int (nI ((crun KA DA f0 f1 ps ST CA q).1 + 1))), (0, .ref x4), (1, .ref h0), (2, .int (nI ps))] CC (jd ddX3_compute 91 rfl) 4 rfl (nI_1 _) (by decide) rfl ?_
                refine jr_goto 5 CC (jd ddX3_compute 92 rfl) (by decide) ?_
                have e9 : (crun KA DA f0 f1 ps ST CA (q + 1)) = (((crun KA DA f0 f1 ps ST CA q).1 + 1), (upd ((crun KA DA f0 f1 ps ST CA q).2.1) ((crun KA DA f0 f1 ps ST CA q).1) (jsel (DA q) (f0 ps) (f1 ps))), (crun KA DA f0 f1 ps ST CA q).2.2) := by rw [crun, cstep, if_neg (fun h => c3 h.1), if_neg (fun h => c4 h.1), if_pos n5, if_pos c6]
                refine jr_ws [(x4, .inr (2, [.ref e0, .ref e1, .ref e2, .ref e3, .int (nI pn), .int ht])), (e0, .inl (t 0, 16, .inl KA)), (e1, .inl (t 0, 16, .inl DA)), (e2, .inl (t 0, 16, .inl ((crun KA DA f0 f1 ps ST CA (q + 1)).2.2))), (e3, .inl (t 0, 16, .inl ((crun KA DA f0 f1 ps ST CA (q + 1)).2.1))), (h0, .inr (0, [.ref h1, .int tr, .int wa, .int (nI kk)])), (h1, .inl (t 1, 2, .inr (.inr (.inr (.inr (jr2 h2 h3)))))), (h2, .inl (t 0, 49, .inl f0)), (h3, .inl (t 0, 49, .inl f1))] (by rw [e9] <;> rfl) ?_
                refine jr_norm0 [(4, .int (nI (q + 1))), (3, .int (nI (crun KA DA f0 f1 ps ST CA (q + 1)).1)), (0, .ref x4), (1, .ref h0), (2, .int (nI ps))] (by rw [e9] <;> rfl) ?_
                refine jr_norm [(x4, .inr (2, [.ref e0, .ref e1, .ref e2, .ref e3, .int (nI pn), .int ht])), (e0, .inl (t 0, 16, .inl KA)), (e1, .inl (t 0, 16, .inl DA)), (e2, .inl (t 0, 16, .inl ((crun KA DA f0 f1 ps ST CA (q + 1)).2.2))), (e3, .inl (t 0, 16, .inl ((crun KA DA f0 f1 ps ST CA (q + 1)).2.1))), (h0, .inr (0, [.ref h1, .int tr, .int wa, .int (nI kk)])), (h1, .inl (t 1, 2, .inr (.inr (.inr (.inr (jr2 h2 h3)))))), (h2, .inl (t 0, 49, .inl f0)), (h3, .inl (t 0, 49, .inl f1))] [] 5 0 0 rfl rfl rfl rfl rfl ?_
                refine jr_lv [2, 3, 4, 1, 0] [(0, .ref x4), (1, .ref h0), (2, .int (nI ps)), (3, .int (nI (crun KA DA f0 f1 ps ST CA (q + 1)).1)), (4, .int (nI (q + 1)))] rfl ?_
                exact ih5 (q + 1) (by omega) (by omega)
          · refine jr_iload_n CC (jd ddX3_compute 46 rfl) 3 rfl ?_
            refine jr_iconst (v := 1) CC (jd ddX3_compute 47 rfl) (by decide) ?_
            refine jr_icmp_lt 110 CC (jd ddX3_compute 48 rfl) (by decide) (fun c7 => ?_) (fun c7 => ?_)
            · have n7 := jlt_of (a := ((crun KA DA f0 f1 ps ST CA q).1)) (b := 1) c7 (by omega) (by omega)
              refine jr_iload_n CC (jd ddX3_compute 66 rfl) 3 rfl ?_
              refine jr_pc (pc' := 111) rfl ?_
              refine jr_bipush (v := 16) CC (jd ddX3_compute 67 rfl) (by decide) ?_
              refine jr_icmp_ge 157 CC (jd ddX3_compute 68 rfl) (by decide) (fun c8 => ?_) (fun c8 => ?_)
              · have n8 := jle_of (a := 16) (b := ((crun KA DA f0 f1 ps ST CA q).1)) c8 (by omega) (by omega)
                refine jr_iinc [(4, .int (nI (q + 1))), (0, .ref x4), (1, .ref h0), (2, .int (nI ps)), (3, .int (nI (crun KA DA f0 f1 ps ST CA q).1))] CC (jd ddX3_compute 91 rfl) 4 rfl (nI_1 _) (by decide) rfl ?_
                refine jr_goto 5 CC (jd ddX3_compute 92 rfl) (by decide) ?_
                have e9 : (crun KA DA f0 f1 ps ST CA (q + 1)) = ((crun KA DA f0 f1 ps ST CA q).1, (crun KA DA f0 f1 ps ST CA q).2.1, (crun KA DA f0 f1 ps ST CA q).2.2) := by rw [crun, cstep, if_neg (fun h => c3 h.1), if_neg (fun h => by omega), if_neg (by omega)]
                refine jr_ws [(x4, .inr (2, [.ref e0, .ref e1, .ref e2, .ref e3, .int (nI pn), .int ht])), (e0, .inl (t 0, 16, .inl KA)), (e1, .inl (t 0, 16, .inl DA)), (e2, .inl (t 0, 16, .inl ((crun KA DA f0 f1 ps ST CA (q + 1)).2.2))), (e3, .inl (t 0, 16, .inl ((crun KA DA f0 f1 ps ST CA (q + 1)).2.1))), (h0, .inr (0, [.ref h1, .int tr, .int wa, .int (nI kk)])), (h1, .inl (t 1, 2, .inr (.inr (.inr (.inr (jr2 h2 h3)))))), (h2, .inl (t 0, 49, .inl f0)), (h3, .inl (t 0, 49, .inl f1))] (by rw [e9] <;> rfl) ?_
                refine jr_norm0 [(4, .int (nI (q + 1))), (0, .ref x4), (1, .ref h0), (2, .int (nI ps)), (3, .int (nI (crun KA DA f0 f1 ps ST CA (q + 1)).1))] (by rw [e9] <;> rfl) ?_
                refine jr_norm [(x4, .inr (2, [.ref e0, .ref e1, .ref e2, .ref e3, .int (nI pn), .int ht])), (e0, .inl (t 0, 16, .inl KA)), (e1, .inl (t 0, 16, .inl DA)), (e2, .inl (t 0, 16, .inl ((crun KA DA f0 f1 ps ST CA (q + 1)).2.2))), (e3, .inl (t 0, 16, .inl ((crun KA DA f0 f1 ps ST CA (q + 1)).2.1))), (h0, .inr (0, [.ref h1, .int tr, .int wa, .int (nI kk)])), (h1, .inl (t 1, 2, .inr (.inr (.inr (.inr (jr2 h2 h3)))))), (h2, .inl (t 0, 49, .inl f0)), (h3, .inl (t 0, 49, .inl f1))] [] 5 0 0 rfl rfl rfl rfl rfl ?_
                refine jr_lv [1, 2, 3, 4, 0] [(0, .ref x4), (1, .ref h0), (2, .int (nI ps)), (3, .int (nI (crun KA DA f0 f1 ps ST CA (q + 1)).1)), (4, .int (nI (q + 1)))] rfl ?_
                exact ih5 (q + 1) (by omega) (by omega)
              · have n8 := jle_not (a := 16) (b := ((crun KA DA f0 f1 ps ST CA q).1)) c8 (by omega) (by omega)
                refine jr_aload_n CC (jd ddX3_compute 69 rfl) 0 rfl ?_
                refine jr_get (v := .ref e3) CC (jd ddX3_compute 70 rfl) (jf_X3_21 CC) 0 rfl rfl ?_
                refine jr_iload_n CC (jd ddX3_compute 71 rfl) 3 rfl ?_
                refine jr_aload_n CC (jd ddX3_compute 72 rfl) 0 rfl ?_
                refine jr_get (v := .ref e0) CC (jd ddX3_compute 73 rfl) (jf_X3_9 CC) 0 rfl rfl ?_
                refine jr_iload CC (jd ddX3_compute 74 rfl) 4 rfl ?_
                refine jr_ialdN CC (jd ddX3_compute 75 rfl) 1 q rfl rfl (by omega) (by decide) ?_
                refine jr_if_ne 146 CC (jd ddX3_compute 76 rfl) (by decide) (fun c9 => ?_) (fun c9 => ?_)
                · refine jr_pc (pc' := 146) rfl ?_
                  refine jr_aload_n CC (jd ddX3_compute 85 rfl) 0 rfl ?_
                  refine jr_get (v := .ref e1) CC (jd ddX3_compute 86 rfl) (jf_X3_15 CC) 0 rfl rfl ?_
                  refine jr_iload CC (jd ddX3_compute 87 rfl) 4 rfl ?_
                  refine jr_ialdN CC (jd ddX3_compute 88 rfl) 2 q rfl rfl (by omega) (by decide) ?_
                  refine jr_iastN CC (jd ddX3_compute 89 rfl) 4 ((crun KA DA f0 f1 ps ST CA q).1) rfl rfl (by omega) (by decide) ?_
                  refine jr_iinc [(3, .int (nI ((crun KA DA f0 f1 ps ST CA q).1 + 1))), (0, .ref x4), (1, .ref h0), (2, .int (nI ps)), (4, .int (nI q))] CC (jd ddX3_compute 90 rfl) 3 rfl (nI_1 _) (by decide) rfl ?_
                  refine jr_iinc [(4, .int (nI (q + 1))), (3, .int (nI ((crun KA DA f0 f1 ps ST CA q).1 + 1))), (0, .ref x4), (1, .ref h0), (2, .int (nI ps))] CC (jd ddX3_compute 91 rfl) 4 rfl (nI_1 _) (by decide) rfl ?_
                  refine jr_goto 5 CC (jd ddX3_compute 92 rfl) (by decide) ?_
                  have e9 : (crun KA DA f0 f1 ps ST CA (q + 1)) = (((crun KA DA f0 f1 ps ST CA q).1 + 1), (upd ((crun KA DA f0 f1 ps ST CA q).2.1) ((crun KA DA f0 f1 ps ST CA q).1) (DA q)), (crun KA DA f0 f1 ps ST CA q).2.2) := by rw [crun, cstep, if_neg (fun h => c3 h.1), if_neg (fun h => by omega), if_pos n8, if_neg c9]
                  refine jr_ws [(x4, .inr (2, [.ref e0, .ref e1, .ref e2, .ref e3, .int (nI pn), .int ht])), (e0, .inl (t 0, 16, .inl KA)), (e1, .inl (t 0, 16, .inl DA)), (e2, .inl (t 0, 16, .inl ((crun KA DA f0 f1 ps ST CA (q + 1)).2.2))), (e3, .inl (t 0, 16, .inl ((crun KA DA f0 f1 ps ST CA (q + 1)).2.1))), (h0, .inr (0, [.ref h1, .int tr, .int wa, .int (nI kk)])), (h1, .inl (t 1, 2, .inr (.inr (.inr (.inr (jr2 h2 h3)))))), (h2, .inl (t 0, 49, .inl f0)), (h3, .inl (t 0, 49, .inl f1))] (by rw [e9] <;> rfl) ?_
                  refine jr_norm0 [(4, .int (nI (q + 1))), (3, .int (nI (crun KA DA f0 f1 ps ST CA (q + 1)).1)), (0, .ref x4), (1, .ref h0), (2, .int (nI ps))] (by rw [e9] <;> rfl) ?_
                  refine jr_norm [(x4, .inr (2, [.ref e0, .ref e1, .ref e2, .ref e3, .int (nI pn), .int ht])), (e0, .inl (t 0, 16, .inl KA)), (e1, .inl (t 0, 16, .inl DA)), (e2, .inl (t 0, 16, .inl ((crun KA DA f0 f1 ps ST CA (q + 1)).2.2))), (e3, .inl (t 0, 16, .inl ((crun KA DA f0 f1 ps ST CA (q + 1)).2.1))), (h0, .inr (0, [.ref h1, .int tr, .int wa, .int (nI kk)])), (h1, .inl (t 1, 2, .inr (.inr (.inr (.inr (jr2 h2 h3)))))), (h2, .inl (t 0, 49, .inl f0)), (h3, .inl (t 0, 49, .inl f1))] [] 5 0 0 rfl rfl rfl rfl rfl ?_
                  refine jr_lv [2, 3, 4, 1, 0] [(0, .ref x4), (1, .ref h0), (2, .int (nI ps)), (3, .int (nI (crun KA DA f0 f1 ps ST CA (q + 1)).1)), (4, .int (nI (q + 1)))] rfl ?_
                  exact ih5 (q + 1) (by omega) (by omega)
                · refine jr_pc (pc' := 131) rfl ?_
                  refine jr_aload_n CC (jd ddX3_compute 77 rfl) 1 rfl ?_
                  refine jr_aload_n CC (jd ddX3_compute 78 rfl) 0 rfl ?_
                  refine jr_get (v := .ref e1) CC (jd ddX3_compute 79 rfl) (jf_X3_15 CC) 0 rfl rfl ?_
                  refine jr_iload CC (jd ddX3_compute 80 rfl) 4 rfl ?_
                  refine jr_ialdN CC (jd ddX3_compute 81 rfl) 2 q rfl rfl (by omega) (by decide) ?_
                  refine jr_iload_n CC (jd ddX3_compute 82 rfl) 2 rfl ?_
                  refine jr_callV (q0 := 5) (rest := [.int (nI (crun KA DA f0 f1 ps ST CA q).1), .ref e3]) [.int (DA q), .int (nI ps)] CC (jd ddX3_compute 83 rfl) (jy_X3_53 CC) (k_X0_at_u l t hfl h0 h1 h2 h3 tr wa (nI kk) f0 f1 (DA q) ps hps) [5, 6, 7, 8] rfl (by decide) rfl rfl rfl rfl (by decide) (Nat.le_of_ble_eq_true rfl) (by rintro v u h; rcases h with ⟨rfl, rfl⟩ <;> rfl) (fun _ _ h => h.elim) (fun _ _ h => h.elim) (fun v u h => ?_)
                  rcases h with ⟨rfl, rfl⟩
                  refine jr_norm [(x4, .inr (2, [.ref e0, .ref e1, .ref e2, .ref e3, .int (nI pn), .int ht])), (e0, .inl (t 0, 16, .inl KA)), (e1, .inl (t 0, 16, .inl DA)), (e2, .inl (t 0, 16, .inl ((crun KA DA f0 f1 ps ST CA q).2.2))), (e3, .inl (t 0, 16, .inl ((crun KA DA f0 f1 ps ST CA q).2.1))), (h0, .inr (0, [.ref h1, .int tr, .int wa, .int (nI kk)])), (h1, .inl (t 1, 2, .inr (.inr (.inr (.inr (jr2 h2 h3)))))), (h2, .inl (t 0, 49, .inl f0)), (h3, .inl (t 0, 49, .inl f1))] [.int (jsel (DA q) (f0 ps) (f1 ps)), .int (nI (crun KA DA f0 f1 ps ST CA q).1), .ref e3] 143 0 0 rfl rfl rfl rfl rfl ?_
                  refine jr_goto 153 CC (jd ddX3_compute 84 rfl) (by decide) ?_
                  refine jr_iastN CC (jd ddX3_compute 89 rfl) 4 ((crun KA DA f0 f1 ps ST CA q).1) rfl rfl (by omega) (by decide) ?_
                  refine jr_iinc [(3, .int (nI ((crun KA DA f0 f1 ps ST CA q).1 + 1))), (0, .ref x4), (1, .ref h0), (2, .int (nI ps)), (4, .int (nI q))] CC (jd ddX3_compute 90 rfl) 3 rfl (nI_1 _) (by decide) rfl ?_
                  refine jr_iinc [(4, .int (nI (q + 1))), (3, .int (nI ((crun KA DA f0 f1 ps ST CA q).1 + 1))), (0, .ref x4), (1, .ref h0), (2, .int (nI ps))] CC (jd ddX3_compute 91 rfl) 4 rfl (nI_1 _) (by decide) rfl ?_
                  refine jr_goto 5 CC (jd ddX3_compute 92 rfl) (by decide) ?_
                  have e9 : (crun KA DA f0 f1 ps ST CA (q + 1)) = (((crun KA DA f0 f1 ps ST CA q).1 + 1), (upd ((crun KA DA f0 f1 ps ST CA q).2.1) ((crun KA DA f0 f1 ps ST CA q).1) (jsel (DA q) (f0 ps) (f1 ps))), (crun KA DA f0 f1 ps ST CA q).2.2) := by rw [crun, cstep, if_neg (fun h => c3 h.1), if_neg (fun h => by omega), if_pos n8, if_pos c9]
                  refine jr_ws [(x4, .inr (2, [.ref e0, .ref e1, .ref e2, .ref e3, .int (nI pn), .int ht])), (e0, .inl (t 0, 16, .inl KA)), (e1, .inl (t 0, 16, .inl DA)), (e2, .inl (t 0, 16, .inl ((crun KA DA f0 f1 ps ST CA (q + 1)).2.2))), (e3, .inl (t 0, 16, .inl ((crun KA DA f0 f1 ps ST CA (q + 1)).2.1))), (h0, .inr (0, [.ref h1, .int tr, .int wa, .int (nI kk)])), (h1, .inl (t 1, 2, .inr (.inr (.inr (.inr (jr2 h2 h3)))))), (h2, .inl (t 0, 49, .inl f0)), (h3, .inl (t 0, 49, .inl f1))] (by rw [e9] <;> rfl) ?_
                  refine jr_norm0 [(4, .int (nI (q + 1))), (3, .int (nI (crun KA DA f0 f1 ps ST CA (q + 1)).1)), (0, .ref x4), (1, .ref h0), (2, .int (nI ps))] (by rw [e9] <;> rfl) ?_
                  refine jr_norm [(x4, .inr (2, [.ref e0, .ref e1, .ref e2, .ref e3, .int (nI pn), .int ht])), (e0, .inl (t 0, 16, .inl KA)), (e1, .inl (t 0, 16, .inl DA)), (e2, .inl (t 0, 16, .inl ((crun KA DA f0 f1 ps ST CA (q + 1)).2.2))), (e3, .inl (t 0, 16, .inl ((crun KA DA f0 f1 ps ST CA (q + 1)).2.1))), (h0, .inr (0, [.ref h1, .int tr, .int wa, .int (nI kk)])), (h1, .inl (t 1, 2, .inr (.inr (.inr (.inr (jr2 h2 h3)))))), (h2, .inl (t 0, 49, .inl f0)), (h3, .inl (t 0, 49, .inl f1))] [] 5 0 0 rfl rfl rfl rfl rfl ?_
                  refine jr_lv [2, 3, 4, 1, 0] [(0, .ref x4), (1, .ref h0), (2, .int (nI ps)), (3, .int (nI (crun KA DA f0 f1 ps ST CA (q + 1)).1)), (4, .int (nI (q + 1)))] rfl ?_
                  exact ih5 (q + 1) (by omega) (by omega)
            · have n7 := jlt_not (a := ((crun KA DA f0 f1 ps ST CA q).1)) (b := 1) c7 (by omega) (by omega)
              refine jr_aload_n CC (jd ddX3_compute 49 rfl) 0 rfl ?_
              refine jr_pc (pc' := 85) rfl ?_
              refine jr_get (v := .ref e3) CC (jd ddX3_compute 50 rfl) (jf_X3_21 CC) 0 rfl rfl ?_
              refine jr_iload_n CC (jd ddX3_compute 51 rfl) 3 rfl ?_
              refine jr_iconst (v := 1) CC (jd ddX3_compute 52 rfl) (by decide) ?_
              refine jr_isub CC (jd ddX3_compute 53 rfl) ?_
              refine jr_st [.int (nI (((crun KA DA f0 f1 ps ST CA q).1) - 1)), .ref e3] (by rw [jsub1 (a := ((crun KA DA f0 f1 ps ST CA q).1)) (by omega)]) ?_
              refine jr_aload_n CC (jd ddX3_compute 54 rfl) 0 rfl ?_
              refine jr_iload CC (jd ddX3_compute 55 rfl) 4 rfl ?_
              refine jr_aload_n CC (jd ddX3_compute 56 rfl) 0 rfl ?_
              refine jr_get (v := .ref e3) CC (jd ddX3_compute 57 rfl) (jf_X3_21 CC) 0 rfl rfl ?_
              refine jr_iload_n CC (jd ddX3_compute 58 rfl) 3 rfl ?_
              refine jr_iconst (v := 1) CC (jd ddX3_compute 59 rfl) (by decide) ?_
              refine jr_pc (pc' := 100) rfl ?_
              refine jr_isub CC (jd ddX3_compute 60 rfl) ?_
              refine jr_st [.int (nI (((crun KA DA f0 f1 ps ST CA q).1) - 1)), .ref e3, .int (nI q), .ref x4, .int (nI (((crun KA DA f0 f1 ps ST CA q).1) - 1)), .ref e3] (by rw [jsub1 (a := ((crun KA DA f0 f1 ps ST CA q).1)) (by omega)]) ?_
              refine jr_ialdN CC (jd ddX3_compute 61 rfl) 4 (((crun KA DA f0 f1 ps ST CA q).1) - 1) rfl rfl (by omega) (by decide) ?_
              refine jr_iload_n CC (jd ddX3_compute 62 rfl) 2 rfl ?_
              refine jr_callV (q0 := 0) (rest := [.int (nI (((crun KA DA f0 f1 ps ST CA q).1) - 1)), .ref e3]) [.int (nI q), .int (((crun KA DA f0 f1 ps ST CA q).2.1) (((crun KA DA f0 f1 ps ST CA q).1) - 1)), .int (nI ps)] CC (jd ddX3_compute 63 rfl) (jy_X3_50 CC) (k_X3_ofOne l t hfl x4 e0 e1 e2 e3 (nI pn) ht DA ((crun KA DA f0 f1 ps ST CA q).2.2) q (((crun KA DA f0 f1 ps ST CA q).2.1) (((crun KA DA f0 f1 ps ST CA q).1) - 1)) (nI ps) (by first | assumption | omega | decide)) [0, 2, 3] rfl (by decide) rfl rfl rfl rfl (by decide) (Nat.le_of_ble_eq_true rfl) (by rintro v u h; rcases h with ⟨rfl, rfl⟩ <;> rfl) (fun _ _ h => h.elim) (fun _ _ h => h.elim) (fun v u h => ?_)
              rcases h with ⟨rfl, rfl⟩
              refine jr_norm [(x4, .inr (2, [.ref e0, .ref e1, .ref e2, .ref e3, .int (nI pn), .int ht])), (e0, .inl (t 0, 16, .inl KA)), (e1, .inl (t 0, 16, .inl DA)), (e2, .inl (t 0, 16, .inl (upd ((crun KA DA f0 f1 ps ST CA q).2.2) q (oneC (DA q) (((crun KA DA f0 f1 ps ST CA q).2.1) (((crun KA DA f0 f1 ps ST CA q).1) - 1)) (((crun KA DA f0 f1 ps ST CA q).2.2) q))))), (e3, .inl (t 0, 16, .inl ((crun KA DA f0 f1 ps ST CA q).2.1))), (h0, .inr (0, [.ref h1, .int tr, .int wa, .int (nI kk)])), (h1, .inl (t 1, 2, .inr (.inr (.inr (.inr (jr2 h2 h3)))))), (h2, .inl (t 0, 49, .inl f0)), (h3, .inl (t 0, 49, .inl f1))] [.int (oneR (DA q) (((crun KA DA f0 f1 ps ST CA q).2.1) (((crun KA DA f0 f1 ps ST CA q).1) - 1)) (((crun KA DA f0 f1 ps ST CA q).2.2) q) (nI ps)), .int (nI (((crun KA DA f0 f1 ps ST CA q).1) - 1)), .ref e3] 106 0 0 rfl rfl rfl rfl rfl ?_
              refine jr_iastN CC (jd ddX3_compute 64 rfl) 4 (((crun KA DA f0 f1 ps ST CA q).1) - 1) rfl rfl (by omega) (by decide) ?_
              refine jr_goto 157 CC (jd ddX3_compute 65 rfl) (by decide) ?_
              refine jr_iinc [(4, .int (nI (q + 1))), (0, .ref x4), (1, .ref h0), (2, .int (nI ps)), (3, .int (nI (crun KA DA f0 f1 ps ST CA q).1))] CC (jd ddX3_compute 91 rfl) 4 rfl (nI_1 _) (by decide) rfl ?_
              refine jr_goto 5 CC (jd ddX3_compute 92 rfl) (by decide) ?_
              have e9 : (crun KA DA f0 f1 ps ST CA (q + 1)) = ((crun KA DA f0 f1 ps ST CA q).1, (upd ((crun KA DA f0 f1 ps ST CA q).2.1) (((crun KA DA f0 f1 ps ST CA q).1) - 1) (oneR (DA q) (((crun KA DA f0 f1 ps ST CA q).2.1) (((crun KA DA f0 f1 ps ST CA q).1) - 1)) (((crun KA DA f0 f1 ps ST CA q).2.2) q) (nI ps))), (upd ((crun KA DA f0 f1 ps ST CA q).2.2) q (oneC (DA q) (((crun KA DA f0 f1 ps ST CA q).2.1) (((crun KA DA f0 f1 ps ST CA q).1) - 1)) (((crun KA DA f0 f1 ps ST CA q).2.2) q)))) := by rw [crun, cstep, if_neg (fun h => c3 h.1), if_pos ⟨c4, n7⟩]
              refine jr_ws [(x4, .inr (2, [.ref e0, .ref e1, .ref e2, .ref e3, .int (nI pn), .int ht])), (e0, .inl (t 0, 16, .inl KA)), (e1, .inl (t 0, 16, .inl DA)), (e2, .inl (t 0, 16, .inl ((crun KA DA f0 f1 ps ST CA (q + 1)).2.2))), (e3, .inl (t 0, 16, .inl ((crun KA DA f0 f1 ps ST CA (q + 1)).2.1))), (h0, .inr (0, [.ref h1, .int tr, .int wa, .int (nI kk)])), (h1, .inl (t 1, 2, .inr (.inr (.inr (.inr (jr2 h2 h3)))))), (h2, .inl (t 0, 49, .inl f0)), (h3, .inl (t 0, 49, .inl f1))] (by rw [e9] <;> rfl) ?_
              refine jr_norm0 [(4, .int (nI (q + 1))), (0, .ref x4), (1, .ref h0), (2, .int (nI ps)), (3, .int (nI (crun KA DA f0 f1 ps ST CA (q + 1)).1))] (by rw [e9] <;> rfl) ?_
              refine jr_norm [(x4, .inr (2, [.ref e0, .ref e1, .ref e2, .ref e3, .int (nI pn), .int ht])), (e0, .inl (t 0, 16, .inl KA)), (e1, .inl (t 0, 16, .inl DA)), (e2, .inl (t 0, 16, .inl ((crun KA DA f0 f1 ps ST CA (q + 1)).2.2))), (e3, .inl (t 0, 16, .inl ((crun KA DA f0 f1 ps ST CA (q + 1)).2.1))), (h0, .inr (0, [.ref h1, .int tr, .int wa, .int (nI kk)])), (h1, .inl (t 1, 2, .inr (.inr (.inr (.inr (jr2 h2 h3)))))), (h2, .inl (t 0, 49, .inl f0)), (h3, .inl (t 0, 49, .inl f1))] [] 5 0 0 rfl rfl rfl rfl rfl ?_
              refine jr_lv [1, 2, 3, 4, 0] [(0, .ref x4), (1, .ref h0), (2, .int (nI ps)), (3, .int (nI (crun KA DA f0 f1 ps ST CA (q + 1)).1)), (4, .int (nI (q + 1)))] rfl ?_
              exact ih5 (q + 1) (by omega) (by omega)
        · refine jr_pc (pc' := 25) rfl ?_
          refine jr_iload_n CC (jd ddX3_compute 14 rfl) 3 rfl ?_
          refine jr_iconst (v := 2) CC (jd ddX3_compute 15 rfl) (by decide) ?_
          refine jr_icmp_lt 68 CC (jd ddX3_compute 16 rfl) (by decide) (fun c10 => ?_) (fun c10 => ?_)
          · have n10 := jlt_of (a := ((crun KA DA f0 f1 ps ST CA q).1)) (b := 2) c10 (by omega) (by omega)
            refine jr_aload_n CC (jd ddX3_compute 40 rfl) 0 rfl ?_
            refine jr_get (v := .ref e0) CC (jd ddX3_compute 41 rfl) (jf_X3_9 CC) 0 rfl rfl ?_
            refine jr_iload CC (jd ddX3_compute 42 rfl) 4 rfl ?_
            refine jr_ialdN CC (jd ddX3_compute 43 rfl) 1 q rfl rfl (by omega) (by decide) ?_
            refine jr_iconst (v := 2) CC (jd ddX3_compute 44 rfl) (by decide) ?_
            refine jr_icmp_ne 110 CC (jd ddX3_compute 45 rfl) (by decide) (fun c11 => ?_) (fun c11 => ?_)
            · refine jr_iload_n CC (jd ddX3_compute 66 rfl) 3 rfl ?_
              refine jr_pc (pc' := 111) rfl ?_
              refine jr_bipush (v := 16) CC (jd ddX3_compute 67 rfl) (by decide) ?_
              refine jr_icmp_ge 157 CC (jd ddX3_compute 68 rfl) (by decide) (fun c12 => ?_) (fun c12 => ?_)
              · have n12 := jle_of (a := 16) (b := ((crun KA DA f0 f1 ps ST CA q).1)) c12 (by omega) (by omega)
                refine jr_iinc [(4, .int (nI (q + 1))), (0, .ref x4), (1, .ref h0), (2, .int (nI ps)), (3, .int (nI (crun KA DA f0 f1 ps ST CA q).1))] CC (jd ddX3_compute 91 rfl) 4 rfl (nI_1 _) (by decide) rfl ?_
                refine jr_goto 5 CC (jd ddX3_compute 92 rfl) (by decide) ?_
                have e9 : (crun KA DA f0 f1 ps ST CA (q + 1)) = ((crun KA DA f0 f1 ps ST CA q).1, (crun KA DA f0 f1 ps ST CA q).2.1, (crun KA DA f0 f1 ps ST CA q).2.2) := by rw [crun, cstep, if_neg (fun h => by omega), if_neg (fun h => c11 h.1), if_neg (by omega)]
                refine jr_ws [(x4, .inr (2, [.ref e0, .ref e1, .ref e2, .ref e3, .int (nI pn), .int ht])), (e0, .inl (t 0, 16, .inl KA)), (e1, .inl (t 0, 16, .inl DA)), (e2, .inl (t 0, 16, .inl ((crun KA DA f0 f1 ps ST CA (q + 1)).2.2))), (e3, .inl (t 0, 16, .inl ((crun KA DA f0 f1 ps ST CA (q + 1)).2.1))), (h0, .inr (0, [.ref h1, .int tr, .int wa, .int (nI kk)])), (h1, .inl (t 1, 2, .inr (.inr (.inr (.inr (jr2 h2 h3)))))), (h2, .inl (t 0, 49, .inl f0)), (h3, .inl (t 0, 49, .inl f1))] (by rw [e9] <;> rfl) ?_
                refine jr_norm0 [(4, .int (nI (q + 1))), (0, .ref x4), (1, .ref h0), (2, .int (nI ps)), (3, .int (nI (crun KA DA f0 f1 ps ST CA (q + 1)).1))] (by rw [e9] <;> rfl) ?_
                refine jr_norm [(x4, .inr (2, [.ref e0, .ref e1, .ref e2, .ref e3, .int (nI pn), .int ht])), (e0, .inl (t 0, 16, .inl KA)), (e1, .inl (t 0, 16, .inl DA)), (e2, .inl (t 0, 16, .inl ((crun KA DA f0 f1 ps ST CA (q + 1)).2.2))), (e3, .inl (t 0, 16, .inl ((crun KA DA f0 f1 ps ST CA (q + 1)).2.1))), (h0, .inr (0, [.ref h1, .int tr, .int wa, .int (nI kk)])), (h1, .inl (t 1, 2, .inr (.inr (.inr (.inr (jr2 h2 h3)))))), (h2, .inl (t 0, 49, .inl f0)), (h3, .inl (t 0, 49, .inl f1))] [] 5 0 0 rfl rfl rfl rfl rfl ?_
                refine jr_lv [1, 2, 3, 4, 0] [(0, .ref x4), (1, .ref h0), (2, .int (nI ps)), (3, .int (nI (crun KA DA f0 f1 ps ST CA (q + 1)).1)), (4, .int (nI (q + 1)))] rfl ?_
                exact ih5 (q + 1) (by omega) (by omega)
              · have n12 := jle_not (a := 16) (b := ((crun KA DA f0 f1 ps ST CA q).1)) c12 (by omega) (by omega)
                refine jr_aload_n CC (jd ddX3_compute 69 rfl) 0 rfl ?_
                refine jr_get (v := .ref e3) CC (jd ddX3_compute 70 rfl) (jf_X3_21 CC) 0 rfl rfl ?_
                refine jr_iload_n CC (jd ddX3_compute 71 rfl) 3 rfl ?_
                refine jr_aload_n CC (jd ddX3_compute 72 rfl) 0 rfl ?_
                refine jr_get (v := .ref e0) CC (jd ddX3_compute 73 rfl) (jf_X3_9 CC) 0 rfl rfl ?_
                refine jr_iload CC (jd ddX3_compute 74 rfl) 4 rfl ?_
                refine jr_ialdN CC (jd ddX3_compute 75 rfl) 1 q rfl rfl (by omega) (by decide) ?_
                refine jr_if_ne 146 CC (jd ddX3_compute 76 rfl) (by decide) (fun c13 => ?_) (fun c13 => ?_)
                · refine jr_pc (pc' := 146) rfl ?_
                  refine jr_aload_n CC (jd ddX3_compute 85 rfl) 0 rfl ?_
                  refine jr_get (v := .ref e1) CC (jd ddX3_compute 86 rfl) (jf_X3_15 CC) 0 rfl rfl ?_
                  refine jr_iload CC (jd ddX3_compute 87 rfl) 4 rfl ?_
                  refine jr_ialdN CC (jd ddX3_compute 88 rfl) 2 q rfl rfl (by omega) (by decide) ?_
                  refine jr_iastN CC (jd ddX3_compute 89 rfl) 4 ((crun KA DA f0 f1 ps ST CA q).1) rfl rfl (by omega) (by decide) ?_
                  refine jr_iinc [(3, .int (nI ((crun KA DA f0 f1 ps ST CA q).1 + 1))), (0, .ref x4), (1, .ref h0), (2, .int (nI ps)), (4, .int (nI q))] CC (jd ddX3_compute 90 rfl) 3 rfl (nI_1 _) (by decide) rfl ?_
                  refine jr_iinc [(4, .int (nI (q + 1))), (3, .int (nI ((crun KA DA f0 f1 ps ST CA q).1 + 1))), (0, .ref x4), (1, .ref h0), (2, .int (nI ps))] CC (jd ddX3_compute 91 rfl) 4 rfl (nI_1 _) (by decide) rfl ?_
                  refine jr_goto 5 CC (jd ddX3_compute 92 rfl) (by decide) ?_
                  have e9 : (crun KA DA f0 f1 ps ST CA (q + 1)) = (((crun KA DA f0 f1 ps ST CA q).1 + 1), (upd ((crun KA DA f0 f1 ps ST CA q).2.1) ((crun KA DA f0 f1 ps ST CA q).1) (DA q)), (crun KA DA f0 f1 ps ST CA q).2.2) := by rw [crun, cstep, if_neg (fun h => by omega), if_neg (fun h => c11 h.1), if_pos n12, if_neg c13]
                  refine jr_ws [(x4, .inr (2, [.ref e0, .ref e1, .ref e2, .ref e3, .int (nI pn), .int ht])), (e0, .inl (t 0, 16, .inl KA)), (e1, .inl (t 0, 16, .inl DA)), (e2, .inl (t 0, 16, .inl ((crun KA DA f0 f1 ps ST CA (q + 1)).2.2))), (e3, .inl (t 0, 16, .inl ((crun KA DA f0 f1 ps ST CA (q + 1)).2.1))), (h0, .inr (0, [.ref h1, .int tr, .int wa, .int (nI kk)])), (h1, .inl (t 1, 2, .inr (.inr (.inr (.inr (jr2 h2 h3)))))), (h2, .inl (t 0, 49, .inl f0)), (h3, .inl (t 0, 49, .inl f1))] (by rw [e9] <;> rfl) ?_
                  refine jr_norm0 [(4, .int (nI (q + 1))), (3, .int (nI (crun KA DA f0 f1 ps ST CA (q + 1)).1)), (0, .ref x4), (1, .ref h0), (2, .int (nI ps))] (by rw [e9] <;> rfl) ?_
                  refine jr_norm [(x4, .inr (2, [.ref e0, .ref e1, .ref e2, .ref e3, .int (nI pn), .int ht])), (e0, .inl (t 0, 16, .inl KA)), (e1, .inl (t 0, 16, .inl DA)), (e2, .inl (t 0, 16, .inl ((crun KA DA f0 f1 ps ST CA (q + 1)).2.2))), (e3, .inl (t 0, 16, .inl ((crun KA DA f0 f1 ps ST CA (q + 1)).2.1))), (h0, .inr (0, [.ref h1, .int tr, .int wa, .int (nI kk)])), (h1, .inl (t 1, 2, .inr (.inr (.inr (.inr (jr2 h2 h3)))))), (h2, .inl (t 0, 49, .inl f0)), (h3, .inl (t 0, 49, .inl f1))] [] 5 0 0 rfl rfl rfl rfl rfl ?_
                  refine jr_lv [2, 3, 4, 1, 0] [(0, .ref x4), (1, .ref h0), (2, .int (nI ps)), (3, .int (nI (crun KA DA f0 f1 ps ST CA (q + 1)).1)), (4, .int (nI (q + 1)))] rfl ?_
                  exact ih5 (q + 1) (by omega) (by omega)
                · refine jr_pc (pc' := 131) rfl ?_
                  refine jr_aload_n CC (jd ddX3_compute 77 rfl) 1 rfl ?_
                  refine jr_aload_n CC (jd ddX3_compute 78 rfl) 0 rfl ?_
                  refine jr_get (v := .ref e1) CC (jd ddX3_compute 79 rfl) (jf_X3_15 CC) 0 rfl rfl ?_
                  refine jr_iload CC (jd ddX3_compute 80 rfl) 4 rfl ?_
                  refine jr_ialdN CC (jd ddX3_compute 81 rfl) 2 q rfl rfl (by omega) (by decide) ?_
                  refine jr_iload_n CC (jd ddX3_compute 82 rfl) 2 rfl ?_
                  refine jr_callV (q0 := 5) (rest := [.int (nI (crun KA DA f0 f1 ps ST CA q).1), .ref e3]) [.int (DA q), .int (nI ps)] CC (jd ddX3_compute 83 rfl) (jy_X3_53 CC) (k_X0_at_u l t hfl h0 h1 h2 h3 tr wa (nI kk) f0 f1 (DA q) ps hps) [5, 6, 7, 8] rfl (by decide) rfl rfl rfl rfl (by decide) (Nat.le_of_ble_eq_true rfl) (by rintro v u h; rcases h with ⟨rfl, rfl⟩ <;> rfl) (fun _ _ h => h.elim) (fun _ _ h => h.elim) (fun v u h => ?_)
                  rcases h with ⟨rfl, rfl⟩
                  refine jr_norm [(x4, .inr (2, [.ref e0, .ref e1, .ref e2, .ref e3, .int (nI pn), .int ht])), (e0, .inl (t 0, 16, .inl KA)), (e1, .inl (t 0, 16, .inl DA)), (e2, .inl (t 0, 16, .inl ((crun KA DA f0 f1 ps ST CA q).2.2))), (e3, .inl (t 0, 16, .inl ((crun KA DA f0 f1 ps ST CA q).2.1))), (h0, .inr (0, [.ref h1, .int tr, .int wa, .int (nI kk)])), (h1, .inl (t 1, 2, .inr (.inr (.inr (.inr (jr2 h2 h3)))))), (h2, .inl (t 0, 49, .inl f0)), (h3, .inl (t 0, 49, .inl f1))] [.int (jsel (DA q) (f0 ps) (f1 ps)), .int (nI (crun KA DA f0 f1 ps ST CA q).1), .ref e3] 143 0 0 rfl rfl rfl rfl rfl ?_
                  refine jr_goto 153 CC (jd ddX3_compute 84 rfl) (by decide) ?_
                  refine jr_iastN CC (jd ddX3_compute 89 rfl) 4 ((crun KA DA f0 f1 ps ST CA q).1) rfl rfl (by omega) (by decide) ?_
                  refine jr_iinc [(3, .int (nI ((crun KA DA f0 f1 ps ST CA q).1 + 1))), (0, .ref x4), (1, .ref h0), (2, .int (nI ps)), (4, .int (nI q))] CC (jd ddX3_compute 90 rfl) 3 rfl (nI_1 _) (by decide) rfl ?_
                  refine jr_iinc [(4, .int (nI (q + 1))), (3, .int (nI ((crun KA DA f0 f1 ps ST CA q).1 + 1))), (0, .ref x4), (1, .ref h0), (2, .int (nI ps))] CC (jd ddX3_compute 91 rfl) 4 rfl (nI_1 _) (by decide) rfl ?_
                  refine jr_goto 5 CC (jd ddX3_compute 92 rfl) (by decide) ?_
                  have e9 : (crun KA DA f0 f1 ps ST CA (q + 1)) = (((crun KA DA f0 f1 ps ST CA q).1 + 1), (upd ((crun KA DA f0 f1 ps ST CA q).2.1) ((crun KA DA f0 f1 ps ST CA q).1) (jsel (DA q) (f0 ps) (f1 ps))), (crun KA DA f0 f1 ps ST CA q).2.2) := by rw [crun, cstep, if_neg (fun h => by omega), if_neg (fun h => c11 h.1), if_pos n12, if_pos c13]
                  refine jr_ws [(x4, .inr (2, [.ref e0, .ref e1, .ref e2, .ref e3, .int (nI pn), .int ht])), (e0, .inl (t 0, 16, .inl KA)), (e1, .inl (t 0, 16, .inl DA)), (e2, .inl (t 0, 16, .inl ((crun KA DA f0 f1 ps ST CA (q + 1)).2.2))), (e3, .inl (t 0, 16, .inl ((crun KA DA f0 f1 ps ST CA (q + 1)).2.1))), (h0, .inr (0, [.ref h1, .int tr, .int wa, .int (nI kk)])), (h1, .inl (t 1, 2, .inr (.inr (.inr (.inr (jr2 h2 h3)))))), (h2, .inl (t 0, 49, .inl f0)), (h3, .inl (t 0, 49, .inl f1))] (by rw [e9] <;> rfl) ?_
                  refine jr_norm0 [(4, .int (nI (q + 1))), (3, .int (nI (crun KA DA f0 f1 ps ST CA (q + 1)).1)), (0, .ref x4), (1, .ref h0), (2, .int (nI ps))] (by rw [e9] <;> rfl) ?_
                  refine jr_norm [(x4, .inr (2, [.ref e0, .ref e1, .ref e2, .ref e3, .int (nI pn), .int ht])), (e0, .inl (t 0, 16, .inl KA)), (e1, .inl (t 0, 16, .inl DA)), (e2, .inl (t 0, 16, .inl ((crun KA DA f0 f1 ps ST CA (q + 1)).2.2))), (e3, .inl (t 0, 16, .inl ((crun KA DA f0 f1 ps ST CA (q + 1)).2.1))), (h0, .inr (0, [.ref h1, .int tr, .int wa, .int (nI kk)])), (h1, .inl (t 1, 2, .inr (.inr (.inr (.inr (jr2 h2 h3)))))), (h2, .inl (t 0, 49, .inl f0)), (h3, .inl (t 0, 49, .inl f1))] [] 5 0 0 rfl rfl rfl rfl rfl ?_
                  refine jr_lv [2, 3, 4, 1, 0] [(0, .ref x4), (1, .ref h0), (2, .int (nI ps)), (3, .int (nI (crun KA DA f0 f1 ps ST CA (q + 1)).1)), (4, .int (nI (q + 1)))] rfl ?_
                  exact ih5 (q + 1) (by omega) (by omega)
            · refine jr_iload_n CC (jd ddX3_compute 46 rfl) 3 rfl ?_
              refine jr_pc (pc' := 80) rfl ?_
              refine jr_iconst (v := 1) CC (jd ddX3_compute 47 rfl) (by decide) ?_
              refine jr_icmp_lt 110 CC (jd ddX3_compute 48 rfl) (by decide) (fun c14 => ?_) (fun c14 => ?_)
              · have n14 := jlt_of (a := ((crun KA DA f0 f1 ps ST CA q).1)) (b := 1) c14 (by omega) (by omega)
                refine jr_iload_n CC (jd ddX3_compute 66 rfl) 3 rfl ?_
                refine jr_bipush (v := 16) CC (jd ddX3_compute 67 rfl) (by decide) ?_
                refine jr_icmp_ge 157 CC (jd ddX3_compute 68 rfl) (by decide) (fun c15 => ?_) (fun c15 => ?_)
                · have n15 := jle_of (a := 16) (b := ((crun KA DA f0 f1 ps ST CA q).1)) c15 (by omega) (by omega)
                  refine jr_iinc [(4, .int (nI (q + 1))), (0, .ref x4), (1, .ref h0), (2, .int (nI ps)), (3, .int (nI (crun KA DA f0 f1 ps ST CA q).1))] CC (jd ddX3_compute 91 rfl) 4 rfl (nI_1 _) (by decide) rfl ?_
                  refine jr_goto 5 CC (jd ddX3_compute 92 rfl) (by decide) ?_
                  have e9 : (crun KA DA f0 f1 ps ST CA (q + 1)) = ((crun KA DA f0 f1 ps ST CA q).1, (crun KA DA f0 f1 ps ST CA q).2.1, (crun KA DA f0 f1 ps ST CA q).2.2) := by rw [crun, cstep, if_neg (fun h => by omega), if_neg (fun h => by omega), if_neg (by omega)]
                  refine jr_ws [(x4, .inr (2, [.ref e0, .ref e1, .ref e2, .ref e3, .int (nI pn), .int ht])), (e0, .inl (t 0, 16, .inl KA)), (e1, .inl (t 0, 16, .inl DA)), (e2, .inl (t 0, 16, .inl ((crun KA DA f0 f1 ps ST CA (q + 1)).2.2))), (e3, .inl (t 0, 16, .inl ((crun KA DA f0 f1 ps ST CA (q + 1)).2.1))), (h0, .inr (0, [.ref h1, .int tr, .int wa, .int (nI kk)])), (h1, .inl (t 1, 2, .inr (.inr (.inr (.inr (jr2 h2 h3)))))), (h2, .inl (t 0, 49, .inl f0)), (h3, .inl (t 0, 49, .inl f1))] (by rw [e9] <;> rfl) ?_
                  refine jr_norm0 [(4, .int (nI (q + 1))), (0, .ref x4), (1, .ref h0), (2, .int (nI ps)), (3, .int (nI (crun KA DA f0 f1 ps ST CA (q + 1)).1))] (by rw [e9] <;> rfl) ?_
                  refine jr_norm [(x4, .inr (2, [.ref e0, .ref e1, .ref e2, .ref e3, .int (nI pn), .int ht])), (e0, .inl (t 0, 16, .inl KA)), (e1, .inl (t 0, 16, .inl DA)), (e2, .inl (t 0, 16, .inl ((crun KA DA f0 f1 ps ST CA (q + 1)).2.2))), (e3, .inl (t 0, 16, .inl ((crun KA DA f0 f1 ps ST CA (q + 1)).2.1))), (h0, .inr (0, [.ref h1, .int tr, .int wa, .int (nI kk)])), (h1, .inl (t 1, 2, .inr (.inr (.inr (.inr (jr2 h2 h3)))))), (h2, .inl (t 0, 49, .inl f0)), (h3, .inl (t 0, 49, .inl f1))] [] 5 0 0 rfl rfl rfl rfl rfl ?_
                  refine jr_lv [1, 2, 3, 4, 0] [(0, .ref x4), (1, .ref h0), (2, .int (nI ps)), (3, .int (nI (crun KA DA f0 f1 ps ST CA (q + 1)).1)), (4, .int (nI (q + 1)))] rfl ?_
                  exact ih5 (q + 1) (by omega) (by omega)
                · have n15 := jle_not (a := 16) (b := ((crun KA DA f0 f1 ps ST CA q).1)) c15 (by omega) (by omega)
                  refine jr_aload_n CC (jd ddX3_compute 69 rfl) 0 rfl ?_
                  refine jr_get (v := .ref e3) CC (jd ddX3_compute 70 rfl) (jf_X3_21 CC) 0 rfl rfl ?_
                  refine jr_iload_n CC (jd ddX3_compute 71 rfl) 3 rfl ?_
                  refine jr_aload_n CC (jd ddX3_compute 72 rfl) 0 rfl ?_
                  refine jr_get (v := .ref e0) CC (jd ddX3_compute 73 rfl) (jf_X3_9 CC) 0 rfl rfl ?_
                  refine jr_pc (pc' := 125) rfl ?_
                  refine jr_iload CC (jd ddX3_compute 74 rfl) 4 rfl ?_
                  refine jr_ialdN CC (jd ddX3_compute 75 rfl) 1 q rfl rfl (by omega) (by decide) ?_
                  refine jr_if_ne 146 CC (jd ddX3_compute 76 rfl) (by decide) (fun c16 => ?_) (fun c16 => ?_)
                  · refine jr_aload_n CC (jd ddX3_compute 85 rfl) 0 rfl ?_
                    refine jr_get (v := .ref e1) CC (jd ddX3_compute 86 rfl) (jf_X3_15 CC) 0 rfl rfl ?_
                    refine jr_iload CC (jd ddX3_compute 87 rfl) 4 rfl ?_
                    refine jr_ialdN CC (jd ddX3_compute 88 rfl) 2 q rfl rfl (by omega) (by decide) ?_
                    refine jr_iastN CC (jd ddX3_compute 89 rfl) 4 ((crun KA DA f0 f1 ps ST CA q).1) rfl rfl (by omega) (by decide) ?_
                    refine jr_iinc [(3, .int (nI ((crun KA DA f0 f1 ps ST CA q).1 + 1))), (0, .ref x4), (1, .ref h0), (2, .int (nI ps)), (4, .int (nI q))] CC (jd ddX3_compute 90 rfl) 3 rfl (nI_1 _) (by decide) rfl ?_
                    refine jr_iinc [(4, .int (nI (q + 1))), (3, .int (nI ((crun KA DA f0 f1 ps ST CA q).1 + 1))), (0, .ref x4), (1, .ref h0), (2, .int (nI ps))] CC (jd ddX3_compute 91 rfl) 4 rfl (nI_1 _) (by decide) rfl ?_
                    refine jr_pc (pc' := 160) rfl ?_
                    refine jr_goto 5 CC (jd ddX3_compute 92 rfl) (by decide) ?_
                    have e9 : (crun KA DA f0 f1 ps ST CA (q + 1)) = (((crun KA DA f0 f1 ps ST CA q).1 + 1), (upd ((crun KA DA f0 f1 ps ST CA q).2.1) ((crun KA DA f0 f1 ps ST CA q).1) (DA q)), (crun KA DA f0 f1 ps ST CA q).2.2) := by rw [crun, cstep, if_neg (fun h => by omega), if_neg (fun h => by omega), if_pos n15, if_neg c16]
                    refine jr_ws [(x4, .inr (2, [.ref e0, .ref e1, .ref e2, .ref e3, .int (nI pn), .int ht])), (e0, .inl (t 0, 16, .inl KA)), (e1, .inl (t 0, 16, .inl DA)), (e2, .inl (t 0, 16, .inl ((crun KA DA f0 f1 ps ST CA (q + 1)).2.2))), (e3, .inl (t 0, 16, .inl ((crun KA DA f0 f1 ps ST CA (q + 1)).2.1))), (h0, .inr (0, [.ref h1, .int tr, .int wa, .int (nI kk)])), (h1, .inl (t 1, 2, .inr (.inr (.inr (.inr (jr2 h2 h3)))))), (h2, .inl (t 0, 49, .inl f0)), (h3, .inl (t 0, 49, .inl f1))] (by rw [e9] <;> rfl) ?_
                    refine jr_norm0 [(4, .int (nI (q + 1))), (3, .int (nI (crun KA DA f0 f1 ps ST CA (q + 1)).1)), (0, .ref x4), (1, .ref h0), (2, .int (nI ps))] (by rw [e9] <;> rfl) ?_
                    refine jr_norm [(x4, .inr (2, [.ref e0, .ref e1, .ref e2, .ref e3, .int (nI pn), .int ht])), (e0, .inl (t 0, 16, .inl KA)), (e1, .inl (t 0, 16, .inl DA)), (e2, .inl (t 0, 16, .inl ((crun KA DA f0 f1 ps ST CA (q + 1)).2.2))), (e3, .inl (t 0, 16, .inl ((crun KA DA f0 f1 ps ST CA (q + 1)).2.1))), (h0, .inr (0, [.ref h1, .int tr, .int wa, .int (nI kk)])), (h1, .inl (t 1, 2, .inr (.inr (.inr (.inr (jr2 h2 h3)))))), (h2, .inl (t 0, 49, .inl f0)), (h3, .inl (t 0, 49, .inl f1))] [] 5 0 0 rfl rfl rfl rfl rfl ?_
                    refine jr_lv [2, 3, 4, 1, 0] [(0, .ref x4), (1, .ref h0), (2, .int (nI ps)), (3, .int (nI (crun KA DA f0 f1 ps ST CA (q + 1)).1)), (4, .int (nI (q + 1)))] rfl ?_
                    exact ih5 (q + 1) (by omega) (by omega)
                  · refine jr_aload_n CC (jd ddX3_compute 77 rfl) 1 rfl ?_
                    refine jr_aload_n CC (jd ddX3_compute 78 rfl) 0 rfl ?_
                    refine jr_get (v := .ref e1) CC (jd ddX3_compute 79 rfl) (jf_X3_15 CC) 0 rfl rfl ?_
                    refine jr_iload CC (jd ddX3_compute 80 rfl) 4 rfl ?_
                    refine jr_ialdN CC (jd ddX3_compute 81 rfl) 2 q rfl rfl (by omega) (by decide) ?_
                    refine jr_iload_n CC (jd ddX3_compute 82 rfl) 2 rfl ?_
                    refine jr_callV (q0 := 5) (rest := [.int (nI (crun KA DA f0 f1 ps ST CA q).1), .ref e3]) [.int (DA q), .int (nI ps)] CC (jd ddX3_compute 83 rfl) (jy_X3_53 CC) (k_X0_at_u l t hfl h0 h1 h2 h3 tr wa (nI kk) f0 f1 (DA q) ps hps) [5, 6, 7, 8] rfl (by decide) rfl rfl rfl rfl (by decide) (Nat.le_of_ble_eq_true rfl) (by rintro v u h; rcases h with ⟨rfl, rfl⟩ <;> rfl) (fun _ _ h => h.elim) (fun _ _ h => h.elim) (fun v u h => ?_)
                    rcases h with ⟨rfl, rfl⟩
                    refine jr_norm [(x4, .inr (2, [.ref e0, .ref e1, .ref e2, .ref e3, .int (nI pn), .int ht])), (e0, .inl (t 0, 16, .inl KA)), (e1, .inl (t 0, 16, .inl DA)), (e2, .inl (t 0, 16, .inl ((crun KA DA f0 f1 ps ST CA q).2.2))), (e3, .inl (t 0, 16, .inl ((crun KA DA f0 f1 ps ST CA q).2.1))), (h0, .inr (0, [.ref h1, .int tr, .int wa, .int (nI kk)])), (h1, .inl (t 1, 2, .inr (.inr (.inr (.inr (jr2 h2 h3)))))), (h2, .inl (t 0, 49, .inl f0)), (h3, .inl (t 0, 49, .inl f1))] [.int (jsel (DA q) (f0 ps) (f1 ps)), .int (nI (crun KA DA f0 f1 ps ST CA q).1), .ref e3] 143 0 0 rfl rfl rfl rfl rfl ?_
                    refine jr_goto 153 CC (jd ddX3_compute 84 rfl) (by decide) ?_
                    refine jr_iastN CC (jd ddX3_compute 89 rfl) 4 ((crun KA DA f0 f1 ps ST CA q).1) rfl rfl (by omega) (by decide) ?_
                    refine jr_iinc [(3, .int (nI ((crun KA DA f0 f1 ps ST CA q).1 + 1))), (0, .ref x4), (1, .ref h0), (2, .int (nI ps)), (4, .int (nI q))] CC (jd ddX3_compute 90 rfl) 3 rfl (nI_1 _) (by decide) rfl ?_
                    refine jr_iinc [(4, .int (nI (q + 1))), (3, .int (nI ((crun KA DA f0 f1 ps ST CA q).1 + 1))), (0, .ref x4), (1, .ref h0), (2, .int (nI ps))] CC (jd ddX3_compute 91 rfl) 4 rfl (nI_1 _) (by decide) rfl ?_
                    refine jr_goto 5 CC (jd ddX3_compute 92 rfl) (by decide) ?_
                    have e9 : (crun KA DA f0 f1 ps ST CA (q + 1)) = (((crun KA DA f0 f1 ps ST CA q).1 + 1), (upd ((crun KA DA f0 f1 ps ST CA q).2.1) ((crun KA DA f0 f1 ps ST CA q).1) (jsel (DA q) (f0 ps) (f1 ps))), (crun KA DA f0 f1 ps ST CA q).2.2) := by rw [crun, cstep, if_neg (fun h => by omega), if_neg (fun h => by omega), if_pos n15, if_pos c16]
                    refine jr_ws [(x4, .inr (2, [.ref e0, .ref e1, .ref e2, .ref e3, .int (nI pn), .int ht])), (e0, .inl (t 0, 16, .inl KA)), (e1, .inl (t 0, 16, .inl DA)), (e2, .inl (t 0, 16, .inl ((crun KA DA f0 f1 ps ST CA (q + 1)).2.2))), (e3, .inl (t 0, 16, .inl ((crun KA DA f0 f1 ps ST CA (q + 1)).2.1))), (h0, .inr (0, [.ref h1, .int tr, .int wa, .int (nI kk)])), (h1, .inl (t 1, 2, .inr (.inr (.inr (.inr (jr2 h2 h3)))))), (h2, .inl (t 0, 49, .inl f0)), (h3, .inl (t 0, 49, .inl f1))] (by rw [e9] <;> rfl) ?_
                    refine jr_norm0 [(4, .int (nI (q + 1))), (3, .int (nI (crun KA DA f0 f1 ps ST CA (q + 1)).1)), (0, .ref x4), (1, .ref h0), (2, .int (nI ps))] (by rw [e9] <;> rfl) ?_
                    refine jr_norm [(x4, .inr (2, [.ref e0, .ref e1, .ref e2, .ref e3, .int (nI pn), .int ht])), (e0, .inl (t 0, 16, .inl KA)), (e1, .inl (t 0, 16, .inl DA)), (e2, .inl (t 0, 16, .inl ((crun KA DA f0 f1 ps ST CA (q + 1)).2.2))), (e3, .inl (t 0, 16, .inl ((crun KA DA f0 f1 ps ST CA (q + 1)).2.1))), (h0, .inr (0, [.ref h1, .int tr, .int wa, .int (nI kk)])), (h1, .inl (t 1, 2, .inr (.inr (.inr (.inr (jr2 h2 h3)))))), (h2, .inl (t 0, 49, .inl f0)), (h3, .inl (t 0, 49, .inl f1))] [] 5 0 0 rfl rfl rfl rfl rfl ?_
                    refine jr_lv [2, 3, 4, 1, 0] [(0, .ref x4), (1, .ref h0), (2, .int (nI ps)), (3, .int (nI (crun KA DA f0 f1 ps ST CA (q + 1)).1)), (4, .int (nI (q + 1)))] rfl ?_
                    exact ih5 (q + 1) (by omega) (by omega)
              · have n14 := jlt_not (a := ((crun KA DA f0 f1 ps ST CA q).1)) (b := 1) c14 (by omega) (by omega)
                refine jr_aload_n CC (jd ddX3_compute 49 rfl) 0 rfl ?_
                refine jr_get (v := .ref e3) CC (jd ddX3_compute 50 rfl) (jf_X3_21 CC) 0 rfl rfl ?_
                refine jr_iload_n CC (jd ddX3_compute 51 rfl) 3 rfl ?_
                refine jr_iconst (v := 1) CC (jd ddX3_compute 52 rfl) (by decide) ?_
                refine jr_isub CC (jd ddX3_compute 53 rfl) ?_
                refine jr_st [.int (nI (((crun KA DA f0 f1 ps ST CA q).1) - 1)), .ref e3] (by rw [jsub1 (a := ((crun KA DA f0 f1 ps ST CA q).1)) (by omega)]) ?_
                refine jr_aload_n CC (jd ddX3_compute 54 rfl) 0 rfl ?_
                refine jr_iload CC (jd ddX3_compute 55 rfl) 4 rfl ?_
                refine jr_aload_n CC (jd ddX3_compute 56 rfl) 0 rfl ?_
                refine jr_pc (pc' := 95) rfl ?_
                refine jr_get (v := .ref e3) CC (jd ddX3_compute 57 rfl) (jf_X3_21 CC) 0 rfl rfl ?_
                refine jr_iload_n CC (jd ddX3_compute 58 rfl) 3 rfl ?_
                refine jr_iconst (v := 1) CC (jd ddX3_compute 59 rfl) (by decide) ?_
                refine jr_isub CC (jd ddX3_compute 60 rfl) ?_
                refine jr_st [.int (nI (((crun KA DA f0 f1 ps ST CA q).1) - 1)), .ref e3, .int (nI q), .ref x4, .int (nI (((crun KA DA f0 f1 ps ST CA q).1) - 1)), .ref e3] (by rw [jsub1 (a := ((crun KA DA f0 f1 ps ST CA q).1)) (by omega)]) ?_
                refine jr_ialdN CC (jd ddX3_compute 61 rfl) 4 (((crun KA DA f0 f1 ps ST CA q).1) - 1) rfl rfl (by omega) (by decide) ?_
                refine jr_iload_n CC (jd ddX3_compute 62 rfl) 2 rfl ?_
                refine jr_callV (q0 := 0) (rest := [.int (nI (((crun KA DA f0 f1 ps ST CA q).1) - 1)), .ref e3]) [.int (nI q), .int (((crun KA DA f0 f1 ps ST CA q).2.1) (((crun KA DA f0 f1 ps ST CA q).1) - 1)), .int (nI ps)] CC (jd ddX3_compute 63 rfl) (jy_X3_50 CC) (k_X3_ofOne l t hfl x4 e0 e1 e2 e3 (nI pn) ht DA ((crun KA DA f0 f1 ps ST CA q).2.2) q (((crun KA DA f0 f1 ps ST CA q).2.1) (((crun KA DA f0 f1 ps ST CA q).1) - 1)) (nI ps) (by first | assumption | omega | decide)) [0, 2, 3] rfl (by decide) rfl rfl rfl rfl (by decide) (Nat.le_of_ble_eq_true rfl) (by rintro v u h; rcases h with ⟨rfl, rfl⟩ <;> rfl) (fun _ _ h => h.elim) (fun _ _ h => h.elim) (fun v u h => ?_)
                rcases h with ⟨rfl, rfl⟩
                refine jr_norm [(x4, .inr (2, [.ref e0, .ref e1, .ref e2, .ref e3, .int (nI pn), .int ht])), (e0, .inl (t 0, 16, .inl KA)), (e1, .inl (t 0, 16, .inl DA)), (e2, .inl (t 0, 16, .inl (upd ((crun KA DA f0 f1 ps ST CA q).2.2) q (oneC (DA q) (((crun KA DA f0 f1 ps ST CA q).2.1) (((crun KA DA f0 f1 ps ST CA q).1) - 1)) (((crun KA DA f0 f1 ps ST CA q).2.2) q))))), (e3, .inl (t 0, 16, .inl ((crun KA DA f0 f1 ps ST CA q).2.1))), (h0, .inr (0, [.ref h1, .int tr, .int wa, .int (nI kk)])), (h1, .inl (t 1, 2, .inr (.inr (.inr (.inr (jr2 h2 h3)))))), (h2, .inl (t 0, 49, .inl f0)), (h3, .inl (t 0, 49, .inl f1))] [.int (oneR (DA q) (((crun KA DA f0 f1 ps ST CA q).2.1) (((crun KA DA f0 f1 ps ST CA q).1) - 1)) (((crun KA DA f0 f1 ps ST CA q).2.2) q) (nI ps)), .int (nI (((crun KA DA f0 f1 ps ST CA q).1) - 1)), .ref e3] 106 0 0 rfl rfl rfl rfl rfl ?_
                refine jr_iastN CC (jd ddX3_compute 64 rfl) 4 (((crun KA DA f0 f1 ps ST CA q).1) - 1) rfl rfl (by omega) (by decide) ?_
                refine jr_goto 157 CC (jd ddX3_compute 65 rfl) (by decide) ?_
                refine jr_iinc [(4, .int (nI (q + 1))), (0, .ref x4), (1, .ref h0), (2, .int (nI ps)), (3, .int (nI (crun KA DA f0 f1 ps ST CA q).1))] CC (jd ddX3_compute 91 rfl) 4 rfl (nI_1 _) (by decide) rfl ?_
                refine jr_goto 5 CC (jd ddX3_compute 92 rfl) (by decide) ?_
                have e9 : (crun KA DA f0 f1 ps ST CA (q + 1)) = ((crun KA DA f0 f1 ps ST CA q).1, (upd ((crun KA DA f0 f1 ps ST CA q).2.1) (((crun KA DA f0 f1 ps ST CA q).1) - 1) (oneR (DA q) (((crun KA DA f0 f1 ps ST CA q).2.1) (((crun KA DA f0 f1 ps ST CA q).1) - 1)) (((crun KA DA f0 f1 ps ST CA q).2.2) q) (nI ps))), (upd ((crun KA DA f0 f1 ps ST CA q).2.2) q (oneC (DA q) (((crun KA DA f0 f1 ps ST CA q).2.1) (((crun KA DA f0 f1 ps ST CA q).1) - 1)) (((crun KA DA f0 f1 ps ST CA q).2.2) q)))) := by rw [crun, cstep, if_neg (fun h => by omega), if_pos ⟨c11, n14⟩]
                refine jr_ws [(x4, .inr (2, [.ref e0, .ref e1, .ref e2, .ref e3, .int (nI pn), .int ht])), (e0, .inl (t 0, 16, .inl KA)), (e1, .inl (t 0, 16, .inl DA)), (e2, .inl (t 0, 16, .inl ((crun KA DA f0 f1 ps ST CA (q + 1)).2.2))), (e3, .inl (t 0, 16, .inl ((crun KA DA f0 f1 ps ST CA (q + 1)).2.1))), (h0, .inr (0, [.ref h1, .int tr, .int wa, .int (nI kk)])), (h1, .inl (t 1, 2, .inr (.inr (.inr (.inr (jr2 h2 h3)))))), (h2, .inl (t 0, 49, .inl f0)), (h3, .inl (t 0, 49, .inl f1))] (by rw [e9] <;> rfl) ?_
                refine jr_norm0 [(4, .int (nI (q + 1))), (0, .ref x4), (1, .ref h0), (2, .int (nI ps)), (3, .int (nI (crun KA DA f0 f1 ps ST CA (q + 1)).1))] (by rw [e9] <;> rfl) ?_
                refine jr_norm [(x4, .inr (2, [.ref e0, .ref e1, .ref e2, .ref e3, .int (nI pn), .int ht])), (e0, .inl (t 0, 16, .inl KA)), (e1, .inl (t 0, 16, .inl DA)), (e2, .inl (t 0, 16, .inl ((crun KA DA f0 f1 ps ST CA (q + 1)).2.2))), (e3, .inl (t 0, 16, .inl ((crun KA DA f0 f1 ps ST CA (q + 1)).2.1))), (h0, .inr (0, [.ref h1, .int tr, .int wa, .int (nI kk)])), (h1, .inl (t 1, 2, .inr (.inr (.inr (.inr (jr2 h2 h3)))))), (h2, .inl (t 0, 49, .inl f0)), (h3, .inl (t 0, 49, .inl f1))] [] 5 0 0 rfl rfl rfl rfl rfl ?_
                refine jr_lv [1, 2, 3, 4, 0] [(0, .ref x4), (1, .ref h0), (2, .int (nI ps)), (3, .int (nI (crun KA DA f0 f1 ps ST CA (q + 1)).1)), (4, .int (nI (q + 1)))] rfl ?_
                exact ih5 (q + 1) (by omega) (by omega)
          · have n10 := jlt_not (a := ((crun KA DA f0 f1 ps ST CA q).1)) (b := 2) c10 (by omega) (by omega)
            refine jr_iinc [(3, .int (nI (((crun KA DA f0 f1 ps ST CA q).1) - 1))), (0, .ref x4), (1, .ref h0), (2, .int (nI ps)), (4, .int (nI q))] CC (jd ddX3_compute 17 rfl) 3 rfl (jm1 (by omega)) (by decide) rfl ?_
            refine jr_aload_n CC (jd ddX3_compute 18 rfl) 1 rfl ?_
            refine jr_get (v := .ref e3) CC (jd ddX3_compute 19 rfl) (jf_X3_21 CC) 0 rfl rfl ?_
            refine jr_iload_n CC (jd ddX3_compute 20 rfl) 0 rfl ?_
            refine jr_iconst (v := 1) CC (jd ddX3_compute 21 rfl) (by decide) ?_
            refine jr_isub CC (jd ddX3_compute 22 rfl) ?_
            refine jr_st [.int (nI ((((crun KA DA f0 f1 ps ST CA q).1) - 1) - 1)), .ref e3] (by rw [jsub1 (a := (((crun KA DA f0 f1 ps ST CA q).1) - 1)) (by omega)]) ?_
            refine jr_aload_n CC (jd ddX3_compute 23 rfl) 1 rfl ?_
            refine jr_pc (pc' := 41) rfl ?_
            refine jr_get (v := .ref e1) CC (jd ddX3_compute 24 rfl) (jf_X3_15 CC) 0 rfl rfl ?_
            refine jr_iload CC (jd ddX3_compute 25 rfl) 4 rfl ?_
            refine jr_ialdN CC (jd ddX3_compute 26 rfl) 2 q rfl rfl (by omega) (by decide) ?_
            refine jr_aload_n CC (jd ddX3_compute 27 rfl) 1 rfl ?_
            refine jr_get (v := .ref e3) CC (jd ddX3_compute 28 rfl) (jf_X3_21 CC) 0 rfl rfl ?_
            refine jr_iload_n CC (jd ddX3_compute 29 rfl) 0 rfl ?_
            refine jr_iconst (v := 1) CC (jd ddX3_compute 30 rfl) (by decide) ?_
            refine jr_isub CC (jd ddX3_compute 31 rfl) ?_
            refine jr_st [.int (nI ((((crun KA DA f0 f1 ps ST CA q).1) - 1) - 1)), .ref e3, .int (DA q), .int (nI ((((crun KA DA f0 f1 ps ST CA q).1) - 1) - 1)), .ref e3] (by rw [jsub1 (a := (((crun KA DA f0 f1 ps ST CA q).1) - 1)) (by omega)]) ?_
            refine jr_ialdN CC (jd ddX3_compute 32 rfl) 4 ((((crun KA DA f0 f1 ps ST CA q).1) - 1) - 1) rfl rfl (by omega) (by decide) ?_
            refine jr_aload_n CC (jd ddX3_compute 33 rfl) 1 rfl ?_
            refine jr_pc (pc' := 56) rfl ?_
            refine jr_get (v := .ref e3) CC (jd ddX3_compute 34 rfl) (jf_X3_21 CC) 0 rfl rfl ?_
            refine jr_iload_n CC (jd ddX3_compute 35 rfl) 0 rfl ?_
            refine jr_ialdN CC (jd ddX3_compute 36 rfl) 4 (((crun KA DA f0 f1 ps ST CA q).1) - 1) rfl rfl (by omega) (by decide) ?_
            refine jr_callS (rest := [.int (nI ((((crun KA DA f0 f1 ps ST CA q).1) - 1) - 1)), .ref e3]) [.int (DA q), .int (((crun KA DA f0 f1 ps ST CA q).2.1) ((((crun KA DA f0 f1 ps ST CA q).1) - 1) - 1)), .int (((crun KA DA f0 f1 ps ST CA q).2.1) (((crun KA DA f0 f1 ps ST CA q).1) - 1))] CC (jd ddX3_compute 37 rfl) (jy_X3_46 CC) (k_X3_ofTwo l t hfl (DA q) (((crun KA DA f0 f1 ps ST CA q).2.1) ((((crun KA DA f0 f1 ps ST CA q).1) - 1) - 1)) (((crun KA DA f0 f1 ps ST CA q).2.1) (((crun KA DA f0 f1 ps ST CA q).1) - 1))) [] rfl (by decide) rfl rfl (by decide) (Nat.le_of_ble_eq_true rfl) (by rintro v u h; rcases h with ⟨rfl, rfl⟩ <;> rfl) (fun _ _ h => h.elim) (fun _ _ h => h.elim) (fun v u h => ?_)
            rcases h with ⟨rfl, rfl⟩
            refine jr_norm [(x4, .inr (2, [.ref e0, .ref e1, .ref e2, .ref e3, .int (nI pn), .int ht])), (e0, .inl (t 0, 16, .inl KA)), (e1, .inl (t 0, 16, .inl DA)), (e2, .inl (t 0, 16, .inl ((crun KA DA f0 f1 ps ST CA q).2.2))), (e3, .inl (t 0, 16, .inl ((crun KA DA f0 f1 ps ST CA q).2.1))), (h0, .inr (0, [.ref h1, .int tr, .int wa, .int (nI kk)])), (h1, .inl (t 1, 2, .inr (.inr (.inr (.inr (jr2 h2 h3)))))), (h2, .inl (t 0, 49, .inl f0)), (h3, .inl (t 0, 49, .inl f1))] [.int (twoR (DA q) (((crun KA DA f0 f1 ps ST CA q).2.1) ((((crun KA DA f0 f1 ps ST CA q).1) - 1) - 1)) (((crun KA DA f0 f1 ps ST CA q).2.1) (((crun KA DA f0 f1 ps ST CA q).1) - 1))), .int (nI ((((crun KA DA f0 f1 ps ST CA q).1) - 1) - 1)), .ref e3] 64 0 0 rfl rfl rfl rfl rfl ?_
            refine jr_iastN CC (jd ddX3_compute 38 rfl) 4 ((((crun KA DA f0 f1 ps ST CA q).1) - 1) - 1) rfl rfl (by omega) (by decide) ?_
            refine jr_goto 157 CC (jd ddX3_compute 39 rfl) (by decide) ?_
            refine jr_iinc [(4, .int (nI (q + 1))), (3, .int (nI (((crun KA DA f0 f1 ps ST CA q).1) - 1))), (0, .ref x4), (1, .ref h0), (2, .int (nI ps))] CC (jd ddX3_compute 91 rfl) 4 rfl (nI_1 _) (by decide) rfl ?_
            refine jr_goto 5 CC (jd ddX3_compute 92 rfl) (by decide) ?_
            have e9 : (crun KA DA f0 f1 ps ST CA (q + 1)) = ((((crun KA DA f0 f1 ps ST CA q).1) - 1), (upd ((crun KA DA f0 f1 ps ST CA q).2.1) ((((crun KA DA f0 f1 ps ST CA q).1) - 1) - 1) (twoR (DA q) (((crun KA DA f0 f1 ps ST CA q).2.1) ((((crun KA DA f0 f1 ps ST CA q).1) - 1) - 1)) (((crun KA DA f0 f1 ps ST CA q).2.1) (((crun KA DA f0 f1 ps ST CA q).1) - 1)))), (crun KA DA f0 f1 ps ST CA q).2.2) := by rw [crun, cstep, if_pos ⟨c3, n10⟩]
            refine jr_ws [(x4, .inr (2, [.ref e0, .ref e1, .ref e2, .ref e3, .int (nI pn), .int ht])), (e0, .inl (t 0, 16, .inl KA)), (e1, .inl (t 0, 16, .inl DA)), (e2, .inl (t 0, 16, .inl ((crun KA DA f0 f1 ps ST CA (q + 1)).2.2))), (e3, .inl (t 0, 16, .inl ((crun KA DA f0 f1 ps ST CA (q + 1)).2.1))), (h0, .inr (0, [.ref h1, .int tr, .int wa, .int (nI kk)])), (h1, .inl (t 1, 2, .inr (.inr (.inr (.inr (jr2 h2 h3)))))), (h2, .inl (t 0, 49, .inl f0)), (h3, .inl (t 0, 49, .inl f1))] (by rw [e9] <;> rfl) ?_
            refine jr_norm0 [(4, .int (nI (q + 1))), (3, .int (nI (crun KA DA f0 f1 ps ST CA (q + 1)).1)), (0, .ref x4), (1, .ref h0), (2, .int (nI ps))] (by rw [e9] <;> rfl) ?_
            refine jr_norm [(x4, .inr (2, [.ref e0, .ref e1, .ref e2, .ref e3, .int (nI pn), .int ht])), (e0, .inl (t 0, 16, .inl KA)), (e1, .inl (t 0, 16, .inl DA)), (e2, .inl (t 0, 16, .inl ((crun KA DA f0 f1 ps ST CA (q + 1)).2.2))), (e3, .inl (t 0, 16, .inl ((crun KA DA f0 f1 ps ST CA (q + 1)).2.1))), (h0, .inr (0, [.ref h1, .int tr, .int wa, .int (nI kk)])), (h1, .inl (t 1, 2, .inr (.inr (.inr (.inr (jr2 h2 h3)))))), (h2, .inl (t 0, 49, .inl f0)), (h3, .inl (t 0, 49, .inl f1))] [] 5 0 0 rfl rfl rfl rfl rfl ?_
            refine jr_lv [2, 3, 4, 1, 0] [(0, .ref x4), (1, .ref h0), (2, .int (nI ps)), (3, .int (nI (crun KA DA f0 f1 ps ST CA (q + 1)).1)), (4, .int (nI (q + 1)))] rfl ?_
            exact ih5 (q + 1) (by omega) (by omega)
  refine jr_norm [(x4, .inr (2, [.ref e0, .ref e1, .ref e2, .ref e3, .int (nI pn), .int ht])), (e0, .inl (t 0, 16, .inl KA)), (e1, .inl (t 0, 16, .inl DA)), (e2, .inl (t 0, 16, .inl ((crun KA DA f0 f1 ps ST CA 0).2.2))), (e3, .inl (t 0, 16, .inl ((crun KA DA f0 f1 ps ST CA 0).2.1))), (h0, .inr (0, [.ref h1, .int tr, .int wa, .int (nI kk)])), (h1, .inl (t 1, 2, .inr (.inr (.inr (.inr (jr2 h2 h3)))))), (h2, .inl (t 0, 49, .inl f0)), (h3, .inl (t 0, 49, .inl f1))] [] 5 0 0 rfl rfl rfl rfl rfl ?_
  refine jr_lv [2, 3, 4, 1, 0] [(0, .ref x4), (1, .ref h0), (2, .int (nI ps)), (3, .int (nI (crun KA DA f0 f1 ps ST CA 0).1)), (4, .int (nI 0))] rfl ?_
  exact hL1 (pn - 0 + 1) 0 (Nat.zero_le _) (Nat.lt_succ_self _)
