theorem jsw2 {x : Int32} (c0 : ¬ x = 0) (c1 : ¬ x = 1) (c2 : ¬ x = 2) : x.toInt < 0 ∨ 2 < x.toInt := by
  have h0 : x.toInt ≠ 0 := fun h => c0 (Int32.toInt_inj.mp h)
  have h1 : x.toInt ≠ 1 := fun h => c1 (Int32.toInt_inj.mp h)
  have h2 : x.toInt ≠ 2 := fun h => c2 (Int32.toInt_inj.mp h)
  omega
theorem jsw3 {x : Int32} (c0 : ¬ x = 0) (c1 : ¬ x = 1) (c2 : ¬ x = 2) (c3 : ¬ x = 3) : x.toInt < 0 ∨ 3 < x.toInt := by
  have h0 : x.toInt ≠ 0 := fun h => c0 (Int32.toInt_inj.mp h)
  have h1 : x.toInt ≠ 1 := fun h => c1 (Int32.toInt_inj.mp h)
  have h2 : x.toInt ≠ 2 := fun h => c2 (Int32.toInt_inj.mp h)
  have h3 : x.toInt ≠ 3 := fun h => c3 (Int32.toInt_inj.mp h)
  omega
def jk6 (x : Int64) : Int32 := jkept x (-1000000) 1000000
/-- an operation of one operand: its value, and what is carried behind it -/
def oneR (d op ca ps : Int32) : Int32 := if d = 0 then -op else if d = 1 then jabs op else if d = 2 then jk6 (op - (if ps = 0 then op else ca)).toInt64 else jk6 (ca + op).toInt64
def oneC (d op ca : Int32) : Int32 := if d = 0 then ca else if d = 1 then ca else if d = 2 then op else jk6 (ca + op).toInt64
def twoR (d a b : Int32) : Int32 := if d = 0 then jk6 (a + b).toInt64 else if d = 1 then jk6 (a - b).toInt64 else if d = 2 then jk6 (a.toInt64 * b.toInt64) else if d = 3 then jmin a b else jmax a b
theorem upd_own (f : Nat → Int32) (q : Nat) : upd f q (f q) = f := by
  funext j; unfold upd; split
  · rename_i h; rw [h]
  · rfl
theorem upd_at (f : Nat → Int32) (q : Nat) (v : Int32) : upd f q v q = v := if_pos rfl
set_option maxHeartbeats 8000000 in
set_option maxRecDepth 100000 in
theorem k_X3_ofTwo (l : Launch) (t : Nat → ClassId) (hfl : l.stackTraces = false) (d : Int32) (a : Int32) (b : Int32) : jKx l t yX3_ofTwo (Cond.code yX3_ofTwo cX3_ofTwo 3 (some .int) :: jWS) { frames := 3, cells := 0, slots := 0, locals := 61 } [.int d, .int a, .int b] [] (fun vv uu => (vv = some (.int (twoR d a b)) ∧ uu = [])) (fun _ _ => False) := by
  refine jK_of hfl (by decide +kernel) (Nat.le_of_ble_eq_true rfl) ?_
  intro p e s m args below meth c D A Q CC MM
  refine jr_norm0 [(0, .int d), (1, .int a), (2, .int b)] rfl ?_
  refine jr_iload_n CC (jd ddX3_ofTwo 0 rfl) 0 rfl ?_
  refine (Decidable.em (d = 0)).elim (fun c1 => ?_) (fun c1 => ?_)
  · refine jr_tabIn 32 CC (jd ddX3_ofTwo 1 rfl) (by rw [c1]; decide) (by rw [c1]; decide) (by rw [c1]; rfl) (by decide) ?_
    refine jr_iload_n CC (jd ddX3_ofTwo 2 rfl) 1 rfl ?_
    refine jr_iload_n CC (jd ddX3_ofTwo 3 rfl) 2 rfl ?_
    refine jr_iadd CC (jd ddX3_ofTwo 4 rfl) ?_
    refine jr_i2l CC (jd ddX3_ofTwo 5 rfl) ?_
    refine jr_callS (rest := []) [.long (Int32.toInt64 (a + b))] CC (jd ddX3_ofTwo 6 rfl) (jy_X3_63 CC) (k_X3_keptResult l t hfl (Int32.toInt64 (a + b))) [] rfl (by decide) rfl rfl (by decide) (Nat.le_of_ble_eq_true rfl) (by rintro v u h; rcases h with ⟨rfl, rfl⟩ <;> rfl) (fun _ _ h => h.elim) (fun _ _ h => h.elim) (fun v u h => ?_)
    rcases h with ⟨rfl, rfl⟩
    refine jr_norm [] [.int (jkept (Int32.toInt64 (a + b)) (-1000000) 1000000)] 39 0 0 rfl rfl rfl rfl rfl ?_
    exact jr_iret CC MM (jd ddX3_ofTwo 7 rfl) rfl (by decide) (by decide) ⟨by simp [twoR, jk6, c1], rfl⟩
  refine (Decidable.em (d = 1)).elim (fun c2 => ?_) (fun c2 => ?_)
  · refine jr_tabIn 40 CC (jd ddX3_ofTwo 1 rfl) (by rw [c2]; decide) (by rw [c2]; decide) (by rw [c2]; rfl) (by decide) ?_
    refine jr_iload_n CC (jd ddX3_ofTwo 8 rfl) 1 rfl ?_
    refine jr_iload_n CC (jd ddX3_ofTwo 9 rfl) 2 rfl ?_
    refine jr_isub CC (jd ddX3_ofTwo 10 rfl) ?_
    refine jr_i2l CC (jd ddX3_ofTwo 11 rfl) ?_
    refine jr_callS (rest := []) [.long (Int32.toInt64 (a - b))] CC (jd ddX3_ofTwo 12 rfl) (jy_X3_63 CC) (k_X3_keptResult l t hfl (Int32.toInt64 (a - b))) [] rfl (by decide) rfl rfl (by decide) (Nat.le_of_ble_eq_true rfl) (by rintro v u h; rcases h with ⟨rfl, rfl⟩ <;> rfl) (fun _ _ h => h.elim) (fun _ _ h => h.elim) (fun v u h => ?_)
    rcases h with ⟨rfl, rfl⟩
    refine jr_norm [] [.int (jkept (Int32.toInt64 (a - b)) (-1000000) 1000000)] 47 0 0 rfl rfl rfl rfl rfl ?_
    exact jr_iret CC MM (jd ddX3_ofTwo 13 rfl) rfl (by decide) (by decide) ⟨by simp [twoR, jk6, c1, c2], rfl⟩
  refine (Decidable.em (d = 2)).elim (fun c3 => ?_) (fun c3 => ?_)
  · refine jr_tabIn 48 CC (jd ddX3_ofTwo 1 rfl) (by rw [c3]; decide) (by rw [c3]; decide) (by rw [c3]; rfl) (by decide) ?_
    refine jr_iload_n CC (jd ddX3_ofTwo 14 rfl) 1 rfl ?_
    refine jr_i2l CC (jd ddX3_ofTwo 15 rfl) ?_
    refine jr_iload_n CC (jd ddX3_ofTwo 16 rfl) 2 rfl ?_
    refine jr_i2l CC (jd ddX3_ofTwo 17 rfl) ?_
    refine jr_lmul CC (jd ddX3_ofTwo 18 rfl) ?_
    refine jr_callS (rest := []) [.long ((Int32.toInt64 a) * (Int32.toInt64 b))] CC (jd ddX3_ofTwo 19 rfl) (jy_X3_63 CC) (k_X3_keptResult l t hfl ((Int32.toInt64 a) * (Int32.toInt64 b))) [] rfl (by decide) rfl rfl (by decide) (Nat.le_of_ble_eq_true rfl) (by rintro v u h; rcases h with ⟨rfl, rfl⟩ <;> rfl) (fun _ _ h => h.elim) (fun _ _ h => h.elim) (fun v u h => ?_)
    rcases h with ⟨rfl, rfl⟩
    refine jr_norm [] [.int (jkept ((Int32.toInt64 a) * (Int32.toInt64 b)) (-1000000) 1000000)] 56 0 0 rfl rfl rfl rfl rfl ?_
    exact jr_iret CC MM (jd ddX3_ofTwo 20 rfl) rfl (by decide) (by decide) ⟨by simp [twoR, jk6, c1, c2, c3], rfl⟩
  refine (Decidable.em (d = 3)).elim (fun c4 => ?_) (fun c4 => ?_)
  · refine jr_tabIn 57 CC (jd ddX3_ofTwo 1 rfl) (by rw [c4]; decide) (by rw [c4]; decide) (by rw [c4]; rfl) (by decide) ?_
    refine jr_iload_n CC (jd ddX3_ofTwo 21 rfl) 1 rfl ?_
    refine jr_iload_n CC (jd ddX3_ofTwo 22 rfl) 2 rfl ?_
    refine jr_mmin CC (jd ddX3_ofTwo 23 rfl) (jy_X3_67 CC) (by decide) (Nat.le_of_ble_eq_true rfl) (by decide) (by decide) ?_
    exact jr_iret CC MM (jd ddX3_ofTwo 24 rfl) rfl (by decide) (by decide) ⟨by simp [twoR, jk6, c1, c2, c3, c4], rfl⟩
  refine jr_tabOut 63 CC (jd ddX3_ofTwo 1 rfl) (jsw3 c1 c2 c3 c4) (by decide) ?_
  refine jr_iload_n CC (jd ddX3_ofTwo 25 rfl) 1 rfl ?_
  refine jr_iload_n CC (jd ddX3_ofTwo 26 rfl) 2 rfl ?_
  refine jr_mmax CC (jd ddX3_ofTwo 27 rfl) (jy_X3_70 CC) (by decide) (Nat.le_of_ble_eq_true rfl) (by decide) (by decide) ?_
  exact jr_iret CC MM (jd ddX3_ofTwo 28 rfl) rfl (by decide) (by decide) ⟨by simp [twoR, jk6, c1, c2, c3, c4], rfl⟩
set_option maxHeartbeats 8000000 in
set_option maxRecDepth 100000 in
theorem k_X3_ofOne (l : Launch) (t : Nat → ClassId) (hfl : l.stackTraces = false) (x4 : Nat) (e0 : Nat) (e1 : Nat) (e2 : Nat) (e3 : Nat) (pn : Int32) (ht : Int32) (DA : Nat → Int32) (CA : Nat → Int32) (q : Nat) (op : Int32) (ps : Int32) (hq : q < 16) : jKx l t yX3_ofOne (Cond.code yX3_ofOne cX3_ofOne 5 (some .int) :: jWS) { frames := 3, cells := 0, slots := 0, locals := 61 } [.ref x4, .int (nI q), .int op, .int ps] [(x4, .inr (2, [.ref e0, .ref e1, .ref e2, .ref e3, .int pn, .int ht])), (e1, .inl (t 0, 16, .inl DA)), (e2, .inl (t 0, 16, .inl CA))] (fun vv uu => (vv = some (.int (oneR (DA q) op (CA q) ps)) ∧ uu = [(x4, .inr (2, [.ref e0, .ref e1, .ref e2, .ref e3, .int pn, .int ht])), (e1, .inl (t 0, 16, .inl DA)), (e2, .inl (t 0, 16, .inl (upd CA q (oneC (DA q) op (CA q)))))])) (fun _ _ => False) := by
  refine jK_of hfl (by decide +kernel) (Nat.le_of_ble_eq_true rfl) ?_
  intro p e s m args below meth c D A Q CC MM
  refine jr_norm0 [(0, .ref x4), (1, .int (nI q)), (2, .int op), (3, .int ps)] rfl ?_
  refine jr_aload_n CC (jd ddX3_ofOne 0 rfl) 0 rfl ?_
  refine jr_get (v := .ref e1) CC (jd ddX3_ofOne 1 rfl) (jf_X3_15 CC) 0 rfl rfl ?_
  refine jr_iload_n CC (jd ddX3_ofOne 2 rfl) 1 rfl ?_
  refine jr_ialdN CC (jd ddX3_ofOne 3 rfl) 1 q rfl rfl (by omega) (by decide) ?_
  refine (Decidable.em ((DA q) = 0)).elim (fun c1 => ?_) (fun c1 => ?_)
  · refine jr_tabIn 32 CC (jd ddX3_ofOne 4 rfl) (by rw [c1]; decide) (by rw [c1]; decide) (by rw [c1]; rfl) (by decide) ?_
    refine jr_iload_n CC (jd ddX3_ofOne 5 rfl) 2 rfl ?_
    refine jr_ineg CC (jd ddX3_ofOne 6 rfl) ?_
    exact jr_iret CC MM (jd ddX3_ofOne 7 rfl) rfl (by decide) (by decide) ⟨by simp [oneR, jk6, upd_at, c1], by simp [oneC, jk6, upd_own, c1]⟩
  refine (Decidable.em ((DA q) = 1)).elim (fun c2 => ?_) (fun c2 => ?_)
  · refine jr_tabIn 35 CC (jd ddX3_ofOne 4 rfl) (by rw [c2]; decide) (by rw [c2]; decide) (by rw [c2]; rfl) (by decide) ?_
    refine jr_iload_n CC (jd ddX3_ofOne 8 rfl) 2 rfl ?_
    refine jr_mabs CC (jd ddX3_ofOne 9 rfl) (jy_X3_57 CC) (by decide) (Nat.le_of_ble_eq_true rfl) (by decide) (by decide) ?_
    exact jr_iret CC MM (jd ddX3_ofOne 10 rfl) rfl (by decide) (by decide) ⟨by simp [oneR, jk6, upd_at, c1, c2], by simp [oneC, jk6, upd_own, c1, c2]⟩
  refine (Decidable.em ((DA q) = 2)).elim (fun c3 => ?_) (fun c3 => ?_)
  · refine jr_tabIn 40 CC (jd ddX3_ofOne 4 rfl) (by rw [c3]; decide) (by rw [c3]; decide) (by rw [c3]; rfl) (by decide) ?_
    refine jr_iload_n CC (jd ddX3_ofOne 11 rfl) 3 rfl ?_
    refine jr_if_ne 48 CC (jd ddX3_ofOne 12 rfl) (by decide) (fun c4 => ?_) (fun c4 => ?_)
    · refine jr_aload_n CC (jd ddX3_ofOne 15 rfl) 0 rfl ?_
      refine jr_get (v := .ref e2) CC (jd ddX3_ofOne 16 rfl) (jf_X3_18 CC) 0 rfl rfl ?_
      refine jr_iload_n CC (jd ddX3_ofOne 17 rfl) 1 rfl ?_
      refine jr_pc (pc' := 53) rfl ?_
      refine jr_ialdN CC (jd ddX3_ofOne 18 rfl) 2 q rfl rfl (by omega) (by decide) ?_
      refine jr_istore [(4, .int (CA q)), (0, .ref x4), (1, .int (nI q)), (2, .int op), (3, .int ps)] CC (jd ddX3_ofOne 19 rfl) (by decide) rfl ?_
      refine jr_aload_n CC (jd ddX3_ofOne 20 rfl) 1 rfl ?_
      refine jr_get (v := .ref e2) CC (jd ddX3_ofOne 21 rfl) (jf_X3_18 CC) 0 rfl rfl ?_
      refine jr_iload_n CC (jd ddX3_ofOne 22 rfl) 2 rfl ?_
      refine jr_iload_n CC (jd ddX3_ofOne 23 rfl) 3 rfl ?_
      refine jr_iastN CC (jd ddX3_ofOne 24 rfl) 2 q rfl rfl (by omega) (by decide) ?_
      refine jr_iload_n CC (jd ddX3_ofOne 25 rfl) 3 rfl ?_
      refine jr_iload CC (jd ddX3_ofOne 26 rfl) 0 rfl ?_
      refine jr_isub CC (jd ddX3_ofOne 27 rfl) ?_
      refine jr_pc (pc' := 67) rfl ?_
      refine jr_i2l CC (jd ddX3_ofOne 28 rfl) ?_
      refine jr_callS (rest := []) [.long (Int32.toInt64 (op - (CA q)))] CC (jd ddX3_ofOne 29 rfl) (jy_X3_63 CC) (k_X3_keptResult l t hfl (Int32.toInt64 (op - (CA q)))) [] rfl (by decide) rfl rfl (by decide) (Nat.le_of_ble_eq_true rfl) (by rintro v u h; rcases h with ⟨rfl, rfl⟩ <;> rfl) (fun _ _ h => h.elim) (fun _ _ h => h.elim) (fun v u h => ?_)
      rcases h with ⟨rfl, rfl⟩
      refine jr_norm [(x4, .inr (2, [.ref e0, .ref e1, .ref e2, .ref e3, .int pn, .int ht])), (e1, .inl (t 0, 16, .inl DA)), (e2, .inl (t 0, 16, .inl (upd CA q op)))] [.int (jkept (Int32.toInt64 (op - (CA q))) (-1000000) 1000000)] 71 0 0 rfl rfl rfl rfl rfl ?_
      exact jr_iret CC MM (jd ddX3_ofOne 30 rfl) rfl (by decide) (by decide) ⟨by simp [oneR, jk6, upd_at, c1, c2, c3, c4], by simp [oneC, jk6, upd_own, c1, c2, c3, c4]⟩
    · refine jr_iload_n CC (jd ddX3_ofOne 13 rfl) 2 rfl ?_
      refine jr_goto 54 CC (jd ddX3_ofOne 14 rfl) (by decide) ?_
      refine jr_istore [(4, .int op), (0, .ref x4), (1, .int (nI q)), (2, .int op), (3, .int ps)] CC (jd ddX3_ofOne 19 rfl) (by decide) rfl ?_
      refine jr_aload_n CC (jd ddX3_ofOne 20 rfl) 1 rfl ?_
      refine jr_get (v := .ref e2) CC (jd ddX3_ofOne 21 rfl) (jf_X3_18 CC) 0 rfl rfl ?_
      refine jr_iload_n CC (jd ddX3_ofOne 22 rfl) 2 rfl ?_
      refine jr_iload_n CC (jd ddX3_ofOne 23 rfl) 3 rfl ?_
      refine jr_iastN CC (jd ddX3_ofOne 24 rfl) 2 q rfl rfl (by omega) (by decide) ?_
      refine jr_iload_n CC (jd ddX3_ofOne 25 rfl) 3 rfl ?_
      refine jr_iload CC (jd ddX3_ofOne 26 rfl) 0 rfl ?_
      refine jr_isub CC (jd ddX3_ofOne 27 rfl) ?_
      refine jr_i2l CC (jd ddX3_ofOne 28 rfl) ?_
      refine jr_pc (pc' := 68) rfl ?_
      refine jr_callS (rest := []) [.long (Int32.toInt64 (op - op))] CC (jd ddX3_ofOne 29 rfl) (jy_X3_63 CC) (k_X3_keptResult l t hfl (Int32.toInt64 (op - op))) [] rfl (by decide) rfl rfl (by decide) (Nat.le_of_ble_eq_true rfl) (by rintro v u h; rcases h with ⟨rfl, rfl⟩ <;> rfl) (fun _ _ h => h.elim) (fun _ _ h => h.elim) (fun v u h => ?_)
      rcases h with ⟨rfl, rfl⟩
      refine jr_norm [(x4, .inr (2, [.ref e0, .ref e1, .ref e2, .ref e3, .int pn, .int ht])), (e1, .inl (t 0, 16, .inl DA)), (e2, .inl (t 0, 16, .inl (upd CA q op)))] [.int (jkept (Int32.toInt64 (op - op)) (-1000000) 1000000)] 71 0 0 rfl rfl rfl rfl rfl ?_
      exact jr_iret CC MM (jd ddX3_ofOne 30 rfl) rfl (by decide) (by decide) ⟨by simp [oneR, jk6, upd_at, c1, c2, c3, c4], by simp [oneC, jk6, upd_own, c1, c2, c3, c4]⟩
  refine jr_tabOut 72 CC (jd ddX3_ofOne 4 rfl) (jsw2 c1 c2 c3) (by decide) ?_
  refine jr_aload_n CC (jd ddX3_ofOne 31 rfl) 0 rfl ?_
  refine jr_get (v := .ref e2) CC (jd ddX3_ofOne 32 rfl) (jf_X3_18 CC) 0 rfl rfl ?_
  refine jr_iload_n CC (jd ddX3_ofOne 33 rfl) 1 rfl ?_
  refine jr_aload_n CC (jd ddX3_ofOne 34 rfl) 0 rfl ?_
  refine jr_get (v := .ref e2) CC (jd ddX3_ofOne 35 rfl) (jf_X3_18 CC) 0 rfl rfl ?_
  refine jr_pc (pc' := 81) rfl ?_
  refine jr_iload_n CC (jd ddX3_ofOne 36 rfl) 1 rfl ?_
  refine jr_ialdN CC (jd ddX3_ofOne 37 rfl) 2 q rfl rfl (by omega) (by decide) ?_
  refine jr_iload_n CC (jd ddX3_ofOne 38 rfl) 2 rfl ?_
  refine jr_iadd CC (jd ddX3_ofOne 39 rfl) ?_
  refine jr_i2l CC (jd ddX3_ofOne 40 rfl) ?_
  refine jr_callS (rest := [.int (nI q), .ref e2]) [.long (Int32.toInt64 ((CA q) + op))] CC (jd ddX3_ofOne 41 rfl) (jy_X3_63 CC) (k_X3_keptResult l t hfl (Int32.toInt64 ((CA q) + op))) [] rfl (by decide) rfl rfl (by decide) (Nat.le_of_ble_eq_true rfl) (by rintro v u h; rcases h with ⟨rfl, rfl⟩ <;> rfl) (fun _ _ h => h.elim) (fun _ _ h => h.elim) (fun v u h => ?_)
  rcases h with ⟨rfl, rfl⟩
  refine jr_norm [(x4, .inr (2, [.ref e0, .ref e1, .ref e2, .ref e3, .int pn, .int ht])), (e1, .inl (t 0, 16, .inl DA)), (e2, .inl (t 0, 16, .inl CA))] [.int (jkept (Int32.toInt64 ((CA q) + op)) (-1000000) 1000000), .int (nI q), .ref e2] 89 0 0 rfl rfl rfl rfl rfl ?_
  refine jr_iastN CC (jd ddX3_ofOne 42 rfl) 2 q rfl rfl (by omega) (by decide) ?_
  refine jr_aload_n CC (jd ddX3_ofOne 43 rfl) 0 rfl ?_
  refine jr_get (v := .ref e2) CC (jd ddX3_ofOne 44 rfl) (jf_X3_18 CC) 0 rfl rfl ?_
  refine jr_iload_n CC (jd ddX3_ofOne 45 rfl) 1 rfl ?_
  refine jr_ialdN CC (jd ddX3_ofOne 46 rfl) 2 q rfl rfl (by omega) (by decide) ?_
  exact jr_iret CC MM (jd ddX3_ofOne 47 rfl) rfl (by decide) (by decide) ⟨by simp [oneR, jk6, upd_at, c1, c2, c3], by simp [oneC, jk6, upd_own, c1, c2, c3]⟩
