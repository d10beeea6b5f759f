set_option maxHeartbeats 8000000 in
set_option maxRecDepth 100000 in
theorem k_X11_held (l : Launch) (t : Nat → ClassId) (hfl : l.stackTraces = false) (v : Int32) (a : Int32) (b : Int32) : jKx l t yX11_held (Cond.code yX11_held cX11_held 3 (some .int) :: jWS) { frames := 0, cells := 0, slots := 0, locals := 0 } [.int v, .int a, .int b] [] (fun vv uu => (vv = some (.int (mHeld v a b)) ∧ uu = [])) (fun _ _ => False) := by
  refine jK_of hfl (by decide +kernel) (Nat.le_of_ble_eq_true rfl) ?_
  intro p e s m args below meth c D A Q CC MM
  refine jr_norm0 [(0, .int v), (1, .int a), (2, .int b)] rfl ?_
  refine jr_iload_n CC (jd ddX11_held 0 rfl) 0 rfl ?_
  refine jr_iload_n CC (jd ddX11_held 1 rfl) 1 rfl ?_
  refine jr_icmp_ge 9 CC (jd ddX11_held 2 rfl) (by decide) (fun c1 => ?_) (fun c1 => ?_)
  · refine jr_iload_n CC (jd ddX11_held 5 rfl) 0 rfl ?_
    refine jr_iload_n CC (jd ddX11_held 6 rfl) 2 rfl ?_
    refine jr_icmp_le 18 CC (jd ddX11_held 7 rfl) (by decide) (fun c2 => ?_) (fun c2 => ?_)
    · refine jr_iload_n CC (jd ddX11_held 10 rfl) 0 rfl ?_
      exact jr_iret CC MM (jd ddX11_held 11 rfl) rfl (by decide) (by decide) ⟨by simp [mHeld, c1, c2], rfl⟩
    · refine jr_iload_n CC (jd ddX11_held 8 rfl) 2 rfl ?_
      refine jr_goto 19 CC (jd ddX11_held 9 rfl) (by decide) ?_
      exact jr_iret CC MM (jd ddX11_held 11 rfl) rfl (by decide) (by decide) ⟨by simp [mHeld, c1, c2], rfl⟩
  · refine jr_iload_n CC (jd ddX11_held 3 rfl) 1 rfl ?_
    refine jr_goto 19 CC (jd ddX11_held 4 rfl) (by decide) ?_
    exact jr_iret CC MM (jd ddX11_held 11 rfl) rfl (by decide) (by decide) ⟨by simp [mHeld, c1], rfl⟩
set_option maxRecDepth 100000 in
theorem k_X11_takes_u (l : Launch) (t : Nat → ClassId) (hfl : l.stackTraces = false) (m0 : Nat) (mb : Nat → Nat) (T : MS) (MK : Nat → Int32) (LO : Nat → Int32) (HI : Nat → Int32) (a : Int32) (b : Int32) (hI : tInv T) : jKx l t yX11_takes (Cond.code yX11_takes cX11_takes 6 (some .int) :: jWS) { frames := 2, cells := 0, slots := 0, locals := 49 } [.ref m0, .int a, .int b] [(m0, .inr (10, jmdl T.1 mb)), ((mb 0), .inl (t 0, 64, .inl T.2.1)), ((mb 1), .inl (t 0, 64, .inl T.2.2.1)), ((mb 2), .inl (t 0, 784, .inl T.2.2.2.1)), ((mb 3), .inl (t 0, 8, .inl T.2.2.2.2.1)), ((mb 4), .inl (t 0, 8, .inl T.2.2.2.2.2)), ((mb 5), .inl (t 3, 49, .inl MK)), ((mb 6), .inl (t 0, 49, .inl LO)), ((mb 7), .inl (t 0, 49, .inl HI))] (fun vv uu => (vv = some (.int ((tStepU MK LO HI T a b).2)) ∧ uu = [(m0, .inr (10, jmdl ((tStepU MK LO HI T a b).1.1) mb)), ((mb 0), .inl (t 0, 64, .inl ((tStepU MK LO HI T a b).1.2.1))), ((mb 1), .inl (t 0, 64, .inl ((tStepU MK LO HI T a b).1.2.2.1))), ((mb 2), .inl (t 0, 784, .inl ((tStepU MK LO HI T a b).1.2.2.2.1))), ((mb 3), .inl (t 0, 8, .inl ((tStepU MK LO HI T a b).1.2.2.2.2.1))), ((mb 4), .inl (t 0, 8, .inl ((tStepU MK LO HI T a b).1.2.2.2.2.2))), ((mb 5), .inl (t 3, 49, .inl MK)), ((mb 6), .inl (t 0, 49, .inl LO)), ((mb 7), .inl (t 0, 49, .inl HI))])) (fun _ _ => False) := by
  obtain ⟨R, F1, F2, CU, LN, TG⟩ := T
  obtain ⟨hB, s, P, q, r, hO⟩ := hI
  have h9 := k_X11_takes l t hfl m0 mb R F1 F2 CU LN TG MK LO HI s P q r a b hB hO
  rw [← tStepU_eq MK LO HI (T := (R, F1, F2, CU, LN, TG)) hO] at h9
  exact h9
set_option maxHeartbeats 8000000 in
set_option maxRecDepth 100000 in
theorem k_X11_push (l : Launch) (t : Nat → ClassId) (hfl : l.stackTraces = false) (m0 : Nat) (mb : Nat → Nat) (T : MS) (MK : Nat → Int32) (LO : Nat → Int32) (HI : Nat → Int32) (a : Int32) (b : Int32) (co : Int32) (hI : tInv T) (hn : (T.1 24).toNatClampNeg + 50 < 1000000) : jKx l t yX11_push (Cond.code yX11_push cX11_push 6 (some .int) :: jWS) { frames := 3, cells := 0, slots := 0, locals := 74 } [.ref m0, .int a, .int b, .int co] [(m0, .inr (10, jmdl T.1 mb)), ((mb 0), .inl (t 0, 64, .inl T.2.1)), ((mb 1), .inl (t 0, 64, .inl T.2.2.1)), ((mb 2), .inl (t 0, 784, .inl T.2.2.2.1)), ((mb 3), .inl (t 0, 8, .inl T.2.2.2.2.1)), ((mb 4), .inl (t 0, 8, .inl T.2.2.2.2.2)), ((mb 5), .inl (t 3, 49, .inl MK)), ((mb 6), .inl (t 0, 49, .inl LO)), ((mb 7), .inl (t 0, 49, .inl HI))] (fun vv uu => (((ePush a b co) = 0) ∧ vv = some (.int ((tRun MK LO HI (tThr T) (fun _ => a) (fun _ => b) co.toNatClampNeg).2)) ∧ uu = [(m0, .inr (10, jmdl ((tRun MK LO HI (tThr T) (fun _ => a) (fun _ => b) co.toNatClampNeg).1.1) mb)), ((mb 0), .inl (t 0, 64, .inl ((tRun MK LO HI (tThr T) (fun _ => a) (fun _ => b) co.toNatClampNeg).1.2.1))), ((mb 1), .inl (t 0, 64, .inl ((tRun MK LO HI (tThr T) (fun _ => a) (fun _ => b) co.toNatClampNeg).1.2.2.1))), ((mb 2), .inl (t 0, 784, .inl ((tRun MK LO HI (tThr T) (fun _ => a) (fun _ => b) co.toNatClampNeg).1.2.2.2.1))), ((mb 3), .inl (t 0, 8, .inl ((tRun MK LO HI (tThr T) (fun _ => a) (fun _ => b) co.toNatClampNeg).1.2.2.2.2.1))), ((mb 4), .inl (t 0, 8, .inl ((tRun MK LO HI (tThr T) (fun _ => a) (fun _ => b) co.toNatClampNeg).1.2.2.2.2.2))), ((mb 5), .inl (t 3, 49, .inl MK)), ((mb 6), .inl (t 0, 49, .inl LO)), ((mb 7), .inl (t 0, 49, .inl HI))]) ∨ (((ePush a b co) = 1) ∧ vv = some (.int 0) ∧ uu = [(m0, .inr (10, jmdl (upd T.1 44 1) mb)), ((mb 0), .inl (t 0, 64, .inl T.2.1)), ((mb 1), .inl (t 0, 64, .inl T.2.2.1)), ((mb 2), .inl (t 0, 784, .inl T.2.2.2.1)), ((mb 3), .inl (t 0, 8, .inl T.2.2.2.2.1)), ((mb 4), .inl (t 0, 8, .inl T.2.2.2.2.2)), ((mb 5), .inl (t 3, 49, .inl MK)), ((mb 6), .inl (t 0, 49, .inl LO)), ((mb 7), .inl (t 0, 49, .inl HI))])) (fun _ _ => False) := by
  refine jK_of hfl (by decide +kernel) (Nat.le_of_ble_eq_true rfl) ?_
  intro p e s m args below meth c D A Q CC MM
  refine jr_norm0 [(0, .ref m0), (1, .int a), (2, .int b), (3, .int co)] rfl ?_
  refine jr_aload_n CC (jd ddX11_push 0 rfl) 0 rfl ?_
  refine jr_iload_n CC (jd ddX11_push 1 rfl) 1 rfl ?_
  refine jr_callS (rest := [.ref m0]) [.int a] CC (jd ddX11_push 2 rfl) (jy_X11_107 CC) (k_X11_isValue l t hfl a) [] rfl (by decide) rfl rfl (by decide) (Nat.le_of_ble_eq_true rfl) (by rintro v u h; rcases h with ⟨rfl, rfl⟩ <;> rfl) (fun _ _ h => h.elim) (fun _ _ h => h.elim) (fun v u h => ?_)
  rcases h with ⟨rfl, rfl⟩
  refine jr_norm [(m0, .inr (10, jmdl T.1 mb)), ((mb 0), .inl (t 0, 64, .inl T.2.1)), ((mb 1), .inl (t 0, 64, .inl T.2.2.1)), ((mb 2), .inl (t 0, 784, .inl T.2.2.2.1)), ((mb 3), .inl (t 0, 8, .inl T.2.2.2.2.1)), ((mb 4), .inl (t 0, 8, .inl T.2.2.2.2.2)), ((mb 5), .inl (t 3, 49, .inl MK)), ((mb 6), .inl (t 0, 49, .inl LO)), ((mb 7), .inl (t 0, 49, .inl HI))] [.int (mIn a (-128) 127), .ref m0] 5 0 0 rfl rfl rfl rfl rfl ?_
  refine jr_if_eq 29 CC (jd ddX11_push 3 rfl) (by decide) (fun c1 => ?_) (fun c1 => ?_)
  · refine jr_iconst (v := 1) CC (jd ddX11_push 14 rfl) (by decide) ?_
    refine jr_callV (q0 := 0) (rest := []) [.int 1] CC (jd ddX11_push 15 rfl) (jy_X11_111 CC) (k_X11_fails_1 l t hfl m0 mb T.1) [0] rfl (by decide) rfl rfl rfl rfl (by decide) (Nat.le_of_ble_eq_true rfl) (by rintro v u h; rcases h with ⟨rfl, rfl⟩ <;> exact (show ([m0] : List Nat) = [m0] from rfl)) (fun _ _ h => h.elim) (fun _ _ h => h.elim) (fun v u h => ?_)
    rcases h with ⟨rfl, rfl⟩
    refine jr_norm [(m0, .inr (10, jmdl (upd T.1 44 1) mb)), ((mb 0), .inl (t 0, 64, .inl T.2.1)), ((mb 1), .inl (t 0, 64, .inl T.2.2.1)), ((mb 2), .inl (t 0, 784, .inl T.2.2.2.1)), ((mb 3), .inl (t 0, 8, .inl T.2.2.2.2.1)), ((mb 4), .inl (t 0, 8, .inl T.2.2.2.2.2)), ((mb 5), .inl (t 3, 49, .inl MK)), ((mb 6), .inl (t 0, 49, .inl LO)), ((mb 7), .inl (t 0, 49, .inl HI))] [.int 1] 33 0 0 rfl rfl rfl rfl rfl ?_
    refine jr_if_eq 38 CC (jd ddX11_push 16 rfl) (by decide) (fun h => absurd h (by decide)) (fun _ => ?_)
    refine jr_iconst (v := 0) CC (jd ddX11_push 17 rfl) (by decide) ?_
    exact jr_iret CC MM (jd ddX11_push 18 rfl) rfl (by decide) (by decide) (Or.inr ⟨by simp [ePush, jI, jin_iff, c1], rfl, rfl⟩)
  · refine jr_iload_n CC (jd ddX11_push 4 rfl) 2 rfl ?_
    refine jr_callS (rest := [.ref m0]) [.int b] CC (jd ddX11_push 5 rfl) (jy_X11_107 CC) (k_X11_isValue l t hfl b) [] rfl (by decide) rfl rfl (by decide) (Nat.le_of_ble_eq_true rfl) (by rintro v u h; rcases h with ⟨rfl, rfl⟩ <;> rfl) (fun _ _ h => h.elim) (fun _ _ h => h.elim) (fun v u h => ?_)
    rcases h with ⟨rfl, rfl⟩
    refine jr_norm [(m0, .inr (10, jmdl T.1 mb)), ((mb 0), .inl (t 0, 64, .inl T.2.1)), ((mb 1), .inl (t 0, 64, .inl T.2.2.1)), ((mb 2), .inl (t 0, 784, .inl T.2.2.2.1)), ((mb 3), .inl (t 0, 8, .inl T.2.2.2.2.1)), ((mb 4), .inl (t 0, 8, .inl T.2.2.2.2.2)), ((mb 5), .inl (t 3, 49, .inl MK)), ((mb 6), .inl (t 0, 49, .inl LO)), ((mb 7), .inl (t 0, 49, .inl HI))] [.int (mIn b (-128) 127), .ref m0] 12 0 0 rfl rfl rfl rfl rfl ?_
    refine jr_if_eq 29 CC (jd ddX11_push 6 rfl) (by decide) (fun c3 => ?_) (fun c3 => ?_)
    · refine jr_iconst (v := 1) CC (jd ddX11_push 14 rfl) (by decide) ?_
      refine jr_callV (q0 := 0) (rest := []) [.int 1] CC (jd ddX11_push 15 rfl) (jy_X11_111 CC) (k_X11_fails_1 l t hfl m0 mb T.1) [0] rfl (by decide) rfl rfl rfl rfl (by decide) (Nat.le_of_ble_eq_true rfl) (by rintro v u h; rcases h with ⟨rfl, rfl⟩ <;> exact (show ([m0] : List Nat) = [m0] from rfl)) (fun _ _ h => h.elim) (fun _ _ h => h.elim) (fun v u h => ?_)
      rcases h with ⟨rfl, rfl⟩
      refine jr_norm [(m0, .inr (10, jmdl (upd T.1 44 1) mb)), ((mb 0), .inl (t 0, 64, .inl T.2.1)), ((mb 1), .inl (t 0, 64, .inl T.2.2.1)), ((mb 2), .inl (t 0, 784, .inl T.2.2.2.1)), ((mb 3), .inl (t 0, 8, .inl T.2.2.2.2.1)), ((mb 4), .inl (t 0, 8, .inl T.2.2.2.2.2)), ((mb 5), .inl (t 3, 49, .inl MK)), ((mb 6), .inl (t 0, 49, .inl LO)), ((mb 7), .inl (t 0, 49, .inl HI))] [.int 1] 33 0 0 rfl rfl rfl rfl rfl ?_
      refine jr_if_eq 38 CC (jd ddX11_push 16 rfl) (by decide) (fun h => absurd h (by decide)) (fun _ => ?_)
      refine jr_iconst (v := 0) CC (jd ddX11_push 17 rfl) (by decide) ?_
      exact jr_iret CC MM (jd ddX11_push 18 rfl) rfl (by decide) (by decide) (Or.inr ⟨by simp [ePush, jI, jin_iff, c1, c3], rfl, rfl⟩)
    · refine jr_iload_n CC (jd ddX11_push 7 rfl) 3 rfl ?_
      refine jr_iconst (v := 1) CC (jd ddX11_push 8 rfl) (by decide) ?_
      refine jr_bipush (v := 50) CC (jd ddX11_push 9 rfl) (by decide) ?_
      refine jr_callS (rest := [.ref m0]) [.int co, .int 1, .int 50] CC (jd ddX11_push 10 rfl) (jy_X11_67 CC) (k_X11_isIn l t hfl co 1 50) [] rfl (by decide) rfl rfl (by decide) (Nat.le_of_ble_eq_true rfl) (by rintro v u h; rcases h with ⟨rfl, rfl⟩ <;> rfl) (fun _ _ h => h.elim) (fun _ _ h => h.elim) (fun v u h => ?_)
      rcases h with ⟨rfl, rfl⟩
      refine jr_norm [(m0, .inr (10, jmdl T.1 mb)), ((mb 0), .inl (t 0, 64, .inl T.2.1)), ((mb 1), .inl (t 0, 64, .inl T.2.2.1)), ((mb 2), .inl (t 0, 784, .inl T.2.2.2.1)), ((mb 3), .inl (t 0, 8, .inl T.2.2.2.2.1)), ((mb 4), .inl (t 0, 8, .inl T.2.2.2.2.2)), ((mb 5), .inl (t 3, 49, .inl MK)), ((mb 6), .inl (t 0, 49, .inl LO)), ((mb 7), .inl (t 0, 49, .inl HI))] [.int (mIn co 1 50), .ref m0] 22 0 0 rfl rfl rfl rfl rfl ?_
      refine jr_if_eq 29 CC (jd ddX11_push 11 rfl) (by decide) (fun c5 => ?_) (fun c5 => ?_)
      · refine jr_iconst (v := 1) CC (jd ddX11_push 14 rfl) (by decide) ?_
        refine jr_callV (q0 := 0) (rest := []) [.int 1] CC (jd ddX11_push 15 rfl) (jy_X11_111 CC) (k_X11_fails_1 l t hfl m0 mb T.1) [0] rfl (by decide) rfl rfl rfl rfl (by decide) (Nat.le_of_ble_eq_true rfl) (by rintro v u h; rcases h with ⟨rfl, rfl⟩ <;> exact (show ([m0] : List Nat) = [m0] from rfl)) (fun _ _ h => h.elim) (fun _ _ h => h.elim) (fun v u h => ?_)
        rcases h with ⟨rfl, rfl⟩
        refine jr_norm [(m0, .inr (10, jmdl (upd T.1 44 1) mb)), ((mb 0), .inl (t 0, 64, .inl T.2.1)), ((mb 1), .inl (t 0, 64, .inl T.2.2.1)), ((mb 2), .inl (t 0, 784, .inl T.2.2.2.1)), ((mb 3), .inl (t 0, 8, .inl T.2.2.2.2.1)), ((mb 4), .inl (t 0, 8, .inl T.2.2.2.2.2)), ((mb 5), .inl (t 3, 49, .inl MK)), ((mb 6), .inl (t 0, 49, .inl LO)), ((mb 7), .inl (t 0, 49, .inl HI))] [.int 1] 33 0 0 rfl rfl rfl rfl rfl ?_
        refine jr_if_eq 38 CC (jd ddX11_push 16 rfl) (by decide) (fun h => absurd h (by decide)) (fun _ => ?_)
        refine jr_iconst (v := 0) CC (jd ddX11_push 17 rfl) (by decide) ?_
        exact jr_iret CC MM (jd ddX11_push 18 rfl) rfl (by decide) (by decide) (Or.inr ⟨by simp [ePush, jI, jin_iff, c1, c3, c5], rfl, rfl⟩)
      · refine jr_iconst (v := 0) CC (jd ddX11_push 12 rfl) (by decide) ?_
        refine jr_goto 30 CC (jd ddX11_push 13 rfl) (by decide) ?_
        refine jr_callV (q0 := 0) (rest := []) [.int 0] CC (jd ddX11_push 15 rfl) (jy_X11_111 CC) (k_X11_fails_0 l t hfl m0 mb T.1) [0] rfl (by decide) rfl rfl rfl rfl (by decide) (Nat.le_of_ble_eq_true rfl) (by rintro v u h; rcases h with ⟨rfl, rfl⟩ <;> exact (show ([m0] : List Nat) = [m0] from rfl)) (fun _ _ h => h.elim) (fun _ _ h => h.elim) (fun v u h => ?_)
        rcases h with ⟨rfl, rfl⟩
        refine jr_norm [(m0, .inr (10, jmdl (upd T.1 44 0) mb)), ((mb 0), .inl (t 0, 64, .inl T.2.1)), ((mb 1), .inl (t 0, 64, .inl T.2.2.1)), ((mb 2), .inl (t 0, 784, .inl T.2.2.2.1)), ((mb 3), .inl (t 0, 8, .inl T.2.2.2.2.1)), ((mb 4), .inl (t 0, 8, .inl T.2.2.2.2.2)), ((mb 5), .inl (t 3, 49, .inl MK)), ((mb 6), .inl (t 0, 49, .inl LO)), ((mb 7), .inl (t 0, 49, .inl HI))] [.int 0] 33 0 0 rfl rfl rfl rfl rfl ?_
        refine jr_if_eq 38 CC (jd ddX11_push 16 rfl) (by decide) (fun _ => ?_) (fun h => absurd h (by decide))
        obtain ⟨k1, hk1, rfl⟩ := jin_nat 50 ((jin_iff _ _ _).mpr c5) (by decide) rfl
        refine jr_ws [(m0, .inr (10, jmdl ((tThr T).1) mb)), ((mb 0), .inl (t 0, 64, .inl ((tThr T).2.1))), ((mb 1), .inl (t 0, 64, .inl ((tThr T).2.2.1))), ((mb 2), .inl (t 0, 784, .inl ((tThr T).2.2.2.1))), ((mb 3), .inl (t 0, 8, .inl ((tThr T).2.2.2.2.1))), ((mb 4), .inl (t 0, 8, .inl ((tThr T).2.2.2.2.2))), ((mb 5), .inl (t 3, 49, .inl MK)), ((mb 6), .inl (t 0, 49, .inl LO)), ((mb 7), .inl (t 0, 49, .inl HI))] rfl ?_
        refine jr_iconst (v := 0) CC (jd ddX11_push 19 rfl) (by decide) ?_
        refine jr_istore [(4, .int 0), (0, .ref m0), (1, .int a), (2, .int b), (3, .int (nI k1))] CC (jd ddX11_push 20 rfl) (by decide) rfl ?_
        refine jr_iconst (v := 0) CC (jd ddX11_push 21 rfl) (by decide) ?_
        refine jr_istore [(5, .int 0), (4, .int 0), (0, .ref m0), (1, .int a), (2, .int b), (3, .int (nI k1))] CC (jd ddX11_push 22 rfl) (by decide) rfl ?_
        have hL8 : ∀ (d9 : Nat) (i : Nat) (hi : i ≤ k1), k1 - i < d9 → J p l e { frames := 3, cells := 0, slots := 0, locals := 74 } s m args below meth c D A 6 Q [(m0, .inr (10, jmdl ((tRun MK LO HI (tThr T) (fun _ => a) (fun _ => b) i).1.1) mb)), ((mb 0), .inl (t 0, 64, .inl ((tRun MK LO HI (tThr T) (fun _ => a) (fun _ => b) i).1.2.1))), ((mb 1), .inl (t 0, 64, .inl ((tRun MK LO HI (tThr T) (fun _ => a) (fun _ => b) i).1.2.2.1))), ((mb 2), .inl (t 0, 784, .inl ((tRun MK LO HI (tThr T) (fun _ => a) (fun _ => b) i).1.2.2.2.1))), ((mb 3), .inl (t 0, 8, .inl ((tRun MK LO HI (tThr T) (fun _ => a) (fun _ => b) i).1.2.2.2.2.1))), ((mb 4), .inl (t 0, 8, .inl ((tRun MK LO HI (tThr T) (fun _ => a) (fun _ => b) i).1.2.2.2.2.2))), ((mb 5), .inl (t 3, 49, .inl MK)), ((mb 6), .inl (t 0, 49, .inl LO)), ((mb 7), .inl (t 0, 49, .inl HI))] [(0, .ref m0), (1, .int a), (2, .int b), (3, .int (nI k1)), (4, .int ((tRun MK LO HI (tThr T) (fun _ => a) (fun _ => b) i).2)), (5, .int (nI i))] 44 [] 0 0 := by
          intro d9
          induction d9 with
          | zero => intro i hi hmu; exact absurd hmu (Nat.not_lt_zero _)
          | succ d9 ih44 =>
            intro i hi hmu
            refine jr_iload CC (jd ddX11_push 23 rfl) 5 rfl ?_
            refine jr_iload_n CC (jd ddX11_push 24 rfl) 3 rfl ?_
            refine jr_icmp_ge 67 CC (jd ddX11_push 25 rfl) (by decide) (fun c9 => ?_) (fun c9 => ?_)
            · have n9 := jle_of (a := k1) (b := i) c9 (by omega) (by omega)
              refine jr_iload CC (jd ddX11_push 35 rfl) 4 rfl ?_
              exact jr_iret CC MM (jd ddX11_push 36 rfl) rfl (by decide) (by decide) (Or.inl (by have e9 : i = k1 := (by omega); subst e9; rw [nI_tn (by omega)]; exact ⟨by simp [ePush, jI, jin_iff, c1, c3, c5], rfl, rfl⟩))
            · have n9 := jle_not (a := k1) (b := i) c9 (by omega) (by omega)
              refine jr_iload CC (jd ddX11_push 26 rfl) 4 rfl ?_
              refine jr_aload_n CC (jd ddX11_push 27 rfl) 0 rfl ?_
              refine jr_iload_n CC (jd ddX11_push 28 rfl) 1 rfl ?_
              refine jr_iload_n CC (jd ddX11_push 29 rfl) 2 rfl ?_
              refine jr_callV (q0 := 0) (rest := [.int ((tRun MK LO HI (tThr T) (fun _ => a) (fun _ => b) i).2)]) [.int a, .int b] CC (jd ddX11_push 30 rfl) (jy_X11_177 CC) (k_X11_takes_u l t hfl m0 mb ((tRun MK LO HI (tThr T) (fun _ => a) (fun _ => b) i).1) MK LO HI a b (tRun_inv (tThr_inv hI).1 _ _ i (by rw [(tThr_inv hI).2]; omega)).1) [0, 1, 2, 3, 4, 5, 6, 7, 8] rfl (by decide) rfl rfl rfl rfl (by decide) (Nat.le_of_ble_eq_true rfl) (by rintro v u h; rcases h with ⟨rfl, rfl⟩ <;> exact (show ([m0, (mb 0), (mb 1), (mb 2), (mb 3), (mb 4), (mb 5), (mb 6), (mb 7)] : List Nat) = [m0, (mb 0), (mb 1), (mb 2), (mb 3), (mb 4), (mb 5), (mb 6), (mb 7)] from rfl)) (fun _ _ h => h.elim) (fun _ _ h => h.elim) (fun v u h => ?_)
              rcases h with ⟨rfl, rfl⟩
              refine jr_norm [(m0, .inr (10, jmdl ((tStepU MK LO HI ((tRun MK LO HI (tThr T) (fun _ => a) (fun _ => b) i).1) a b).1.1) mb)), ((mb 0), .inl (t 0, 64, .inl ((tStepU MK LO HI ((tRun MK LO HI (tThr T) (fun _ => a) (fun _ => b) i).1) a b).1.2.1))), ((mb 1), .inl (t 0, 64, .inl ((tStepU MK LO HI ((tRun MK LO HI (tThr T) (fun _ => a) (fun _ => b) i).1) a b).1.2.2.1))), ((mb 2), .inl (t 0, 784, .inl ((tStepU MK LO HI ((tRun MK LO HI (tThr T) (fun _ => a) (fun _ => b) i).1) a b).1.2.2.2.1))), ((mb 3), .inl (t 0, 8, .inl ((tStepU MK LO HI ((tRun MK LO HI (tThr T) (fun _ => a) (fun _ => b) i).1) a b).1.2.2.2.2.1))), ((mb 4), .inl (t 0, 8, .inl ((tStepU MK LO HI ((tRun MK LO HI (tThr T) (fun _ => a) (fun _ => b) i).1) a b).1.2.2.2.2.2))), ((mb 5), .inl (t 3, 49, .inl MK)), ((mb 6), .inl (t 0, 49, .inl LO)), ((mb 7), .inl (t 0, 49, .inl HI))] [.int ((tStepU MK LO HI ((tRun MK LO HI (tThr T) (fun _ => a) (fun _ => b) i).1) a b).2), .int ((tRun MK LO HI (tThr T) (fun _ => a) (fun _ => b) i).2)] 58 0 0 rfl rfl rfl rfl rfl ?_
              refine jr_iadd CC (jd ddX11_push 31 rfl) ?_
              refine jr_istore [(4, .int (((tRun MK LO HI (tThr T) (fun _ => a) (fun _ => b) i).2) + ((tStepU MK LO HI ((tRun MK LO HI (tThr T) (fun _ => a) (fun _ => b) i).1) a b).2))), (0, .ref m0), (1, .int a), (2, .int b), (3, .int (nI k1)), (5, .int (nI i))] CC (jd ddX11_push 32 rfl) (by decide) rfl ?_
              refine jr_iinc [(5, .int (nI (i + 1))), (4, .int (((tRun MK LO HI (tThr T) (fun _ => a) (fun _ => b) i).2) + ((tStepU MK LO HI ((tRun MK LO HI (tThr T) (fun _ => a) (fun _ => b) i).1) a b).2))), (0, .ref m0), (1, .int a), (2, .int b), (3, .int (nI k1))] CC (jd ddX11_push 33 rfl) 5 rfl (nI_1 _) (by decide) rfl ?_
              refine jr_goto 44 CC (jd ddX11_push 34 rfl) (by decide) ?_
              refine jr_ws [(m0, .inr (10, jmdl ((tRun MK LO HI (tThr T) (fun _ => a) (fun _ => b) (i + 1)).1.1) mb)), ((mb 0), .inl (t 0, 64, .inl ((tRun MK LO HI (tThr T) (fun _ => a) (fun _ => b) (i + 1)).1.2.1))), ((mb 1), .inl (t 0, 64, .inl ((tRun MK LO HI (tThr T) (fun _ => a) (fun _ => b) (i + 1)).1.2.2.1))), ((mb 2), .inl (t 0, 784, .inl ((tRun MK LO HI (tThr T) (fun _ => a) (fun _ => b) (i + 1)).1.2.2.2.1))), ((mb 3), .inl (t 0, 8, .inl ((tRun MK LO HI (tThr T) (fun _ => a) (fun _ => b) (i + 1)).1.2.2.2.2.1))), ((mb 4), .inl (t 0, 8, .inl ((tRun MK LO HI (tThr T) (fun _ => a) (fun _ => b) (i + 1)).1.2.2.2.2.2))), ((mb 5), .inl (t 3, 49, .inl MK)), ((mb 6), .inl (t 0, 49, .inl LO)), ((mb 7), .inl (t 0, 49, .inl HI))] (by rw [tRun_p]) ?_
              refine jr_norm0 [(5, .int (nI (i + 1))), (4, .int ((tRun MK LO HI (tThr T) (fun _ => a) (fun _ => b) (i + 1)).2)), (0, .ref m0), (1, .int a), (2, .int b), (3, .int (nI k1))] (by rw [tRun_p]) ?_
              refine jr_norm [(m0, .inr (10, jmdl ((tRun MK LO HI (tThr T) (fun _ => a) (fun _ => b) (i + 1)).1.1) mb)), ((mb 0), .inl (t 0, 64, .inl ((tRun MK LO HI (tThr T) (fun _ => a) (fun _ => b) (i + 1)).1.2.1))), ((mb 1), .inl (t 0, 64, .inl ((tRun MK LO HI (tThr T) (fun _ => a) (fun _ => b) (i + 1)).1.2.2.1))), ((mb 2), .inl (t 0, 784, .inl ((tRun MK LO HI (tThr T) (fun _ => a) (fun _ => b) (i + 1)).1.2.2.2.1))), ((mb 3), .inl (t 0, 8, .inl ((tRun MK LO HI (tThr T) (fun _ => a) (fun _ => b) (i + 1)).1.2.2.2.2.1))), ((mb 4), .inl (t 0, 8, .inl ((tRun MK LO HI (tThr T) (fun _ => a) (fun _ => b) (i + 1)).1.2.2.2.2.2))), ((mb 5), .inl (t 3, 49, .inl MK)), ((mb 6), .inl (t 0, 49, .inl LO)), ((mb 7), .inl (t 0, 49, .inl HI))] [] 44 0 0 rfl rfl rfl rfl rfl ?_
              refine jr_lv [2, 3, 4, 5, 1, 0] [(0, .ref m0), (1, .int a), (2, .int b), (3, .int (nI k1)), (4, .int ((tRun MK LO HI (tThr T) (fun _ => a) (fun _ => b) (i + 1)).2)), (5, .int (nI (i + 1)))] rfl ?_
              exact ih44 (i + 1) (by omega) (by omega)
        refine jr_norm [(m0, .inr (10, jmdl ((tRun MK LO HI (tThr T) (fun _ => a) (fun _ => b) 0).1.1) mb)), ((mb 0), .inl (t 0, 64, .inl ((tRun MK LO HI (tThr T) (fun _ => a) (fun _ => b) 0).1.2.1))), ((mb 1), .inl (t 0, 64, .inl ((tRun MK LO HI (tThr T) (fun _ => a) (fun _ => b) 0).1.2.2.1))), ((mb 2), .inl (t 0, 784, .inl ((tRun MK LO HI (tThr T) (fun _ => a) (fun _ => b) 0).1.2.2.2.1))), ((mb 3), .inl (t 0, 8, .inl ((tRun MK LO HI (tThr T) (fun _ => a) (fun _ => b) 0).1.2.2.2.2.1))), ((mb 4), .inl (t 0, 8, .inl ((tRun MK LO HI (tThr T) (fun _ => a) (fun _ => b) 0).1.2.2.2.2.2))), ((mb 5), .inl (t 3, 49, .inl MK)), ((mb 6), .inl (t 0, 49, .inl LO)), ((mb 7), .inl (t 0, 49, .inl HI))] [] 44 0 0 rfl rfl rfl rfl rfl ?_
        refine jr_lv [2, 3, 4, 5, 1, 0] [(0, .ref m0), (1, .int a), (2, .int b), (3, .int (nI k1)), (4, .int ((tRun MK LO HI (tThr T) (fun _ => a) (fun _ => b) 0).2)), (5, .int (nI 0))] rfl ?_
        exact hL8 (k1 - 0 + 1) 0 (Nat.zero_le _) (Nat.lt_succ_self _)
set_option maxHeartbeats 8000000 in
set_option maxRecDepth 100000 in
theorem k_X11_ramp (l : Launch) (t : Nat → ClassId) (hfl : l.stackTraces = false) (m0 : Nat) (mb : Nat → Nat) (T : MS) (MK : Nat → Int32) (LO : Nat → Int32) (HI : Nat → Int32) (a : Int32) (b : Int32) (da : Int32) (db : Int32) (co : Int32) (hI : tInv T) (hn : (T.1 24).toNatClampNeg + 50 < 1000000) : jKx l t yX11_ramp (Cond.code yX11_ramp cX11_ramp 9 (some .int) :: jWS) { frames := 3, cells := 0, slots := 0, locals := 74 } [.ref m0, .int a, .int b, .int da, .int db, .int co] [(m0, .inr (10, jmdl T.1 mb)), ((mb 0), .inl (t 0, 64, .inl T.2.1)), ((mb 1), .inl (t 0, 64, .inl T.2.2.1)), ((mb 2), .inl (t 0, 784, .inl T.2.2.2.1)), ((mb 3), .inl (t 0, 8, .inl T.2.2.2.2.1)), ((mb 4), .inl (t 0, 8, .inl T.2.2.2.2.2)), ((mb 5), .inl (t 3, 49, .inl MK)), ((mb 6), .inl (t 0, 49, .inl LO)), ((mb 7), .inl (t 0, 49, .inl HI))] (fun vv uu => (((eRamp a b da db co) = 0) ∧ vv = some (.int ((tRun MK LO HI (tThr T) (rmpV a da) (rmpV b db) co.toNatClampNeg).2)) ∧ uu = [(m0, .inr (10, jmdl ((tRun MK LO HI (tThr T) (rmpV a da) (rmpV b db) co.toNatClampNeg).1.1) mb)), ((mb 0), .inl (t 0, 64, .inl ((tRun MK LO HI (tThr T) (rmpV a da) (rmpV b db) co.toNatClampNeg).1.2.1))), ((mb 1), .inl (t 0, 64, .inl ((tRun MK LO HI (tThr T) (rmpV a da) (rmpV b db) co.toNatClampNeg).1.2.2.1))), ((mb 2), .inl (t 0, 784, .inl ((tRun MK LO HI (tThr T) (rmpV a da) (rmpV b db) co.toNatClampNeg).1.2.2.2.1))), ((mb 3), .inl (t 0, 8, .inl ((tRun MK LO HI (tThr T) (rmpV a da) (rmpV b db) co.toNatClampNeg).1.2.2.2.2.1))), ((mb 4), .inl (t 0, 8, .inl ((tRun MK LO HI (tThr T) (rmpV a da) (rmpV b db) co.toNatClampNeg).1.2.2.2.2.2))), ((mb 5), .inl (t 3, 49, .inl MK)), ((mb 6), .inl (t 0, 49, .inl LO)), ((mb 7), .inl (t 0, 49, .inl HI))]) ∨ (((eRamp a b da db co) = 1) ∧ vv = some (.int 0) ∧ uu = [(m0, .inr (10, jmdl (upd T.1 44 1) mb)), ((mb 0), .inl (t 0, 64, .inl T.2.1)), ((mb 1), .inl (t 0, 64, .inl T.2.2.1)), ((mb 2), .inl (t 0, 784, .inl T.2.2.2.1)), ((mb 3), .inl (t 0, 8, .inl T.2.2.2.2.1)), ((mb 4), .inl (t 0, 8, .inl T.2.2.2.2.2)), ((mb 5), .inl (t 3, 49, .inl MK)), ((mb 6), .inl (t 0, 49, .inl LO)), ((mb 7), .inl (t 0, 49, .inl HI))])) (fun _ _ => False) := by
  refine jK_of hfl (by decide +kernel) (Nat.le_of_ble_eq_true rfl) ?_
  intro p e s m args below meth c D A Q CC MM
  refine jr_norm0 [(0, .ref m0), (1, .int a), (2, .int b), (3, .int da), (4, .int db), (5, .int co)] rfl ?_
  refine jr_iload_n CC (jd ddX11_ramp 0 rfl) 1 rfl ?_
  refine jr_callS (rest := []) [.int a] CC (jd ddX11_ramp 1 rfl) (jy_X11_107 CC) (k_X11_isValue l t hfl a) [] rfl (by decide) rfl rfl (by decide) (Nat.le_of_ble_eq_true rfl) (by rintro v u h; rcases h with ⟨rfl, rfl⟩ <;> rfl) (fun _ _ h => h.elim) (fun _ _ h => h.elim) (fun v u h => ?_)
  rcases h with ⟨rfl, rfl⟩
  refine jr_norm [(m0, .inr (10, jmdl T.1 mb)), ((mb 0), .inl (t 0, 64, .inl T.2.1)), ((mb 1), .inl (t 0, 64, .inl T.2.2.1)), ((mb 2), .inl (t 0, 784, .inl T.2.2.2.1)), ((mb 3), .inl (t 0, 8, .inl T.2.2.2.2.1)), ((mb 4), .inl (t 0, 8, .inl T.2.2.2.2.2)), ((mb 5), .inl (t 3, 49, .inl MK)), ((mb 6), .inl (t 0, 49, .inl LO)), ((mb 7), .inl (t 0, 49, .inl HI))] [.int (mIn a (-128) 127)] 4 0 0 rfl rfl rfl rfl rfl ?_
  refine jr_if_eq 52 CC (jd ddX11_ramp 2 rfl) (by decide) (fun c1 => ?_) (fun c1 => ?_)
  · refine jr_iconst (v := 0) CC (jd ddX11_ramp 23 rfl) (by decide) ?_
    refine jr_istore [(6, .int 0), (0, .ref m0), (1, .int a), (2, .int b), (3, .int da), (4, .int db), (5, .int co)] CC (jd ddX11_ramp 24 rfl) (by decide) rfl ?_
    refine jr_aload_n CC (jd ddX11_ramp 25 rfl) 1 rfl ?_
    refine jr_iload CC (jd ddX11_ramp 26 rfl) 0 rfl ?_
    refine jr_if_eq 65 CC (jd ddX11_ramp 27 rfl) (by decide) (fun _ => ?_) (fun h => absurd h (by decide))
    refine jr_iconst (v := 1) CC (jd ddX11_ramp 30 rfl) (by decide) ?_
    refine jr_callV (q0 := 0) (rest := []) [.int 1] CC (jd ddX11_ramp 31 rfl) (jy_X11_111 CC) (k_X11_fails_1 l t hfl m0 mb T.1) [0] rfl (by decide) rfl rfl rfl rfl (by decide) (Nat.le_of_ble_eq_true rfl) (by rintro v u h; rcases h with ⟨rfl, rfl⟩ <;> exact (show ([m0] : List Nat) = [m0] from rfl)) (fun _ _ h => h.elim) (fun _ _ h => h.elim) (fun v u h => ?_)
    rcases h with ⟨rfl, rfl⟩
    refine jr_norm [(m0, .inr (10, jmdl (upd T.1 44 1) mb)), ((mb 0), .inl (t 0, 64, .inl T.2.1)), ((mb 1), .inl (t 0, 64, .inl T.2.2.1)), ((mb 2), .inl (t 0, 784, .inl T.2.2.2.1)), ((mb 3), .inl (t 0, 8, .inl T.2.2.2.2.1)), ((mb 4), .inl (t 0, 8, .inl T.2.2.2.2.2)), ((mb 5), .inl (t 3, 49, .inl MK)), ((mb 6), .inl (t 0, 49, .inl LO)), ((mb 7), .inl (t 0, 49, .inl HI))] [.int 1] 69 0 0 rfl rfl rfl rfl rfl ?_
    refine jr_if_eq 74 CC (jd ddX11_ramp 32 rfl) (by decide) (fun h => absurd h (by decide)) (fun _ => ?_)
    refine jr_iconst (v := 0) CC (jd ddX11_ramp 33 rfl) (by decide) ?_
    exact jr_iret CC MM (jd ddX11_ramp 34 rfl) rfl (by decide) (by decide) (Or.inr ⟨by simp [eRamp, jI, jin_iff, c1], rfl, rfl⟩)
  · refine jr_iload_n CC (jd ddX11_ramp 3 rfl) 2 rfl ?_
    refine jr_callS (rest := []) [.int b] CC (jd ddX11_ramp 4 rfl) (jy_X11_107 CC) (k_X11_isValue l t hfl b) [] rfl (by decide) rfl rfl (by decide) (Nat.le_of_ble_eq_true rfl) (by rintro v u h; rcases h with ⟨rfl, rfl⟩ <;> rfl) (fun _ _ h => h.elim) (fun _ _ h => h.elim) (fun v u h => ?_)
    rcases h with ⟨rfl, rfl⟩
    refine jr_norm [(m0, .inr (10, jmdl T.1 mb)), ((mb 0), .inl (t 0, 64, .inl T.2.1)), ((mb 1), .inl (t 0, 64, .inl T.2.2.1)), ((mb 2), .inl (t 0, 784, .inl T.2.2.2.1)), ((mb 3), .inl (t 0, 8, .inl T.2.2.2.2.1)), ((mb 4), .inl (t 0, 8, .inl T.2.2.2.2.2)), ((mb 5), .inl (t 3, 49, .inl MK)), ((mb 6), .inl (t 0, 49, .inl LO)), ((mb 7), .inl (t 0, 49, .inl HI))] [.int (mIn b (-128) 127)] 11 0 0 rfl rfl rfl rfl rfl ?_
    refine jr_if_eq 52 CC (jd ddX11_ramp 5 rfl) (by decide) (fun c4 => ?_) (fun c4 => ?_)
    · refine jr_iconst (v := 0) CC (jd ddX11_ramp 23 rfl) (by decide) ?_
      refine jr_istore [(6, .int 0), (0, .ref m0), (1, .int a), (2, .int b), (3, .int da), (4, .int db), (5, .int co)] CC (jd ddX11_ramp 24 rfl) (by decide) rfl ?_
      refine jr_aload_n CC (jd ddX11_ramp 25 rfl) 1 rfl ?_
      refine jr_iload CC (jd ddX11_ramp 26 rfl) 0 rfl ?_
      refine jr_if_eq 65 CC (jd ddX11_ramp 27 rfl) (by decide) (fun _ => ?_) (fun h => absurd h (by decide))
      refine jr_iconst (v := 1) CC (jd ddX11_ramp 30 rfl) (by decide) ?_
      refine jr_callV (q0 := 0) (rest := []) [.int 1] CC (jd ddX11_ramp 31 rfl) (jy_X11_111 CC) (k_X11_fails_1 l t hfl m0 mb T.1) [0] rfl (by decide) rfl rfl rfl rfl (by decide) (Nat.le_of_ble_eq_true rfl) (by rintro v u h; rcases h with ⟨rfl, rfl⟩ <;> exact (show ([m0] : List Nat) = [m0] from rfl)) (fun _ _ h => h.elim) (fun _ _ h => h.elim) (fun v u h => ?_)
      rcases h with ⟨rfl, rfl⟩
      refine jr_norm [(m0, .inr (10, jmdl (upd T.1 44 1) mb)), ((mb 0), .inl (t 0, 64, .inl T.2.1)), ((mb 1), .inl (t 0, 64, .inl T.2.2.1)), ((mb 2), .inl (t 0, 784, .inl T.2.2.2.1)), ((mb 3), .inl (t 0, 8, .inl T.2.2.2.2.1)), ((mb 4), .inl (t 0, 8, .inl T.2.2.2.2.2)), ((mb 5), .inl (t 3, 49, .inl MK)), ((mb 6), .inl (t 0, 49, .inl LO)), ((mb 7), .inl (t 0, 49, .inl HI))] [.int 1] 69 0 0 rfl rfl rfl rfl rfl ?_
      refine jr_if_eq 74 CC (jd ddX11_ramp 32 rfl) (by decide) (fun h => absurd h (by decide)) (fun _ => ?_)
      refine jr_iconst (v := 0) CC (jd ddX11_ramp 33 rfl) (by decide) ?_
      exact jr_iret CC MM (jd ddX11_ramp 34 rfl) rfl (by decide) (by decide) (Or.inr ⟨by simp [eRamp, jI, jin_iff, c1, c4], rfl, rfl⟩)
    · refine jr_iload_n CC (jd ddX11_ramp 6 rfl) 3 rfl ?_
      refine jr_bipush (v := (-50)) CC (jd ddX11_ramp 7 rfl) (by decide) ?_
      refine jr_bipush (v := 50) CC (jd ddX11_ramp 8 rfl) (by decide) ?_
      refine jr_callS (rest := []) [.int da, .int (-50), .int 50] CC (jd ddX11_ramp 9 rfl) (jy_X11_67 CC) (k_X11_isIn l t hfl da (-50) 50) [] rfl (by decide) rfl rfl (by decide) (Nat.le_of_ble_eq_true rfl) (by rintro v u h; rcases h with ⟨rfl, rfl⟩ <;> rfl) (fun _ _ h => h.elim) (fun _ _ h => h.elim) (fun v u h => ?_)
      rcases h with ⟨rfl, rfl⟩
      refine jr_norm [(m0, .inr (10, jmdl T.1 mb)), ((mb 0), .inl (t 0, 64, .inl T.2.1)), ((mb 1), .inl (t 0, 64, .inl T.2.2.1)), ((mb 2), .inl (t 0, 784, .inl T.2.2.2.1)), ((mb 3), .inl (t 0, 8, .inl T.2.2.2.2.1)), ((mb 4), .inl (t 0, 8, .inl T.2.2.2.2.2)), ((mb 5), .inl (t 3, 49, .inl MK)), ((mb 6), .inl (t 0, 49, .inl LO)), ((mb 7), .inl (t 0, 49, .inl HI))] [.int (mIn da (-50) 50)] 22 0 0 rfl rfl rfl rfl rfl ?_
      refine jr_if_eq 52 CC (jd ddX11_ramp 10 rfl) (by decide) (fun c7 => ?_) (fun c7 => ?_)
      · refine jr_iconst (v := 0) CC (jd ddX11_ramp 23 rfl) (by decide) ?_
        refine jr_istore [(6, .int 0), (0, .ref m0), (1, .int a), (2, .int b), (3, .int da), (4, .int db), (5, .int co)] CC (jd ddX11_ramp 24 rfl) (by decide) rfl ?_
        refine jr_aload_n CC (jd ddX11_ramp 25 rfl) 1 rfl ?_
        refine jr_iload CC (jd ddX11_ramp 26 rfl) 0 rfl ?_
        refine jr_if_eq 65 CC (jd ddX11_ramp 27 rfl) (by decide) (fun _ => ?_) (fun h => absurd h (by decide))
        refine jr_iconst (v := 1) CC (jd ddX11_ramp 30 rfl) (by decide) ?_
        refine jr_callV (q0 := 0) (rest := []) [.int 1] CC (jd ddX11_ramp 31 rfl) (jy_X11_111 CC) (k_X11_fails_1 l t hfl m0 mb T.1) [0] rfl (by decide) rfl rfl rfl rfl (by decide) (Nat.le_of_ble_eq_true rfl) (by rintro v u h; rcases h with ⟨rfl, rfl⟩ <;> exact (show ([m0] : List Nat) = [m0] from rfl)) (fun _ _ h => h.elim) (fun _ _ h => h.elim) (fun v u h => ?_)
        rcases h with ⟨rfl, rfl⟩
        refine jr_norm [(m0, .inr (10, jmdl (upd T.1 44 1) mb)), ((mb 0), .inl (t 0, 64, .inl T.2.1)), ((mb 1), .inl (t 0, 64, .inl T.2.2.1)), ((mb 2), .inl (t 0, 784, .inl T.2.2.2.1)), ((mb 3), .inl (t 0, 8, .inl T.2.2.2.2.1)), ((mb 4), .inl (t 0, 8, .inl T.2.2.2.2.2)), ((mb 5), .inl (t 3, 49, .inl MK)), ((mb 6), .inl (t 0, 49, .inl LO)), ((mb 7), .inl (t 0, 49, .inl HI))] [.int 1] 69 0 0 rfl rfl rfl rfl rfl ?_
        refine jr_if_eq 74 CC (jd ddX11_ramp 32 rfl) (by decide) (fun h => absurd h (by decide)) (fun _ => ?_)
        refine jr_iconst (v := 0) CC (jd ddX11_ramp 33 rfl) (by decide) ?_
        exact jr_iret CC MM (jd ddX11_ramp 34 rfl) rfl (by decide) (by decide) (Or.inr ⟨by simp [eRamp, jI, jin_iff, c1, c4, c7], rfl, rfl⟩)
      · refine jr_iload CC (jd ddX11_ramp 11 rfl) 4 rfl ?_
        refine jr_bipush (v := (-50)) CC (jd ddX11_ramp 12 rfl) (by decide) ?_
        refine jr_bipush (v := 50) CC (jd ddX11_ramp 13 rfl) (by decide) ?_
        refine jr_callS (rest := []) [.int db, .int (-50), .int 50] CC (jd ddX11_ramp 14 rfl) (jy_X11_67 CC) (k_X11_isIn l t hfl db (-50) 50) [] rfl (by decide) rfl rfl (by decide) (Nat.le_of_ble_eq_true rfl) (by rintro v u h; rcases h with ⟨rfl, rfl⟩ <;> rfl) (fun _ _ h => h.elim) (fun _ _ h => h.elim) (fun v u h => ?_)
        rcases h with ⟨rfl, rfl⟩
        refine jr_norm [(m0, .inr (10, jmdl T.1 mb)), ((mb 0), .inl (t 0, 64, .inl T.2.1)), ((mb 1), .inl (t 0, 64, .inl T.2.2.1)), ((mb 2), .inl (t 0, 784, .inl T.2.2.2.1)), ((mb 3), .inl (t 0, 8, .inl T.2.2.2.2.1)), ((mb 4), .inl (t 0, 8, .inl T.2.2.2.2.2)), ((mb 5), .inl (t 3, 49, .inl MK)), ((mb 6), .inl (t 0, 49, .inl LO)), ((mb 7), .inl (t 0, 49, .inl HI))] [.int (mIn db (-50) 50)] 34 0 0 rfl rfl rfl rfl rfl ?_
        refine jr_if_eq 52 CC (jd ddX11_ramp 15 rfl) (by decide) (fun c10 => ?_) (fun c10 => ?_)
        · refine jr_iconst (v := 0) CC (jd ddX11_ramp 23 rfl) (by decide) ?_
          refine jr_istore [(6, .int 0), (0, .ref m0), (1, .int a), (2, .int b), (3, .int da), (4, .int db), (5, .int co)] CC (jd ddX11_ramp 24 rfl) (by decide) rfl ?_
          refine jr_aload_n CC (jd ddX11_ramp 25 rfl) 1 rfl ?_
          refine jr_iload CC (jd ddX11_ramp 26 rfl) 0 rfl ?_
          refine jr_if_eq 65 CC (jd ddX11_ramp 27 rfl) (by decide) (fun _ => ?_) (fun h => absurd h (by decide))
          refine jr_iconst (v := 1) CC (jd ddX11_ramp 30 rfl) (by decide) ?_
          refine jr_callV (q0 := 0) (rest := []) [.int 1] CC (jd ddX11_ramp 31 rfl) (jy_X11_111 CC) (k_X11_fails_1 l t hfl m0 mb T.1) [0] rfl (by decide) rfl rfl rfl rfl (by decide) (Nat.le_of_ble_eq_true rfl) (by rintro v u h; rcases h with ⟨rfl, rfl⟩ <;> exact (show ([m0] : List Nat) = [m0] from rfl)) (fun _ _ h => h.elim) (fun _ _ h => h.elim) (fun v u h => ?_)
          rcases h with ⟨rfl, rfl⟩
          refine jr_norm [(m0, .inr (10, jmdl (upd T.1 44 1) mb)), ((mb 0), .inl (t 0, 64, .inl T.2.1)), ((mb 1), .inl (t 0, 64, .inl T.2.2.1)), ((mb 2), .inl (t 0, 784, .inl T.2.2.2.1)), ((mb 3), .inl (t 0, 8, .inl T.2.2.2.2.1)), ((mb 4), .inl (t 0, 8, .inl T.2.2.2.2.2)), ((mb 5), .inl (t 3, 49, .inl MK)), ((mb 6), .inl (t 0, 49, .inl LO)), ((mb 7), .inl (t 0, 49, .inl HI))] [.int 1] 69 0 0 rfl rfl rfl rfl rfl ?_
          refine jr_if_eq 74 CC (jd ddX11_ramp 32 rfl) (by decide) (fun h => absurd h (by decide)) (fun _ => ?_)
          refine jr_iconst (v := 0) CC (jd ddX11_ramp 33 rfl) (by decide) ?_
          exact jr_iret CC MM (jd ddX11_ramp 34 rfl) rfl (by decide) (by decide) (Or.inr ⟨by simp [eRamp, jI, jin_iff, c1, c4, c7, c10], rfl, rfl⟩)
        · refine jr_iload CC (jd ddX11_ramp 16 rfl) 5 rfl ?_
          refine jr_iconst (v := 1) CC (jd ddX11_ramp 17 rfl) (by decide) ?_
          refine jr_bipush (v := 50) CC (jd ddX11_ramp 18 rfl) (by decide) ?_
          refine jr_callS (rest := []) [.int co, .int 1, .int 50] CC (jd ddX11_ramp 19 rfl) (jy_X11_67 CC) (k_X11_isIn l t hfl co 1 50) [] rfl (by decide) rfl rfl (by decide) (Nat.le_of_ble_eq_true rfl) (by rintro v u h; rcases h with ⟨rfl, rfl⟩ <;> rfl) (fun _ _ h => h.elim) (fun _ _ h => h.elim) (fun v u h => ?_)
          rcases h with ⟨rfl, rfl⟩
          refine jr_norm [(m0, .inr (10, jmdl T.1 mb)), ((mb 0), .inl (t 0, 64, .inl T.2.1)), ((mb 1), .inl (t 0, 64, .inl T.2.2.1)), ((mb 2), .inl (t 0, 784, .inl T.2.2.2.1)), ((mb 3), .inl (t 0, 8, .inl T.2.2.2.2.1)), ((mb 4), .inl (t 0, 8, .inl T.2.2.2.2.2)), ((mb 5), .inl (t 3, 49, .inl MK)), ((mb 6), .inl (t 0, 49, .inl LO)), ((mb 7), .inl (t 0, 49, .inl HI))] [.int (mIn co 1 50)] 45 0 0 rfl rfl rfl rfl rfl ?_
          refine jr_if_eq 52 CC (jd ddX11_ramp 20 rfl) (by decide) (fun c13 => ?_) (fun c13 => ?_)
          · refine jr_iconst (v := 0) CC (jd ddX11_ramp 23 rfl) (by decide) ?_
            refine jr_istore [(6, .int 0), (0, .ref m0), (1, .int a), (2, .int b), (3, .int da), (4, .int db), (5, .int co)] CC (jd ddX11_ramp 24 rfl) (by decide) rfl ?_
            refine jr_aload_n CC (jd ddX11_ramp 25 rfl) 1 rfl ?_
            refine jr_iload CC (jd ddX11_ramp 26 rfl) 0 rfl ?_
            refine jr_if_eq 65 CC (jd ddX11_ramp 27 rfl) (by decide) (fun _ => ?_) (fun h => absurd h (by decide))
            refine jr_iconst (v := 1) CC (jd ddX11_ramp 30 rfl) (by decide) ?_
            refine jr_callV (q0 := 0) (rest := []) [.int 1] CC (jd ddX11_ramp 31 rfl) (jy_X11_111 CC) (k_X11_fails_1 l t hfl m0 mb T.1) [0] rfl (by decide) rfl rfl rfl rfl (by decide) (Nat.le_of_ble_eq_true rfl) (by rintro v u h; rcases h with ⟨rfl, rfl⟩ <;> exact (show ([m0] : List Nat) = [m0] from rfl)) (fun _ _ h => h.elim) (fun _ _ h => h.elim) (fun v u h => ?_)
            rcases h with ⟨rfl, rfl⟩
            refine jr_norm [(m0, .inr (10, jmdl (upd T.1 44 1) mb)), ((mb 0), .inl (t 0, 64, .inl T.2.1)), ((mb 1), .inl (t 0, 64, .inl T.2.2.1)), ((mb 2), .inl (t 0, 784, .inl T.2.2.2.1)), ((mb 3), .inl (t 0, 8, .inl T.2.2.2.2.1)), ((mb 4), .inl (t 0, 8, .inl T.2.2.2.2.2)), ((mb 5), .inl (t 3, 49, .inl MK)), ((mb 6), .inl (t 0, 49, .inl LO)), ((mb 7), .inl (t 0, 49, .inl HI))] [.int 1] 69 0 0 rfl rfl rfl rfl rfl ?_
            refine jr_if_eq 74 CC (jd ddX11_ramp 32 rfl) (by decide) (fun h => absurd h (by decide)) (fun _ => ?_)
            refine jr_iconst (v := 0) CC (jd ddX11_ramp 33 rfl) (by decide) ?_
            exact jr_iret CC MM (jd ddX11_ramp 34 rfl) rfl (by decide) (by decide) (Or.inr ⟨by simp [eRamp, jI, jin_iff, c1, c4, c7, c10, c13], rfl, rfl⟩)
          · refine jr_iconst (v := 1) CC (jd ddX11_ramp 21 rfl) (by decide) ?_
            refine jr_goto 53 CC (jd ddX11_ramp 22 rfl) (by decide) ?_
            refine jr_istore [(6, .int 1), (0, .ref m0), (1, .int a), (2, .int b), (3, .int da), (4, .int db), (5, .int co)] CC (jd ddX11_ramp 24 rfl) (by decide) rfl ?_
            refine jr_aload_n CC (jd ddX11_ramp 25 rfl) 1 rfl ?_
            refine jr_iload CC (jd ddX11_ramp 26 rfl) 0 rfl ?_
            refine jr_if_eq 65 CC (jd ddX11_ramp 27 rfl) (by decide) (fun h => absurd h (by decide)) (fun _ => ?_)
            refine jr_iconst (v := 0) CC (jd ddX11_ramp 28 rfl) (by decide) ?_
            refine jr_goto 66 CC (jd ddX11_ramp 29 rfl) (by decide) ?_
            refine jr_callV (q0 := 0) (rest := []) [.int 0] CC (jd ddX11_ramp 31 rfl) (jy_X11_111 CC) (k_X11_fails_0 l t hfl m0 mb T.1) [0] rfl (by decide) rfl rfl rfl rfl (by decide) (Nat.le_of_ble_eq_true rfl) (by rintro v u h; rcases h with ⟨rfl, rfl⟩ <;> exact (show ([m0] : List Nat) = [m0] from rfl)) (fun _ _ h => h.elim) (fun _ _ h => h.elim) (fun v u h => ?_)
            rcases h with ⟨rfl, rfl⟩
            refine jr_norm [(m0, .inr (10, jmdl (upd T.1 44 0) mb)), ((mb 0), .inl (t 0, 64, .inl T.2.1)), ((mb 1), .inl (t 0, 64, .inl T.2.2.1)), ((mb 2), .inl (t 0, 784, .inl T.2.2.2.1)), ((mb 3), .inl (t 0, 8, .inl T.2.2.2.2.1)), ((mb 4), .inl (t 0, 8, .inl T.2.2.2.2.2)), ((mb 5), .inl (t 3, 49, .inl MK)), ((mb 6), .inl (t 0, 49, .inl LO)), ((mb 7), .inl (t 0, 49, .inl HI))] [.int 0] 69 0 0 rfl rfl rfl rfl rfl ?_
            refine jr_if_eq 74 CC (jd ddX11_ramp 32 rfl) (by decide) (fun _ => ?_) (fun h => absurd h (by decide))
            obtain ⟨k1, hk1, rfl⟩ := jin_nat 50 ((jin_iff _ _ _).mpr c13) (by decide) rfl
            refine jr_ws [(m0, .inr (10, jmdl ((tThr T).1) mb)), ((mb 0), .inl (t 0, 64, .inl ((tThr T).2.1))), ((mb 1), .inl (t 0, 64, .inl ((tThr T).2.2.1))), ((mb 2), .inl (t 0, 784, .inl ((tThr T).2.2.2.1))), ((mb 3), .inl (t 0, 8, .inl ((tThr T).2.2.2.2.1))), ((mb 4), .inl (t 0, 8, .inl ((tThr T).2.2.2.2.2))), ((mb 5), .inl (t 3, 49, .inl MK)), ((mb 6), .inl (t 0, 49, .inl LO)), ((mb 7), .inl (t 0, 49, .inl HI))] rfl ?_
            refine jr_iconst (v := 0) CC (jd ddX11_ramp 35 rfl) (by decide) ?_
            refine jr_istore [(7, .int 0), (6, .int 1), (0, .ref m0), (1, .int a), (2, .int b), (3, .int da), (4, .int db), (5, .int (nI k1))] CC (jd ddX11_ramp 36 rfl) (by decide) rfl ?_
            refine jr_iconst (v := 0) CC (jd ddX11_ramp 37 rfl) (by decide) ?_
            refine jr_istore [(8, .int 0), (7, .int 0), (6, .int 1), (0, .ref m0), (1, .int a), (2, .int b), (3, .int da), (4, .int db), (5, .int (nI k1))] CC (jd ddX11_ramp 38 rfl) (by decide) rfl ?_
            have hL18 : ∀ (d9 : Nat) (i : Nat) (hi : i ≤ k1), k1 - i < d9 → J p l e { frames := 3, cells := 0, slots := 0, locals := 74 } s m args below meth c D A 9 Q [(m0, .inr (10, jmdl ((tRun MK LO HI (tThr T) (rmpV a da) (rmpV b db) i).1.1) mb)), ((mb 0), .inl (t 0, 64, .inl ((tRun MK LO HI (tThr T) (rmpV a da) (rmpV b db) i).1.2.1))), ((mb 1), .inl (t 0, 64, .inl ((tRun MK LO HI (tThr T) (rmpV a da) (rmpV b db) i).1.2.2.1))), ((mb 2), .inl (t 0, 784, .inl ((tRun MK LO HI (tThr T) (rmpV a da) (rmpV b db) i).1.2.2.2.1))), ((mb 3), .inl (t 0, 8, .inl ((tRun MK LO HI (tThr T) (rmpV a da) (rmpV b db) i).1.2.2.2.2.1))), ((mb 4), .inl (t 0, 8, .inl ((tRun MK LO HI (tThr T) (rmpV a da) (rmpV b db) i).1.2.2.2.2.2))), ((mb 5), .inl (t 3, 49, .inl MK)), ((mb 6), .inl (t 0, 49, .inl LO)), ((mb 7), .inl (t 0, 49, .inl HI))] [(0, .ref m0), (1, .int a), (2, .int b), (3, .int da), (4, .int db), (5, .int (nI k1)), (7, .int ((tRun MK LO HI (tThr T) (rmpV a da) (rmpV b db) i).2)), (8, .int (nI i))] 80 [] 0 0 := by
              intro d9
              induction d9 with
              | zero => intro i hi hmu; exact absurd hmu (Nat.not_lt_zero _)
              | succ d9 ih80 =>
                intro i hi hmu
                refine jr_iload CC (jd ddX11_ramp 39 rfl) 7 rfl ?_
                refine jr_iload CC (jd ddX11_ramp 40 rfl) 5 rfl ?_
                refine jr_icmp_ge 129 CC (jd ddX11_ramp 41 rfl) (by decide) (fun c19 => ?_) (fun c19 => ?_)
                · have n19 := jle_of (a := k1) (b := i) c19 (by omega) (by omega)
                  refine jr_iload CC (jd ddX11_ramp 65 rfl) 6 rfl ?_
                  exact jr_iret CC MM (jd ddX11_ramp 66 rfl) rfl (by decide) (by decide) (Or.inl (by have e9 : i = k1 := (by omega); subst e9; rw [nI_tn (by omega)]; exact ⟨by simp [eRamp, jI, jin_iff, c1, c4, c7, c10, c13], rfl, rfl⟩))
                · have n19 := jle_not (a := k1) (b := i) c19 (by omega) (by omega)
                  refine jr_iload CC (jd ddX11_ramp 42 rfl) 6 rfl ?_
                  refine jr_aload_n CC (jd ddX11_ramp 43 rfl) 0 rfl ?_
                  refine jr_iload_n CC (jd ddX11_ramp 44 rfl) 1 rfl ?_
                  refine jr_iload CC (jd ddX11_ramp 45 rfl) 7 rfl ?_
                  refine jr_iload_n CC (jd ddX11_ramp 46 rfl) 3 rfl ?_
                  refine jr_imul CC (jd ddX11_ramp 47 rfl) ?_
                  refine jr_iadd CC (jd ddX11_ramp 48 rfl) ?_
                  refine jr_pc (pc' := 96) rfl ?_
                  refine jr_bipush (v := (-128)) CC (jd ddX11_ramp 49 rfl) (by decide) ?_
                  refine jr_bipush (v := 127) CC (jd ddX11_ramp 50 rfl) (by decide) ?_
                  refine jr_callS (rest := [.ref m0, .int ((tRun MK LO HI (tThr T) (rmpV a da) (rmpV b db) i).2)]) [.int (a + ((nI i) * da)), .int (-128), .int 127] CC (jd ddX11_ramp 51 rfl) (jy_X11_181 CC) (k_X11_held l t hfl (a + ((nI i) * da)) (-128) 127) [] rfl (by decide) rfl rfl (by decide) (Nat.le_of_ble_eq_true rfl) (by rintro v u h; rcases h with ⟨rfl, rfl⟩ <;> rfl) (fun _ _ h => h.elim) (fun _ _ h => h.elim) (fun v u h => ?_)
                  rcases h with ⟨rfl, rfl⟩
                  refine jr_norm [(m0, .inr (10, jmdl ((tRun MK LO HI (tThr T) (rmpV a da) (rmpV b db) i).1.1) mb)), ((mb 0), .inl (t 0, 64, .inl ((tRun MK LO HI (tThr T) (rmpV a da) (rmpV b db) i).1.2.1))), ((mb 1), .inl (t 0, 64, .inl ((tRun MK LO HI (tThr T) (rmpV a da) (rmpV b db) i).1.2.2.1))), ((mb 2), .inl (t 0, 784, .inl ((tRun MK LO HI (tThr T) (rmpV a da) (rmpV b db) i).1.2.2.2.1))), ((mb 3), .inl (t 0, 8, .inl ((tRun MK LO HI (tThr T) (rmpV a da) (rmpV b db) i).1.2.2.2.2.1))), ((mb 4), .inl (t 0, 8, .inl ((tRun MK LO HI (tThr T) (rmpV a da) (rmpV b db) i).1.2.2.2.2.2))), ((mb 5), .inl (t 3, 49, .inl MK)), ((mb 6), .inl (t 0, 49, .inl LO)), ((mb 7), .inl (t 0, 49, .inl HI))] [.int (mHeld (a + ((nI i) * da)) (-128) 127), .ref m0, .int ((tRun MK LO HI (tThr T) (rmpV a da) (rmpV b db) i).2)] 103 0 0 rfl rfl rfl rfl rfl ?_
                  refine jr_iload_n CC (jd ddX11_ramp 52 rfl) 2 rfl ?_
                  refine jr_iload CC (jd ddX11_ramp 53 rfl) 7 rfl ?_
                  refine jr_iload CC (jd ddX11_ramp 54 rfl) 4 rfl ?_
                  refine jr_imul CC (jd ddX11_ramp 55 rfl) ?_
                  refine jr_iadd CC (jd ddX11_ramp 56 rfl) ?_
                  refine jr_bipush (v := (-128)) CC (jd ddX11_ramp 57 rfl) (by decide) ?_
                  refine jr_bipush (v := 127) CC (jd ddX11_ramp 58 rfl) (by decide) ?_
                  refine jr_callS (rest := [.int (mHeld (a + ((nI i) * da)) (-128) 127), .ref m0, .int ((tRun MK LO HI (tThr T) (rmpV a da) (rmpV b db) i).2)]) [.int (b + ((nI i) * db)), .int (-128), .int 127] CC (jd ddX11_ramp 59 rfl) (jy_X11_181 CC) (k_X11_held l t hfl (b + ((nI i) * db)) (-128) 127) [] rfl (by decide) rfl rfl (by decide) (Nat.le_of_ble_eq_true rfl) (by rintro v u h; rcases h with ⟨rfl, rfl⟩ <;> rfl) (fun _ _ h => h.elim) (fun _ _ h => h.elim) (fun v u h => ?_)
                  rcases h with ⟨rfl, rfl⟩
                  refine jr_norm [(m0, .inr (10, jmdl ((tRun MK LO HI (tThr T) (rmpV a da) (rmpV b db) i).1.1) mb)), ((mb 0), .inl (t 0, 64, .inl ((tRun MK LO HI (tThr T) (rmpV a da) (rmpV b db) i).1.2.1))), ((mb 1), .inl (t 0, 64, .inl ((tRun MK LO HI (tThr T) (rmpV a da) (rmpV b db) i).1.2.2.1))), ((mb 2), .inl (t 0, 784, .inl ((tRun MK LO HI (tThr T) (rmpV a da) (rmpV b db) i).1.2.2.2.1))), ((mb 3), .inl (t 0, 8, .inl ((tRun MK LO HI (tThr T) (rmpV a da) (rmpV b db) i).1.2.2.2.2.1))), ((mb 4), .inl (t 0, 8, .inl ((tRun MK LO HI (tThr T) (rmpV a da) (rmpV b db) i).1.2.2.2.2.2))), ((mb 5), .inl (t 3, 49, .inl MK)), ((mb 6), .inl (t 0, 49, .inl LO)), ((mb 7), .inl (t 0, 49, .inl HI))] [.int (mHeld (b + ((nI i) * db)) (-128) 127), .int (mHeld (a + ((nI i) * da)) (-128) 127), .ref m0, .int ((tRun MK LO HI (tThr T) (rmpV a da) (rmpV b db) i).2)] 117 0 0 rfl rfl rfl rfl rfl ?_
                  refine jr_callV (q0 := 0) (rest := [.int ((tRun MK LO HI (tThr T) (rmpV a da) (rmpV b db) i).2)]) [.int (mHeld (a + ((nI i) * da)) (-128) 127), .int (mHeld (b + ((nI i) * db)) (-128) 127)] CC (jd ddX11_ramp 60 rfl) (jy_X11_177 CC) (k_X11_takes_u l t hfl m0 mb ((tRun MK LO HI (tThr T) (rmpV a da) (rmpV b db) i).1) MK LO HI (mHeld (a + ((nI i) * da)) (-128) 127) (mHeld (b + ((nI i) * db)) (-128) 127) (tRun_inv (tThr_inv hI).1 _ _ i (by rw [(tThr_inv hI).2]; omega)).1) [0, 1, 2, 3, 4, 5, 6, 7, 8] rfl (by decide) rfl rfl rfl rfl (by decide) (Nat.le_of_ble_eq_true rfl) (by rintro v u h; rcases h with ⟨rfl, rfl⟩ <;> exact (show ([m0, (mb 0), (mb 1), (mb 2), (mb 3), (mb 4), (mb 5), (mb 6), (mb 7)] : List Nat) = [m0, (mb 0), (mb 1), (mb 2), (mb 3), (mb 4), (mb 5), (mb 6), (mb 7)] from rfl)) (fun _ _ h => h.elim) (fun _ _ h => h.elim) (fun v u h => ?_)
                  rcases h with ⟨rfl, rfl⟩
                  refine jr_norm [(m0, .inr (10, jmdl ((tStepU MK LO HI ((tRun MK LO HI (tThr T) (rmpV a da) (rmpV b db) i).1) (mHeld (a + ((nI i) * da)) (-128) 127) (mHeld (b + ((nI i) * db)) (-128) 127)).1.1) mb)), ((mb 0), .inl (t 0, 64, .inl ((tStepU MK LO HI ((tRun MK LO HI (tThr T) (rmpV a da) (rmpV b db) i).1) (mHeld (a + ((nI i) * da)) (-128) 127) (mHeld (b + ((nI i) * db)) (-128) 127)).1.2.1))), ((mb 1), .inl (t 0, 64, .inl ((tStepU MK LO HI ((tRun MK LO HI (tThr T) (rmpV a da) (rmpV b db) i).1) (mHeld (a + ((nI i) * da)) (-128) 127) (mHeld (b + ((nI i) * db)) (-128) 127)).1.2.2.1))), ((mb 2), .inl (t 0, 784, .inl ((tStepU MK LO HI ((tRun MK LO HI (tThr T) (rmpV a da) (rmpV b db) i).1) (mHeld (a + ((nI i) * da)) (-128) 127) (mHeld (b + ((nI i) * db)) (-128) 127)).1.2.2.2.1))), ((mb 3), .inl (t 0, 8, .inl ((tStepU MK LO HI ((tRun MK LO HI (tThr T) (rmpV a da) (rmpV b db) i).1) (mHeld (a + ((nI i) * da)) (-128) 127) (mHeld (b + ((nI i) * db)) (-128) 127)).1.2.2.2.2.1))), ((mb 4), .inl (t 0, 8, .inl ((tStepU MK LO HI ((tRun MK LO HI (tThr T) (rmpV a da) (rmpV b db) i).1) (mHeld (a + ((nI i) * da)) (-128) 127) (mHeld (b + ((nI i) * db)) (-128) 127)).1.2.2.2.2.2))), ((mb 5), .inl (t 3, 49, .inl MK)), ((mb 6), .inl (t 0, 49, .inl LO)), ((mb 7), .inl (t 0, 49, .inl HI))] [.int ((tStepU MK LO HI ((tRun MK LO HI (tThr T) (rmpV a da) (rmpV b db) i).1) (mHeld (a + ((nI i) * da)) (-128) 127) (mHeld (b + ((nI i) * db)) (-128) 127)).2), .int ((tRun MK LO HI (tThr T) (rmpV a da) (rmpV b db) i).2)] 120 0 0 rfl rfl rfl rfl rfl ?_
                  refine jr_iadd CC (jd ddX11_ramp 61 rfl) ?_
                  refine jr_istore [(7, .int (((tRun MK LO HI (tThr T) (rmpV a da) (rmpV b db) i).2) + ((tStepU MK LO HI ((tRun MK LO HI (tThr T) (rmpV a da) (rmpV b db) i).1) (mHeld (a + ((nI i) * da)) (-128) 127) (mHeld (b + ((nI i) * db)) (-128) 127)).2))), (0, .ref m0), (1, .int a), (2, .int b), (3, .int da), (4, .int db), (5, .int (nI k1)), (8, .int (nI i))] CC (jd ddX11_ramp 62 rfl) (by decide) rfl ?_
                  refine jr_iinc [(8, .int (nI (i + 1))), (7, .int (((tRun MK LO HI (tThr T) (rmpV a da) (rmpV b db) i).2) + ((tStepU MK LO HI ((tRun MK LO HI (tThr T) (rmpV a da) (rmpV b db) i).1) (mHeld (a + ((nI i) * da)) (-128) 127) (mHeld (b + ((nI i) * db)) (-128) 127)).2))), (0, .ref m0), (1, .int a), (2, .int b), (3, .int da), (4, .int db), (5, .int (nI k1))] CC (jd ddX11_ramp 63 rfl) 7 rfl (nI_1 _) (by decide) rfl ?_
                  refine jr_goto 80 CC (jd ddX11_ramp 64 rfl) (by decide) ?_
                  refine jr_ws [(m0, .inr (10, jmdl ((tRun MK LO HI (tThr T) (rmpV a da) (rmpV b db) (i + 1)).1.1) mb)), ((mb 0), .inl (t 0, 64, .inl ((tRun MK LO HI (tThr T) (rmpV a da) (rmpV b db) (i + 1)).1.2.1))), ((mb 1), .inl (t 0, 64, .inl ((tRun MK LO HI (tThr T) (rmpV a da) (rmpV b db) (i + 1)).1.2.2.1))), ((mb 2), .inl (t 0, 784, .inl ((tRun MK LO HI (tThr T) (rmpV a da) (rmpV b db) (i + 1)).1.2.2.2.1))), ((mb 3), .inl (t 0, 8, .inl ((tRun MK LO HI (tThr T) (rmpV a da) (rmpV b db) (i + 1)).1.2.2.2.2.1))), ((mb 4), .inl (t 0, 8, .inl ((tRun MK LO HI (tThr T) (rmpV a da) (rmpV b db) (i + 1)).1.2.2.2.2.2))), ((mb 5), .inl (t 3, 49, .inl MK)), ((mb 6), .inl (t 0, 49, .inl LO)), ((mb 7), .inl (t 0, 49, .inl HI))] (by rw [tRun_r]) ?_
                  refine jr_norm0 [(8, .int (nI (i + 1))), (7, .int ((tRun MK LO HI (tThr T) (rmpV a da) (rmpV b db) (i + 1)).2)), (0, .ref m0), (1, .int a), (2, .int b), (3, .int da), (4, .int db), (5, .int (nI k1))] (by rw [tRun_r]) ?_
                  refine jr_norm [(m0, .inr (10, jmdl ((tRun MK LO HI (tThr T) (rmpV a da) (rmpV b db) (i + 1)).1.1) mb)), ((mb 0), .inl (t 0, 64, .inl ((tRun MK LO HI (tThr T) (rmpV a da) (rmpV b db) (i + 1)).1.2.1))), ((mb 1), .inl (t 0, 64, .inl ((tRun MK LO HI (tThr T) (rmpV a da) (rmpV b db) (i + 1)).1.2.2.1))), ((mb 2), .inl (t 0, 784, .inl ((tRun MK LO HI (tThr T) (rmpV a da) (rmpV b db) (i + 1)).1.2.2.2.1))), ((mb 3), .inl (t 0, 8, .inl ((tRun MK LO HI (tThr T) (rmpV a da) (rmpV b db) (i + 1)).1.2.2.2.2.1))), ((mb 4), .inl (t 0, 8, .inl ((tRun MK LO HI (tThr T) (rmpV a da) (rmpV b db) (i + 1)).1.2.2.2.2.2))), ((mb 5), .inl (t 3, 49, .inl MK)), ((mb 6), .inl (t 0, 49, .inl LO)), ((mb 7), .inl (t 0, 49, .inl HI))] [] 80 0 0 rfl rfl rfl rfl rfl ?_
                  refine jr_lv [2, 3, 4, 5, 6, 7, 1, 0] [(0, .ref m0), (1, .int a), (2, .int b), (3, .int da), (4, .int db), (5, .int (nI k1)), (7, .int ((tRun MK LO HI (tThr T) (rmpV a da) (rmpV b db) (i + 1)).2)), (8, .int (nI (i + 1)))] rfl ?_
                  exact ih80 (i + 1) (by omega) (by omega)
            refine jr_norm [(m0, .inr (10, jmdl ((tRun MK LO HI (tThr T) (rmpV a da) (rmpV b db) 0).1.1) mb)), ((mb 0), .inl (t 0, 64, .inl ((tRun MK LO HI (tThr T) (rmpV a da) (rmpV b db) 0).1.2.1))), ((mb 1), .inl (t 0, 64, .inl ((tRun MK LO HI (tThr T) (rmpV a da) (rmpV b db) 0).1.2.2.1))), ((mb 2), .inl (t 0, 784, .inl ((tRun MK LO HI (tThr T) (rmpV a da) (rmpV b db) 0).1.2.2.2.1))), ((mb 3), .inl (t 0, 8, .inl ((tRun MK LO HI (tThr T) (rmpV a da) (rmpV b db) 0).1.2.2.2.2.1))), ((mb 4), .inl (t 0, 8, .inl ((tRun MK LO HI (tThr T) (rmpV a da) (rmpV b db) 0).1.2.2.2.2.2))), ((mb 5), .inl (t 3, 49, .inl MK)), ((mb 6), .inl (t 0, 49, .inl LO)), ((mb 7), .inl (t 0, 49, .inl HI))] [] 80 0 0 rfl rfl rfl rfl rfl ?_
            refine jr_lv [3, 4, 5, 6, 7, 8, 1, 0] [(0, .ref m0), (1, .int a), (2, .int b), (3, .int da), (4, .int db), (5, .int (nI k1)), (7, .int ((tRun MK LO HI (tThr T) (rmpV a da) (rmpV b db) 0).2)), (8, .int (nI 0))] rfl ?_
            exact hL18 (k1 - 0 + 1) 0 (Nat.zero_le _) (Nat.lt_succ_self _)
