theorem mIn_one {x a b : Int32} (h : ¬ mIn x a b = 0) : mIn x a b = 1 := (mIn01 x a b).resolve_left h
set_option maxHeartbeats 8000000 in
set_option maxRecDepth 100000 in
theorem k_X11_looks (l : Launch) (t : Nat → ClassId) (hfl : l.stackTraces = false) (m0 : Nat) (mb : Nat → Nat) (R : Nat → Int32) (a : Int32) (b : Int32) (hB : mBool R) : jKx l t yX11_looks (Cond.code yX11_looks cX11_looks 5 (some .boolean) :: jWS) { frames := 1, cells := 0, slots := 0, locals := 25 } [.ref m0, .int a, .int b] [(m0, .inr (10, jmdl R mb))] (fun vv uu => (vv = some (.int (mR R a b)) ∧ uu = [(m0, .inr (10, jmdl (mG R a b) mb))])) (fun _ _ => False) := by
  refine jK_of hfl (by decide +kernel) (Nat.le_of_ble_eq_true rfl) ?_
  intro p e s m args below meth c D A Q CC MM
  refine jr_norm0 [(0, .ref m0), (1, .int a), (2, .int b)] rfl ?_
  have hJ2 : ∀ v1 : Int32, mV R a b = v1 → J p l e { frames := 1, cells := 0, slots := 0, locals := 25 } s m args below meth c D A 5 Q [(m0, .inr (10, jmdl R mb))] [(0, .ref m0), (1, .int a), (2, .int b)] 12 [.int v1] 0 0 := by
    intro v1 e3
    refine jr_istore_n 3 [(3, .int v1), (0, .ref m0), (1, .int a), (2, .int b)] CC (jd ddX11_looks 6 rfl) rfl (by decide) rfl ?_
    refine jr_aload_n CC (jd ddX11_looks 7 rfl) 1 rfl ?_
    refine jr_get (v := .int (R 0)) CC (jd ddX11_looks 8 rfl) (jf_X11_9 CC) 0 rfl rfl ?_
    refine (Decidable.em (R 0 = 0)).elim (fun c4 => ?_) (fun c4 => ?_)
    · refine jr_tabIn 44 CC (jd ddX11_looks 9 rfl) (by rw [c4]; decide) (by rw [c4]; decide) (by rw [c4]; rfl) (by decide) ?_
      refine jr_aload_n CC (jd ddX11_looks 10 rfl) 1 rfl ?_
      refine jr_iload_n CC (jd ddX11_looks 11 rfl) 0 rfl ?_
      refine jr_callV (q0 := 0) (rest := []) [.int v1] CC (jd ddX11_looks 12 rfl) (jy_X11_130 CC) (k_X11_isEdge l t hfl m0 mb R v1) [0] rfl (by decide) rfl rfl rfl rfl (by decide) (Nat.le_of_ble_eq_true rfl) (by rintro v u h; rcases h with ⟨rfl, rfl⟩ <;> exact (show ([m0] : List Nat) = [m0] from rfl)) (fun _ _ h => h.elim) (fun _ _ h => h.elim) (fun v u h => ?_)
      rcases h with ⟨rfl, rfl⟩
      refine jr_norm [(m0, .inr (10, jmdl (upd R 9 (mEr R v1 (mE R v1))) mb))] [.int (mE R v1)] 49 0 0 rfl rfl rfl rfl rfl ?_
      refine jr_istore [(4, .int (mE R v1)), (3, .int v1), (0, .ref m0), (1, .int a), (2, .int b)] CC (jd ddX11_looks 13 rfl) (by decide) rfl ?_
      refine jr_goto 173 CC (jd ddX11_looks 14 rfl) (by decide) ?_
      refine jr_aload_n CC (jd ddX11_looks 75 rfl) 2 rfl ?_
      refine jr_iconst (v := 1) CC (jd ddX11_looks 76 rfl) (by decide) ?_
      refine jr_put CC (jd ddX11_looks 77 rfl) (jf_X11_71 CC) 0 rfl rfl rfl (Nat.le_of_ble_eq_true rfl) ?_
      refine jr_ws [(m0, .inr (10, jmdl (upd (upd R 9 (mEr R v1 (mE R v1))) 6 1) mb))] rfl ?_
      refine jr_aload_n CC (jd ddX11_looks 78 rfl) 2 rfl ?_
      refine jr_iload_n CC (jd ddX11_looks 79 rfl) 3 rfl ?_
      refine jr_put CC (jd ddX11_looks 80 rfl) (jf_X11_121 CC) 0 rfl rfl rfl (Nat.le_of_ble_eq_true rfl) ?_
      refine jr_ws [(m0, .inr (10, jmdl (upd (upd (upd R 9 (mEr R v1 (mE R v1))) 6 1) 7 a) mb))] rfl ?_
      refine jr_aload_n CC (jd ddX11_looks 81 rfl) 2 rfl ?_
      refine jr_iload_n CC (jd ddX11_looks 82 rfl) 4 rfl ?_
      refine jr_put CC (jd ddX11_looks 83 rfl) (jf_X11_124 CC) 0 rfl rfl rfl (Nat.le_of_ble_eq_true rfl) ?_
      refine jr_ws [(m0, .inr (10, jmdl (upd (upd (upd (upd R 9 (mEr R v1 (mE R v1))) 6 1) 7 a) 8 b) mb))] rfl ?_
      refine jr_aload_n CC (jd ddX11_looks 84 rfl) 2 rfl ?_
      refine jr_pc (pc' := 189) rfl ?_
      refine jr_dup CC (jd ddX11_looks 85 rfl) rfl ?_
      refine jr_get (v := .int (R 16)) CC (jd ddX11_looks 86 rfl) (jf_X11_89 CC) 0 rfl rfl ?_
      refine jr_iconst (v := 1) CC (jd ddX11_looks 87 rfl) (by decide) ?_
      refine jr_iadd CC (jd ddX11_looks 88 rfl) ?_
      refine jr_put CC (jd ddX11_looks 89 rfl) (jf_X11_89 CC) 0 rfl rfl rfl (Nat.le_of_ble_eq_true rfl) ?_
      refine jr_ws [(m0, .inr (10, jmdl (upd (upd (upd (upd (upd R 9 (mEr R v1 (mE R v1))) 6 1) 7 a) 8 b) 16 ((R 16) + 1)) mb))] rfl ?_
      refine jr_iload CC (jd ddX11_looks 90 rfl) 0 rfl ?_
      exact jr_zret (jb01n (mE01 _ _)) CC MM (jd ddX11_looks 91 rfl) rfl (by decide) (by decide) (by have er : mR R a b = (mE R v1) := (by simp [mR, e3, c4]); have ew : mG R a b = (upd (upd (upd (upd (upd R 9 (mEr R v1 (mE R v1))) 6 1) 7 a) 8 b) 16 ((R 16) + 1)) := (by simp [mG, mG0, pk_un, e3, c4]); rw [er, ew]; exact ⟨rfl, rfl⟩)
    refine (Decidable.em (R 0 = 1)).elim (fun c5 => ?_) (fun c5 => ?_)
    · refine jr_tabIn 54 CC (jd ddX11_looks 9 rfl) (by rw [c5]; decide) (by rw [c5]; decide) (by rw [c5]; rfl) (by decide) ?_
      refine jr_aload_n CC (jd ddX11_looks 15 rfl) 1 rfl ?_
      have hJ7 : ∀ v6 : Int32, mWi R v1 = v6 → J p l e { frames := 1, cells := 0, slots := 0, locals := 25 } s m args below meth c D A 5 Q [(m0, .inr (10, jmdl R mb))] [(3, .int v1), (0, .ref m0), (1, .int a), (2, .int b)] 68 [.int v6, .ref m0] 0 0 := by
        intro v6 e8
        have bv6 : v6 = 0 ∨ v6 = 1 := e8 ▸ (mWi01 _ _)
        have hJ10 : ∀ v9 : Int32, mWs R v6 = v9 → J p l e { frames := 1, cells := 0, slots := 0, locals := 25 } s m args below meth c D A 5 Q [(m0, .inr (10, jmdl R mb))] [(3, .int v1), (0, .ref m0), (1, .int a), (2, .int b)] 80 [.int v9, .ref m0] 0 0 := by
          intro v9 e11
          have bv9 : v9 = 0 ∨ v9 = 1 := e11 ▸ (mWs01 _ _)
          refine jr_iconst (v := 0) CC (jd ddX11_looks 29 rfl) (by decide) ?_
          refine jr_callV (q0 := 0) (rest := []) [.int v9, .int 0] CC (jd ddX11_looks 30 rfl) (jy_X11_133 CC) (k_X11_isBehind l t hfl m0 mb R v9 0 hB (by first | assumption | omega | decide)) [0] rfl (by decide) rfl rfl rfl rfl (by decide) (Nat.le_of_ble_eq_true rfl) (by rintro v u h; rcases h with ⟨rfl, rfl⟩ <;> exact (show ([m0] : List Nat) = [m0] from rfl)) (fun _ _ h => h.elim) (fun _ _ h => h.elim) (fun v u h => ?_)
          rcases h with ⟨rfl, rfl⟩
          refine jr_norm [(m0, .inr (10, jmdl (mBg R v9 0) mb))] [.int (mBf R v9)] 84 0 0 rfl rfl rfl rfl rfl ?_
          have hJ13 : ∀ v12 : Int32, mWr R v9 = v12 → J p l e { frames := 1, cells := 0, slots := 0, locals := 25 } s m args below meth c D A 5 Q [(m0, .inr (10, jmdl (mBg R v9 0) mb))] [(3, .int v1), (0, .ref m0), (1, .int a), (2, .int b)] 110 [.int v12] 0 0 := by
            intro v12 e14
            have bv12 : v12 = 0 ∨ v12 = 1 := e14 ▸ (mWr01 _ _)
            refine jr_istore [(4, .int v12), (3, .int v1), (0, .ref m0), (1, .int a), (2, .int b)] CC (jd ddX11_looks 43 rfl) (by decide) rfl ?_
            refine jr_goto 173 CC (jd ddX11_looks 44 rfl) (by decide) ?_
            refine jr_aload_n CC (jd ddX11_looks 75 rfl) 2 rfl ?_
            refine jr_iconst (v := 1) CC (jd ddX11_looks 76 rfl) (by decide) ?_
            refine jr_put CC (jd ddX11_looks 77 rfl) (jf_X11_71 CC) 0 rfl rfl rfl (Nat.le_of_ble_eq_true rfl) ?_
            refine jr_ws [(m0, .inr (10, jmdl (upd (mBg R v9 0) 6 1) mb))] rfl ?_
            refine jr_aload_n CC (jd ddX11_looks 78 rfl) 2 rfl ?_
            refine jr_iload_n CC (jd ddX11_looks 79 rfl) 3 rfl ?_
            refine jr_put CC (jd ddX11_looks 80 rfl) (jf_X11_121 CC) 0 rfl rfl rfl (Nat.le_of_ble_eq_true rfl) ?_
            refine jr_ws [(m0, .inr (10, jmdl (upd (upd (mBg R v9 0) 6 1) 7 a) mb))] rfl ?_
            refine jr_aload_n CC (jd ddX11_looks 81 rfl) 2 rfl ?_
            refine jr_iload_n CC (jd ddX11_looks 82 rfl) 4 rfl ?_
            refine jr_put CC (jd ddX11_looks 83 rfl) (jf_X11_124 CC) 0 rfl rfl rfl (Nat.le_of_ble_eq_true rfl) ?_
            refine jr_ws [(m0, .inr (10, jmdl (upd (upd (upd (mBg R v9 0) 6 1) 7 a) 8 b) mb))] rfl ?_
            refine jr_aload_n CC (jd ddX11_looks 84 rfl) 2 rfl ?_
            refine jr_pc (pc' := 189) rfl ?_
            refine jr_dup CC (jd ddX11_looks 85 rfl) rfl ?_
            refine jr_get (v := .int ((mBg R v9 0) 16)) CC (jd ddX11_looks 86 rfl) (jf_X11_89 CC) 0 rfl rfl ?_
            refine jr_iconst (v := 1) CC (jd ddX11_looks 87 rfl) (by decide) ?_
            refine jr_iadd CC (jd ddX11_looks 88 rfl) ?_
            refine jr_put CC (jd ddX11_looks 89 rfl) (jf_X11_89 CC) 0 rfl rfl rfl (Nat.le_of_ble_eq_true rfl) ?_
            refine jr_ws [(m0, .inr (10, jmdl (upd (upd (upd (upd (mBg R v9 0) 6 1) 7 a) 8 b) 16 (((mBg R v9 0) 16) + 1)) mb))] rfl ?_
            refine jr_iload CC (jd ddX11_looks 90 rfl) 0 rfl ?_
            exact jr_zret (jb01n bv12) CC MM (jd ddX11_looks 91 rfl) rfl (by decide) (by decide) (by have er : mR R a b = v12 := (by simp [mR, e3, c4, c5, e8, e11, e14]); have ew : mG R a b = (upd (upd (upd (upd (mBg R v9 0) 6 1) 7 a) 8 b) 16 (((mBg R v9 0) 16) + 1)) := (by simp [mG, mG0, pk_un, e3, c4, c5, e8, e11, e14]); rw [er, ew]; exact ⟨rfl, rfl⟩)
          refine jr_norm [(m0, .inr (10, jmdl (mBg R v9 0) mb))] [.int (mBf R v9)] 84 0 0 rfl rfl rfl rfl rfl ?_
          refine jr_if_eq 109 CC (jd ddX11_looks 31 rfl) (by decide) (fun c15 => ?_) (fun c15 => ?_)
          · refine jr_iconst (v := 0) CC (jd ddX11_looks 42 rfl) (by decide) ?_
            exact hJ13 _ (by first | (simp [mV, mWi, mWs, mRt, mWr, mRr, mIn_one, c15]; done))
          · refine jr_aload_n CC (jd ddX11_looks 32 rfl) 1 rfl ?_
            refine jr_get (v := .int ((mBg R v9 0) 11)) CC (jd ddX11_looks 33 rfl) (jf_X11_118 CC) 0 rfl rfl ?_
            refine jr_aload_n CC (jd ddX11_looks 34 rfl) 1 rfl ?_
            refine jr_get (v := .int ((mBg R v9 0) 3)) CC (jd ddX11_looks 35 rfl) (jf_X11_98 CC) 0 rfl rfl ?_
            refine jr_aload_n CC (jd ddX11_looks 36 rfl) 1 rfl ?_
            refine jr_get (v := .int ((mBg R v9 0) 4)) CC (jd ddX11_looks 37 rfl) (jf_X11_101 CC) 0 rfl rfl ?_
            refine jr_callS (rest := []) [.int ((mBg R v9 0) 11), .int ((mBg R v9 0) 3), .int ((mBg R v9 0) 4)] CC (jd ddX11_looks 38 rfl) (jy_X11_67 CC) (k_X11_isIn l t hfl ((mBg R v9 0) 11) ((mBg R v9 0) 3) ((mBg R v9 0) 4)) [] rfl (by decide) rfl rfl (by decide) (Nat.le_of_ble_eq_true rfl) (by rintro v u h; rcases h with ⟨rfl, rfl⟩ <;> rfl) (fun _ _ h => h.elim) (fun _ _ h => h.elim) (fun v u h => ?_)
            rcases h with ⟨rfl, rfl⟩
            refine jr_norm [(m0, .inr (10, jmdl (mBg R v9 0) mb))] [.int (mIn ((mBg R v9 0) 11) ((mBg R v9 0) 3) ((mBg R v9 0) 4))] 102 0 0 rfl rfl rfl rfl rfl ?_
            refine jr_if_eq 109 CC (jd ddX11_looks 39 rfl) (by decide) (fun c16 => ?_) (fun c16 => ?_)
            · refine jr_iconst (v := 0) CC (jd ddX11_looks 42 rfl) (by decide) ?_
              exact hJ13 _ (by first | (simp [mV, mWi, mWs, mRt, mWr, mRr, mIn_one, c15, c16]; done))
            · refine jr_iconst (v := 1) CC (jd ddX11_looks 40 rfl) (by decide) ?_
              refine jr_goto 110 CC (jd ddX11_looks 41 rfl) (by decide) ?_
              exact hJ13 _ (by first | (simp [mV, mWi, mWs, mRt, mWr, mRr, mIn_one, c15, c16]; done))
        refine jr_norm [(m0, .inr (10, jmdl R mb))] [.int v6, .ref m0] 68 0 0 rfl rfl rfl rfl rfl ?_
        refine jr_aload_n CC (jd ddX11_looks 23 rfl) 1 rfl ?_
        refine jr_get (v := .int (R 5)) CC (jd ddX11_looks 24 rfl) (jf_X11_13 CC) 0 rfl rfl ?_
        refine jr_icmp_ne 79 CC (jd ddX11_looks 25 rfl) (by decide) (fun c17 => ?_) (fun c17 => ?_)
        · refine jr_iconst (v := 0) CC (jd ddX11_looks 28 rfl) (by decide) ?_
          exact hJ10 _ (by first | (simp [mV, mWi, mWs, mRt, mWr, mRr, mIn_one, c17]; done))
        · refine jr_iconst (v := 1) CC (jd ddX11_looks 26 rfl) (by decide) ?_
          refine jr_goto 80 CC (jd ddX11_looks 27 rfl) (by decide) ?_
          exact hJ10 _ (by first | (simp [mV, mWi, mWs, mRt, mWr, mRr, mIn_one, c17]; done))
      refine jr_norm [(m0, .inr (10, jmdl R mb))] [.ref m0] 55 0 0 rfl rfl rfl rfl rfl ?_
      refine jr_iload_n CC (jd ddX11_looks 16 rfl) 0 rfl ?_
      refine jr_aload_n CC (jd ddX11_looks 17 rfl) 1 rfl ?_
      refine jr_get (v := .int (R 2)) CC (jd ddX11_looks 18 rfl) (jf_X11_95 CC) 0 rfl rfl ?_
      refine jr_icmp_le 67 CC (jd ddX11_looks 19 rfl) (by decide) (fun c18 => ?_) (fun c18 => ?_)
      · refine jr_iconst (v := 0) CC (jd ddX11_looks 22 rfl) (by decide) ?_
        exact hJ7 _ (by first | (simp [mV, mWi, mWs, mRt, mWr, mRr, mIn_one, c18]; done))
      · refine jr_iconst (v := 1) CC (jd ddX11_looks 20 rfl) (by decide) ?_
        refine jr_goto 68 CC (jd ddX11_looks 21 rfl) (by decide) ?_
        exact hJ7 _ (by first | (simp [mV, mWi, mWs, mRt, mWr, mRr, mIn_one, c18]; done))
    refine (Decidable.em (R 0 = 2)).elim (fun c19 => ?_) (fun c19 => ?_)
    · refine jr_tabIn 115 CC (jd ddX11_looks 9 rfl) (by rw [c19]; decide) (by rw [c19]; decide) (by rw [c19]; rfl) (by decide) ?_
      refine jr_aload_n CC (jd ddX11_looks 45 rfl) 1 rfl ?_
      have hJ21 : ∀ v20 : Int32, mWi R v1 = v20 → J p l e { frames := 1, cells := 0, slots := 0, locals := 25 } s m args below meth c D A 5 Q [(m0, .inr (10, jmdl R mb))] [(3, .int v1), (0, .ref m0), (1, .int a), (2, .int b)] 129 [.int v20, .ref m0] 0 0 := by
        intro v20 e22
        have bv20 : v20 = 0 ∨ v20 = 1 := e22 ▸ (mWi01 _ _)
        have hJ24 : ∀ v23 : Int32, mRt R v1 = v23 → J p l e { frames := 1, cells := 0, slots := 0, locals := 25 } s m args below meth c D A 5 Q [(m0, .inr (10, jmdl R mb))] [(3, .int v1), (0, .ref m0), (1, .int a), (2, .int b)] 142 [.int v23, .int v20, .ref m0] 0 0 := by
          intro v23 e25
          have bv23 : v23 = 0 ∨ v23 = 1 := e25 ▸ (mRt01 _ _)
          refine jr_callV (q0 := 0) (rest := []) [.int v20, .int v23] CC (jd ddX11_looks 60 rfl) (jy_X11_133 CC) (k_X11_isBehind l t hfl m0 mb R v20 v23 hB (by first | assumption | omega | decide)) [0] rfl (by decide) rfl rfl rfl rfl (by decide) (Nat.le_of_ble_eq_true rfl) (by rintro v u h; rcases h with ⟨rfl, rfl⟩ <;> exact (show ([m0] : List Nat) = [m0] from rfl)) (fun _ _ h => h.elim) (fun _ _ h => h.elim) (fun v u h => ?_)
          rcases h with ⟨rfl, rfl⟩
          refine jr_norm [(m0, .inr (10, jmdl (mBg R v20 v23) mb))] [.int (mBf R v20)] 145 0 0 rfl rfl rfl rfl rfl ?_
          have hJ27 : ∀ v26 : Int32, mRr R v20 v23 = v26 → J p l e { frames := 1, cells := 0, slots := 0, locals := 25 } s m args below meth c D A 5 Q [(m0, .inr (10, jmdl (mBg R v20 v23) mb))] [(3, .int v1), (0, .ref m0), (1, .int a), (2, .int b)] 160 [.int v26] 0 0 := by
            intro v26 e28
            have bv26 : v26 = 0 ∨ v26 = 1 := e28 ▸ (mRr01 _ _ _)
            refine jr_istore [(4, .int v26), (3, .int v1), (0, .ref m0), (1, .int a), (2, .int b)] CC (jd ddX11_looks 68 rfl) (by decide) rfl ?_
            refine jr_goto 173 CC (jd ddX11_looks 69 rfl) (by decide) ?_
            refine jr_aload_n CC (jd ddX11_looks 75 rfl) 2 rfl ?_
            refine jr_iconst (v := 1) CC (jd ddX11_looks 76 rfl) (by decide) ?_
            refine jr_put CC (jd ddX11_looks 77 rfl) (jf_X11_71 CC) 0 rfl rfl rfl (Nat.le_of_ble_eq_true rfl) ?_
            refine jr_ws [(m0, .inr (10, jmdl (upd (mBg R v20 v23) 6 1) mb))] rfl ?_
            refine jr_aload_n CC (jd ddX11_looks 78 rfl) 2 rfl ?_
            refine jr_iload_n CC (jd ddX11_looks 79 rfl) 3 rfl ?_
            refine jr_put CC (jd ddX11_looks 80 rfl) (jf_X11_121 CC) 0 rfl rfl rfl (Nat.le_of_ble_eq_true rfl) ?_
            refine jr_ws [(m0, .inr (10, jmdl (upd (upd (mBg R v20 v23) 6 1) 7 a) mb))] rfl ?_
            refine jr_aload_n CC (jd ddX11_looks 81 rfl) 2 rfl ?_
            refine jr_iload_n CC (jd ddX11_looks 82 rfl) 4 rfl ?_
            refine jr_put CC (jd ddX11_looks 83 rfl) (jf_X11_124 CC) 0 rfl rfl rfl (Nat.le_of_ble_eq_true rfl) ?_
            refine jr_ws [(m0, .inr (10, jmdl (upd (upd (upd (mBg R v20 v23) 6 1) 7 a) 8 b) mb))] rfl ?_
            refine jr_aload_n CC (jd ddX11_looks 84 rfl) 2 rfl ?_
            refine jr_pc (pc' := 189) rfl ?_
            refine jr_dup CC (jd ddX11_looks 85 rfl) rfl ?_
            refine jr_get (v := .int ((mBg R v20 v23) 16)) CC (jd ddX11_looks 86 rfl) (jf_X11_89 CC) 0 rfl rfl ?_
            refine jr_iconst (v := 1) CC (jd ddX11_looks 87 rfl) (by decide) ?_
            refine jr_iadd CC (jd ddX11_looks 88 rfl) ?_
            refine jr_put CC (jd ddX11_looks 89 rfl) (jf_X11_89 CC) 0 rfl rfl rfl (Nat.le_of_ble_eq_true rfl) ?_
            refine jr_ws [(m0, .inr (10, jmdl (upd (upd (upd (upd (mBg R v20 v23) 6 1) 7 a) 8 b) 16 (((mBg R v20 v23) 16) + 1)) mb))] rfl ?_
            refine jr_iload CC (jd ddX11_looks 90 rfl) 0 rfl ?_
            exact jr_zret (jb01n bv26) CC MM (jd ddX11_looks 91 rfl) rfl (by decide) (by decide) (by have er : mR R a b = v26 := (by simp [mR, e3, c4, c5, c19, e22, e25, e28]); have ew : mG R a b = (upd (upd (upd (upd (mBg R v20 v23) 6 1) 7 a) 8 b) 16 (((mBg R v20 v23) 16) + 1)) := (by simp [mG, mG0, pk_un, e3, c4, c5, c19, e22, e25, e28]); rw [er, ew]; exact ⟨rfl, rfl⟩)
          refine jr_norm [(m0, .inr (10, jmdl (mBg R v20 v23) mb))] [.int (mBf R v20)] 145 0 0 rfl rfl rfl rfl rfl ?_
          refine jr_if_eq 159 CC (jd ddX11_looks 61 rfl) (by decide) (fun c29 => ?_) (fun c29 => ?_)
          · refine jr_iconst (v := 0) CC (jd ddX11_looks 67 rfl) (by decide) ?_
            exact hJ27 _ (by first | (simp [mV, mWi, mWs, mRt, mWr, mRr, mIn_one, c29]; done))
          · refine jr_aload_n CC (jd ddX11_looks 62 rfl) 1 rfl ?_
            refine jr_get (v := .int ((mBg R v20 v23) 13)) CC (jd ddX11_looks 63 rfl) (jf_X11_83 CC) 0 rfl rfl ?_
            refine jr_if_ne 159 CC (jd ddX11_looks 64 rfl) (by decide) (fun c30 => ?_) (fun c30 => ?_)
            · refine jr_iconst (v := 0) CC (jd ddX11_looks 67 rfl) (by decide) ?_
              exact hJ27 _ (by first | (simp [mV, mWi, mWs, mRt, mWr, mRr, mIn_one, c29, c30]; done))
            · refine jr_iconst (v := 1) CC (jd ddX11_looks 65 rfl) (by decide) ?_
              refine jr_goto 160 CC (jd ddX11_looks 66 rfl) (by decide) ?_
              exact hJ27 _ (by first | (simp [mV, mWi, mWs, mRt, mWr, mRr, mIn_one, c29, c30]; done))
        refine jr_norm [(m0, .inr (10, jmdl R mb))] [.int v20, .ref m0] 129 0 0 rfl rfl rfl rfl rfl ?_
        refine jr_iload_n CC (jd ddX11_looks 53 rfl) 0 rfl ?_
        refine jr_aload_n CC (jd ddX11_looks 54 rfl) 1 rfl ?_
        refine jr_get (v := .int (R 3)) CC (jd ddX11_looks 55 rfl) (jf_X11_98 CC) 0 rfl rfl ?_
        refine jr_icmp_le 141 CC (jd ddX11_looks 56 rfl) (by decide) (fun c31 => ?_) (fun c31 => ?_)
        · refine jr_iconst (v := 0) CC (jd ddX11_looks 59 rfl) (by decide) ?_
          exact hJ24 _ (by first | (simp [mV, mWi, mWs, mRt, mWr, mRr, mIn_one, c31]; done))
        · refine jr_iconst (v := 1) CC (jd ddX11_looks 57 rfl) (by decide) ?_
          refine jr_goto 142 CC (jd ddX11_looks 58 rfl) (by decide) ?_
          exact hJ24 _ (by first | (simp [mV, mWi, mWs, mRt, mWr, mRr, mIn_one, c31]; done))
      refine jr_norm [(m0, .inr (10, jmdl R mb))] [.ref m0] 116 0 0 rfl rfl rfl rfl rfl ?_
      refine jr_iload_n CC (jd ddX11_looks 46 rfl) 0 rfl ?_
      refine jr_aload_n CC (jd ddX11_looks 47 rfl) 1 rfl ?_
      refine jr_get (v := .int (R 2)) CC (jd ddX11_looks 48 rfl) (jf_X11_95 CC) 0 rfl rfl ?_
      refine jr_icmp_le 128 CC (jd ddX11_looks 49 rfl) (by decide) (fun c32 => ?_) (fun c32 => ?_)
      · refine jr_iconst (v := 0) CC (jd ddX11_looks 52 rfl) (by decide) ?_
        exact hJ21 _ (by first | (simp [mV, mWi, mWs, mRt, mWr, mRr, mIn_one, c32]; done))
      · refine jr_iconst (v := 1) CC (jd ddX11_looks 50 rfl) (by decide) ?_
        refine jr_goto 129 CC (jd ddX11_looks 51 rfl) (by decide) ?_
        exact hJ21 _ (by first | (simp [mV, mWi, mWs, mRt, mWr, mRr, mIn_one, c32]; done))
    refine jr_tabOut 165 CC (jd ddX11_looks 9 rfl) (jsw2 c4 c5 c19) (by decide) ?_
    refine jr_aload_n CC (jd ddX11_looks 70 rfl) 1 rfl ?_
    refine jr_iload_n CC (jd ddX11_looks 71 rfl) 2 rfl ?_
    refine jr_iload_n CC (jd ddX11_looks 72 rfl) 3 rfl ?_
    refine jr_callV (q0 := 0) (rest := []) [.int a, .int b] CC (jd ddX11_looks 73 rfl) (jy_X11_137 CC) (k_X11_isSequence l t hfl m0 mb R a b) [0] rfl (by decide) rfl rfl rfl rfl (by decide) (Nat.le_of_ble_eq_true rfl) (by rintro v u h; rcases h with ⟨rfl, rfl⟩ <;> exact (show ([m0] : List Nat) = [m0] from rfl)) (fun _ _ h => h.elim) (fun _ _ h => h.elim) (fun v u h => ?_)
    rcases h with ⟨rfl, rfl⟩
    refine jr_norm [(m0, .inr (10, jmdl (upd (upd (upd R 15 (mSr R (mSa R a))) 14 (mSm R (mSa R a))) 14 (mSz R (mSa R a) (mSb R b))) mb))] [.int (mSf R (mSa R a) (mSb R b))] 171 0 0 rfl rfl rfl rfl rfl ?_
    refine jr_istore [(4, .int (mSf R (mSa R a) (mSb R b))), (3, .int v1), (0, .ref m0), (1, .int a), (2, .int b)] CC (jd ddX11_looks 74 rfl) (by decide) rfl ?_
    refine jr_aload_n CC (jd ddX11_looks 75 rfl) 2 rfl ?_
    refine jr_iconst (v := 1) CC (jd ddX11_looks 76 rfl) (by decide) ?_
    refine jr_put CC (jd ddX11_looks 77 rfl) (jf_X11_71 CC) 0 rfl rfl rfl (Nat.le_of_ble_eq_true rfl) ?_
    refine jr_ws [(m0, .inr (10, jmdl (upd (upd (upd (upd R 15 (mSr R (mSa R a))) 14 (mSm R (mSa R a))) 14 (mSz R (mSa R a) (mSb R b))) 6 1) mb))] rfl ?_
    refine jr_aload_n CC (jd ddX11_looks 78 rfl) 2 rfl ?_
    refine jr_iload_n CC (jd ddX11_looks 79 rfl) 3 rfl ?_
    refine jr_put CC (jd ddX11_looks 80 rfl) (jf_X11_121 CC) 0 rfl rfl rfl (Nat.le_of_ble_eq_true rfl) ?_
    refine jr_ws [(m0, .inr (10, jmdl (upd (upd (upd (upd (upd R 15 (mSr R (mSa R a))) 14 (mSm R (mSa R a))) 14 (mSz R (mSa R a) (mSb R b))) 6 1) 7 a) mb))] rfl ?_
    refine jr_aload_n CC (jd ddX11_looks 81 rfl) 2 rfl ?_
    refine jr_iload_n CC (jd ddX11_looks 82 rfl) 4 rfl ?_
    refine jr_put CC (jd ddX11_looks 83 rfl) (jf_X11_124 CC) 0 rfl rfl rfl (Nat.le_of_ble_eq_true rfl) ?_
    refine jr_ws [(m0, .inr (10, jmdl (upd (upd (upd (upd (upd (upd R 15 (mSr R (mSa R a))) 14 (mSm R (mSa R a))) 14 (mSz R (mSa R a) (mSb R b))) 6 1) 7 a) 8 b) mb))] rfl ?_
    refine jr_pc (pc' := 188) rfl ?_
    refine jr_aload_n CC (jd ddX11_looks 84 rfl) 2 rfl ?_
    refine jr_dup CC (jd ddX11_looks 85 rfl) rfl ?_
    refine jr_get (v := .int (R 16)) CC (jd ddX11_looks 86 rfl) (jf_X11_89 CC) 0 rfl rfl ?_
    refine jr_iconst (v := 1) CC (jd ddX11_looks 87 rfl) (by decide) ?_
    refine jr_iadd CC (jd ddX11_looks 88 rfl) ?_
    refine jr_put CC (jd ddX11_looks 89 rfl) (jf_X11_89 CC) 0 rfl rfl rfl (Nat.le_of_ble_eq_true rfl) ?_
    refine jr_ws [(m0, .inr (10, jmdl (upd (upd (upd (upd (upd (upd (upd R 15 (mSr R (mSa R a))) 14 (mSm R (mSa R a))) 14 (mSz R (mSa R a) (mSb R b))) 6 1) 7 a) 8 b) 16 ((R 16) + 1)) mb))] rfl ?_
    refine jr_iload CC (jd ddX11_looks 90 rfl) 0 rfl ?_
    exact jr_zret (jb01n (mSf01 _ _ _)) CC MM (jd ddX11_looks 91 rfl) rfl (by decide) (by decide) (by have er : mR R a b = (mSf R (mSa R a) (mSb R b)) := (by simp [mR, e3, c4, c5, c19]); have ew : mG R a b = (upd (upd (upd (upd (upd (upd (upd R 15 (mSr R (mSa R a))) 14 (mSm R (mSa R a))) 14 (mSz R (mSa R a) (mSb R b))) 6 1) 7 a) 8 b) 16 ((R 16) + 1)) := (by simp [mG, mG0, pk_un, e3, c4, c5, c19]); rw [er, ew]; exact ⟨rfl, rfl⟩)
  refine jr_norm [(m0, .inr (10, jmdl R mb))] [] 0 0 0 rfl rfl rfl rfl rfl ?_
  refine jr_aload_n CC (jd ddX11_looks 0 rfl) 0 rfl ?_
  refine jr_get (v := .int (R 1)) CC (jd ddX11_looks 1 rfl) (jf_X11_92 CC) 0 rfl rfl ?_
  refine jr_if_ne 11 CC (jd ddX11_looks 2 rfl) (by decide) (fun c33 => ?_) (fun c33 => ?_)
  · refine jr_iload_n CC (jd ddX11_looks 5 rfl) 2 rfl ?_
    exact hJ2 _ (by first | (simp [mV, mWi, mWs, mRt, mWr, mRr, mIn_one, c33]; done))
  · refine jr_iload_n CC (jd ddX11_looks 3 rfl) 1 rfl ?_
    refine jr_goto 12 CC (jd ddX11_looks 4 rfl) (by decide) ?_
    exact hJ2 _ (by first | (simp [mV, mWi, mWs, mRt, mWr, mRr, mIn_one, c33]; done))
theorem mR01 (R : Nat → Int32) (a b : Int32) : mR R a b = 0 ∨ mR R a b = 1 := by
  unfold mR
  split
  · exact mE01 _ _
  · split
    · exact mWr01 _ _
    · split
      · exact mRr01 _ _ _
      · exact mSf01 _ _ _
theorem mBg_k (R : Nat → Int32) (w t : Int32) (k : Nat) (h : k < 9 ∨ 14 ≤ k) : mBg R w t k = R k := by
  unfold mBg
  (repeat' split) <;> simp [upd, show k ≠ 11 by omega, show k ≠ 10 by omega, show k ≠ 12 by omega, show k ≠ 13 by omega]
theorem mG_k (R : Nat → Int32) (a b : Int32) (k : Nat) (h : k < 6 ∨ 17 ≤ k) : mG R a b k = R k := by
  unfold mG
  rw [pk_un (by omega), pk_un (by omega), pk_un (by omega), pk_un (by omega)]
  unfold mG0
  (repeat' split)
  · rw [pk_un (by omega)]
  · rw [mBg_k _ _ _ _ (by omega)]
  · rw [mBg_k _ _ _ _ (by omega)]
  · rw [pk_un (by omega), pk_un (by omega), pk_un (by omega)]
theorem mOv01 (R : Nat → Int32) (t : Int32) : mOv R t = 0 ∨ mOv R t = 1 := by
  unfold mOv; (repeat' split) <;> first | exact Or.inl rfl | exact Or.inr rfl
theorem mEr01 (R : Nat → Int32) (v f : Int32) : mEr R v f = 0 ∨ mEr R v f = 1 := by
  unfold mEr; (repeat' split) <;> first | exact Or.inl rfl | exact Or.inr rfl
theorem mSz01 (R : Nat → Int32) (v f : Int32) : mSz R v f = 0 ∨ mSz R v f = 1 := by
  unfold mSz; (repeat' split) <;> first | exact Or.inl rfl | exact Or.inr rfl
theorem mBool_u {R : Nat → Int32} (h : mBool R) (k : Nat) (v : Int32) (hk : k ≠ 5 ∧ k ≠ 6 ∧ k ≠ 9 ∧ k ≠ 12 ∧ k ≠ 13 ∧ k ≠ 14 ∧ k ≠ 20 ∧ k ≠ 21 ∧ k ≠ 22 ∨ v = 0 ∨ v = 1) : mBool (upd R k v) := by
  obtain ⟨h1, h2, h3, h4, h5, h6, h7, h8, h9⟩ := h
  have hu : ∀ j, (R j = 0 ∨ R j = 1) → (k ≠ j ∨ v = 0 ∨ v = 1) → (upd R k v j = 0 ∨ upd R k v j = 1) := by
    intro j hj hkj
    unfold upd
    split
    · rename_i e
      rcases hkj with q | q
      · exact absurd e.symm q
      · exact q
    · exact hj
  rcases hk with ⟨a1, a2, a3, a4, a5, a6, a7, a8, a9⟩ | hv
  · exact ⟨hu _ h1 (Or.inl a1), hu _ h2 (Or.inl a2), hu _ h3 (Or.inl a3), hu _ h4 (Or.inl a4), hu _ h5 (Or.inl a5), hu _ h6 (Or.inl a6), hu _ h7 (Or.inl a7), hu _ h8 (Or.inl a8), hu _ h9 (Or.inl a9)⟩
  · exact ⟨hu _ h1 (Or.inr hv), hu _ h2 (Or.inr hv), hu _ h3 (Or.inr hv), hu _ h4 (Or.inr hv), hu _ h5 (Or.inr hv), hu _ h6 (Or.inr hv), hu _ h7 (Or.inr hv), hu _ h8 (Or.inr hv), hu _ h9 (Or.inr hv)⟩
theorem mBool_g {R : Nat → Int32} (h : mBool R) {t : Int32} (w : Int32) (ht : t = 0 ∨ t = 1) : mBool (mBg R w t) := by
  unfold mBg
  (repeat' split)
  · exact mBool_u (mBool_u h 11 _ (Or.inl (by decide))) 10 _ (Or.inl (by decide))
  · exact mBool_u (mBool_u (mBool_u h 12 _ (Or.inr h.2.1)) 13 _ (Or.inr ht)) 10 _ (Or.inl (by decide))
  · exact mBool_u (mBool_u (mBool_u h 12 _ (Or.inr h.2.2.2.1)) 13 _ (Or.inr (mOv01 _ _))) 10 _ (Or.inl (by decide))
theorem mBool_G {R : Nat → Int32} (h : mBool R) (a b : Int32) : mBool (mG R a b) := by
  unfold mG
  have h0 : mBool (mG0 R a b) := by
    unfold mG0
    (repeat' split)
    · exact mBool_u h 9 _ (Or.inr (mEr01 _ _ _))
    · exact mBool_g h _ (Or.inl rfl)
    · exact mBool_g h _ (mRt01 _ _)
    · exact mBool_u (mBool_u (mBool_u h 15 _ (Or.inl (by decide))) 14 _ (Or.inr (by unfold mSm; (repeat' split) <;> first | exact Or.inl rfl | exact Or.inr rfl))) 14 _ (Or.inr (mSz01 _ _ _))
  exact mBool_u (mBool_u (mBool_u (mBool_u h0 6 1 (Or.inr (Or.inr rfl))) 7 _ (Or.inl (by decide))) 8 _ (Or.inl (by decide))) 16 _ (Or.inl (by decide))
/-! records -/
def mfnd (F1 MK LO HI : Nat → Int32) (s n : Nat) : Nat → Int32
  | 0 => -1
  | k + 1 => if MK k = 0 then mfnd F1 MK LO HI s n k else if mIn (F1 ((s - n + k) % 64)) (LO k) (HI k) = 0 then (if mfnd F1 MK LO HI s n k < 0 then nI k else mfnd F1 MK LO HI s n k) else mfnd F1 MK LO HI s n k
def mcau (F1 F2 : Nat → Int32) (r s n k : Nat) (C : Nat → Int32) : Nat → Int32 := fun j => if 98 * r ≤ j ∧ j < 98 * r + k then F1 ((s - n + (j - 98 * r)) % 64) else if 98 * r + 49 ≤ j ∧ j < 98 * r + 49 + k then F2 ((s - n + (j - (98 * r + 49))) % 64) else C j
theorem mcau_0 (F1 F2 : Nat → Int32) (r s n : Nat) (C : Nat → Int32) : mcau F1 F2 r s n 0 C = C := by
  funext j; unfold mcau; rw [if_neg (by omega), if_neg (by omega)]
theorem mcau_s (F1 F2 : Nat → Int32) (r s n k : Nat) (C : Nat → Int32) (hk : k < 49) : upd (upd (mcau F1 F2 r s n k C) (98 * r + k) (F1 ((s - n + k) % 64))) (98 * r + 49 + k) (F2 ((s - n + k) % 64)) = mcau F1 F2 r s n (k + 1) C := by
  funext j
  unfold mcau
  by_cases h1 : j = 98 * r + k
  · subst h1
    rw [pk_un (by omega), pk_us, if_pos (by omega), show 98 * r + k - 98 * r = k by omega]
  · by_cases h2 : j = 98 * r + 49 + k
    · subst h2
      rw [pk_us, if_neg (by omega), if_pos (by omega), show 98 * r + 49 + k - (98 * r + 49) = k by omega]
    · rw [pk_un h2, pk_un h1]
      by_cases h3 : 98 * r ≤ j ∧ j < 98 * r + k
      · rw [if_pos h3, if_pos (by omega)]
      · rw [if_neg h3, if_neg (show ¬ (98 * r ≤ j ∧ j < 98 * r + (k + 1)) by omega)]
        by_cases h4 : 98 * r + 49 ≤ j ∧ j < 98 * r + 49 + k
        · rw [if_pos h4, if_pos (by omega)]
        · rw [if_neg h4, if_neg (by omega)]
def mOf (R : Nat → Int32) (r : Nat) (fd : Int32) : Int32 := if fd < 0 then R 36 else if R 35 = 0 then nI (100 * r) + fd else R 36
def mFa (R : Nat → Int32) (fd : Int32) : Int32 := if fd < 0 then R 35 + 0 else R 35 + 1
def mAr (r : Nat) : Int32 := if 8 ≤ nI (r + 1) then 0 else 1
def mFin (R : Nat → Int32) (r : Nat) (fd : Int32) : Nat → Int32 := upd (upd (upd (upd (upd R 36 (mOf R r fd)) 35 (mFa R fd)) 28 (nI (r + 1))) 21 0) 20 (mAr r)
set_option maxHeartbeats 8000000 in
set_option maxRecDepth 100000 in
theorem k_X11_completes (l : Launch) (t : Nat → ClassId) (hfl : l.stackTraces = false) (m0 : Nat) (mb : Nat → Nat) (R : Nat → Int32) (F1 : Nat → Int32) (F2 : Nat → Int32) (CU : Nat → Int32) (LN : Nat → Int32) (TG : Nat → Int32) (MK : Nat → Int32) (LO : Nat → Int32) (HI : Nat → Int32) (sn : Nat) (P : Nat) (q : Nat) (r : Nat) (hs : R 24 = nI sn) (hP : R 17 = nI P) (hq : R 18 = nI q) (hr : R 28 = nI r) (hs9 : sn < 2000000) (hP9 : P ≤ 16) (hq9 : q ≤ 32) (hr9 : r < 8) (hn9 : (P + 1 + q) ≤ sn) : jKx l t yX11_completes (Cond.code yX11_completes cX11_completes 7 none :: jWS) { frames := 1, cells := 0, slots := 0, locals := 22 } [.ref m0] [(m0, .inr (10, jmdl R mb)), ((mb 0), .inl (t 0, 64, .inl F1)), ((mb 1), .inl (t 0, 64, .inl F2)), ((mb 2), .inl (t 0, 784, .inl CU)), ((mb 3), .inl (t 0, 8, .inl LN)), ((mb 4), .inl (t 0, 8, .inl TG)), ((mb 5), .inl (t 3, 49, .inl MK)), ((mb 6), .inl (t 0, 49, .inl LO)), ((mb 7), .inl (t 0, 49, .inl HI))] (fun vv uu => (vv = none ∧ uu = [(m0, .inr (10, jmdl (mFin R r (mfnd F1 MK LO HI sn (P + 1 + q) (P + 1 + q))) mb)), ((mb 0), .inl (t 0, 64, .inl F1)), ((mb 1), .inl (t 0, 64, .inl F2)), ((mb 2), .inl (t 0, 784, .inl (mcau F1 F2 r sn (P + 1 + q) (P + 1 + q) CU))), ((mb 3), .inl (t 0, 8, .inl (upd LN r (nI (P + 1 + q))))), ((mb 4), .inl (t 0, 8, .inl (upd TG r (R 23)))), ((mb 5), .inl (t 3, 49, .inl MK)), ((mb 6), .inl (t 0, 49, .inl LO)), ((mb 7), .inl (t 0, 49, .inl HI))])) (fun _ _ => False) := by
  refine jK_of hfl (by decide +kernel) (Nat.le_of_ble_eq_true rfl) ?_
  intro p e s m args below meth c D A Q CC MM
  refine jr_norm0 [(0, .ref m0)] rfl ?_
  refine jr_aload_n CC (jd ddX11_completes 0 rfl) 0 rfl ?_
  refine jr_get (v := .int (R 17)) CC (jd ddX11_completes 1 rfl) (jf_X11_17 CC) 0 rfl rfl ?_
  refine jr_st [.int (nI P)] (jst1 hP) ?_
  refine jr_iconst (v := 1) CC (jd ddX11_completes 2 rfl) (by decide) ?_
  refine jr_iadd CC (jd ddX11_completes 3 rfl) ?_
  refine jr_st [.int (nI (P + 1))] (jst1 (nI_add P 1)) ?_
  refine jr_aload_n CC (jd ddX11_completes 4 rfl) 0 rfl ?_
  refine jr_get (v := .int (R 18)) CC (jd ddX11_completes 5 rfl) (jf_X11_20 CC) 0 rfl rfl ?_
  refine jr_st [.int (nI q), .int (nI (P + 1))] (jst1 hq) ?_
  refine jr_iadd CC (jd ddX11_completes 6 rfl) ?_
  refine jr_st [.int (nI ((P + 1) + q))] (jst1 (nI_add (P + 1) q)) ?_
  refine jr_istore_n 1 [(1, .int (nI ((P + 1) + q))), (0, .ref m0)] CC (jd ddX11_completes 7 rfl) rfl (by decide) rfl ?_
  refine jr_bipush (v := 98) CC (jd ddX11_completes 8 rfl) (by decide) ?_
  refine jr_aload_n CC (jd ddX11_completes 9 rfl) 1 rfl ?_
  refine jr_pc (pc' := 15) rfl ?_
  refine jr_get (v := .int (R 28)) CC (jd ddX11_completes 10 rfl) (jf_X11_147 CC) 0 rfl rfl ?_
  refine jr_st [.int (nI r), .int 98] (jst1 hr) ?_
  refine jr_imul CC (jd ddX11_completes 11 rfl) ?_
  refine jr_st [.int (nI (98 * r))] (jst1 (pk_mul 98 r)) ?_
  refine jr_istore_n 2 [(2, .int (nI (98 * r))), (1, .int (nI ((P + 1) + q))), (0, .ref m0)] CC (jd ddX11_completes 12 rfl) rfl (by decide) rfl ?_
  refine jr_ws [(m0, .inr (10, jmdl R mb)), ((mb 0), .inl (t 0, 64, .inl F1)), ((mb 1), .inl (t 0, 64, .inl F2)), ((mb 2), .inl (t 0, 784, .inl (mcau F1 F2 r sn (P + 1 + q) 0 CU))), ((mb 3), .inl (t 0, 8, .inl LN)), ((mb 4), .inl (t 0, 8, .inl TG)), ((mb 5), .inl (t 3, 49, .inl MK)), ((mb 6), .inl (t 0, 49, .inl LO)), ((mb 7), .inl (t 0, 49, .inl HI))] (by rw [mcau_0]) ?_
  refine jr_iconst (v := (-1)) CC (jd ddX11_completes 13 rfl) (by decide) ?_
  refine jr_istore_n 3 [(3, .int (-1)), (2, .int (nI (98 * r))), (1, .int (nI ((P + 1) + q))), (0, .ref m0)] CC (jd ddX11_completes 14 rfl) rfl (by decide) rfl ?_
  refine jr_iconst (v := 0) CC (jd ddX11_completes 15 rfl) (by decide) ?_
  refine jr_istore [(4, .int 0), (3, .int (-1)), (2, .int (nI (98 * r))), (1, .int (nI ((P + 1) + q))), (0, .ref m0)] CC (jd ddX11_completes 16 rfl) (by decide) rfl ?_
  have hL1 : ∀ (d9 : Nat) (i : Nat) (hk : i ≤ (P + 1 + q)), (P + 1 + q) - i < d9 → J p l e { frames := 1, cells := 0, slots := 0, locals := 22 } s m args below meth c D A 7 Q [(m0, .inr (10, jmdl R mb)), ((mb 0), .inl (t 0, 64, .inl F1)), ((mb 1), .inl (t 0, 64, .inl F2)), ((mb 2), .inl (t 0, 784, .inl (mcau F1 F2 r sn (P + 1 + q) i CU))), ((mb 3), .inl (t 0, 8, .inl LN)), ((mb 4), .inl (t 0, 8, .inl TG)), ((mb 5), .inl (t 3, 49, .inl MK)), ((mb 6), .inl (t 0, 49, .inl LO)), ((mb 7), .inl (t 0, 49, .inl HI))] [(0, .ref m0), (1, .int (nI (P + 1 + q))), (2, .int (nI (98 * r))), (3, .int (mfnd F1 MK LO HI sn (P + 1 + q) i)), (4, .int (nI i))] 25 [] 0 0 := by
    intro d9
    induction d9 with
    | zero => intro i hk hmu; exact absurd hmu (Nat.not_lt_zero _)
    | succ d9 ih25 =>
      intro i hk hmu
      refine jr_iload CC (jd ddX11_completes 17 rfl) 4 rfl ?_
      refine jr_iload_n CC (jd ddX11_completes 18 rfl) 1 rfl ?_
      refine jr_icmp_ge 146 CC (jd ddX11_completes 19 rfl) (by decide) (fun c2 => ?_) (fun c2 => ?_)
      · have n2 := jle_of (a := (P + 1 + q)) (b := i) c2 (by omega) (by omega)
        refine jr_aload_n CC (jd ddX11_completes 84 rfl) 0 rfl ?_
        refine jr_iload_n CC (jd ddX11_completes 85 rfl) 3 rfl ?_
        refine jr_if_lt 170 CC (jd ddX11_completes 86 rfl) (by decide) (fun c3 => ?_) (fun c3 => ?_)
        · refine jr_aload_n CC (jd ddX11_completes 97 rfl) 0 rfl ?_
          refine jr_get (v := .int (R 36)) CC (jd ddX11_completes 98 rfl) (jf_X11_162 CC) 0 rfl rfl ?_
          refine jr_put CC (jd ddX11_completes 99 rfl) (jf_X11_162 CC) 0 rfl rfl rfl (Nat.le_of_ble_eq_true rfl) ?_
          refine jr_ws [(m0, .inr (10, jmdl (upd R 36 (R 36)) mb)), ((mb 0), .inl (t 0, 64, .inl F1)), ((mb 1), .inl (t 0, 64, .inl F2)), ((mb 2), .inl (t 0, 784, .inl (mcau F1 F2 r sn (P + 1 + q) i CU))), ((mb 3), .inl (t 0, 8, .inl LN)), ((mb 4), .inl (t 0, 8, .inl TG)), ((mb 5), .inl (t 3, 49, .inl MK)), ((mb 6), .inl (t 0, 49, .inl LO)), ((mb 7), .inl (t 0, 49, .inl HI))] rfl ?_
          refine jr_aload_n CC (jd ddX11_completes 100 rfl) 0 rfl ?_
          refine jr_pc (pc' := 178) rfl ?_
          refine jr_dup CC (jd ddX11_completes 101 rfl) rfl ?_
          refine jr_get (v := .int (R 35)) CC (jd ddX11_completes 102 rfl) (jf_X11_156 CC) 0 rfl rfl ?_
          refine jr_iload_n CC (jd ddX11_completes 103 rfl) 3 rfl ?_
          refine jr_if_lt 190 CC (jd ddX11_completes 104 rfl) (by decide) (fun _ => ?_) (fun h => absurd c3 h)
          refine jr_iconst (v := 0) CC (jd ddX11_completes 107 rfl) (by decide) ?_
          refine jr_iadd CC (jd ddX11_completes 108 rfl) ?_
          refine jr_put CC (jd ddX11_completes 109 rfl) (jf_X11_156 CC) 0 rfl rfl rfl (Nat.le_of_ble_eq_true rfl) ?_
          refine jr_ws [(m0, .inr (10, jmdl (upd (upd R 36 (R 36)) 35 ((R 35) + 0)) mb)), ((mb 0), .inl (t 0, 64, .inl F1)), ((mb 1), .inl (t 0, 64, .inl F2)), ((mb 2), .inl (t 0, 784, .inl (mcau F1 F2 r sn (P + 1 + q) i CU))), ((mb 3), .inl (t 0, 8, .inl LN)), ((mb 4), .inl (t 0, 8, .inl TG)), ((mb 5), .inl (t 3, 49, .inl MK)), ((mb 6), .inl (t 0, 49, .inl LO)), ((mb 7), .inl (t 0, 49, .inl HI))] rfl ?_
          refine jr_aload_n CC (jd ddX11_completes 110 rfl) 0 rfl ?_
          refine jr_get (v := .ref (mb 3)) CC (jd ddX11_completes 111 rfl) (jf_X11_33 CC) 0 rfl rfl ?_
          refine jr_aload_n CC (jd ddX11_completes 112 rfl) 0 rfl ?_
          refine jr_pc (pc' := 200) rfl ?_
          refine jr_get (v := .int (R 28)) CC (jd ddX11_completes 113 rfl) (jf_X11_147 CC) 0 rfl rfl ?_
          refine jr_st [.int (nI r), .ref (mb 3)] (jst1 hr) ?_
          refine jr_iload_n CC (jd ddX11_completes 114 rfl) 1 rfl ?_
          refine jr_iastN CC (jd ddX11_completes 115 rfl) 4 r rfl rfl (by omega) (by decide) ?_
          refine jr_aload_n CC (jd ddX11_completes 116 rfl) 0 rfl ?_
          refine jr_get (v := .ref (mb 4)) CC (jd ddX11_completes 117 rfl) (jf_X11_36 CC) 0 rfl rfl ?_
          refine jr_aload_n CC (jd ddX11_completes 118 rfl) 0 rfl ?_
          refine jr_get (v := .int (R 28)) CC (jd ddX11_completes 119 rfl) (jf_X11_147 CC) 0 rfl rfl ?_
          refine jr_st [.int (nI r), .ref (mb 4)] (jst1 hr) ?_
          refine jr_aload_n CC (jd ddX11_completes 120 rfl) 0 rfl ?_
          refine jr_get (v := .int (R 23)) CC (jd ddX11_completes 121 rfl) (jf_X11_165 CC) 0 rfl rfl ?_
          refine jr_iastN CC (jd ddX11_completes 122 rfl) 5 r rfl rfl (by omega) (by decide) ?_
          refine jr_pc (pc' := 218) rfl ?_
          refine jr_aload_n CC (jd ddX11_completes 123 rfl) 0 rfl ?_
          refine jr_dup CC (jd ddX11_completes 124 rfl) rfl ?_
          refine jr_get (v := .int (R 28)) CC (jd ddX11_completes 125 rfl) (jf_X11_147 CC) 0 rfl rfl ?_
          refine jr_st [.int (nI r), .ref m0] (jst1 hr) ?_
          refine jr_iconst (v := 1) CC (jd ddX11_completes 126 rfl) (by decide) ?_
          refine jr_iadd CC (jd ddX11_completes 127 rfl) ?_
          refine jr_st [.int (nI (r + 1)), .ref m0] (jst1 (nI_add r 1)) ?_
          refine jr_put CC (jd ddX11_completes 128 rfl) (jf_X11_147 CC) 0 rfl rfl rfl (Nat.le_of_ble_eq_true rfl) ?_
          refine jr_ws [(m0, .inr (10, jmdl (upd (upd (upd R 36 (R 36)) 35 ((R 35) + 0)) 28 (nI (r + 1))) mb)), ((mb 0), .inl (t 0, 64, .inl F1)), ((mb 1), .inl (t 0, 64, .inl F2)), ((mb 2), .inl (t 0, 784, .inl (mcau F1 F2 r sn (P + 1 + q) i CU))), ((mb 3), .inl (t 0, 8, .inl (upd LN r (nI (P + 1 + q))))), ((mb 4), .inl (t 0, 8, .inl (upd TG r (R 23)))), ((mb 5), .inl (t 3, 49, .inl MK)), ((mb 6), .inl (t 0, 49, .inl LO)), ((mb 7), .inl (t 0, 49, .inl HI))] rfl ?_
          refine jr_aload_n CC (jd ddX11_completes 129 rfl) 0 rfl ?_
          refine jr_iconst (v := 0) CC (jd ddX11_completes 130 rfl) (by decide) ?_
          refine jr_put CC (jd ddX11_completes 131 rfl) (jf_X11_150 CC) 0 rfl rfl rfl (Nat.le_of_ble_eq_true rfl) ?_
          refine jr_ws [(m0, .inr (10, jmdl (upd (upd (upd (upd R 36 (R 36)) 35 ((R 35) + 0)) 28 (nI (r + 1))) 21 0) mb)), ((mb 0), .inl (t 0, 64, .inl F1)), ((mb 1), .inl (t 0, 64, .inl F2)), ((mb 2), .inl (t 0, 784, .inl (mcau F1 F2 r sn (P + 1 + q) i CU))), ((mb 3), .inl (t 0, 8, .inl (upd LN r (nI (P + 1 + q))))), ((mb 4), .inl (t 0, 8, .inl (upd TG r (R 23)))), ((mb 5), .inl (t 3, 49, .inl MK)), ((mb 6), .inl (t 0, 49, .inl LO)), ((mb 7), .inl (t 0, 49, .inl HI))] rfl ?_
          refine jr_aload_n CC (jd ddX11_completes 132 rfl) 0 rfl ?_
          refine jr_pc (pc' := 234) rfl ?_
          refine jr_aload_n CC (jd ddX11_completes 133 rfl) 0 rfl ?_
          refine jr_get (v := .int (nI (r + 1))) CC (jd ddX11_completes 134 rfl) (jf_X11_147 CC) 0 rfl rfl ?_
          refine jr_bipush (v := 8) CC (jd ddX11_completes 135 rfl) (by decide) ?_
          refine jr_icmp_ge 247 CC (jd ddX11_completes 136 rfl) (by decide) (fun c5 => ?_) (fun c5 => ?_)
          · have n5 := jle_of (a := 8) (b := (r + 1)) c5 (by omega) (by omega)
            refine jr_iconst (v := 0) CC (jd ddX11_completes 139 rfl) (by decide) ?_
            refine jr_put CC (jd ddX11_completes 140 rfl) (jf_X11_141 CC) 0 rfl rfl rfl (Nat.le_of_ble_eq_true rfl) ?_
            refine jr_ws [(m0, .inr (10, jmdl (upd (upd (upd (upd (upd R 36 (R 36)) 35 ((R 35) + 0)) 28 (nI (r + 1))) 21 0) 20 0) mb)), ((mb 0), .inl (t 0, 64, .inl F1)), ((mb 1), .inl (t 0, 64, .inl F2)), ((mb 2), .inl (t 0, 784, .inl (mcau F1 F2 r sn (P + 1 + q) i CU))), ((mb 3), .inl (t 0, 8, .inl (upd LN r (nI (P + 1 + q))))), ((mb 4), .inl (t 0, 8, .inl (upd TG r (R 23)))), ((mb 5), .inl (t 3, 49, .inl MK)), ((mb 6), .inl (t 0, 49, .inl LO)), ((mb 7), .inl (t 0, 49, .inl HI))] rfl ?_
            exact jr_vret CC MM (jd ddX11_completes 141 rfl) rfl (by decide) (by decide) (by have e9 : i = (P + 1 + q) := (by omega); have e1 : mOf R r (mfnd F1 MK LO HI sn (P + 1 + q) i) = R 36 := (by simp [mOf, c2, c3, c5, Int32.not_lt, Int32.not_le]); have e2 : mFa R (mfnd F1 MK LO HI sn (P + 1 + q) i) = ((R 35) + 0) := (by simp [mFa, c2, c3, c5, Int32.not_lt, Int32.not_le]); have e3 : mAr r = 0 := (by simp [mAr, c2, c3, c5, Int32.not_lt, Int32.not_le]); subst e9; rw [mFin, e1, e2, e3]; exact ⟨rfl, rfl⟩)
          · have n5 := jle_not (a := 8) (b := (r + 1)) c5 (by omega) (by omega)
            refine jr_iconst (v := 1) CC (jd ddX11_completes 137 rfl) (by decide) ?_
            refine jr_goto 248 CC (jd ddX11_completes 138 rfl) (by decide) ?_
            refine jr_put CC (jd ddX11_completes 140 rfl) (jf_X11_141 CC) 0 rfl rfl rfl (Nat.le_of_ble_eq_true rfl) ?_
            refine jr_ws [(m0, .inr (10, jmdl (upd (upd (upd (upd (upd R 36 (R 36)) 35 ((R 35) + 0)) 28 (nI (r + 1))) 21 0) 20 1) mb)), ((mb 0), .inl (t 0, 64, .inl F1)), ((mb 1), .inl (t 0, 64, .inl F2)), ((mb 2), .inl (t 0, 784, .inl (mcau F1 F2 r sn (P + 1 + q) i CU))), ((mb 3), .inl (t 0, 8, .inl (upd LN r (nI (P + 1 + q))))), ((mb 4), .inl (t 0, 8, .inl (upd TG r (R 23)))), ((mb 5), .inl (t 3, 49, .inl MK)), ((mb 6), .inl (t 0, 49, .inl LO)), ((mb 7), .inl (t 0, 49, .inl HI))] rfl ?_
            exact jr_vret CC MM (jd ddX11_completes 141 rfl) rfl (by decide) (by decide) (by have e9 : i = (P + 1 + q) := (by omega); have e1 : mOf R r (mfnd F1 MK LO HI sn (P + 1 + q) i) = R 36 := (by simp [mOf, c2, c3, c5, Int32.not_lt, Int32.not_le]); have e2 : mFa R (mfnd F1 MK LO HI sn (P + 1 + q) i) = ((R 35) + 0) := (by simp [mFa, c2, c3, c5, Int32.not_lt, Int32.not_le]); have e3 : mAr r = 1 := (by simp [mAr, c2, c3, c5, Int32.not_lt, Int32.not_le]); subst e9; rw [mFin, e1, e2, e3]; exact ⟨rfl, rfl⟩)
        · refine jr_aload_n CC (jd ddX11_completes 87 rfl) 0 rfl ?_
          refine jr_get (v := .int (R 35)) CC (jd ddX11_completes 88 rfl) (jf_X11_156 CC) 0 rfl rfl ?_
          refine jr_if_ne 170 CC (jd ddX11_completes 89 rfl) (by decide) (fun c6 => ?_) (fun c6 => ?_)
          · refine jr_aload_n CC (jd ddX11_completes 97 rfl) 0 rfl ?_
            refine jr_pc (pc' := 171) rfl ?_
            refine jr_get (v := .int (R 36)) CC (jd ddX11_completes 98 rfl) (jf_X11_162 CC) 0 rfl rfl ?_
            refine jr_put CC (jd ddX11_completes 99 rfl) (jf_X11_162 CC) 0 rfl rfl rfl (Nat.le_of_ble_eq_true rfl) ?_
            refine jr_ws [(m0, .inr (10, jmdl (upd R 36 (R 36)) mb)), ((mb 0), .inl (t 0, 64, .inl F1)), ((mb 1), .inl (t 0, 64, .inl F2)), ((mb 2), .inl (t 0, 784, .inl (mcau F1 F2 r sn (P + 1 + q) i CU))), ((mb 3), .inl (t 0, 8, .inl LN)), ((mb 4), .inl (t 0, 8, .inl TG)), ((mb 5), .inl (t 3, 49, .inl MK)), ((mb 6), .inl (t 0, 49, .inl LO)), ((mb 7), .inl (t 0, 49, .inl HI))] rfl ?_
            refine jr_aload_n CC (jd ddX11_completes 100 rfl) 0 rfl ?_
            refine jr_dup CC (jd ddX11_completes 101 rfl) rfl ?_
            refine jr_get (v := .int (R 35)) CC (jd ddX11_completes 102 rfl) (jf_X11_156 CC) 0 rfl rfl ?_
            refine jr_iload_n CC (jd ddX11_completes 103 rfl) 3 rfl ?_
            refine jr_if_lt 190 CC (jd ddX11_completes 104 rfl) (by decide) (fun h => absurd h c3) (fun _ => ?_)
            refine jr_iconst (v := 1) CC (jd ddX11_completes 105 rfl) (by decide) ?_
            refine jr_goto 191 CC (jd ddX11_completes 106 rfl) (by decide) ?_
            refine jr_iadd CC (jd ddX11_completes 108 rfl) ?_
            refine jr_put CC (jd ddX11_completes 109 rfl) (jf_X11_156 CC) 0 rfl rfl rfl (Nat.le_of_ble_eq_true rfl) ?_
            refine jr_ws [(m0, .inr (10, jmdl (upd (upd R 36 (R 36)) 35 ((R 35) + 1)) mb)), ((mb 0), .inl (t 0, 64, .inl F1)), ((mb 1), .inl (t 0, 64, .inl F2)), ((mb 2), .inl (t 0, 784, .inl (mcau F1 F2 r sn (P + 1 + q) i CU))), ((mb 3), .inl (t 0, 8, .inl LN)), ((mb 4), .inl (t 0, 8, .inl TG)), ((mb 5), .inl (t 3, 49, .inl MK)), ((mb 6), .inl (t 0, 49, .inl LO)), ((mb 7), .inl (t 0, 49, .inl HI))] rfl ?_
            refine jr_aload_n CC (jd ddX11_completes 110 rfl) 0 rfl ?_
            refine jr_get (v := .ref (mb 3)) CC (jd ddX11_completes 111 rfl) (jf_X11_33 CC) 0 rfl rfl ?_
            refine jr_aload_n CC (jd ddX11_completes 112 rfl) 0 rfl ?_
            refine jr_get (v := .int (R 28)) CC (jd ddX11_completes 113 rfl) (jf_X11_147 CC) 0 rfl rfl ?_
            refine jr_st [.int (nI r), .ref (mb 3)] (jst1 hr) ?_
            refine jr_iload_n CC (jd ddX11_completes 114 rfl) 1 rfl ?_
            refine jr_iastN CC (jd ddX11_completes 115 rfl) 4 r rfl rfl (by omega) (by decide) ?_
            refine jr_aload_n CC (jd ddX11_completes 116 rfl) 0 rfl ?_
            refine jr_get (v := .ref (mb 4)) CC (jd ddX11_completes 117 rfl) (jf_X11_36 CC) 0 rfl rfl ?_
            refine jr_pc (pc' := 209) rfl ?_
            refine jr_aload_n CC (jd ddX11_completes 118 rfl) 0 rfl ?_
            refine jr_get (v := .int (R 28)) CC (jd ddX11_completes 119 rfl) (jf_X11_147 CC) 0 rfl rfl ?_
            refine jr_st [.int (nI r), .ref (mb 4)] (jst1 hr) ?_
            refine jr_aload_n CC (jd ddX11_completes 120 rfl) 0 rfl ?_
            refine jr_get (v := .int (R 23)) CC (jd ddX11_completes 121 rfl) (jf_X11_165 CC) 0 rfl rfl ?_
            refine jr_iastN CC (jd ddX11_completes 122 rfl) 5 r rfl rfl (by omega) (by decide) ?_
            refine jr_aload_n CC (jd ddX11_completes 123 rfl) 0 rfl ?_
            refine jr_dup CC (jd ddX11_completes 124 rfl) rfl ?_
            refine jr_get (v := .int (R 28)) CC (jd ddX11_completes 125 rfl) (jf_X11_147 CC) 0 rfl rfl ?_
            refine jr_st [.int (nI r), .ref m0] (jst1 hr) ?_
            refine jr_iconst (v := 1) CC (jd ddX11_completes 126 rfl) (by decide) ?_
            refine jr_iadd CC (jd ddX11_completes 127 rfl) ?_
            refine jr_st [.int (nI (r + 1)), .ref m0] (jst1 (nI_add r 1)) ?_
            refine jr_pc (pc' := 225) rfl ?_
            refine jr_put CC (jd ddX11_completes 128 rfl) (jf_X11_147 CC) 0 rfl rfl rfl (Nat.le_of_ble_eq_true rfl) ?_
            refine jr_ws [(m0, .inr (10, jmdl (upd (upd (upd R 36 (R 36)) 35 ((R 35) + 1)) 28 (nI (r + 1))) mb)), ((mb 0), .inl (t 0, 64, .inl F1)), ((mb 1), .inl (t 0, 64, .inl F2)), ((mb 2), .inl (t 0, 784, .inl (mcau F1 F2 r sn (P + 1 + q) i CU))), ((mb 3), .inl (t 0, 8, .inl (upd LN r (nI (P + 1 + q))))), ((mb 4), .inl (t 0, 8, .inl (upd TG r (R 23)))), ((mb 5), .inl (t 3, 49, .inl MK)), ((mb 6), .inl (t 0, 49, .inl LO)), ((mb 7), .inl (t 0, 49, .inl HI))] rfl ?_
            refine jr_aload_n CC (jd ddX11_completes 129 rfl) 0 rfl ?_
            refine jr_iconst (v := 0) CC (jd ddX11_completes 130 rfl) (by decide) ?_
            refine jr_put CC (jd ddX11_completes 131 rfl) (jf_X11_150 CC) 0 rfl rfl rfl (Nat.le_of_ble_eq_true rfl) ?_
            refine jr_ws [(m0, .inr (10, jmdl (upd (upd (upd (upd R 36 (R 36)) 35 ((R 35) + 1)) 28 (nI (r + 1))) 21 0) mb)), ((mb 0), .inl (t 0, 64, .inl F1)), ((mb 1), .inl (t 0, 64, .inl F2)), ((mb 2), .inl (t 0, 784, .inl (mcau F1 F2 r sn (P + 1 + q) i CU))), ((mb 3), .inl (t 0, 8, .inl (upd LN r (nI (P + 1 + q))))), ((mb 4), .inl (t 0, 8, .inl (upd TG r (R 23)))), ((mb 5), .inl (t 3, 49, .inl MK)), ((mb 6), .inl (t 0, 49, .inl LO)), ((mb 7), .inl (t 0, 49, .inl HI))] rfl ?_
            refine jr_aload_n CC (jd ddX11_completes 132 rfl) 0 rfl ?_
            refine jr_aload_n CC (jd ddX11_completes 133 rfl) 0 rfl ?_
            refine jr_get (v := .int (nI (r + 1))) CC (jd ddX11_completes 134 rfl) (jf_X11_147 CC) 0 rfl rfl ?_
            refine jr_bipush (v := 8) CC (jd ddX11_completes 135 rfl) (by decide) ?_
            refine jr_icmp_ge 247 CC (jd ddX11_completes 136 rfl) (by decide) (fun c8 => ?_) (fun c8 => ?_)
            · have n8 := jle_of (a := 8) (b := (r + 1)) c8 (by omega) (by omega)
              refine jr_iconst (v := 0) CC (jd ddX11_completes 139 rfl) (by decide) ?_
              refine jr_pc (pc' := 248) rfl ?_
              refine jr_put CC (jd ddX11_completes 140 rfl) (jf_X11_141 CC) 0 rfl rfl rfl (Nat.le_of_ble_eq_true rfl) ?_
              refine jr_ws [(m0, .inr (10, jmdl (upd (upd (upd (upd (upd R 36 (R 36)) 35 ((R 35) + 1)) 28 (nI (r + 1))) 21 0) 20 0) mb)), ((mb 0), .inl (t 0, 64, .inl F1)), ((mb 1), .inl (t 0, 64, .inl F2)), ((mb 2), .inl (t 0, 784, .inl (mcau F1 F2 r sn (P + 1 + q) i CU))), ((mb 3), .inl (t 0, 8, .inl (upd LN r (nI (P + 1 + q))))), ((mb 4), .inl (t 0, 8, .inl (upd TG r (R 23)))), ((mb 5), .inl (t 3, 49, .inl MK)), ((mb 6), .inl (t 0, 49, .inl LO)), ((mb 7), .inl (t 0, 49, .inl HI))] rfl ?_
              exact jr_vret CC MM (jd ddX11_completes 141 rfl) rfl (by decide) (by decide) (by have e9 : i = (P + 1 + q) := (by omega); have e1 : mOf R r (mfnd F1 MK LO HI sn (P + 1 + q) i) = R 36 := (by simp [mOf, c2, c3, c6, c8, Int32.not_lt, Int32.not_le]); have e2 : mFa R (mfnd F1 MK LO HI sn (P + 1 + q) i) = ((R 35) + 1) := (by simp [mFa, c2, c3, c6, c8, Int32.not_lt, Int32.not_le]); have e3 : mAr r = 0 := (by simp [mAr, c2, c3, c6, c8, Int32.not_lt, Int32.not_le]); subst e9; rw [mFin, e1, e2, e3]; exact ⟨rfl, rfl⟩)
            · have n8 := jle_not (a := 8) (b := (r + 1)) c8 (by omega) (by omega)
              refine jr_iconst (v := 1) CC (jd ddX11_completes 137 rfl) (by decide) ?_
              refine jr_pc (pc' := 244) rfl ?_
              refine jr_goto 248 CC (jd ddX11_completes 138 rfl) (by decide) ?_
              refine jr_put CC (jd ddX11_completes 140 rfl) (jf_X11_141 CC) 0 rfl rfl rfl (Nat.le_of_ble_eq_true rfl) ?_
              refine jr_ws [(m0, .inr (10, jmdl (upd (upd (upd (upd (upd R 36 (R 36)) 35 ((R 35) + 1)) 28 (nI (r + 1))) 21 0) 20 1) mb)), ((mb 0), .inl (t 0, 64, .inl F1)), ((mb 1), .inl (t 0, 64, .inl F2)), ((mb 2), .inl (t 0, 784, .inl (mcau F1 F2 r sn (P + 1 + q) i CU))), ((mb 3), .inl (t 0, 8, .inl (upd LN r (nI (P + 1 + q))))), ((mb 4), .inl (t 0, 8, .inl (upd TG r (R 23)))), ((mb 5), .inl (t 3, 49, .inl MK)), ((mb 6), .inl (t 0, 49, .inl LO)), ((mb 7), .inl (t 0, 49, .inl HI))] rfl ?_
              exact jr_vret CC MM (jd ddX11_completes 141 rfl) rfl (by decide) (by decide) (by have e9 : i = (P + 1 + q) := (by omega); have e1 : mOf R r (mfnd F1 MK LO HI sn (P + 1 + q) i) = R 36 := (by simp [mOf, c2, c3, c6, c8, Int32.not_lt, Int32.not_le]); have e2 : mFa R (mfnd F1 MK LO HI sn (P + 1 + q) i) = ((R 35) + 1) := (by simp [mFa, c2, c3, c6, c8, Int32.not_lt, Int32.not_le]); have e3 : mAr r = 1 := (by simp [mAr, c2, c3, c6, c8, Int32.not_lt, Int32.not_le]); subst e9; rw [mFin, e1, e2, e3]; exact ⟨rfl, rfl⟩)
          · refine jr_bipush (v := 100) CC (jd ddX11_completes 90 rfl) (by decide) ?_
            refine jr_pc (pc' := 160) rfl ?_
            refine jr_aload_n CC (jd ddX11_completes 91 rfl) 0 rfl ?_
            refine jr_get (v := .int (R 28)) CC (jd ddX11_completes 92 rfl) (jf_X11_147 CC) 0 rfl rfl ?_
            refine jr_st [.int (nI r), .int 100, .ref m0] (jst1 hr) ?_
            refine jr_imul CC (jd ddX11_completes 93 rfl) ?_
            refine jr_st [.int (nI (100 * r)), .ref m0] (jst1 (pk_mul 100 r)) ?_
            refine jr_iload_n CC (jd ddX11_completes 94 rfl) 3 rfl ?_
            refine jr_iadd CC (jd ddX11_completes 95 rfl) ?_
            refine jr_goto 174 CC (jd ddX11_completes 96 rfl) (by decide) ?_
            refine jr_put CC (jd ddX11_completes 99 rfl) (jf_X11_162 CC) 0 rfl rfl rfl (Nat.le_of_ble_eq_true rfl) ?_
            refine jr_ws [(m0, .inr (10, jmdl (upd R 36 ((nI (100 * r)) + (mfnd F1 MK LO HI sn (P + 1 + q) i))) mb)), ((mb 0), .inl (t 0, 64, .inl F1)), ((mb 1), .inl (t 0, 64, .inl F2)), ((mb 2), .inl (t 0, 784, .inl (mcau F1 F2 r sn (P + 1 + q) i CU))), ((mb 3), .inl (t 0, 8, .inl LN)), ((mb 4), .inl (t 0, 8, .inl TG)), ((mb 5), .inl (t 3, 49, .inl MK)), ((mb 6), .inl (t 0, 49, .inl LO)), ((mb 7), .inl (t 0, 49, .inl HI))] rfl ?_
            refine jr_aload_n CC (jd ddX11_completes 100 rfl) 0 rfl ?_
            refine jr_dup CC (jd ddX11_completes 101 rfl) rfl ?_
            refine jr_get (v := .int (R 35)) CC (jd ddX11_completes 102 rfl) (jf_X11_156 CC) 0 rfl rfl ?_
            refine jr_iload_n CC (jd ddX11_completes 103 rfl) 3 rfl ?_
            refine jr_if_lt 190 CC (jd ddX11_completes 104 rfl) (by decide) (fun h => absurd h c3) (fun _ => ?_)
            refine jr_iconst (v := 1) CC (jd ddX11_completes 105 rfl) (by decide) ?_
            refine jr_goto 191 CC (jd ddX11_completes 106 rfl) (by decide) ?_
            refine jr_iadd CC (jd ddX11_completes 108 rfl) ?_
            refine jr_put CC (jd ddX11_completes 109 rfl) (jf_X11_156 CC) 0 rfl rfl rfl (Nat.le_of_ble_eq_true rfl) ?_
            refine jr_ws [(m0, .inr (10, jmdl (upd (upd R 36 ((nI (100 * r)) + (mfnd F1 MK LO HI sn (P + 1 + q) i))) 35 ((R 35) + 1)) mb)), ((mb 0), .inl (t 0, 64, .inl F1)), ((mb 1), .inl (t 0, 64, .inl F2)), ((mb 2), .inl (t 0, 784, .inl (mcau F1 F2 r sn (P + 1 + q) i CU))), ((mb 3), .inl (t 0, 8, .inl LN)), ((mb 4), .inl (t 0, 8, .inl TG)), ((mb 5), .inl (t 3, 49, .inl MK)), ((mb 6), .inl (t 0, 49, .inl LO)), ((mb 7), .inl (t 0, 49, .inl HI))] rfl ?_
            refine jr_aload_n CC (jd ddX11_completes 110 rfl) 0 rfl ?_
            refine jr_get (v := .ref (mb 3)) CC (jd ddX11_completes 111 rfl) (jf_X11_33 CC) 0 rfl rfl ?_
            refine jr_aload_n CC (jd ddX11_completes 112 rfl) 0 rfl ?_
            refine jr_get (v := .int (R 28)) CC (jd ddX11_completes 113 rfl) (jf_X11_147 CC) 0 rfl rfl ?_
            refine jr_st [.int (nI r), .ref (mb 3)] (jst1 hr) ?_
            refine jr_iload_n CC (jd ddX11_completes 114 rfl) 1 rfl ?_
            refine jr_iastN CC (jd ddX11_completes 115 rfl) 4 r rfl rfl (by omega) (by decide) ?_
            refine jr_aload_n CC (jd ddX11_completes 116 rfl) 0 rfl ?_
            refine jr_get (v := .ref (mb 4)) CC (jd ddX11_completes 117 rfl) (jf_X11_36 CC) 0 rfl rfl ?_
            refine jr_pc (pc' := 209) rfl ?_
            refine jr_aload_n CC (jd ddX11_completes 118 rfl) 0 rfl ?_
            refine jr_get (v := .int (R 28)) CC (jd ddX11_completes 119 rfl) (jf_X11_147 CC) 0 rfl rfl ?_
            refine jr_st [.int (nI r), .ref (mb 4)] (jst1 hr) ?_
            refine jr_aload_n CC (jd ddX11_completes 120 rfl) 0 rfl ?_
            refine jr_get (v := .int (R 23)) CC (jd ddX11_completes 121 rfl) (jf_X11_165 CC) 0 rfl rfl ?_
            refine jr_iastN CC (jd ddX11_completes 122 rfl) 5 r rfl rfl (by omega) (by decide) ?_
            refine jr_aload_n CC (jd ddX11_completes 123 rfl) 0 rfl ?_
            refine jr_dup CC (jd ddX11_completes 124 rfl) rfl ?_
            refine jr_get (v := .int (R 28)) CC (jd ddX11_completes 125 rfl) (jf_X11_147 CC) 0 rfl rfl ?_
            refine jr_st [.int (nI r), .ref m0] (jst1 hr) ?_
            refine jr_iconst (v := 1) CC (jd ddX11_completes 126 rfl) (by decide) ?_
            refine jr_iadd CC (jd ddX11_completes 127 rfl) ?_
            refine jr_st [.int (nI (r + 1)), .ref m0] (jst1 (nI_add r 1)) ?_
            refine jr_pc (pc' := 225) rfl ?_
            refine jr_put CC (jd ddX11_completes 128 rfl) (jf_X11_147 CC) 0 rfl rfl rfl (Nat.le_of_ble_eq_true rfl) ?_
            refine jr_ws [(m0, .inr (10, jmdl (upd (upd (upd R 36 ((nI (100 * r)) + (mfnd F1 MK LO HI sn (P + 1 + q) i))) 35 ((R 35) + 1)) 28 (nI (r + 1))) mb)), ((mb 0), .inl (t 0, 64, .inl F1)), ((mb 1), .inl (t 0, 64, .inl F2)), ((mb 2), .inl (t 0, 784, .inl (mcau F1 F2 r sn (P + 1 + q) i CU))), ((mb 3), .inl (t 0, 8, .inl (upd LN r (nI (P + 1 + q))))), ((mb 4), .inl (t 0, 8, .inl (upd TG r (R 23)))), ((mb 5), .inl (t 3, 49, .inl MK)), ((mb 6), .inl (t 0, 49, .inl LO)), ((mb 7), .inl (t 0, 49, .inl HI))] rfl ?_
            refine jr_aload_n CC (jd ddX11_completes 129 rfl) 0 rfl ?_
            refine jr_iconst (v := 0) CC (jd ddX11_completes 130 rfl) (by decide) ?_
            refine jr_put CC (jd ddX11_completes 131 rfl) (jf_X11_150 CC) 0 rfl rfl rfl (Nat.le_of_ble_eq_true rfl) ?_
            refine jr_ws [(m0, .inr (10, jmdl (upd (upd (upd (upd R 36 ((nI (100 * r)) + (mfnd F1 MK LO HI sn (P + 1 + q) i))) 35 ((R 35) + 1)) 28 (nI (r + 1))) 21 0) mb)), ((mb 0), .inl (t 0, 64, .inl F1)), ((mb 1), .inl (t 0, 64, .inl F2)), ((mb 2), .inl (t 0, 784, .inl (mcau F1 F2 r sn (P + 1 + q) i CU))), ((mb 3), .inl (t 0, 8, .inl (upd LN r (nI (P + 1 + q))))), ((mb 4), .inl (t 0, 8, .inl (upd TG r (R 23)))), ((mb 5), .inl (t 3, 49, .inl MK)), ((mb 6), .inl (t 0, 49, .inl LO)), ((mb 7), .inl (t 0, 49, .inl HI))] rfl ?_
            refine jr_aload_n CC (jd ddX11_completes 132 rfl) 0 rfl ?_
            refine jr_aload_n CC (jd ddX11_completes 133 rfl) 0 rfl ?_
            refine jr_get (v := .int (nI (r + 1))) CC (jd ddX11_completes 134 rfl) (jf_X11_147 CC) 0 rfl rfl ?_
            refine jr_bipush (v := 8) CC (jd ddX11_completes 135 rfl) (by decide) ?_
            refine jr_icmp_ge 247 CC (jd ddX11_completes 136 rfl) (by decide) (fun c10 => ?_) (fun c10 => ?_)
            · have n10 := jle_of (a := 8) (b := (r + 1)) c10 (by omega) (by omega)
              refine jr_iconst (v := 0) CC (jd ddX11_completes 139 rfl) (by decide) ?_
              refine jr_pc (pc' := 248) rfl ?_
              refine jr_put CC (jd ddX11_completes 140 rfl) (jf_X11_141 CC) 0 rfl rfl rfl (Nat.le_of_ble_eq_true rfl) ?_
              refine jr_ws [(m0, .inr (10, jmdl (upd (upd (upd (upd (upd R 36 ((nI (100 * r)) + (mfnd F1 MK LO HI sn (P + 1 + q) i))) 35 ((R 35) + 1)) 28 (nI (r + 1))) 21 0) 20 0) mb)), ((mb 0), .inl (t 0, 64, .inl F1)), ((mb 1), .inl (t 0, 64, .inl F2)), ((mb 2), .inl (t 0, 784, .inl (mcau F1 F2 r sn (P + 1 + q) i CU))), ((mb 3), .inl (t 0, 8, .inl (upd LN r (nI (P + 1 + q))))), ((mb 4), .inl (t 0, 8, .inl (upd TG r (R 23)))), ((mb 5), .inl (t 3, 49, .inl MK)), ((mb 6), .inl (t 0, 49, .inl LO)), ((mb 7), .inl (t 0, 49, .inl HI))] rfl ?_
              exact jr_vret CC MM (jd ddX11_completes 141 rfl) rfl (by decide) (by decide) (by have e9 : i = (P + 1 + q) := (by omega); have e1 : mOf R r (mfnd F1 MK LO HI sn (P + 1 + q) i) = ((nI (100 * r)) + (mfnd F1 MK LO HI sn (P + 1 + q) i)) := (by simp [mOf, c2, c3, c6, c10, Int32.not_lt, Int32.not_le]); have e2 : mFa R (mfnd F1 MK LO HI sn (P + 1 + q) i) = ((R 35) + 1) := (by simp [mFa, c2, c3, c6, c10, Int32.not_lt, Int32.not_le]); have e3 : mAr r = 0 := (by simp [mAr, c2, c3, c6, c10, Int32.not_lt, Int32.not_le]); subst e9; rw [mFin, e1, e2, e3]; exact ⟨rfl, rfl⟩)
            · have n10 := jle_not (a := 8) (b := (r + 1)) c10 (by omega) (by omega)
              refine jr_iconst (v := 1) CC (jd ddX11_completes 137 rfl) (by decide) ?_
              refine jr_pc (pc' := 244) rfl ?_
              refine jr_goto 248 CC (jd ddX11_completes 138 rfl) (by decide) ?_
              refine jr_put CC (jd ddX11_completes 140 rfl) (jf_X11_141 CC) 0 rfl rfl rfl (Nat.le_of_ble_eq_true rfl) ?_
              refine jr_ws [(m0, .inr (10, jmdl (upd (upd (upd (upd (upd R 36 ((nI (100 * r)) + (mfnd F1 MK LO HI sn (P + 1 + q) i))) 35 ((R 35) + 1)) 28 (nI (r + 1))) 21 0) 20 1) mb)), ((mb 0), .inl (t 0, 64, .inl F1)), ((mb 1), .inl (t 0, 64, .inl F2)), ((mb 2), .inl (t 0, 784, .inl (mcau F1 F2 r sn (P + 1 + q) i CU))), ((mb 3), .inl (t 0, 8, .inl (upd LN r (nI (P + 1 + q))))), ((mb 4), .inl (t 0, 8, .inl (upd TG r (R 23)))), ((mb 5), .inl (t 3, 49, .inl MK)), ((mb 6), .inl (t 0, 49, .inl LO)), ((mb 7), .inl (t 0, 49, .inl HI))] rfl ?_
              exact jr_vret CC MM (jd ddX11_completes 141 rfl) rfl (by decide) (by decide) (by have e9 : i = (P + 1 + q) := (by omega); have e1 : mOf R r (mfnd F1 MK LO HI sn (P + 1 + q) i) = ((nI (100 * r)) + (mfnd F1 MK LO HI sn (P + 1 + q) i)) := (by simp [mOf, c2, c3, c6, c10, Int32.not_lt, Int32.not_le]); have e2 : mFa R (mfnd F1 MK LO HI sn (P + 1 + q) i) = ((R 35) + 1) := (by simp [mFa, c2, c3, c6, c10, Int32.not_lt, Int32.not_le]); have e3 : mAr r = 1 := (by simp [mAr, c2, c3, c6, c10, Int32.not_lt, Int32.not_le]); subst e9; rw [mFin, e1, e2, e3]; exact ⟨rfl, rfl⟩)
      · have n2 := jle_not (a := (P + 1 + q)) (b := i) c2 (by omega) (by omega)
        refine jr_aload_n CC (jd ddX11_completes 20 rfl) 0 rfl ?_
        refine jr_get (v := .int (R 24)) CC (jd ddX11_completes 21 rfl) (jf_X11_159 CC) 0 rfl rfl ?_
        refine jr_st [.int (nI sn)] (jst1 hs) ?_
        refine jr_iload_n CC (jd ddX11_completes 22 rfl) 1 rfl ?_
        refine jr_isub CC (jd ddX11_completes 23 rfl) ?_
        refine jr_st [.int (nI (sn - (P + 1 + q)))] (jst1 (pk_sub (a := sn) (b := (P + 1 + q)) (by omega))) ?_
        refine jr_iload CC (jd ddX11_completes 24 rfl) 4 rfl ?_
        refine jr_iadd CC (jd ddX11_completes 25 rfl) ?_
        refine jr_st [.int (nI ((sn - (P + 1 + q)) + i))] (jst1 (nI_add (sn - (P + 1 + q)) i)) ?_
        refine jr_bipush (v := 64) CC (jd ddX11_completes 26 rfl) (by decide) ?_
        refine jr_pc (pc' := 42) rfl ?_
        refine jr_irem CC (jd ddX11_completes 27 rfl) (by decide) ?_
        refine jr_st [.int (nI (((sn - (P + 1 + q)) + i) % 64))] (jst1 (pk_rem (a := ((sn - (P + 1 + q)) + i)) (d := 64) (by omega) (by omega) (by omega))) ?_
        refine jr_istore [(5, .int (nI (((sn - (P + 1 + q)) + i) % 64))), (0, .ref m0), (1, .int (nI (P + 1 + q))), (2, .int (nI (98 * r))), (3, .int (mfnd F1 MK LO HI sn (P + 1 + q) i)), (4, .int (nI i))] CC (jd ddX11_completes 28 rfl) (by decide) rfl ?_
        refine jr_aload_n CC (jd ddX11_completes 29 rfl) 1 rfl ?_
        refine jr_get (v := .ref (mb 2)) CC (jd ddX11_completes 30 rfl) (jf_X11_30 CC) 0 rfl rfl ?_
        refine jr_iload_n CC (jd ddX11_completes 31 rfl) 3 rfl ?_
        refine jr_iload CC (jd ddX11_completes 32 rfl) 5 rfl ?_
        refine jr_iadd CC (jd ddX11_completes 33 rfl) ?_
        refine jr_st [.int (nI ((98 * r) + i)), .ref (mb 2)] (jst1 (nI_add (98 * r) i)) ?_
        refine jr_aload_n CC (jd ddX11_completes 34 rfl) 1 rfl ?_
        refine jr_get (v := .ref (mb 0)) CC (jd ddX11_completes 35 rfl) (jf_X11_23 CC) 0 rfl rfl ?_
        refine jr_iload CC (jd ddX11_completes 36 rfl) 0 rfl ?_
        refine jr_pc (pc' := 59) rfl ?_
        refine jr_ialdN CC (jd ddX11_completes 37 rfl) 1 (((sn - (P + 1 + q)) + i) % 64) rfl rfl (by omega) (by decide) ?_
        refine jr_iastN CC (jd ddX11_completes 38 rfl) 3 ((98 * r) + i) rfl rfl (by omega) (by decide) ?_
        refine jr_aload_n CC (jd ddX11_completes 39 rfl) 1 rfl ?_
        refine jr_get (v := .ref (mb 2)) CC (jd ddX11_completes 40 rfl) (jf_X11_30 CC) 0 rfl rfl ?_
        refine jr_iload_n CC (jd ddX11_completes 41 rfl) 3 rfl ?_
        refine jr_bipush (v := 49) CC (jd ddX11_completes 42 rfl) (by decide) ?_
        refine jr_iadd CC (jd ddX11_completes 43 rfl) ?_
        refine jr_st [.int (nI ((98 * r) + 49)), .ref (mb 2)] (jst1 (nI_add (98 * r) 49)) ?_
        refine jr_iload CC (jd ddX11_completes 44 rfl) 5 rfl ?_
        refine jr_iadd CC (jd ddX11_completes 45 rfl) ?_
        refine jr_st [.int (nI (((98 * r) + 49) + i)), .ref (mb 2)] (jst1 (nI_add ((98 * r) + 49) i)) ?_
        refine jr_aload_n CC (jd ddX11_completes 46 rfl) 1 rfl ?_
        refine jr_pc (pc' := 73) rfl ?_
        refine jr_get (v := .ref (mb 1)) CC (jd ddX11_completes 47 rfl) (jf_X11_27 CC) 0 rfl rfl ?_
        refine jr_iload CC (jd ddX11_completes 48 rfl) 0 rfl ?_
        refine jr_ialdN CC (jd ddX11_completes 49 rfl) 2 (((sn - (P + 1 + q)) + i) % 64) rfl rfl (by omega) (by decide) ?_
        refine jr_iastN CC (jd ddX11_completes 50 rfl) 3 (((98 * r) + 49) + i) rfl rfl (by omega) (by decide) ?_
        refine jr_aload_n CC (jd ddX11_completes 51 rfl) 1 rfl ?_
        refine jr_get (v := .ref (mb 5)) CC (jd ddX11_completes 52 rfl) (jf_X11_39 CC) 0 rfl rfl ?_
        refine jr_iload CC (jd ddX11_completes 53 rfl) 5 rfl ?_
        refine jr_zaldN CC (jd ddX11_completes 54 rfl) 6 i rfl rfl (by omega) (by decide) ?_
        refine jr_if_eq 121 CC (jd ddX11_completes 55 rfl) (by decide) (fun c11 => ?_) (fun c11 => ?_)
        · refine jr_iconst (v := 0) CC (jd ddX11_completes 72 rfl) (by decide) ?_
          refine jr_pc (pc' := 122) rfl ?_
          refine jr_istore [(6, .int 0), (5, .int (nI (((sn - (P + 1 + q)) + i) % 64))), (0, .ref m0), (1, .int (nI (P + 1 + q))), (2, .int (nI (98 * r))), (3, .int (mfnd F1 MK LO HI sn (P + 1 + q) i)), (4, .int (nI i))] CC (jd ddX11_completes 73 rfl) (by decide) rfl ?_
          refine jr_iload CC (jd ddX11_completes 74 rfl) 0 rfl ?_
          refine jr_if_eq 138 CC (jd ddX11_completes 75 rfl) (by decide) (fun _ => ?_) (fun h => absurd h (by decide))
          refine jr_iload_n CC (jd ddX11_completes 80 rfl) 5 rfl ?_
          refine jr_istore_n 3 [(3, .int (mfnd F1 MK LO HI sn (P + 1 + q) i)), (6, .int 0), (5, .int (nI (((sn - (P + 1 + q)) + i) % 64))), (0, .ref m0), (1, .int (nI (P + 1 + q))), (2, .int (nI (98 * r))), (4, .int (nI i))] CC (jd ddX11_completes 81 rfl) rfl (by decide) rfl ?_
          refine jr_iinc [(4, .int (nI (i + 1))), (3, .int (mfnd F1 MK LO HI sn (P + 1 + q) i)), (6, .int 0), (5, .int (nI (((sn - (P + 1 + q)) + i) % 64))), (0, .ref m0), (1, .int (nI (P + 1 + q))), (2, .int (nI (98 * r)))] CC (jd ddX11_completes 82 rfl) 6 rfl (nI_1 _) (by decide) rfl ?_
          refine jr_goto 25 CC (jd ddX11_completes 83 rfl) (by decide) ?_
          refine jr_ws [(m0, .inr (10, jmdl R mb)), ((mb 0), .inl (t 0, 64, .inl F1)), ((mb 1), .inl (t 0, 64, .inl F2)), ((mb 2), .inl (t 0, 784, .inl (mcau F1 F2 r sn (P + 1 + q) (i + 1) CU))), ((mb 3), .inl (t 0, 8, .inl LN)), ((mb 4), .inl (t 0, 8, .inl TG)), ((mb 5), .inl (t 3, 49, .inl MK)), ((mb 6), .inl (t 0, 49, .inl LO)), ((mb 7), .inl (t 0, 49, .inl HI))] (by rw [← mcau_s F1 F2 r sn (P + 1 + q) i CU (by omega)] <;> rfl) ?_
          refine jr_norm0 [(4, .int (nI (i + 1))), (3, .int (mfnd F1 MK LO HI sn (P + 1 + q) (i + 1))), (6, .int 0), (5, .int (nI (((sn - (P + 1 + q)) + i) % 64))), (0, .ref m0), (1, .int (nI (P + 1 + q))), (2, .int (nI (98 * r)))] (by rw [mfnd, if_pos c11]) ?_
          refine jr_norm [(m0, .inr (10, jmdl R mb)), ((mb 0), .inl (t 0, 64, .inl F1)), ((mb 1), .inl (t 0, 64, .inl F2)), ((mb 2), .inl (t 0, 784, .inl (mcau F1 F2 r sn (P + 1 + q) (i + 1) CU))), ((mb 3), .inl (t 0, 8, .inl LN)), ((mb 4), .inl (t 0, 8, .inl TG)), ((mb 5), .inl (t 3, 49, .inl MK)), ((mb 6), .inl (t 0, 49, .inl LO)), ((mb 7), .inl (t 0, 49, .inl HI))] [] 25 0 0 rfl rfl rfl rfl rfl ?_
          refine jr_lv [4, 5, 6, 1, 0] [(0, .ref m0), (1, .int (nI (P + 1 + q))), (2, .int (nI (98 * r))), (3, .int (mfnd F1 MK LO HI sn (P + 1 + q) (i + 1))), (4, .int (nI (i + 1)))] rfl ?_
          exact ih25 (i + 1) (by omega) (by omega)
        · refine jr_aload_n CC (jd ddX11_completes 56 rfl) 1 rfl ?_
          refine jr_pc (pc' := 91) rfl ?_
          refine jr_get (v := .ref (mb 0)) CC (jd ddX11_completes 57 rfl) (jf_X11_23 CC) 0 rfl rfl ?_
          refine jr_iload CC (jd ddX11_completes 58 rfl) 0 rfl ?_
          refine jr_ialdN CC (jd ddX11_completes 59 rfl) 1 (((sn - (P + 1 + q)) + i) % 64) rfl rfl (by omega) (by decide) ?_
          refine jr_aload_n CC (jd ddX11_completes 60 rfl) 1 rfl ?_
          refine jr_get (v := .ref (mb 6)) CC (jd ddX11_completes 61 rfl) (jf_X11_43 CC) 0 rfl rfl ?_
          refine jr_iload CC (jd ddX11_completes 62 rfl) 5 rfl ?_
          refine jr_ialdN CC (jd ddX11_completes 63 rfl) 7 i rfl rfl (by omega) (by decide) ?_
          refine jr_aload_n CC (jd ddX11_completes 64 rfl) 1 rfl ?_
          refine jr_get (v := .ref (mb 7)) CC (jd ddX11_completes 65 rfl) (jf_X11_46 CC) 0 rfl rfl ?_
          refine jr_iload CC (jd ddX11_completes 66 rfl) 5 rfl ?_
          refine jr_pc (pc' := 110) rfl ?_
          refine jr_ialdN CC (jd ddX11_completes 67 rfl) 8 i rfl rfl (by omega) (by decide) ?_
          refine jr_callS (rest := []) [.int (F1 (((sn - (P + 1 + q)) + i) % 64)), .int (LO i), .int (HI i)] CC (jd ddX11_completes 68 rfl) (jy_X11_67 CC) (k_X11_isIn l t hfl (F1 (((sn - (P + 1 + q)) + i) % 64)) (LO i) (HI i)) [] rfl (by decide) rfl rfl (by decide) (Nat.le_of_ble_eq_true rfl) (by rintro v u h; rcases h with ⟨rfl, rfl⟩ <;> rfl) (fun _ _ h => h.elim) (fun _ _ h => h.elim) (fun v u h => ?_)
          rcases h with ⟨rfl, rfl⟩
          refine jr_norm [(m0, .inr (10, jmdl R mb)), ((mb 0), .inl (t 0, 64, .inl F1)), ((mb 1), .inl (t 0, 64, .inl F2)), ((mb 2), .inl (t 0, 784, .inl (upd (upd (mcau F1 F2 r sn (P + 1 + q) i CU) ((98 * r) + i) (F1 (((sn - (P + 1 + q)) + i) % 64))) (((98 * r) + 49) + i) (F2 (((sn - (P + 1 + q)) + i) % 64))))), ((mb 3), .inl (t 0, 8, .inl LN)), ((mb 4), .inl (t 0, 8, .inl TG)), ((mb 5), .inl (t 3, 49, .inl MK)), ((mb 6), .inl (t 0, 49, .inl LO)), ((mb 7), .inl (t 0, 49, .inl HI))] [.int (mIn (F1 (((sn - (P + 1 + q)) + i) % 64)) (LO i) (HI i))] 114 0 0 rfl rfl rfl rfl rfl ?_
          refine jr_if_ne 121 CC (jd ddX11_completes 69 rfl) (by decide) (fun c13 => ?_) (fun c13 => ?_)
          · refine jr_iconst (v := 0) CC (jd ddX11_completes 72 rfl) (by decide) ?_
            refine jr_istore [(6, .int 0), (5, .int (nI (((sn - (P + 1 + q)) + i) % 64))), (0, .ref m0), (1, .int (nI (P + 1 + q))), (2, .int (nI (98 * r))), (3, .int (mfnd F1 MK LO HI sn (P + 1 + q) i)), (4, .int (nI i))] CC (jd ddX11_completes 73 rfl) (by decide) rfl ?_
            refine jr_iload CC (jd ddX11_completes 74 rfl) 0 rfl ?_
            refine jr_if_eq 138 CC (jd ddX11_completes 75 rfl) (by decide) (fun _ => ?_) (fun h => absurd h (by decide))
            refine jr_iload_n CC (jd ddX11_completes 80 rfl) 5 rfl ?_
            refine jr_istore_n 3 [(3, .int (mfnd F1 MK LO HI sn (P + 1 + q) i)), (6, .int 0), (5, .int (nI (((sn - (P + 1 + q)) + i) % 64))), (0, .ref m0), (1, .int (nI (P + 1 + q))), (2, .int (nI (98 * r))), (4, .int (nI i))] CC (jd ddX11_completes 81 rfl) rfl (by decide) rfl ?_
            refine jr_iinc [(4, .int (nI (i + 1))), (3, .int (mfnd F1 MK LO HI sn (P + 1 + q) i)), (6, .int 0), (5, .int (nI (((sn - (P + 1 + q)) + i) % 64))), (0, .ref m0), (1, .int (nI (P + 1 + q))), (2, .int (nI (98 * r)))] CC (jd ddX11_completes 82 rfl) 6 rfl (nI_1 _) (by decide) rfl ?_
            refine jr_goto 25 CC (jd ddX11_completes 83 rfl) (by decide) ?_
            refine jr_ws [(m0, .inr (10, jmdl R mb)), ((mb 0), .inl (t 0, 64, .inl F1)), ((mb 1), .inl (t 0, 64, .inl F2)), ((mb 2), .inl (t 0, 784, .inl (mcau F1 F2 r sn (P + 1 + q) (i + 1) CU))), ((mb 3), .inl (t 0, 8, .inl LN)), ((mb 4), .inl (t 0, 8, .inl TG)), ((mb 5), .inl (t 3, 49, .inl MK)), ((mb 6), .inl (t 0, 49, .inl LO)), ((mb 7), .inl (t 0, 49, .inl HI))] (by rw [← mcau_s F1 F2 r sn (P + 1 + q) i CU (by omega)] <;> rfl) ?_
            refine jr_norm0 [(4, .int (nI (i + 1))), (3, .int (mfnd F1 MK LO HI sn (P + 1 + q) (i + 1))), (6, .int 0), (5, .int (nI (((sn - (P + 1 + q)) + i) % 64))), (0, .ref m0), (1, .int (nI (P + 1 + q))), (2, .int (nI (98 * r)))] (by rw [mfnd, if_neg c11, if_neg c13]) ?_
            refine jr_norm [(m0, .inr (10, jmdl R mb)), ((mb 0), .inl (t 0, 64, .inl F1)), ((mb 1), .inl (t 0, 64, .inl F2)), ((mb 2), .inl (t 0, 784, .inl (mcau F1 F2 r sn (P + 1 + q) (i + 1) CU))), ((mb 3), .inl (t 0, 8, .inl LN)), ((mb 4), .inl (t 0, 8, .inl TG)), ((mb 5), .inl (t 3, 49, .inl MK)), ((mb 6), .inl (t 0, 49, .inl LO)), ((mb 7), .inl (t 0, 49, .inl HI))] [] 25 0 0 rfl rfl rfl rfl rfl ?_
            refine jr_lv [4, 5, 6, 1, 0] [(0, .ref m0), (1, .int (nI (P + 1 + q))), (2, .int (nI (98 * r))), (3, .int (mfnd F1 MK LO HI sn (P + 1 + q) (i + 1))), (4, .int (nI (i + 1)))] rfl ?_
            exact ih25 (i + 1) (by omega) (by omega)
          · refine jr_iconst (v := 1) CC (jd ddX11_completes 70 rfl) (by decide) ?_
            refine jr_goto 122 CC (jd ddX11_completes 71 rfl) (by decide) ?_
            refine jr_istore [(6, .int 1), (5, .int (nI (((sn - (P + 1 + q)) + i) % 64))), (0, .ref m0), (1, .int (nI (P + 1 + q))), (2, .int (nI (98 * r))), (3, .int (mfnd F1 MK LO HI sn (P + 1 + q) i)), (4, .int (nI i))] CC (jd ddX11_completes 73 rfl) (by decide) rfl ?_
            refine jr_iload CC (jd ddX11_completes 74 rfl) 0 rfl ?_
            refine jr_if_eq 138 CC (jd ddX11_completes 75 rfl) (by decide) (fun h => absurd h (by decide)) (fun _ => ?_)
            refine jr_iload_n CC (jd ddX11_completes 76 rfl) 5 rfl ?_
            refine jr_if_ge 138 CC (jd ddX11_completes 77 rfl) (by decide) (fun c16 => ?_) (fun c16 => ?_)
            · refine jr_iload_n CC (jd ddX11_completes 80 rfl) 5 rfl ?_
              refine jr_istore_n 3 [(3, .int (mfnd F1 MK LO HI sn (P + 1 + q) i)), (6, .int 1), (5, .int (nI (((sn - (P + 1 + q)) + i) % 64))), (0, .ref m0), (1, .int (nI (P + 1 + q))), (2, .int (nI (98 * r))), (4, .int (nI i))] CC (jd ddX11_completes 81 rfl) rfl (by decide) rfl ?_
              refine jr_iinc [(4, .int (nI (i + 1))), (3, .int (mfnd F1 MK LO HI sn (P + 1 + q) i)), (6, .int 1), (5, .int (nI (((sn - (P + 1 + q)) + i) % 64))), (0, .ref m0), (1, .int (nI (P + 1 + q))), (2, .int (nI (98 * r)))] CC (jd ddX11_completes 82 rfl) 6 rfl (nI_1 _) (by decide) rfl ?_
              refine jr_goto 25 CC (jd ddX11_completes 83 rfl) (by decide) ?_
              refine jr_ws [(m0, .inr (10, jmdl R mb)), ((mb 0), .inl (t 0, 64, .inl F1)), ((mb 1), .inl (t 0, 64, .inl F2)), ((mb 2), .inl (t 0, 784, .inl (mcau F1 F2 r sn (P + 1 + q) (i + 1) CU))), ((mb 3), .inl (t 0, 8, .inl LN)), ((mb 4), .inl (t 0, 8, .inl TG)), ((mb 5), .inl (t 3, 49, .inl MK)), ((mb 6), .inl (t 0, 49, .inl LO)), ((mb 7), .inl (t 0, 49, .inl HI))] (by rw [← mcau_s F1 F2 r sn (P + 1 + q) i CU (by omega)] <;> rfl) ?_
              refine jr_norm0 [(4, .int (nI (i + 1))), (3, .int (mfnd F1 MK LO HI sn (P + 1 + q) (i + 1))), (6, .int 1), (5, .int (nI (((sn - (P + 1 + q)) + i) % 64))), (0, .ref m0), (1, .int (nI (P + 1 + q))), (2, .int (nI (98 * r)))] (by rw [mfnd, if_neg c11, if_pos c13, if_neg (Int32.not_lt.mpr c16)]) ?_
              refine jr_norm [(m0, .inr (10, jmdl R mb)), ((mb 0), .inl (t 0, 64, .inl F1)), ((mb 1), .inl (t 0, 64, .inl F2)), ((mb 2), .inl (t 0, 784, .inl (mcau F1 F2 r sn (P + 1 + q) (i + 1) CU))), ((mb 3), .inl (t 0, 8, .inl LN)), ((mb 4), .inl (t 0, 8, .inl TG)), ((mb 5), .inl (t 3, 49, .inl MK)), ((mb 6), .inl (t 0, 49, .inl LO)), ((mb 7), .inl (t 0, 49, .inl HI))] [] 25 0 0 rfl rfl rfl rfl rfl ?_
              refine jr_lv [4, 5, 6, 1, 0] [(0, .ref m0), (1, .int (nI (P + 1 + q))), (2, .int (nI (98 * r))), (3, .int (mfnd F1 MK LO HI sn (P + 1 + q) (i + 1))), (4, .int (nI (i + 1)))] rfl ?_
              exact ih25 (i + 1) (by omega) (by omega)
            · refine jr_iload CC (jd ddX11_completes 78 rfl) 6 rfl ?_
              refine jr_goto 139 CC (jd ddX11_completes 79 rfl) (by decide) ?_
              refine jr_istore_n 3 [(3, .int (nI i)), (6, .int 1), (5, .int (nI (((sn - (P + 1 + q)) + i) % 64))), (0, .ref m0), (1, .int (nI (P + 1 + q))), (2, .int (nI (98 * r))), (4, .int (nI i))] CC (jd ddX11_completes 81 rfl) rfl (by decide) rfl ?_
              refine jr_iinc [(4, .int (nI (i + 1))), (3, .int (nI i)), (6, .int 1), (5, .int (nI (((sn - (P + 1 + q)) + i) % 64))), (0, .ref m0), (1, .int (nI (P + 1 + q))), (2, .int (nI (98 * r)))] CC (jd ddX11_completes 82 rfl) 6 rfl (nI_1 _) (by decide) rfl ?_
              refine jr_goto 25 CC (jd ddX11_completes 83 rfl) (by decide) ?_
              refine jr_ws [(m0, .inr (10, jmdl R mb)), ((mb 0), .inl (t 0, 64, .inl F1)), ((mb 1), .inl (t 0, 64, .inl F2)), ((mb 2), .inl (t 0, 784, .inl (mcau F1 F2 r sn (P + 1 + q) (i + 1) CU))), ((mb 3), .inl (t 0, 8, .inl LN)), ((mb 4), .inl (t 0, 8, .inl TG)), ((mb 5), .inl (t 3, 49, .inl MK)), ((mb 6), .inl (t 0, 49, .inl LO)), ((mb 7), .inl (t 0, 49, .inl HI))] (by rw [← mcau_s F1 F2 r sn (P + 1 + q) i CU (by omega)] <;> rfl) ?_
              refine jr_norm0 [(4, .int (nI (i + 1))), (3, .int (mfnd F1 MK LO HI sn (P + 1 + q) (i + 1))), (6, .int 1), (5, .int (nI (((sn - (P + 1 + q)) + i) % 64))), (0, .ref m0), (1, .int (nI (P + 1 + q))), (2, .int (nI (98 * r)))] (by rw [mfnd, if_neg c11, if_pos c13, if_pos (Int32.not_le.mp c16)]) ?_
              refine jr_norm [(m0, .inr (10, jmdl R mb)), ((mb 0), .inl (t 0, 64, .inl F1)), ((mb 1), .inl (t 0, 64, .inl F2)), ((mb 2), .inl (t 0, 784, .inl (mcau F1 F2 r sn (P + 1 + q) (i + 1) CU))), ((mb 3), .inl (t 0, 8, .inl LN)), ((mb 4), .inl (t 0, 8, .inl TG)), ((mb 5), .inl (t 3, 49, .inl MK)), ((mb 6), .inl (t 0, 49, .inl LO)), ((mb 7), .inl (t 0, 49, .inl HI))] [] 25 0 0 rfl rfl rfl rfl rfl ?_
              refine jr_lv [4, 5, 6, 1, 0] [(0, .ref m0), (1, .int (nI (P + 1 + q))), (2, .int (nI (98 * r))), (3, .int (mfnd F1 MK LO HI sn (P + 1 + q) (i + 1))), (4, .int (nI (i + 1)))] rfl ?_
              exact ih25 (i + 1) (by omega) (by omega)
  refine jr_norm [(m0, .inr (10, jmdl R mb)), ((mb 0), .inl (t 0, 64, .inl F1)), ((mb 1), .inl (t 0, 64, .inl F2)), ((mb 2), .inl (t 0, 784, .inl (mcau F1 F2 r sn (P + 1 + q) 0 CU))), ((mb 3), .inl (t 0, 8, .inl LN)), ((mb 4), .inl (t 0, 8, .inl TG)), ((mb 5), .inl (t 3, 49, .inl MK)), ((mb 6), .inl (t 0, 49, .inl LO)), ((mb 7), .inl (t 0, 49, .inl HI))] [] 25 0 0 rfl rfl rfl rfl rfl ?_
  refine jr_lv [4, 3, 2, 1, 0] [(0, .ref m0), (1, .int (nI (P + 1 + q))), (2, .int (nI (98 * r))), (3, .int (mfnd F1 MK LO HI sn (P + 1 + q) 0)), (4, .int (nI 0))] rfl ?_
  exact hL1 ((P + 1 + q) - 0 + 1) 0 (Nat.zero_le _) (Nat.lt_succ_self _)
