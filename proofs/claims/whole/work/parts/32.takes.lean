/-- what the reference holds as it takes samples: 1 its numbers, 2 and 3 the last sixty-four, 4 what was caught, 5 lengths, 6 triggers -/
abbrev MS : Type := (Nat → Int32) × (Nat → Int32) × (Nat → Int32) × (Nat → Int32) × (Nat → Int32) × (Nat → Int32)
def m01 (x : Int32) : Int32 := if x = 0 then 0 else 1
theorem m0101 (x : Int32) : m01 x = 0 ∨ m01 x = 1 := by unfold m01; split <;> simp
def mCan (R : Nat → Int32) (s : Int32) : Int32 := if R 20 = 0 then 0 else if R 21 = 0 then (if s < R 17 then 0 else if R 22 = 0 then 1 else if s - R 23 ≤ R 19 then 0 else 1) else 0
theorem mCan01 (R : Nat → Int32) (s : Int32) : mCan R s = 0 ∨ mCan R s = 1 := by
  unfold mCan; (repeat' split) <;> first | exact Or.inl rfl | exact Or.inr rfl
def tG (R : Nat → Int32) (s : Nat) (a b : Int32) : Nat → Int32 := upd (mG (upd R 24 (nI (s + 1))) a b) 25 (mG (upd R 24 (nI (s + 1))) a b 25 + m01 (mR (upd R 24 (nI (s + 1))) a b))
def tT (R : Nat → Int32) (s : Nat) (a b : Int32) : Nat → Int32 := if mR (upd R 24 (nI (s + 1))) a b = 0 then tG R s a b else if mCan (tG R s a b) (nI s) = 0 then tG R s a b else upd (upd (upd (tG R s a b) 22 1) 23 (nI s)) 21 1
/-- whether a record becomes complete, from the numbers behind the trigger -/
def tD (R : Nat → Int32) (s : Nat) : Int32 := if R 21 = 0 then 0 else if nI s - R 23 = R 18 then 1 else 0
def tStep (MK LO HI : Nat → Int32) (s P q r : Nat) (T : MS) (a b : Int32) : MS × Int32 :=
  if tD (tT T.1 s a b) s = 0 then ((tT T.1 s a b, upd T.2.1 (s % 64) a, upd T.2.2.1 (s % 64) b, T.2.2.2.1, T.2.2.2.2.1, T.2.2.2.2.2), 0)
  else ((mFin (tT T.1 s a b) r (mfnd (upd T.2.1 (s % 64) a) MK LO HI (s + 1) (P + 1 + q) (P + 1 + q)), upd T.2.1 (s % 64) a, upd T.2.2.1 (s % 64) b, mcau (upd T.2.1 (s % 64) a) (upd T.2.2.1 (s % 64) b) r (s + 1) (P + 1 + q) (P + 1 + q) T.2.2.2.1, upd T.2.2.2.2.1 r (nI (P + 1 + q)), upd T.2.2.2.2.2 r (tT T.1 s a b 23)), 1)
theorem tG_k (R : Nat → Int32) (s : Nat) (a b : Int32) (k : Nat) (h : k < 6 ∨ 17 ≤ k) (h2 : k ≠ 24) (h3 : k ≠ 25) : tG R s a b k = R k := by
  unfold tG
  rw [pk_un h3, mG_k _ _ _ _ h, pk_un h2]
theorem tT_k (R : Nat → Int32) (s : Nat) (a b : Int32) (k : Nat) (h : k < 6 ∨ 17 ≤ k) (h2 : k ≠ 24) (h3 : k ≠ 25) (h4 : k ≠ 21) (h5 : k ≠ 22) (h6 : k ≠ 23) : tT R s a b k = R k := by
  unfold tT
  (repeat' split)
  · exact tG_k _ _ _ _ _ h h2 h3
  · exact tG_k _ _ _ _ _ h h2 h3
  · rw [pk_un h4, pk_un h6, pk_un h5]; exact tG_k _ _ _ _ _ h h2 h3
theorem tG_24 (R : Nat → Int32) (s : Nat) (a b : Int32) : tG R s a b 24 = nI (s + 1) := by
  unfold tG
  rw [pk_un (by decide), mG_k _ _ _ _ (by decide), pk_us]
/-- what keeps the reference's records whole: armed or catching there is room for one more, and one that is being caught has its samples -/
def tOK (R : Nat → Int32) (s P q r : Nat) : Prop := R 24 = nI s ∧ R 17 = nI P ∧ R 18 = nI q ∧ R 28 = nI r ∧ s < 1000000 ∧ P ≤ 16 ∧ q ≤ 32 ∧ r ≤ 8 ∧ (¬ R 20 = 0 → r < 8) ∧ (¬ R 21 = 0 → r < 8 ∧ ∃ u : Nat, R 23 = nI u ∧ P ≤ u ∧ u ≤ s)
theorem tOK_go {R : Nat → Int32} {s P q r : Nat} (h : tOK R s P q r) (a b : Int32) (hd : ¬ tD (tT R s a b) s = 0) : r < 8 ∧ P + 1 + q ≤ s + 1 := by
  obtain ⟨h1, h2, h3, h4, h5, h6, h7, h8, h9, h10⟩ := h
  have e18 : tT R s a b 18 = nI q := (tT_k _ _ _ _ _ (by decide) (by decide) (by decide) (by decide) (by decide) (by decide)).trans h3
  unfold tD at hd
  by_cases c1 : tT R s a b 21 = 0
  · rw [if_pos c1] at hd; exact absurd rfl hd
  rw [if_neg c1] at hd
  by_cases c2 : nI s - tT R s a b 23 = tT R s a b 18
  · rw [e18] at c2
    by_cases g : mR (upd R 24 (nI (s + 1))) a b = 0
    · have e : tT R s a b = tG R s a b := if_pos g
      rw [e, tG_k _ _ _ _ _ (by decide) (by decide) (by decide)] at c1 c2
      obtain ⟨hr, u, hu, hu1, hu2⟩ := h10 c1
      rw [hu, pk_sub hu2] at c2
      have := (nI_eq (by omega) (by omega)).mp c2
      exact ⟨hr, by omega⟩
    · by_cases g2 : mCan (tG R s a b) (nI s) = 0
      · have e : tT R s a b = tG R s a b := (if_neg g).trans (if_pos g2)
        rw [e, tG_k _ _ _ _ _ (by decide) (by decide) (by decide)] at c1 c2
        obtain ⟨hr, u, hu, hu1, hu2⟩ := h10 c1
        rw [hu, pk_sub hu2] at c2
        have := (nI_eq (by omega) (by omega)).mp c2
        exact ⟨hr, by omega⟩
      · have e : tT R s a b = upd (upd (upd (tG R s a b) 22 1) 23 (nI s)) 21 1 := (if_neg g).trans (if_neg g2)
        rw [e, pk_un (by decide), pk_us, pk_sub (Nat.le_refl _), Nat.sub_self] at c2
        have hq := (nI_eq (by omega) (by omega)).mp c2
        unfold mCan at g2
        rw [tG_k _ _ _ _ 20 (by decide) (by decide) (by decide), tG_k _ _ _ _ 17 (by decide) (by decide) (by decide)] at g2
        by_cases k1 : R 20 = 0
        · rw [if_pos k1] at g2; exact absurd rfl g2
        rw [if_neg k1] at g2
        split at g2
        · by_cases k3 : nI s < R 17
          · rw [if_pos k3] at g2; exact absurd rfl g2
          · rw [h2] at k3
            have := jlt_not k3 (by omega) (by omega)
            exact ⟨h9 k1, by omega⟩
        · exact absurd rfl g2
  · rw [if_neg c2] at hd; exact absurd rfl hd
set_option maxHeartbeats 8000000 in
set_option maxRecDepth 100000 in
theorem k_X11_takes (l : Launch) (t : Nat → ClassId) (hfl : l.stackTraces = false) (m0 : Nat) (mb : Nat → Nat) (R : Nat → Int32) (F1 : Nat → Int32) (F2 : Nat → Int32) (CU : Nat → Int32) (LN : Nat → Int32) (TG : Nat → Int32) (MK : Nat → Int32) (LO : Nat → Int32) (HI : Nat → Int32) (sn : Nat) (P : Nat) (q : Nat) (r : Nat) (a : Int32) (b : Int32) (hB : mBool R) (hOK : tOK R sn P q r) : jKx l t yX11_takes (Cond.code yX11_takes cX11_takes 6 (some .int) :: jWS) { frames := 2, cells := 0, slots := 0, locals := 49 } [.ref m0, .int a, .int b] [(m0, .inr (10, jmdl R mb)), ((mb 0), .inl (t 0, 64, .inl F1)), ((mb 1), .inl (t 0, 64, .inl F2)), ((mb 2), .inl (t 0, 784, .inl CU)), ((mb 3), .inl (t 0, 8, .inl LN)), ((mb 4), .inl (t 0, 8, .inl TG)), ((mb 5), .inl (t 3, 49, .inl MK)), ((mb 6), .inl (t 0, 49, .inl LO)), ((mb 7), .inl (t 0, 49, .inl HI))] (fun vv uu => (vv = some (.int ((tStep MK LO HI sn P q r (R, F1, F2, CU, LN, TG) a b).2)) ∧ uu = [(m0, .inr (10, jmdl ((tStep MK LO HI sn P q r (R, F1, F2, CU, LN, TG) a b).1.1) mb)), ((mb 0), .inl (t 0, 64, .inl ((tStep MK LO HI sn P q r (R, F1, F2, CU, LN, TG) a b).1.2.1))), ((mb 1), .inl (t 0, 64, .inl ((tStep MK LO HI sn P q r (R, F1, F2, CU, LN, TG) a b).1.2.2.1))), ((mb 2), .inl (t 0, 784, .inl ((tStep MK LO HI sn P q r (R, F1, F2, CU, LN, TG) a b).1.2.2.2.1))), ((mb 3), .inl (t 0, 8, .inl ((tStep MK LO HI sn P q r (R, F1, F2, CU, LN, TG) a b).1.2.2.2.2.1))), ((mb 4), .inl (t 0, 8, .inl ((tStep MK LO HI sn P q r (R, F1, F2, CU, LN, TG) a b).1.2.2.2.2.2))), ((mb 5), .inl (t 3, 49, .inl MK)), ((mb 6), .inl (t 0, 49, .inl LO)), ((mb 7), .inl (t 0, 49, .inl HI))])) (fun _ _ => False) := by
  refine jK_of hfl (by decide +kernel) (Nat.le_of_ble_eq_true rfl) ?_
  intro p e s m args below meth c D A Q CC MM
  refine jr_norm0 [(0, .ref m0), (1, .int a), (2, .int b)] rfl ?_
  have hs := hOK.1
  have hP := hOK.2.1
  have hq := hOK.2.2.1
  have hr := hOK.2.2.2.1
  have hs9 := hOK.2.2.2.2.1
  have hP9 := hOK.2.2.2.2.2.1
  have hq9 := hOK.2.2.2.2.2.2.1
  refine jr_aload_n CC (jd ddX11_takes 0 rfl) 0 rfl ?_
  refine jr_get (v := .int (R 24)) CC (jd ddX11_takes 1 rfl) (jf_X11_159 CC) 0 rfl rfl ?_
  refine jr_st [.int (nI sn)] (jst1 hs) ?_
  refine jr_istore_n 3 [(3, .int (nI sn)), (0, .ref m0), (1, .int a), (2, .int b)] CC (jd ddX11_takes 2 rfl) rfl (by decide) rfl ?_
  refine jr_aload_n CC (jd ddX11_takes 3 rfl) 1 rfl ?_
  refine jr_get (v := .ref (mb 0)) CC (jd ddX11_takes 4 rfl) (jf_X11_23 CC) 0 rfl rfl ?_
  refine jr_iload_n CC (jd ddX11_takes 5 rfl) 0 rfl ?_
  refine jr_bipush (v := 64) CC (jd ddX11_takes 6 rfl) (by decide) ?_
  refine jr_irem CC (jd ddX11_takes 7 rfl) (by decide) ?_
  refine jr_st [.int (nI (sn % 64)), .ref (mb 0)] (jst1 (pk_rem (a := sn) (d := 64) (by omega) (by omega) (by omega))) ?_
  refine jr_iload_n CC (jd ddX11_takes 8 rfl) 2 rfl ?_
  refine jr_iastN CC (jd ddX11_takes 9 rfl) 1 (sn % 64) rfl rfl (by omega) (by decide) ?_
  refine jr_pc (pc' := 15) rfl ?_
  refine jr_aload_n CC (jd ddX11_takes 10 rfl) 1 rfl ?_
  refine jr_get (v := .ref (mb 1)) CC (jd ddX11_takes 11 rfl) (jf_X11_27 CC) 0 rfl rfl ?_
  refine jr_iload_n CC (jd ddX11_takes 12 rfl) 0 rfl ?_
  refine jr_bipush (v := 64) CC (jd ddX11_takes 13 rfl) (by decide) ?_
  refine jr_irem CC (jd ddX11_takes 14 rfl) (by decide) ?_
  refine jr_st [.int (nI (sn % 64)), .ref (mb 1)] (jst1 (pk_rem (a := sn) (d := 64) (by omega) (by omega) (by omega))) ?_
  refine jr_iload_n CC (jd ddX11_takes 15 rfl) 3 rfl ?_
  refine jr_iastN CC (jd ddX11_takes 16 rfl) 2 (sn % 64) rfl rfl (by omega) (by decide) ?_
  refine jr_aload_n CC (jd ddX11_takes 17 rfl) 1 rfl ?_
  refine jr_dup CC (jd ddX11_takes 18 rfl) rfl ?_
  refine jr_get (v := .int (R 24)) CC (jd ddX11_takes 19 rfl) (jf_X11_159 CC) 0 rfl rfl ?_
  refine jr_st [.int (nI sn), .ref m0] (jst1 hs) ?_
  refine jr_pc (pc' := 30) rfl ?_
  refine jr_iconst (v := 1) CC (jd ddX11_takes 20 rfl) (by decide) ?_
  refine jr_iadd CC (jd ddX11_takes 21 rfl) ?_
  refine jr_st [.int (nI (sn + 1)), .ref m0] (jst1 (nI_add sn 1)) ?_
  refine jr_put CC (jd ddX11_takes 22 rfl) (jf_X11_159 CC) 0 rfl rfl rfl (Nat.le_of_ble_eq_true rfl) ?_
  refine jr_ws [(m0, .inr (10, jmdl (upd R 24 (nI (sn + 1))) mb)), ((mb 0), .inl (t 0, 64, .inl (upd F1 (sn % 64) a))), ((mb 1), .inl (t 0, 64, .inl (upd F2 (sn % 64) b))), ((mb 2), .inl (t 0, 784, .inl CU)), ((mb 3), .inl (t 0, 8, .inl LN)), ((mb 4), .inl (t 0, 8, .inl TG)), ((mb 5), .inl (t 3, 49, .inl MK)), ((mb 6), .inl (t 0, 49, .inl LO)), ((mb 7), .inl (t 0, 49, .inl HI))] rfl ?_
  refine jr_aload_n CC (jd ddX11_takes 23 rfl) 1 rfl ?_
  refine jr_iload_n CC (jd ddX11_takes 24 rfl) 2 rfl ?_
  refine jr_iload_n CC (jd ddX11_takes 25 rfl) 3 rfl ?_
  refine jr_callV (q0 := 0) (rest := []) [.int a, .int b] CC (jd ddX11_takes 26 rfl) (jy_X11_168 CC) (k_X11_looks l t hfl m0 mb (upd R 24 (nI (sn + 1))) a b (mBool_u hB 24 _ (Or.inl (by decide)))) [0] rfl (by decide) rfl rfl rfl rfl (by decide) (Nat.le_of_ble_eq_true rfl) (by rintro v u h; rcases h with ⟨rfl, rfl⟩ <;> exact (show ([m0] : List Nat) = [m0] from rfl)) (fun _ _ h => h.elim) (fun _ _ h => h.elim) (fun v u h => ?_)
  rcases h with ⟨rfl, rfl⟩
  refine jr_norm [(m0, .inr (10, jmdl (mG (upd R 24 (nI (sn + 1))) a b) mb)), ((mb 0), .inl (t 0, 64, .inl (upd F1 (sn % 64) a))), ((mb 1), .inl (t 0, 64, .inl (upd F2 (sn % 64) b))), ((mb 2), .inl (t 0, 784, .inl CU)), ((mb 3), .inl (t 0, 8, .inl LN)), ((mb 4), .inl (t 0, 8, .inl TG)), ((mb 5), .inl (t 3, 49, .inl MK)), ((mb 6), .inl (t 0, 49, .inl LO)), ((mb 7), .inl (t 0, 49, .inl HI))] [.int (mR (upd R 24 (nI (sn + 1))) a b)] 41 0 0 rfl rfl rfl rfl rfl ?_
  refine jr_istore [(4, .int (mR (upd R 24 (nI (sn + 1))) a b)), (3, .int (nI sn)), (0, .ref m0), (1, .int a), (2, .int b)] CC (jd ddX11_takes 27 rfl) (by decide) rfl ?_
  refine jr_aload_n CC (jd ddX11_takes 28 rfl) 2 rfl ?_
  refine jr_dup CC (jd ddX11_takes 29 rfl) rfl ?_
  refine jr_get (v := .int ((mG (upd R 24 (nI (sn + 1))) a b) 25)) CC (jd ddX11_takes 30 rfl) (jf_X11_171 CC) 0 rfl rfl ?_
  have hJ2 : ∀ v1 : Int32, m01 (mR (upd R 24 (nI (sn + 1))) a b) = v1 → J p l e { frames := 2, cells := 0, slots := 0, locals := 49 } s m args below meth c D A 6 Q [(m0, .inr (10, jmdl (mG (upd R 24 (nI (sn + 1))) a b) mb)), ((mb 0), .inl (t 0, 64, .inl (upd F1 (sn % 64) a))), ((mb 1), .inl (t 0, 64, .inl (upd F2 (sn % 64) b))), ((mb 2), .inl (t 0, 784, .inl CU)), ((mb 3), .inl (t 0, 8, .inl LN)), ((mb 4), .inl (t 0, 8, .inl TG)), ((mb 5), .inl (t 3, 49, .inl MK)), ((mb 6), .inl (t 0, 49, .inl LO)), ((mb 7), .inl (t 0, 49, .inl HI))] [(4, .int (mR (upd R 24 (nI (sn + 1))) a b)), (3, .int (nI sn)), (0, .ref m0), (1, .int a), (2, .int b)] 58 [.int v1, .int ((mG (upd R 24 (nI (sn + 1))) a b) 25), .ref m0] 0 0 := by
    intro v1 e3
    have bv1 : v1 = 0 ∨ v1 = 1 := e3 ▸ (m0101 _)
    refine jr_iadd CC (jd ddX11_takes 36 rfl) ?_
    refine jr_put CC (jd ddX11_takes 37 rfl) (jf_X11_171 CC) 0 rfl rfl rfl (Nat.le_of_ble_eq_true rfl) ?_
    refine jr_ws [(m0, .inr (10, jmdl (upd (mG (upd R 24 (nI (sn + 1))) a b) 25 (((mG (upd R 24 (nI (sn + 1))) a b) 25) + v1)) mb)), ((mb 0), .inl (t 0, 64, .inl (upd F1 (sn % 64) a))), ((mb 1), .inl (t 0, 64, .inl (upd F2 (sn % 64) b))), ((mb 2), .inl (t 0, 784, .inl CU)), ((mb 3), .inl (t 0, 8, .inl LN)), ((mb 4), .inl (t 0, 8, .inl TG)), ((mb 5), .inl (t 3, 49, .inl MK)), ((mb 6), .inl (t 0, 49, .inl LO)), ((mb 7), .inl (t 0, 49, .inl HI))] rfl ?_
    have hJ5 : ∀ v4 : Int32, mCan (upd (mG (upd R 24 (nI (sn + 1))) a b) 25 (((mG (upd R 24 (nI (sn + 1))) a b) 25) + v1)) (nI sn) = v4 → J p l e { frames := 2, cells := 0, slots := 0, locals := 49 } s m args below meth c D A 6 Q [(m0, .inr (10, jmdl (upd (mG (upd R 24 (nI (sn + 1))) a b) 25 (((mG (upd R 24 (nI (sn + 1))) a b) 25) + v1)) mb)), ((mb 0), .inl (t 0, 64, .inl (upd F1 (sn % 64) a))), ((mb 1), .inl (t 0, 64, .inl (upd F2 (sn % 64) b))), ((mb 2), .inl (t 0, 784, .inl CU)), ((mb 3), .inl (t 0, 8, .inl LN)), ((mb 4), .inl (t 0, 8, .inl TG)), ((mb 5), .inl (t 3, 49, .inl MK)), ((mb 6), .inl (t 0, 49, .inl LO)), ((mb 7), .inl (t 0, 49, .inl HI))] [(4, .int (mR (upd R 24 (nI (sn + 1))) a b)), (3, .int (nI sn)), (0, .ref m0), (1, .int a), (2, .int b)] 109 [.int v4] 0 0 := by
      intro v4 e6
      have bv4 : v4 = 0 ∨ v4 = 1 := e6 ▸ (mCan01 _ _)
      refine jr_istore [(5, .int v4), (4, .int (mR (upd R 24 (nI (sn + 1))) a b)), (3, .int (nI sn)), (0, .ref m0), (1, .int a), (2, .int b)] CC (jd ddX11_takes 61 rfl) (by decide) rfl ?_
      refine jr_iload CC (jd ddX11_takes 62 rfl) 1 rfl ?_
      refine jr_if_eq 136 CC (jd ddX11_takes 63 rfl) (by decide) (fun c7 => ?_) (fun c7 => ?_)
      · refine jr_aload_n CC (jd ddX11_takes 75 rfl) 3 rfl ?_
        refine jr_get (v := .int ((mG (upd R 24 (nI (sn + 1))) a b) 21)) CC (jd ddX11_takes 76 rfl) (jf_X11_150 CC) 0 rfl rfl ?_
        refine jr_if_eq 162 CC (jd ddX11_takes 77 rfl) (by decide) (fun c8 => ?_) (fun c8 => ?_)
        · refine jr_iconst (v := 0) CC (jd ddX11_takes 89 rfl) (by decide) ?_
          exact jr_iret CC MM (jd ddX11_takes 90 rfl) rfl (by decide) (by decide) (by have eg : tG R sn a b = upd (mG (upd R 24 (nI (sn + 1))) a b) 25 ((mG (upd R 24 (nI (sn + 1))) a b) 25 + v1) := (by rw [tG, e3]); have et : tT R sn a b = upd (mG (upd R 24 (nI (sn + 1))) a b) 25 ((mG (upd R 24 (nI (sn + 1))) a b) 25 + v1) := (by rw [tT, if_pos c7, eg]); have ed : tD (tT R sn a b) sn = 0 := (by rw [et, tD, if_pos (by simp [pk_un, c8])]); have e8 : tStep MK LO HI sn P q r (R, F1, F2, CU, LN, TG) a b = (((upd (mG (upd R 24 (nI (sn + 1))) a b) 25 (((mG (upd R 24 (nI (sn + 1))) a b) 25) + v1)), (upd F1 (sn % 64) a), (upd F2 (sn % 64) b), CU, LN, TG), 0) := (by unfold tStep; dsimp only; rw [ed]; rw [if_pos rfl]; rw [et]); rw [e8]; exact ⟨rfl, rfl⟩)
        · refine jr_iload_n CC (jd ddX11_takes 78 rfl) 2 rfl ?_
          refine jr_aload_n CC (jd ddX11_takes 79 rfl) 3 rfl ?_
          refine jr_get (v := .int ((mG (upd R 24 (nI (sn + 1))) a b) 23)) CC (jd ddX11_takes 80 rfl) (jf_X11_165 CC) 0 rfl rfl ?_
          refine jr_isub CC (jd ddX11_takes 81 rfl) ?_
          refine jr_pc (pc' := 149) rfl ?_
          refine jr_aload_n CC (jd ddX11_takes 82 rfl) 3 rfl ?_
          refine jr_get (v := .int ((mG (upd R 24 (nI (sn + 1))) a b) 18)) CC (jd ddX11_takes 83 rfl) (jf_X11_20 CC) 0 rfl rfl ?_
          refine jr_icmp_ne 162 CC (jd ddX11_takes 84 rfl) (by decide) (fun c9 => ?_) (fun c9 => ?_)
          · refine jr_iconst (v := 0) CC (jd ddX11_takes 89 rfl) (by decide) ?_
            exact jr_iret CC MM (jd ddX11_takes 90 rfl) rfl (by decide) (by decide) (by have eg : tG R sn a b = upd (mG (upd R 24 (nI (sn + 1))) a b) 25 ((mG (upd R 24 (nI (sn + 1))) a b) 25 + v1) := (by rw [tG, e3]); have et : tT R sn a b = upd (mG (upd R 24 (nI (sn + 1))) a b) 25 ((mG (upd R 24 (nI (sn + 1))) a b) 25 + v1) := (by rw [tT, if_pos c7, eg]); have ed : tD (tT R sn a b) sn = 0 := (by rw [et, tD, if_neg (by simp [pk_us, pk_un, c8]), if_neg (by simpa [pk_us, pk_un] using c9)]); have e8 : tStep MK LO HI sn P q r (R, F1, F2, CU, LN, TG) a b = (((upd (mG (upd R 24 (nI (sn + 1))) a b) 25 (((mG (upd R 24 (nI (sn + 1))) a b) 25) + v1)), (upd F1 (sn % 64) a), (upd F2 (sn % 64) b), CU, LN, TG), 0) := (by unfold tStep; dsimp only; rw [ed]; rw [if_pos rfl]; rw [et]); rw [e8]; exact ⟨rfl, rfl⟩)
          · have eg : tG R sn a b = upd (mG (upd R 24 (nI (sn + 1))) a b) 25 ((mG (upd R 24 (nI (sn + 1))) a b) 25 + v1) := (by rw [tG, e3])
            have et : tT R sn a b = upd (mG (upd R 24 (nI (sn + 1))) a b) 25 ((mG (upd R 24 (nI (sn + 1))) a b) 25 + v1) := (by rw [tT, if_pos c7, eg])
            have hgo := tOK_go hOK a b (show ¬ tD (tT R sn a b) sn = 0 by rw [et, tD, if_neg (by simp [pk_us, pk_un, c8]), if_pos (by simpa [pk_us, pk_un] using c9)]; decide)
            refine jr_aload_n CC (jd ddX11_takes 85 rfl) 3 rfl ?_
            refine jr_callV (q0 := 0) (rest := []) [] CC (jd ddX11_takes 86 rfl) (jy_X11_174 CC) (k_X11_completes l t hfl m0 mb (upd (mG (upd R 24 (nI (sn + 1))) a b) 25 (((mG (upd R 24 (nI (sn + 1))) a b) 25) + v1)) (upd F1 (sn % 64) a) (upd F2 (sn % 64) b) CU LN TG MK LO HI (sn + 1) P q r (by simp [upd, mG_k]) (by simp [upd, mG_k, hP]) (by simp [upd, mG_k, hq]) (by simp [upd, mG_k, hr]) (by omega) hP9 hq9 hgo.1 hgo.2) [0, 1, 2, 3, 4, 5, 6, 7, 8] rfl (by decide) rfl rfl rfl rfl (by decide) (Nat.le_of_ble_eq_true rfl) (by rintro v u h; rcases h with ⟨rfl, rfl⟩ <;> exact (show ([m0, (mb 0), (mb 1), (mb 2), (mb 3), (mb 4), (mb 5), (mb 6), (mb 7)] : List Nat) = [m0, (mb 0), (mb 1), (mb 2), (mb 3), (mb 4), (mb 5), (mb 6), (mb 7)] from rfl)) (fun _ _ h => h.elim) (fun _ _ h => h.elim) (fun v u h => ?_)
            rcases h with ⟨rfl, rfl⟩
            refine jr_norm [(m0, .inr (10, jmdl (mFin (upd (mG (upd R 24 (nI (sn + 1))) a b) 25 (((mG (upd R 24 (nI (sn + 1))) a b) 25) + v1)) r (mfnd (upd F1 (sn % 64) a) MK LO HI (sn + 1) (P + 1 + q) (P + 1 + q))) mb)), ((mb 0), .inl (t 0, 64, .inl (upd F1 (sn % 64) a))), ((mb 1), .inl (t 0, 64, .inl (upd F2 (sn % 64) b))), ((mb 2), .inl (t 0, 784, .inl (mcau (upd F1 (sn % 64) a) (upd F2 (sn % 64) b) r (sn + 1) (P + 1 + q) (P + 1 + q) CU))), ((mb 3), .inl (t 0, 8, .inl (upd LN r (nI (P + 1 + q))))), ((mb 4), .inl (t 0, 8, .inl (upd TG r ((upd (mG (upd R 24 (nI (sn + 1))) a b) 25 (((mG (upd R 24 (nI (sn + 1))) a b) 25) + v1)) 23)))), ((mb 5), .inl (t 3, 49, .inl MK)), ((mb 6), .inl (t 0, 49, .inl LO)), ((mb 7), .inl (t 0, 49, .inl HI))] [] 160 0 0 rfl rfl rfl rfl rfl ?_
            refine jr_iconst (v := 1) CC (jd ddX11_takes 87 rfl) (by decide) ?_
            exact jr_iret CC MM (jd ddX11_takes 88 rfl) rfl (by decide) (by decide) (by have eg : tG R sn a b = upd (mG (upd R 24 (nI (sn + 1))) a b) 25 ((mG (upd R 24 (nI (sn + 1))) a b) 25 + v1) := (by rw [tG, e3]); have et : tT R sn a b = upd (mG (upd R 24 (nI (sn + 1))) a b) 25 ((mG (upd R 24 (nI (sn + 1))) a b) 25 + v1) := (by rw [tT, if_pos c7, eg]); have ed : tD (tT R sn a b) sn = 1 := (by rw [et, tD, if_neg (by simp [pk_us, pk_un, c8]), if_pos (by simpa [pk_us, pk_un] using c9)]); have e8 : tStep MK LO HI sn P q r (R, F1, F2, CU, LN, TG) a b = (((mFin (upd (mG (upd R 24 (nI (sn + 1))) a b) 25 (((mG (upd R 24 (nI (sn + 1))) a b) 25) + v1)) r (mfnd (upd F1 (sn % 64) a) MK LO HI (sn + 1) (P + 1 + q) (P + 1 + q))), (upd F1 (sn % 64) a), (upd F2 (sn % 64) b), (mcau (upd F1 (sn % 64) a) (upd F2 (sn % 64) b) r (sn + 1) (P + 1 + q) (P + 1 + q) CU), (upd LN r (nI (P + 1 + q))), (upd TG r ((upd (mG (upd R 24 (nI (sn + 1))) a b) 25 (((mG (upd R 24 (nI (sn + 1))) a b) 25) + v1)) 23))), 1) := (by unfold tStep; dsimp only; rw [ed]; rw [if_neg (by decide)]; rw [et]); rw [e8]; exact ⟨rfl, rfl⟩)
      · refine jr_iload CC (jd ddX11_takes 64 rfl) 0 rfl ?_
        refine jr_if_eq 136 CC (jd ddX11_takes 65 rfl) (by decide) (fun c10 => ?_) (fun c10 => ?_)
        · refine jr_aload_n CC (jd ddX11_takes 75 rfl) 3 rfl ?_
          refine jr_get (v := .int ((mG (upd R 24 (nI (sn + 1))) a b) 21)) CC (jd ddX11_takes 76 rfl) (jf_X11_150 CC) 0 rfl rfl ?_
          refine jr_if_eq 162 CC (jd ddX11_takes 77 rfl) (by decide) (fun c11 => ?_) (fun c11 => ?_)
          · refine jr_iconst (v := 0) CC (jd ddX11_takes 89 rfl) (by decide) ?_
            exact jr_iret CC MM (jd ddX11_takes 90 rfl) rfl (by decide) (by decide) (by have eg : tG R sn a b = upd (mG (upd R 24 (nI (sn + 1))) a b) 25 ((mG (upd R 24 (nI (sn + 1))) a b) 25 + v1) := (by rw [tG, e3]); have et : tT R sn a b = upd (mG (upd R 24 (nI (sn + 1))) a b) 25 ((mG (upd R 24 (nI (sn + 1))) a b) 25 + v1) := (by rw [tT, if_neg c7, eg, if_pos (show mCan (upd (mG (upd R 24 (nI (sn + 1))) a b) 25 ((mG (upd R 24 (nI (sn + 1))) a b) 25 + v1)) (nI sn) = 0 by rw [e6]; exact c10)]); have ed : tD (tT R sn a b) sn = 0 := (by rw [et, tD, if_pos (by simp [pk_un, c11])]); have e8 : tStep MK LO HI sn P q r (R, F1, F2, CU, LN, TG) a b = (((upd (mG (upd R 24 (nI (sn + 1))) a b) 25 (((mG (upd R 24 (nI (sn + 1))) a b) 25) + v1)), (upd F1 (sn % 64) a), (upd F2 (sn % 64) b), CU, LN, TG), 0) := (by unfold tStep; dsimp only; rw [ed]; rw [if_pos rfl]; rw [et]); rw [e8]; exact ⟨rfl, rfl⟩)
          · refine jr_iload_n CC (jd ddX11_takes 78 rfl) 2 rfl ?_
            refine jr_aload_n CC (jd ddX11_takes 79 rfl) 3 rfl ?_
            refine jr_pc (pc' := 145) rfl ?_
            refine jr_get (v := .int ((mG (upd R 24 (nI (sn + 1))) a b) 23)) CC (jd ddX11_takes 80 rfl) (jf_X11_165 CC) 0 rfl rfl ?_
            refine jr_isub CC (jd ddX11_takes 81 rfl) ?_
            refine jr_aload_n CC (jd ddX11_takes 82 rfl) 3 rfl ?_
            refine jr_get (v := .int ((mG (upd R 24 (nI (sn + 1))) a b) 18)) CC (jd ddX11_takes 83 rfl) (jf_X11_20 CC) 0 rfl rfl ?_
            refine jr_icmp_ne 162 CC (jd ddX11_takes 84 rfl) (by decide) (fun c12 => ?_) (fun c12 => ?_)
            · refine jr_iconst (v := 0) CC (jd ddX11_takes 89 rfl) (by decide) ?_
              exact jr_iret CC MM (jd ddX11_takes 90 rfl) rfl (by decide) (by decide) (by have eg : tG R sn a b = upd (mG (upd R 24 (nI (sn + 1))) a b) 25 ((mG (upd R 24 (nI (sn + 1))) a b) 25 + v1) := (by rw [tG, e3]); have et : tT R sn a b = upd (mG (upd R 24 (nI (sn + 1))) a b) 25 ((mG (upd R 24 (nI (sn + 1))) a b) 25 + v1) := (by rw [tT, if_neg c7, eg, if_pos (show mCan (upd (mG (upd R 24 (nI (sn + 1))) a b) 25 ((mG (upd R 24 (nI (sn + 1))) a b) 25 + v1)) (nI sn) = 0 by rw [e6]; exact c10)]); have ed : tD (tT R sn a b) sn = 0 := (by rw [et, tD, if_neg (by simp [pk_us, pk_un, c11]), if_neg (by simpa [pk_us, pk_un] using c12)]); have e8 : tStep MK LO HI sn P q r (R, F1, F2, CU, LN, TG) a b = (((upd (mG (upd R 24 (nI (sn + 1))) a b) 25 (((mG (upd R 24 (nI (sn + 1))) a b) 25) + v1)), (upd F1 (sn % 64) a), (upd F2 (sn % 64) b), CU, LN, TG), 0) := (by unfold tStep; dsimp only; rw [ed]; rw [if_pos rfl]; rw [et]); rw [e8]; exact ⟨rfl, rfl⟩)
            · have eg : tG R sn a b = upd (mG (upd R 24 (nI (sn + 1))) a b) 25 ((mG (upd R 24 (nI (sn + 1))) a b) 25 + v1) := (by rw [tG, e3])
              have et : tT R sn a b = upd (mG (upd R 24 (nI (sn + 1))) a b) 25 ((mG (upd R 24 (nI (sn + 1))) a b) 25 + v1) := (by rw [tT, if_neg c7, eg, if_pos (show mCan (upd (mG (upd R 24 (nI (sn + 1))) a b) 25 ((mG (upd R 24 (nI (sn + 1))) a b) 25 + v1)) (nI sn) = 0 by rw [e6]; exact c10)])
              have hgo := tOK_go hOK a b (show ¬ tD (tT R sn a b) sn = 0 by rw [et, tD, if_neg (by simp [pk_us, pk_un, c11]), if_pos (by simpa [pk_us, pk_un] using c12)]; decide)
              refine jr_aload_n CC (jd ddX11_takes 85 rfl) 3 rfl ?_
              refine jr_callV (q0 := 0) (rest := []) [] CC (jd ddX11_takes 86 rfl) (jy_X11_174 CC) (k_X11_completes l t hfl m0 mb (upd (mG (upd R 24 (nI (sn + 1))) a b) 25 (((mG (upd R 24 (nI (sn + 1))) a b) 25) + v1)) (upd F1 (sn % 64) a) (upd F2 (sn % 64) b) CU LN TG MK LO HI (sn + 1) P q r (by simp [upd, mG_k]) (by simp [upd, mG_k, hP]) (by simp [upd, mG_k, hq]) (by simp [upd, mG_k, hr]) (by omega) hP9 hq9 hgo.1 hgo.2) [0, 1, 2, 3, 4, 5, 6, 7, 8] rfl (by decide) rfl rfl rfl rfl (by decide) (Nat.le_of_ble_eq_true rfl) (by rintro v u h; rcases h with ⟨rfl, rfl⟩ <;> exact (show ([m0, (mb 0), (mb 1), (mb 2), (mb 3), (mb 4), (mb 5), (mb 6), (mb 7)] : List Nat) = [m0, (mb 0), (mb 1), (mb 2), (mb 3), (mb 4), (mb 5), (mb 6), (mb 7)] from rfl)) (fun _ _ h => h.elim) (fun _ _ h => h.elim) (fun v u h => ?_)
              rcases h with ⟨rfl, rfl⟩
              refine jr_norm [(m0, .inr (10, jmdl (mFin (upd (mG (upd R 24 (nI (sn + 1))) a b) 25 (((mG (upd R 24 (nI (sn + 1))) a b) 25) + v1)) r (mfnd (upd F1 (sn % 64) a) MK LO HI (sn + 1) (P + 1 + q) (P + 1 + q))) mb)), ((mb 0), .inl (t 0, 64, .inl (upd F1 (sn % 64) a))), ((mb 1), .inl (t 0, 64, .inl (upd F2 (sn % 64) b))), ((mb 2), .inl (t 0, 784, .inl (mcau (upd F1 (sn % 64) a) (upd F2 (sn % 64) b) r (sn + 1) (P + 1 + q) (P + 1 + q) CU))), ((mb 3), .inl (t 0, 8, .inl (upd LN r (nI (P + 1 + q))))), ((mb 4), .inl (t 0, 8, .inl (upd TG r ((upd (mG (upd R 24 (nI (sn + 1))) a b) 25 (((mG (upd R 24 (nI (sn + 1))) a b) 25) + v1)) 23)))), ((mb 5), .inl (t 3, 49, .inl MK)), ((mb 6), .inl (t 0, 49, .inl LO)), ((mb 7), .inl (t 0, 49, .inl HI))] [] 160 0 0 rfl rfl rfl rfl rfl ?_
              refine jr_iconst (v := 1) CC (jd ddX11_takes 87 rfl) (by decide) ?_
              exact jr_iret CC MM (jd ddX11_takes 88 rfl) rfl (by decide) (by decide) (by have eg : tG R sn a b = upd (mG (upd R 24 (nI (sn + 1))) a b) 25 ((mG (upd R 24 (nI (sn + 1))) a b) 25 + v1) := (by rw [tG, e3]); have et : tT R sn a b = upd (mG (upd R 24 (nI (sn + 1))) a b) 25 ((mG (upd R 24 (nI (sn + 1))) a b) 25 + v1) := (by rw [tT, if_neg c7, eg, if_pos (show mCan (upd (mG (upd R 24 (nI (sn + 1))) a b) 25 ((mG (upd R 24 (nI (sn + 1))) a b) 25 + v1)) (nI sn) = 0 by rw [e6]; exact c10)]); have ed : tD (tT R sn a b) sn = 1 := (by rw [et, tD, if_neg (by simp [pk_us, pk_un, c11]), if_pos (by simpa [pk_us, pk_un] using c12)]); have e8 : tStep MK LO HI sn P q r (R, F1, F2, CU, LN, TG) a b = (((mFin (upd (mG (upd R 24 (nI (sn + 1))) a b) 25 (((mG (upd R 24 (nI (sn + 1))) a b) 25) + v1)) r (mfnd (upd F1 (sn % 64) a) MK LO HI (sn + 1) (P + 1 + q) (P + 1 + q))), (upd F1 (sn % 64) a), (upd F2 (sn % 64) b), (mcau (upd F1 (sn % 64) a) (upd F2 (sn % 64) b) r (sn + 1) (P + 1 + q) (P + 1 + q) CU), (upd LN r (nI (P + 1 + q))), (upd TG r ((upd (mG (upd R 24 (nI (sn + 1))) a b) 25 (((mG (upd R 24 (nI (sn + 1))) a b) 25) + v1)) 23))), 1) := (by unfold tStep; dsimp only; rw [ed]; rw [if_neg (by decide)]; rw [et]); rw [e8]; exact ⟨rfl, rfl⟩)
        · refine jr_aload_n CC (jd ddX11_takes 66 rfl) 3 rfl ?_
          refine jr_iconst (v := 1) CC (jd ddX11_takes 67 rfl) (by decide) ?_
          refine jr_put CC (jd ddX11_takes 68 rfl) (jf_X11_153 CC) 0 rfl rfl rfl (Nat.le_of_ble_eq_true rfl) ?_
          refine jr_ws [(m0, .inr (10, jmdl (upd (upd (mG (upd R 24 (nI (sn + 1))) a b) 25 (((mG (upd R 24 (nI (sn + 1))) a b) 25) + v1)) 22 1) mb)), ((mb 0), .inl (t 0, 64, .inl (upd F1 (sn % 64) a))), ((mb 1), .inl (t 0, 64, .inl (upd F2 (sn % 64) b))), ((mb 2), .inl (t 0, 784, .inl CU)), ((mb 3), .inl (t 0, 8, .inl LN)), ((mb 4), .inl (t 0, 8, .inl TG)), ((mb 5), .inl (t 3, 49, .inl MK)), ((mb 6), .inl (t 0, 49, .inl LO)), ((mb 7), .inl (t 0, 49, .inl HI))] rfl ?_
          refine jr_aload_n CC (jd ddX11_takes 69 rfl) 3 rfl ?_
          refine jr_iload_n CC (jd ddX11_takes 70 rfl) 2 rfl ?_
          refine jr_pc (pc' := 128) rfl ?_
          refine jr_put CC (jd ddX11_takes 71 rfl) (jf_X11_165 CC) 0 rfl rfl rfl (Nat.le_of_ble_eq_true rfl) ?_
          refine jr_ws [(m0, .inr (10, jmdl (upd (upd (upd (mG (upd R 24 (nI (sn + 1))) a b) 25 (((mG (upd R 24 (nI (sn + 1))) a b) 25) + v1)) 22 1) 23 (nI sn)) mb)), ((mb 0), .inl (t 0, 64, .inl (upd F1 (sn % 64) a))), ((mb 1), .inl (t 0, 64, .inl (upd F2 (sn % 64) b))), ((mb 2), .inl (t 0, 784, .inl CU)), ((mb 3), .inl (t 0, 8, .inl LN)), ((mb 4), .inl (t 0, 8, .inl TG)), ((mb 5), .inl (t 3, 49, .inl MK)), ((mb 6), .inl (t 0, 49, .inl LO)), ((mb 7), .inl (t 0, 49, .inl HI))] rfl ?_
          refine jr_aload_n CC (jd ddX11_takes 72 rfl) 3 rfl ?_
          refine jr_iconst (v := 1) CC (jd ddX11_takes 73 rfl) (by decide) ?_
          refine jr_put CC (jd ddX11_takes 74 rfl) (jf_X11_150 CC) 0 rfl rfl rfl (Nat.le_of_ble_eq_true rfl) ?_
          refine jr_ws [(m0, .inr (10, jmdl (upd (upd (upd (upd (mG (upd R 24 (nI (sn + 1))) a b) 25 (((mG (upd R 24 (nI (sn + 1))) a b) 25) + v1)) 22 1) 23 (nI sn)) 21 1) mb)), ((mb 0), .inl (t 0, 64, .inl (upd F1 (sn % 64) a))), ((mb 1), .inl (t 0, 64, .inl (upd F2 (sn % 64) b))), ((mb 2), .inl (t 0, 784, .inl CU)), ((mb 3), .inl (t 0, 8, .inl LN)), ((mb 4), .inl (t 0, 8, .inl TG)), ((mb 5), .inl (t 3, 49, .inl MK)), ((mb 6), .inl (t 0, 49, .inl LO)), ((mb 7), .inl (t 0, 49, .inl HI))] rfl ?_
          refine jr_aload_n CC (jd ddX11_takes 75 rfl) 3 rfl ?_
          refine jr_get (v := .int 1) CC (jd ddX11_takes 76 rfl) (jf_X11_150 CC) 0 rfl rfl ?_
          refine jr_if_eq 162 CC (jd ddX11_takes 77 rfl) (by decide) (fun h => absurd h (by decide)) (fun _ => ?_)
          refine jr_iload_n CC (jd ddX11_takes 78 rfl) 2 rfl ?_
          refine jr_aload_n CC (jd ddX11_takes 79 rfl) 3 rfl ?_
          refine jr_get (v := .int (nI sn)) CC (jd ddX11_takes 80 rfl) (jf_X11_165 CC) 0 rfl rfl ?_
          refine jr_pc (pc' := 148) rfl ?_
          refine jr_isub CC (jd ddX11_takes 81 rfl) ?_
          refine jr_aload_n CC (jd ddX11_takes 82 rfl) 3 rfl ?_
          refine jr_get (v := .int ((mG (upd R 24 (nI (sn + 1))) a b) 18)) CC (jd ddX11_takes 83 rfl) (jf_X11_20 CC) 0 rfl rfl ?_
          refine jr_icmp_ne 162 CC (jd ddX11_takes 84 rfl) (by decide) (fun c14 => ?_) (fun c14 => ?_)
          · refine jr_iconst (v := 0) CC (jd ddX11_takes 89 rfl) (by decide) ?_
            exact jr_iret CC MM (jd ddX11_takes 90 rfl) rfl (by decide) (by decide) (by have eg : tG R sn a b = upd (mG (upd R 24 (nI (sn + 1))) a b) 25 ((mG (upd R 24 (nI (sn + 1))) a b) 25 + v1) := (by rw [tG, e3]); have et : tT R sn a b = upd (upd (upd (upd (mG (upd R 24 (nI (sn + 1))) a b) 25 ((mG (upd R 24 (nI (sn + 1))) a b) 25 + v1)) 22 1) 23 (nI sn)) 21 1 := (by rw [tT, if_neg c7, eg, if_neg (show ¬ mCan (upd (mG (upd R 24 (nI (sn + 1))) a b) 25 ((mG (upd R 24 (nI (sn + 1))) a b) 25 + v1)) (nI sn) = 0 by rw [e6]; exact c10)]); have ed : tD (tT R sn a b) sn = 0 := (by rw [et, tD, if_neg (by simp [pk_us, pk_un]), if_neg (by simpa [pk_us, pk_un] using c14)]); have e8 : tStep MK LO HI sn P q r (R, F1, F2, CU, LN, TG) a b = (((upd (upd (upd (upd (mG (upd R 24 (nI (sn + 1))) a b) 25 (((mG (upd R 24 (nI (sn + 1))) a b) 25) + v1)) 22 1) 23 (nI sn)) 21 1), (upd F1 (sn % 64) a), (upd F2 (sn % 64) b), CU, LN, TG), 0) := (by unfold tStep; dsimp only; rw [ed]; rw [if_pos rfl]; rw [et]); rw [e8]; exact ⟨rfl, rfl⟩)
          · have eg : tG R sn a b = upd (mG (upd R 24 (nI (sn + 1))) a b) 25 ((mG (upd R 24 (nI (sn + 1))) a b) 25 + v1) := (by rw [tG, e3])
            have et : tT R sn a b = upd (upd (upd (upd (mG (upd R 24 (nI (sn + 1))) a b) 25 ((mG (upd R 24 (nI (sn + 1))) a b) 25 + v1)) 22 1) 23 (nI sn)) 21 1 := (by rw [tT, if_neg c7, eg, if_neg (show ¬ mCan (upd (mG (upd R 24 (nI (sn + 1))) a b) 25 ((mG (upd R 24 (nI (sn + 1))) a b) 25 + v1)) (nI sn) = 0 by rw [e6]; exact c10)])
            have hgo := tOK_go hOK a b (show ¬ tD (tT R sn a b) sn = 0 by rw [et, tD, if_neg (by simp [pk_us, pk_un]), if_pos (by simpa [pk_us, pk_un] using c14)]; decide)
            refine jr_aload_n CC (jd ddX11_takes 85 rfl) 3 rfl ?_
            refine jr_callV (q0 := 0) (rest := []) [] CC (jd ddX11_takes 86 rfl) (jy_X11_174 CC) (k_X11_completes l t hfl m0 mb (upd (upd (upd (upd (mG (upd R 24 (nI (sn + 1))) a b) 25 (((mG (upd R 24 (nI (sn + 1))) a b) 25) + v1)) 22 1) 23 (nI sn)) 21 1) (upd F1 (sn % 64) a) (upd F2 (sn % 64) b) CU LN TG MK LO HI (sn + 1) P q r (by simp [upd, mG_k]) (by simp [upd, mG_k, hP]) (by simp [upd, mG_k, hq]) (by simp [upd, mG_k, hr]) (by omega) hP9 hq9 hgo.1 hgo.2) [0, 1, 2, 3, 4, 5, 6, 7, 8] rfl (by decide) rfl rfl rfl rfl (by decide) (Nat.le_of_ble_eq_true rfl) (by rintro v u h; rcases h with ⟨rfl, rfl⟩ <;> exact (show ([m0, (mb 0), (mb 1), (mb 2), (mb 3), (mb 4), (mb 5), (mb 6), (mb 7)] : List Nat) = [m0, (mb 0), (mb 1), (mb 2), (mb 3), (mb 4), (mb 5), (mb 6), (mb 7)] from rfl)) (fun _ _ h => h.elim) (fun _ _ h => h.elim) (fun v u h => ?_)
            rcases h with ⟨rfl, rfl⟩
            refine jr_norm [(m0, .inr (10, jmdl (mFin (upd (upd (upd (upd (mG (upd R 24 (nI (sn + 1))) a b) 25 (((mG (upd R 24 (nI (sn + 1))) a b) 25) + v1)) 22 1) 23 (nI sn)) 21 1) r (mfnd (upd F1 (sn % 64) a) MK LO HI (sn + 1) (P + 1 + q) (P + 1 + q))) mb)), ((mb 0), .inl (t 0, 64, .inl (upd F1 (sn % 64) a))), ((mb 1), .inl (t 0, 64, .inl (upd F2 (sn % 64) b))), ((mb 2), .inl (t 0, 784, .inl (mcau (upd F1 (sn % 64) a) (upd F2 (sn % 64) b) r (sn + 1) (P + 1 + q) (P + 1 + q) CU))), ((mb 3), .inl (t 0, 8, .inl (upd LN r (nI (P + 1 + q))))), ((mb 4), .inl (t 0, 8, .inl (upd TG r ((upd (upd (upd (upd (mG (upd R 24 (nI (sn + 1))) a b) 25 (((mG (upd R 24 (nI (sn + 1))) a b) 25) + v1)) 22 1) 23 (nI sn)) 21 1) 23)))), ((mb 5), .inl (t 3, 49, .inl MK)), ((mb 6), .inl (t 0, 49, .inl LO)), ((mb 7), .inl (t 0, 49, .inl HI))] [] 160 0 0 rfl rfl rfl rfl rfl ?_
            refine jr_iconst (v := 1) CC (jd ddX11_takes 87 rfl) (by decide) ?_
            exact jr_iret CC MM (jd ddX11_takes 88 rfl) rfl (by decide) (by decide) (by have eg : tG R sn a b = upd (mG (upd R 24 (nI (sn + 1))) a b) 25 ((mG (upd R 24 (nI (sn + 1))) a b) 25 + v1) := (by rw [tG, e3]); have et : tT R sn a b = upd (upd (upd (upd (mG (upd R 24 (nI (sn + 1))) a b) 25 ((mG (upd R 24 (nI (sn + 1))) a b) 25 + v1)) 22 1) 23 (nI sn)) 21 1 := (by rw [tT, if_neg c7, eg, if_neg (show ¬ mCan (upd (mG (upd R 24 (nI (sn + 1))) a b) 25 ((mG (upd R 24 (nI (sn + 1))) a b) 25 + v1)) (nI sn) = 0 by rw [e6]; exact c10)]); have ed : tD (tT R sn a b) sn = 1 := (by rw [et, tD, if_neg (by simp [pk_us, pk_un]), if_pos (by simpa [pk_us, pk_un] using c14)]); have e8 : tStep MK LO HI sn P q r (R, F1, F2, CU, LN, TG) a b = (((mFin (upd (upd (upd (upd (mG (upd R 24 (nI (sn + 1))) a b) 25 (((mG (upd R 24 (nI (sn + 1))) a b) 25) + v1)) 22 1) 23 (nI sn)) 21 1) r (mfnd (upd F1 (sn % 64) a) MK LO HI (sn + 1) (P + 1 + q) (P + 1 + q))), (upd F1 (sn % 64) a), (upd F2 (sn % 64) b), (mcau (upd F1 (sn % 64) a) (upd F2 (sn % 64) b) r (sn + 1) (P + 1 + q) (P + 1 + q) CU), (upd LN r (nI (P + 1 + q))), (upd TG r ((upd (upd (upd (upd (mG (upd R 24 (nI (sn + 1))) a b) 25 (((mG (upd R 24 (nI (sn + 1))) a b) 25) + v1)) 22 1) 23 (nI sn)) 21 1) 23))), 1) := (by unfold tStep; dsimp only; rw [ed]; rw [if_neg (by decide)]; rw [et]); rw [e8]; exact ⟨rfl, rfl⟩)
    refine jr_norm [(m0, .inr (10, jmdl (upd (mG (upd R 24 (nI (sn + 1))) a b) 25 (((mG (upd R 24 (nI (sn + 1))) a b) 25) + v1)) mb)), ((mb 0), .inl (t 0, 64, .inl (upd F1 (sn % 64) a))), ((mb 1), .inl (t 0, 64, .inl (upd F2 (sn % 64) b))), ((mb 2), .inl (t 0, 784, .inl CU)), ((mb 3), .inl (t 0, 8, .inl LN)), ((mb 4), .inl (t 0, 8, .inl TG)), ((mb 5), .inl (t 3, 49, .inl MK)), ((mb 6), .inl (t 0, 49, .inl LO)), ((mb 7), .inl (t 0, 49, .inl HI))] [] 62 0 0 rfl rfl rfl rfl rfl ?_
    refine jr_aload_n CC (jd ddX11_takes 38 rfl) 2 rfl ?_
    refine jr_get (v := .int ((mG (upd R 24 (nI (sn + 1))) a b) 20)) CC (jd ddX11_takes 39 rfl) (jf_X11_141 CC) 0 rfl rfl ?_
    refine jr_if_eq 108 CC (jd ddX11_takes 40 rfl) (by decide) (fun c15 => ?_) (fun c15 => ?_)
    · refine jr_iconst (v := 0) CC (jd ddX11_takes 60 rfl) (by decide) ?_
      exact hJ5 _ (by first | (simp [m01, mCan, pk_un, c15]; done))
    · refine jr_aload_n CC (jd ddX11_takes 41 rfl) 2 rfl ?_
      refine jr_get (v := .int ((mG (upd R 24 (nI (sn + 1))) a b) 21)) CC (jd ddX11_takes 42 rfl) (jf_X11_150 CC) 0 rfl rfl ?_
      refine jr_if_ne 108 CC (jd ddX11_takes 43 rfl) (by decide) (fun c16 => ?_) (fun c16 => ?_)
      · refine jr_iconst (v := 0) CC (jd ddX11_takes 60 rfl) (by decide) ?_
        exact hJ5 _ (by first | (simp [m01, mCan, pk_un, c15, c16]; done))
      · refine jr_iload_n CC (jd ddX11_takes 44 rfl) 1 rfl ?_
        refine jr_aload_n CC (jd ddX11_takes 45 rfl) 2 rfl ?_
        refine jr_get (v := .int ((mG (upd R 24 (nI (sn + 1))) a b) 17)) CC (jd ddX11_takes 46 rfl) (jf_X11_17 CC) 0 rfl rfl ?_
        refine jr_icmp_lt 108 CC (jd ddX11_takes 47 rfl) (by decide) (fun c17 => ?_) (fun c17 => ?_)
        · refine jr_pc (pc' := 108) rfl ?_
          refine jr_iconst (v := 0) CC (jd ddX11_takes 60 rfl) (by decide) ?_
          exact hJ5 _ (by first | (simp [m01, mCan, pk_un, c15, c16, c17]; done))
        · refine jr_pc (pc' := 84) rfl ?_
          refine jr_aload_n CC (jd ddX11_takes 48 rfl) 2 rfl ?_
          refine jr_get (v := .int ((mG (upd R 24 (nI (sn + 1))) a b) 22)) CC (jd ddX11_takes 49 rfl) (jf_X11_153 CC) 0 rfl rfl ?_
          refine jr_if_eq 104 CC (jd ddX11_takes 50 rfl) (by decide) (fun c18 => ?_) (fun c18 => ?_)
          · refine jr_iconst (v := 1) CC (jd ddX11_takes 58 rfl) (by decide) ?_
            refine jr_goto 109 CC (jd ddX11_takes 59 rfl) (by decide) ?_
            exact hJ5 _ (by first | (simp [m01, mCan, pk_un, c15, c16, c17, c18]; done))
          · refine jr_iload_n CC (jd ddX11_takes 51 rfl) 1 rfl ?_
            refine jr_aload_n CC (jd ddX11_takes 52 rfl) 2 rfl ?_
            refine jr_get (v := .int ((mG (upd R 24 (nI (sn + 1))) a b) 23)) CC (jd ddX11_takes 53 rfl) (jf_X11_165 CC) 0 rfl rfl ?_
            refine jr_isub CC (jd ddX11_takes 54 rfl) ?_
            refine jr_aload_n CC (jd ddX11_takes 55 rfl) 2 rfl ?_
            refine jr_get (v := .int ((mG (upd R 24 (nI (sn + 1))) a b) 19)) CC (jd ddX11_takes 56 rfl) (jf_X11_144 CC) 0 rfl rfl ?_
            refine jr_icmp_le 108 CC (jd ddX11_takes 57 rfl) (by decide) (fun c19 => ?_) (fun c19 => ?_)
            · refine jr_pc (pc' := 108) rfl ?_
              refine jr_iconst (v := 0) CC (jd ddX11_takes 60 rfl) (by decide) ?_
              exact hJ5 _ (by first | (simp [m01, mCan, pk_un, c15, c16, c17, c18, c19]; done))
            · refine jr_pc (pc' := 104) rfl ?_
              refine jr_iconst (v := 1) CC (jd ddX11_takes 58 rfl) (by decide) ?_
              refine jr_goto 109 CC (jd ddX11_takes 59 rfl) (by decide) ?_
              exact hJ5 _ (by first | (simp [m01, mCan, pk_un, c15, c16, c17, c18, c19]; done))
  refine jr_norm [(m0, .inr (10, jmdl (mG (upd R 24 (nI (sn + 1))) a b) mb)), ((mb 0), .inl (t 0, 64, .inl (upd F1 (sn % 64) a))), ((mb 1), .inl (t 0, 64, .inl (upd F2 (sn % 64) b))), ((mb 2), .inl (t 0, 784, .inl CU)), ((mb 3), .inl (t 0, 8, .inl LN)), ((mb 4), .inl (t 0, 8, .inl TG)), ((mb 5), .inl (t 3, 49, .inl MK)), ((mb 6), .inl (t 0, 49, .inl LO)), ((mb 7), .inl (t 0, 49, .inl HI))] [.int ((mG (upd R 24 (nI (sn + 1))) a b) 25), .ref m0] 48 0 0 rfl rfl rfl rfl rfl ?_
  refine jr_iload CC (jd ddX11_takes 31 rfl) 0 rfl ?_
  refine jr_if_eq 57 CC (jd ddX11_takes 32 rfl) (by decide) (fun c20 => ?_) (fun c20 => ?_)
  · refine jr_iconst (v := 0) CC (jd ddX11_takes 35 rfl) (by decide) ?_
    exact hJ2 _ (by first | (simp [m01, mCan, pk_un, c20]; done))
  · refine jr_iconst (v := 1) CC (jd ddX11_takes 33 rfl) (by decide) ?_
    refine jr_goto 58 CC (jd ddX11_takes 34 rfl) (by decide) ?_
    exact hJ2 _ (by first | (simp [m01, mCan, pk_un, c20]; done))
