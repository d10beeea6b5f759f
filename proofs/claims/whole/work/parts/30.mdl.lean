theorem jst1 {a b : Int32} {r : List Value} (h : a = b) : Value.int a :: r = Value.int b :: r := by rw [h]
/-- the reference's own cell: its numbers by place, its rows' cells by number -/
def jmdl (R : Nat → Int32) (mb : Nat → Nat) : List Value := [.int (R 0), .int (R 1), .int (R 2), .int (R 3), .int (R 4), .int (R 5), .int (R 6), .int (R 7), .int (R 8), .int (R 9), .int (R 10), .int (R 11), .int (R 12), .int (R 13), .int (R 14), .int (R 15), .int (R 16), .int (R 17), .int (R 18), .int (R 19), .int (R 20), .int (R 21), .int (R 22), .int (R 23), .int (R 24), .int (R 25), .ref (mb 0), .ref (mb 1), .int (R 28), .ref (mb 2), .ref (mb 3), .ref (mb 4), .ref (mb 5), .ref (mb 6), .ref (mb 7), .int (R 35), .int (R 36), .int (R 37), .ref (mb 8), .ref (mb 9), .ref (mb 10), .int (R 41), .ref (mb 11), .ref (mb 12), .int (R 44)]
def mIn (x a b : Int32) : Int32 := if x < a then 0 else if x ≤ b then 1 else 0
theorem mIn01 (x a b : Int32) : mIn x a b = 0 ∨ mIn x a b = 1 := by
  unfold mIn; (repeat' split) <;> first | exact Or.inl rfl | exact Or.inr rfl
theorem jin_iff (x a b : Int32) : jin x a b ↔ ¬ mIn x a b = 0 := by
  unfold jin mIn
  by_cases h : x < a
  · simp [h]
  · by_cases h2 : x ≤ b <;> simp [h, h2]
def mBool (R : Nat → Int32) : Prop := (R 5 = 0 ∨ R 5 = 1) ∧ (R 6 = 0 ∨ R 6 = 1) ∧ (R 9 = 0 ∨ R 9 = 1) ∧ (R 12 = 0 ∨ R 12 = 1) ∧ (R 13 = 0 ∨ R 13 = 1) ∧ (R 14 = 0 ∨ R 14 = 1) ∧ (R 20 = 0 ∨ R 20 = 1) ∧ (R 21 = 0 ∨ R 21 = 1) ∧ (R 22 = 0 ∨ R 22 = 1)
def mBegins (R : Nat → Int32) : Nat → Int32 := upd (upd (upd (upd (upd (upd (upd R 6 0) 9 0) 10 0) 12 0) 13 0) 14 0) 16 0
def mSets (R : Nat → Int32) (k o a b c up : Int32) : Nat → Int32 := mBegins (upd (upd (upd (upd (upd (upd R 0 k) 1 o) 2 a) 3 b) 4 c) 5 up)
set_option maxHeartbeats 8000000 in
set_option maxRecDepth 100000 in
theorem k_X11_thrown (l : Launch) (t : Nat → ClassId) (hfl : l.stackTraces = false) (m0 : Nat) (mb : Nat → Nat) (R : Nat → Int32) : jKx l t yX11_thrown (Cond.code yX11_thrown cX11_thrown 1 (some .int) :: jWS) { frames := 0, cells := 0, slots := 0, locals := 0 } [.ref m0] [(m0, .inr (10, jmdl R mb))] (fun vv uu => (vv = some (.int (R 44)) ∧ uu = [(m0, .inr (10, jmdl R mb))])) (fun _ _ => False) := by
  refine jK_of hfl (by decide +kernel) (Nat.le_of_ble_eq_true rfl) ?_
  intro p e s m args below meth c D A Q CC MM
  refine jr_norm0 [(0, .ref m0)] rfl ?_
  refine jr_aload_n CC (jd ddX11_thrown 0 rfl) 0 rfl ?_
  refine jr_get (v := .int (R 44)) CC (jd ddX11_thrown 1 rfl) (jf_X11_64 CC) 0 rfl rfl ?_
  exact jr_iret CC MM (jd ddX11_thrown 2 rfl) rfl (by decide) (by decide) ⟨rfl, rfl⟩
set_option maxHeartbeats 8000000 in
set_option maxRecDepth 100000 in
theorem k_X11_fails_0 (l : Launch) (t : Nat → ClassId) (hfl : l.stackTraces = false) (m0 : Nat) (mb : Nat → Nat) (R : Nat → Int32) : jKx l t yX11_fails (Cond.code yX11_fails cX11_fails 2 (some .boolean) :: jWS) { frames := 0, cells := 0, slots := 0, locals := 0 } [.ref m0, .int 0] [(m0, .inr (10, jmdl R mb))] (fun vv uu => (vv = some (.int 0) ∧ uu = [(m0, .inr (10, jmdl (upd R 44 0) mb))])) (fun _ _ => False) := by
  refine jK_of hfl (by decide +kernel) (Nat.le_of_ble_eq_true rfl) ?_
  intro p e s m args below meth c D A Q CC MM
  refine jr_norm0 [(0, .ref m0), (1, .int 0)] rfl ?_
  refine jr_aload_n CC (jd ddX11_fails 0 rfl) 0 rfl ?_
  refine jr_iload_n CC (jd ddX11_fails 1 rfl) 1 rfl ?_
  refine jr_put CC (jd ddX11_fails 2 rfl) (jf_X11_64 CC) 0 rfl rfl rfl (Nat.le_of_ble_eq_true rfl) ?_
  refine jr_ws [(m0, .inr (10, jmdl (upd R 44 0) mb))] rfl ?_
  refine jr_iload_n CC (jd ddX11_fails 3 rfl) 1 rfl ?_
  refine jr_if_le 13 CC (jd ddX11_fails 4 rfl) (by decide) (fun _ => ?_) (fun h => absurd h (by decide))
  refine jr_iconst (v := 0) CC (jd ddX11_fails 7 rfl) (by decide) ?_
  exact jr_zret rfl CC MM (jd ddX11_fails 8 rfl) rfl (by decide) (by decide) ⟨rfl, rfl⟩
set_option maxHeartbeats 8000000 in
set_option maxRecDepth 100000 in
theorem k_X11_fails_1 (l : Launch) (t : Nat → ClassId) (hfl : l.stackTraces = false) (m0 : Nat) (mb : Nat → Nat) (R : Nat → Int32) : jKx l t yX11_fails (Cond.code yX11_fails cX11_fails 2 (some .boolean) :: jWS) { frames := 0, cells := 0, slots := 0, locals := 0 } [.ref m0, .int 1] [(m0, .inr (10, jmdl R mb))] (fun vv uu => (vv = some (.int 1) ∧ uu = [(m0, .inr (10, jmdl (upd R 44 1) mb))])) (fun _ _ => False) := by
  refine jK_of hfl (by decide +kernel) (Nat.le_of_ble_eq_true rfl) ?_
  intro p e s m args below meth c D A Q CC MM
  refine jr_norm0 [(0, .ref m0), (1, .int 1)] rfl ?_
  refine jr_aload_n CC (jd ddX11_fails 0 rfl) 0 rfl ?_
  refine jr_iload_n CC (jd ddX11_fails 1 rfl) 1 rfl ?_
  refine jr_put CC (jd ddX11_fails 2 rfl) (jf_X11_64 CC) 0 rfl rfl rfl (Nat.le_of_ble_eq_true rfl) ?_
  refine jr_ws [(m0, .inr (10, jmdl (upd R 44 1) mb))] rfl ?_
  refine jr_iload_n CC (jd ddX11_fails 3 rfl) 1 rfl ?_
  refine jr_if_le 13 CC (jd ddX11_fails 4 rfl) (by decide) (fun h => absurd h (by decide)) (fun _ => ?_)
  refine jr_iconst (v := 1) CC (jd ddX11_fails 5 rfl) (by decide) ?_
  refine jr_goto 14 CC (jd ddX11_fails 6 rfl) (by decide) ?_
  exact jr_zret rfl CC MM (jd ddX11_fails 8 rfl) rfl (by decide) (by decide) ⟨rfl, rfl⟩
set_option maxHeartbeats 8000000 in
set_option maxRecDepth 100000 in
theorem k_X11_fails_2 (l : Launch) (t : Nat → ClassId) (hfl : l.stackTraces = false) (m0 : Nat) (mb : Nat → Nat) (R : Nat → Int32) : jKx l t yX11_fails (Cond.code yX11_fails cX11_fails 2 (some .boolean) :: jWS) { frames := 0, cells := 0, slots := 0, locals := 0 } [.ref m0, .int 2] [(m0, .inr (10, jmdl R mb))] (fun vv uu => (vv = some (.int 1) ∧ uu = [(m0, .inr (10, jmdl (upd R 44 2) mb))])) (fun _ _ => False) := by
  refine jK_of hfl (by decide +kernel) (Nat.le_of_ble_eq_true rfl) ?_
  intro p e s m args below meth c D A Q CC MM
  refine jr_norm0 [(0, .ref m0), (1, .int 2)] rfl ?_
  refine jr_aload_n CC (jd ddX11_fails 0 rfl) 0 rfl ?_
  refine jr_iload_n CC (jd ddX11_fails 1 rfl) 1 rfl ?_
  refine jr_put CC (jd ddX11_fails 2 rfl) (jf_X11_64 CC) 0 rfl rfl rfl (Nat.le_of_ble_eq_true rfl) ?_
  refine jr_ws [(m0, .inr (10, jmdl (upd R 44 2) mb))] rfl ?_
  refine jr_iload_n CC (jd ddX11_fails 3 rfl) 1 rfl ?_
  refine jr_if_le 13 CC (jd ddX11_fails 4 rfl) (by decide) (fun h => absurd h (by decide)) (fun _ => ?_)
  refine jr_iconst (v := 1) CC (jd ddX11_fails 5 rfl) (by decide) ?_
  refine jr_goto 14 CC (jd ddX11_fails 6 rfl) (by decide) ?_
  exact jr_zret rfl CC MM (jd ddX11_fails 8 rfl) rfl (by decide) (by decide) ⟨rfl, rfl⟩
set_option maxHeartbeats 8000000 in
set_option maxRecDepth 100000 in
theorem k_X11_fails_3 (l : Launch) (t : Nat → ClassId) (hfl : l.stackTraces = false) (m0 : Nat) (mb : Nat → Nat) (R : Nat → Int32) : jKx l t yX11_fails (Cond.code yX11_fails cX11_fails 2 (some .boolean) :: jWS) { frames := 0, cells := 0, slots := 0, locals := 0 } [.ref m0, .int 3] [(m0, .inr (10, jmdl R mb))] (fun vv uu => (vv = some (.int 1) ∧ uu = [(m0, .inr (10, jmdl (upd R 44 3) mb))])) (fun _ _ => False) := by
  refine jK_of hfl (by decide +kernel) (Nat.le_of_ble_eq_true rfl) ?_
  intro p e s m args below meth c D A Q CC MM
  refine jr_norm0 [(0, .ref m0), (1, .int 3)] rfl ?_
  refine jr_aload_n CC (jd ddX11_fails 0 rfl) 0 rfl ?_
  refine jr_iload_n CC (jd ddX11_fails 1 rfl) 1 rfl ?_
  refine jr_put CC (jd ddX11_fails 2 rfl) (jf_X11_64 CC) 0 rfl rfl rfl (Nat.le_of_ble_eq_true rfl) ?_
  refine jr_ws [(m0, .inr (10, jmdl (upd R 44 3) mb))] rfl ?_
  refine jr_iload_n CC (jd ddX11_fails 3 rfl) 1 rfl ?_
  refine jr_if_le 13 CC (jd ddX11_fails 4 rfl) (by decide) (fun h => absurd h (by decide)) (fun _ => ?_)
  refine jr_iconst (v := 1) CC (jd ddX11_fails 5 rfl) (by decide) ?_
  refine jr_goto 14 CC (jd ddX11_fails 6 rfl) (by decide) ?_
  exact jr_zret rfl CC MM (jd ddX11_fails 8 rfl) rfl (by decide) (by decide) ⟨rfl, rfl⟩
set_option maxHeartbeats 8000000 in
set_option maxRecDepth 100000 in
theorem k_X11_fails_4 (l : Launch) (t : Nat → ClassId) (hfl : l.stackTraces = false) (m0 : Nat) (mb : Nat → Nat) (R : Nat → Int32) : jKx l t yX11_fails (Cond.code yX11_fails cX11_fails 2 (some .boolean) :: jWS) { frames := 0, cells := 0, slots := 0, locals := 0 } [.ref m0, .int 4] [(m0, .inr (10, jmdl R mb))] (fun vv uu => (vv = some (.int 1) ∧ uu = [(m0, .inr (10, jmdl (upd R 44 4) mb))])) (fun _ _ => False) := by
  refine jK_of hfl (by decide +kernel) (Nat.le_of_ble_eq_true rfl) ?_
  intro p e s m args below meth c D A Q CC MM
  refine jr_norm0 [(0, .ref m0), (1, .int 4)] rfl ?_
  refine jr_aload_n CC (jd ddX11_fails 0 rfl) 0 rfl ?_
  refine jr_iload_n CC (jd ddX11_fails 1 rfl) 1 rfl ?_
  refine jr_put CC (jd ddX11_fails 2 rfl) (jf_X11_64 CC) 0 rfl rfl rfl (Nat.le_of_ble_eq_true rfl) ?_
  refine jr_ws [(m0, .inr (10, jmdl (upd R 44 4) mb))] rfl ?_
  refine jr_iload_n CC (jd ddX11_fails 3 rfl) 1 rfl ?_
  refine jr_if_le 13 CC (jd ddX11_fails 4 rfl) (by decide) (fun h => absurd h (by decide)) (fun _ => ?_)
  refine jr_iconst (v := 1) CC (jd ddX11_fails 5 rfl) (by decide) ?_
  refine jr_goto 14 CC (jd ddX11_fails 6 rfl) (by decide) ?_
  exact jr_zret rfl CC MM (jd ddX11_fails 8 rfl) rfl (by decide) (by decide) ⟨rfl, rfl⟩
set_option maxHeartbeats 8000000 in
set_option maxRecDepth 100000 in
theorem k_X11_tells (l : Launch) (t : Nat → ClassId) (hfl : l.stackTraces = false) (m0 : Nat) (mb : Nat → Nat) (R : Nat → Int32) (v : Int32) : jKx l t yX11_tells (Cond.code yX11_tells cX11_tells 2 (some .int) :: jWS) { frames := 0, cells := 0, slots := 0, locals := 0 } [.ref m0, .int v] [(m0, .inr (10, jmdl R mb))] (fun vv uu => (vv = some (.int v) ∧ uu = [(m0, .inr (10, jmdl (upd R 44 0) mb))])) (fun _ _ => False) := by
  refine jK_of hfl (by decide +kernel) (Nat.le_of_ble_eq_true rfl) ?_
  intro p e s m args below meth c D A Q CC MM
  refine jr_norm0 [(0, .ref m0), (1, .int v)] rfl ?_
  refine jr_aload_n CC (jd ddX11_tells 0 rfl) 0 rfl ?_
  refine jr_iconst (v := 0) CC (jd ddX11_tells 1 rfl) (by decide) ?_
  refine jr_put CC (jd ddX11_tells 2 rfl) (jf_X11_64 CC) 0 rfl rfl rfl (Nat.le_of_ble_eq_true rfl) ?_
  refine jr_ws [(m0, .inr (10, jmdl (upd R 44 0) mb))] rfl ?_
  refine jr_iload_n CC (jd ddX11_tells 3 rfl) 1 rfl ?_
  exact jr_iret CC MM (jd ddX11_tells 4 rfl) rfl (by decide) (by decide) ⟨rfl, rfl⟩
set_option maxHeartbeats 8000000 in
set_option maxRecDepth 100000 in
theorem k_X11_isIn (l : Launch) (t : Nat → ClassId) (hfl : l.stackTraces = false) (x : Int32) (a : Int32) (b : Int32) : jKx l t yX11_isIn (Cond.code yX11_isIn cX11_isIn 3 (some .boolean) :: jWS) { frames := 0, cells := 0, slots := 0, locals := 0 } [.int x, .int a, .int b] [] (fun vv uu => (vv = some (.int (mIn x a b)) ∧ uu = [])) (fun _ _ => False) := by
  refine jK_of hfl (by decide +kernel) (Nat.le_of_ble_eq_true rfl) ?_
  intro p e s m args below meth c D A Q CC MM
  refine jr_norm0 [(0, .int x), (1, .int a), (2, .int b)] rfl ?_
  refine jr_iload_n CC (jd ddX11_isIn 0 rfl) 0 rfl ?_
  refine jr_iload_n CC (jd ddX11_isIn 1 rfl) 1 rfl ?_
  refine jr_icmp_lt 14 CC (jd ddX11_isIn 2 rfl) (by decide) (fun c1 => ?_) (fun c1 => ?_)
  · refine jr_iconst (v := 0) CC (jd ddX11_isIn 8 rfl) (by decide) ?_
    exact jr_zret rfl CC MM (jd ddX11_isIn 9 rfl) rfl (by decide) (by decide) ⟨by simp [mIn, c1], rfl⟩
  · refine jr_iload_n CC (jd ddX11_isIn 3 rfl) 0 rfl ?_
    refine jr_iload_n CC (jd ddX11_isIn 4 rfl) 2 rfl ?_
    refine jr_icmp_gt 14 CC (jd ddX11_isIn 5 rfl) (by decide) (fun c2 => ?_) (fun c2 => ?_)
    · refine jr_iconst (v := 0) CC (jd ddX11_isIn 8 rfl) (by decide) ?_
      exact jr_zret rfl CC MM (jd ddX11_isIn 9 rfl) rfl (by decide) (by decide) ⟨by simp [mIn, c1, c2], rfl⟩
    · refine jr_iconst (v := 1) CC (jd ddX11_isIn 6 rfl) (by decide) ?_
      refine jr_goto 15 CC (jd ddX11_isIn 7 rfl) (by decide) ?_
      exact jr_zret rfl CC MM (jd ddX11_isIn 9 rfl) rfl (by decide) (by decide) ⟨by simp [mIn, c1, c2], rfl⟩
set_option maxHeartbeats 8000000 in
set_option maxRecDepth 100000 in
theorem k_X11_isValue (l : Launch) (t : Nat → ClassId) (hfl : l.stackTraces = false) (x : Int32) : jKx l t yX11_isValue (Cond.code yX11_isValue cX11_isValue 1 (some .boolean) :: jWS) { frames := 1, cells := 0, slots := 0, locals := 22 } [.int x] [] (fun vv uu => (vv = some (.int (mIn x (-128) 127)) ∧ uu = [])) (fun _ _ => False) := by
  refine jK_of hfl (by decide +kernel) (Nat.le_of_ble_eq_true rfl) ?_
  intro p e s m args below meth c D A Q CC MM
  refine jr_norm0 [(0, .int x)] rfl ?_
  refine jr_iload_n CC (jd ddX11_isValue 0 rfl) 0 rfl ?_
  refine jr_bipush (v := (-128)) CC (jd ddX11_isValue 1 rfl) (by decide) ?_
  refine jr_bipush (v := 127) CC (jd ddX11_isValue 2 rfl) (by decide) ?_
  refine jr_callS (rest := []) [.int x, .int (-128), .int 127] CC (jd ddX11_isValue 3 rfl) (jy_X11_67 CC) (k_X11_isIn l t hfl x (-128) 127) [] rfl (by decide) rfl rfl (by decide) (Nat.le_of_ble_eq_true rfl) (by rintro v u h; rcases h with ⟨rfl, rfl⟩ <;> rfl) (fun _ _ h => h.elim) (fun _ _ h => h.elim) (fun v u h => ?_)
  rcases h with ⟨rfl, rfl⟩
  refine jr_norm [] [.int (mIn x (-128) 127)] 8 0 0 rfl rfl rfl rfl rfl ?_
  exact jr_zret (jb01n (mIn01 _ _ _)) CC MM (jd ddX11_isValue 4 rfl) rfl (by decide) (by decide) ⟨rfl, rfl⟩
set_option maxHeartbeats 8000000 in
set_option maxRecDepth 100000 in
theorem k_X11_begins (l : Launch) (t : Nat → ClassId) (hfl : l.stackTraces = false) (m0 : Nat) (mb : Nat → Nat) (R : Nat → Int32) : jKx l t yX11_begins (Cond.code yX11_begins cX11_begins 1 none :: jWS) { frames := 0, cells := 0, slots := 0, locals := 0 } [.ref m0] [(m0, .inr (10, jmdl R mb))] (fun vv uu => (vv = none ∧ uu = [(m0, .inr (10, jmdl (mBegins R) mb))])) (fun _ _ => False) := by
  refine jK_of hfl (by decide +kernel) (Nat.le_of_ble_eq_true rfl) ?_
  intro p e s m args below meth c D A Q CC MM
  refine jr_norm0 [(0, .ref m0)] rfl ?_
  refine jr_aload_n CC (jd ddX11_begins 0 rfl) 0 rfl ?_
  refine jr_iconst (v := 0) CC (jd ddX11_begins 1 rfl) (by decide) ?_
  refine jr_put CC (jd ddX11_begins 2 rfl) (jf_X11_71 CC) 0 rfl rfl rfl (Nat.le_of_ble_eq_true rfl) ?_
  refine jr_ws [(m0, .inr (10, jmdl (upd R 6 0) mb))] rfl ?_
  refine jr_aload_n CC (jd ddX11_begins 3 rfl) 0 rfl ?_
  refine jr_iconst (v := 0) CC (jd ddX11_begins 4 rfl) (by decide) ?_
  refine jr_put CC (jd ddX11_begins 5 rfl) (jf_X11_74 CC) 0 rfl rfl rfl (Nat.le_of_ble_eq_true rfl) ?_
  refine jr_ws [(m0, .inr (10, jmdl (upd (upd R 6 0) 9 0) mb))] rfl ?_
  refine jr_aload_n CC (jd ddX11_begins 6 rfl) 0 rfl ?_
  refine jr_iconst (v := 0) CC (jd ddX11_begins 7 rfl) (by decide) ?_
  refine jr_put CC (jd ddX11_begins 8 rfl) (jf_X11_77 CC) 0 rfl rfl rfl (Nat.le_of_ble_eq_true rfl) ?_
  refine jr_ws [(m0, .inr (10, jmdl (upd (upd (upd R 6 0) 9 0) 10 0) mb))] rfl ?_
  refine jr_aload_n CC (jd ddX11_begins 9 rfl) 0 rfl ?_
  refine jr_pc (pc' := 16) rfl ?_
  refine jr_iconst (v := 0) CC (jd ddX11_begins 10 rfl) (by decide) ?_
  refine jr_put CC (jd ddX11_begins 11 rfl) (jf_X11_80 CC) 0 rfl rfl rfl (Nat.le_of_ble_eq_true rfl) ?_
  refine jr_ws [(m0, .inr (10, jmdl (upd (upd (upd (upd R 6 0) 9 0) 10 0) 12 0) mb))] rfl ?_
  refine jr_aload_n CC (jd ddX11_begins 12 rfl) 0 rfl ?_
  refine jr_iconst (v := 0) CC (jd ddX11_begins 13 rfl) (by decide) ?_
  refine jr_put CC (jd ddX11_begins 14 rfl) (jf_X11_83 CC) 0 rfl rfl rfl (Nat.le_of_ble_eq_true rfl) ?_
  refine jr_ws [(m0, .inr (10, jmdl (upd (upd (upd (upd (upd R 6 0) 9 0) 10 0) 12 0) 13 0) mb))] rfl ?_
  refine jr_aload_n CC (jd ddX11_begins 15 rfl) 0 rfl ?_
  refine jr_iconst (v := 0) CC (jd ddX11_begins 16 rfl) (by decide) ?_
  refine jr_put CC (jd ddX11_begins 17 rfl) (jf_X11_86 CC) 0 rfl rfl rfl (Nat.le_of_ble_eq_true rfl) ?_
  refine jr_ws [(m0, .inr (10, jmdl (upd (upd (upd (upd (upd (upd R 6 0) 9 0) 10 0) 12 0) 13 0) 14 0) mb))] rfl ?_
  refine jr_aload_n CC (jd ddX11_begins 18 rfl) 0 rfl ?_
  refine jr_iconst (v := 0) CC (jd ddX11_begins 19 rfl) (by decide) ?_
  refine jr_pc (pc' := 32) rfl ?_
  refine jr_put CC (jd ddX11_begins 20 rfl) (jf_X11_89 CC) 0 rfl rfl rfl (Nat.le_of_ble_eq_true rfl) ?_
  refine jr_ws [(m0, .inr (10, jmdl (upd (upd (upd (upd (upd (upd (upd R 6 0) 9 0) 10 0) 12 0) 13 0) 14 0) 16 0) mb))] rfl ?_
  exact jr_vret CC MM (jd ddX11_begins 21 rfl) rfl (by decide) (by decide) ⟨rfl, rfl⟩
set_option maxHeartbeats 8000000 in
set_option maxRecDepth 100000 in
theorem k_X11_sets (l : Launch) (t : Nat → ClassId) (hfl : l.stackTraces = false) (m0 : Nat) (mb : Nat → Nat) (R : Nat → Int32) (kd : Int32) (o : Int32) (a : Int32) (b : Int32) (cz : Int32) (up : Int32) (hup : up = 0 ∨ up = 1) : jKx l t yX11_sets (Cond.code yX11_sets cX11_sets 7 none :: jWS) { frames := 1, cells := 0, slots := 0, locals := 20 } [.ref m0, .int kd, .int o, .int a, .int b, .int cz, .int up] [(m0, .inr (10, jmdl R mb))] (fun vv uu => (vv = none ∧ uu = [(m0, .inr (10, jmdl (mSets R kd o a b cz up) mb))])) (fun _ _ => False) := by
  refine jK_of hfl (by decide +kernel) (Nat.le_of_ble_eq_true rfl) ?_
  intro p e s m args below meth c D A Q CC MM
  refine jr_norm0 [(0, .ref m0), (1, .int kd), (2, .int o), (3, .int a), (4, .int b), (5, .int cz), (6, .int up)] rfl ?_
  refine jr_aload_n CC (jd ddX11_sets 0 rfl) 0 rfl ?_
  refine jr_iload_n CC (jd ddX11_sets 1 rfl) 1 rfl ?_
  refine jr_put CC (jd ddX11_sets 2 rfl) (jf_X11_9 CC) 0 rfl rfl rfl (Nat.le_of_ble_eq_true rfl) ?_
  refine jr_ws [(m0, .inr (10, jmdl (upd R 0 kd) mb))] rfl ?_
  refine jr_aload_n CC (jd ddX11_sets 3 rfl) 0 rfl ?_
  refine jr_iload_n CC (jd ddX11_sets 4 rfl) 2 rfl ?_
  refine jr_put CC (jd ddX11_sets 5 rfl) (jf_X11_92 CC) 0 rfl rfl rfl (Nat.le_of_ble_eq_true rfl) ?_
  refine jr_ws [(m0, .inr (10, jmdl (upd (upd R 0 kd) 1 o) mb))] rfl ?_
  refine jr_aload_n CC (jd ddX11_sets 6 rfl) 0 rfl ?_
  refine jr_iload_n CC (jd ddX11_sets 7 rfl) 3 rfl ?_
  refine jr_put CC (jd ddX11_sets 8 rfl) (jf_X11_95 CC) 0 rfl rfl rfl (Nat.le_of_ble_eq_true rfl) ?_
  refine jr_ws [(m0, .inr (10, jmdl (upd (upd (upd R 0 kd) 1 o) 2 a) mb))] rfl ?_
  refine jr_aload_n CC (jd ddX11_sets 9 rfl) 0 rfl ?_
  refine jr_pc (pc' := 16) rfl ?_
  refine jr_iload CC (jd ddX11_sets 10 rfl) 4 rfl ?_
  refine jr_put CC (jd ddX11_sets 11 rfl) (jf_X11_98 CC) 0 rfl rfl rfl (Nat.le_of_ble_eq_true rfl) ?_
  refine jr_ws [(m0, .inr (10, jmdl (upd (upd (upd (upd R 0 kd) 1 o) 2 a) 3 b) mb))] rfl ?_
  refine jr_aload_n CC (jd ddX11_sets 12 rfl) 0 rfl ?_
  refine jr_iload CC (jd ddX11_sets 13 rfl) 5 rfl ?_
  refine jr_put CC (jd ddX11_sets 14 rfl) (jf_X11_101 CC) 0 rfl rfl rfl (Nat.le_of_ble_eq_true rfl) ?_
  refine jr_ws [(m0, .inr (10, jmdl (upd (upd (upd (upd (upd R 0 kd) 1 o) 2 a) 3 b) 4 cz) mb))] rfl ?_
  refine jr_aload_n CC (jd ddX11_sets 15 rfl) 0 rfl ?_
  refine jr_iload CC (jd ddX11_sets 16 rfl) 6 rfl ?_
  refine jr_put CC (jd ddX11_sets 17 rfl) (jf_X11_13 CC) 0 rfl (jb01n hup) (jb01f hup) (Nat.le_of_ble_eq_true rfl) ?_
  refine jr_ws [(m0, .inr (10, jmdl (upd (upd (upd (upd (upd (upd R 0 kd) 1 o) 2 a) 3 b) 4 cz) 5 up) mb))] rfl ?_
  refine jr_aload_n CC (jd ddX11_sets 18 rfl) 0 rfl ?_
  refine jr_callV (q0 := 0) (rest := []) [] CC (jd ddX11_sets 19 rfl) (jy_X11_104 CC) (k_X11_begins l t hfl m0 mb (upd (upd (upd (upd (upd (upd R 0 kd) 1 o) 2 a) 3 b) 4 cz) 5 up)) [0] rfl (by decide) rfl rfl rfl rfl (by decide) (Nat.le_of_ble_eq_true rfl) (by rintro v u h; rcases h with ⟨rfl, rfl⟩ <;> exact (show ([m0] : List Nat) = [m0] from rfl)) (fun _ _ h => h.elim) (fun _ _ h => h.elim) (fun v u h => ?_)
  rcases h with ⟨rfl, rfl⟩
  refine jr_norm [(m0, .inr (10, jmdl (mBegins (upd (upd (upd (upd (upd (upd R 0 kd) 1 o) 2 a) 3 b) 4 cz) 5 up)) mb))] [] 37 0 0 rfl rfl rfl rfl rfl ?_
  exact jr_vret CC MM (jd ddX11_sets 20 rfl) rfl (by decide) (by decide) ⟨rfl, rfl⟩
set_option maxHeartbeats 8000000 in
set_option maxRecDepth 100000 in
theorem k_X11_setEdge (l : Launch) (t : Nat → ClassId) (hfl : l.stackTraces = false) (m0 : Nat) (mb : Nat → Nat) (R : Nat → Int32) (ch : Int32) (lv : Int32) (hy : Int32) (ri : Int32) (hup : ri = 0 ∨ ri = 1) : jKx l t yX11_setEdge (Cond.code yX11_setEdge cX11_setEdge 5 none :: jWS) { frames := 2, cells := 0, slots := 0, locals := 46 } [.ref m0, .int ch, .int lv, .int hy, .int ri] [(m0, .inr (10, jmdl R mb))] (fun vv uu => (((eEdge ch lv hy) = 0) ∧ vv = none ∧ uu = [(m0, .inr (10, jmdl (mSets (upd R 44 0) 0 ch lv hy 0 ri) mb))]) ∨ (((eEdge ch lv hy) = 1) ∧ vv = none ∧ uu = [(m0, .inr (10, jmdl (upd R 44 1) mb))])) (fun _ _ => False) := by
  refine jK_of hfl (by decide +kernel) (Nat.le_of_ble_eq_true rfl) ?_
  intro p e s m args below meth c D A Q CC MM
  refine jr_norm0 [(0, .ref m0), (1, .int ch), (2, .int lv), (3, .int hy), (4, .int ri)] rfl ?_
  refine jr_aload_n CC (jd ddX11_setEdge 0 rfl) 0 rfl ?_
  refine jr_iload_n CC (jd ddX11_setEdge 1 rfl) 1 rfl ?_
  refine jr_iconst (v := 0) CC (jd ddX11_setEdge 2 rfl) (by decide) ?_
  refine jr_iconst (v := 1) CC (jd ddX11_setEdge 3 rfl) (by decide) ?_
  refine jr_callS (rest := [.ref m0]) [.int ch, .int 0, .int 1] CC (jd ddX11_setEdge 4 rfl) (jy_X11_67 CC) (k_X11_isIn l t hfl ch 0 1) [] rfl (by decide) rfl rfl (by decide) (Nat.le_of_ble_eq_true rfl) (by rintro v u h; rcases h with ⟨rfl, rfl⟩ <;> rfl) (fun _ _ h => h.elim) (fun _ _ h => h.elim) (fun v u h => ?_)
  rcases h with ⟨rfl, rfl⟩
  refine jr_norm [(m0, .inr (10, jmdl R mb))] [.int (mIn ch 0 1), .ref m0] 7 0 0 rfl rfl rfl rfl rfl ?_
  refine jr_if_eq 31 CC (jd ddX11_setEdge 5 rfl) (by decide) (fun c1 => ?_) (fun c1 => ?_)
  · refine jr_iconst (v := 1) CC (jd ddX11_setEdge 16 rfl) (by decide) ?_
    refine jr_callV (q0 := 0) (rest := []) [.int 1] CC (jd ddX11_setEdge 17 rfl) (jy_X11_111 CC) (k_X11_fails_1 l t hfl m0 mb R) [0] rfl (by decide) rfl rfl rfl rfl (by decide) (Nat.le_of_ble_eq_true rfl) (by rintro v u h; rcases h with ⟨rfl, rfl⟩ <;> exact (show ([m0] : List Nat) = [m0] from rfl)) (fun _ _ h => h.elim) (fun _ _ h => h.elim) (fun v u h => ?_)
    rcases h with ⟨rfl, rfl⟩
    refine jr_norm [(m0, .inr (10, jmdl (upd R 44 1) mb))] [.int 1] 35 0 0 rfl rfl rfl rfl rfl ?_
    refine jr_if_ne 49 CC (jd ddX11_setEdge 18 rfl) (by decide) (fun _ => ?_) (fun h => absurd h (by decide))
    exact jr_vret CC MM (jd ddX11_setEdge 27 rfl) rfl (by decide) (by decide) (Or.inr ⟨by simp [eEdge, jI, jin_iff, c1], rfl, rfl⟩)
  · refine jr_iload_n CC (jd ddX11_setEdge 6 rfl) 2 rfl ?_
    refine jr_callS (rest := [.ref m0]) [.int lv] CC (jd ddX11_setEdge 7 rfl) (jy_X11_107 CC) (k_X11_isValue l t hfl lv) [] rfl (by decide) rfl rfl (by decide) (Nat.le_of_ble_eq_true rfl) (by rintro v u h; rcases h with ⟨rfl, rfl⟩ <;> rfl) (fun _ _ h => h.elim) (fun _ _ h => h.elim) (fun v u h => ?_)
    rcases h with ⟨rfl, rfl⟩
    refine jr_norm [(m0, .inr (10, jmdl R mb))] [.int (mIn lv (-128) 127), .ref m0] 14 0 0 rfl rfl rfl rfl rfl ?_
    refine jr_if_eq 31 CC (jd ddX11_setEdge 8 rfl) (by decide) (fun c3 => ?_) (fun c3 => ?_)
    · refine jr_iconst (v := 1) CC (jd ddX11_setEdge 16 rfl) (by decide) ?_
      refine jr_callV (q0 := 0) (rest := []) [.int 1] CC (jd ddX11_setEdge 17 rfl) (jy_X11_111 CC) (k_X11_fails_1 l t hfl m0 mb R) [0] rfl (by decide) rfl rfl rfl rfl (by decide) (Nat.le_of_ble_eq_true rfl) (by rintro v u h; rcases h with ⟨rfl, rfl⟩ <;> exact (show ([m0] : List Nat) = [m0] from rfl)) (fun _ _ h => h.elim) (fun _ _ h => h.elim) (fun v u h => ?_)
      rcases h with ⟨rfl, rfl⟩
      refine jr_norm [(m0, .inr (10, jmdl (upd R 44 1) mb))] [.int 1] 35 0 0 rfl rfl rfl rfl rfl ?_
      refine jr_if_ne 49 CC (jd ddX11_setEdge 18 rfl) (by decide) (fun _ => ?_) (fun h => absurd h (by decide))
      exact jr_vret CC MM (jd ddX11_setEdge 27 rfl) rfl (by decide) (by decide) (Or.inr ⟨by simp [eEdge, jI, jin_iff, c1, c3], rfl, rfl⟩)
    · refine jr_iload_n CC (jd ddX11_setEdge 9 rfl) 3 rfl ?_
      refine jr_iconst (v := 0) CC (jd ddX11_setEdge 10 rfl) (by decide) ?_
      refine jr_bipush (v := 100) CC (jd ddX11_setEdge 11 rfl) (by decide) ?_
      refine jr_callS (rest := [.ref m0]) [.int hy, .int 0, .int 100] CC (jd ddX11_setEdge 12 rfl) (jy_X11_67 CC) (k_X11_isIn l t hfl hy 0 100) [] rfl (by decide) rfl rfl (by decide) (Nat.le_of_ble_eq_true rfl) (by rintro v u h; rcases h with ⟨rfl, rfl⟩ <;> rfl) (fun _ _ h => h.elim) (fun _ _ h => h.elim) (fun v u h => ?_)
      rcases h with ⟨rfl, rfl⟩
      refine jr_norm [(m0, .inr (10, jmdl R mb))] [.int (mIn hy 0 100), .ref m0] 24 0 0 rfl rfl rfl rfl rfl ?_
      refine jr_if_eq 31 CC (jd ddX11_setEdge 13 rfl) (by decide) (fun c5 => ?_) (fun c5 => ?_)
      · refine jr_iconst (v := 1) CC (jd ddX11_setEdge 16 rfl) (by decide) ?_
        refine jr_callV (q0 := 0) (rest := []) [.int 1] CC (jd ddX11_setEdge 17 rfl) (jy_X11_111 CC) (k_X11_fails_1 l t hfl m0 mb R) [0] rfl (by decide) rfl rfl rfl rfl (by decide) (Nat.le_of_ble_eq_true rfl) (by rintro v u h; rcases h with ⟨rfl, rfl⟩ <;> exact (show ([m0] : List Nat) = [m0] from rfl)) (fun _ _ h => h.elim) (fun _ _ h => h.elim) (fun v u h => ?_)
        rcases h with ⟨rfl, rfl⟩
        refine jr_norm [(m0, .inr (10, jmdl (upd R 44 1) mb))] [.int 1] 35 0 0 rfl rfl rfl rfl rfl ?_
        refine jr_if_ne 49 CC (jd ddX11_setEdge 18 rfl) (by decide) (fun _ => ?_) (fun h => absurd h (by decide))
        exact jr_vret CC MM (jd ddX11_setEdge 27 rfl) rfl (by decide) (by decide) (Or.inr ⟨by simp [eEdge, jI, jin_iff, c1, c3, c5], rfl, rfl⟩)
      · refine jr_iconst (v := 0) CC (jd ddX11_setEdge 14 rfl) (by decide) ?_
        refine jr_goto 32 CC (jd ddX11_setEdge 15 rfl) (by decide) ?_
        refine jr_callV (q0 := 0) (rest := []) [.int 0] CC (jd ddX11_setEdge 17 rfl) (jy_X11_111 CC) (k_X11_fails_0 l t hfl m0 mb R) [0] rfl (by decide) rfl rfl rfl rfl (by decide) (Nat.le_of_ble_eq_true rfl) (by rintro v u h; rcases h with ⟨rfl, rfl⟩ <;> exact (show ([m0] : List Nat) = [m0] from rfl)) (fun _ _ h => h.elim) (fun _ _ h => h.elim) (fun v u h => ?_)
        rcases h with ⟨rfl, rfl⟩
        refine jr_norm [(m0, .inr (10, jmdl (upd R 44 0) mb))] [.int 0] 35 0 0 rfl rfl rfl rfl rfl ?_
        refine jr_if_ne 49 CC (jd ddX11_setEdge 18 rfl) (by decide) (fun h => absurd h (by decide)) (fun _ => ?_)
        refine jr_aload_n CC (jd ddX11_setEdge 19 rfl) 0 rfl ?_
        refine jr_iconst (v := 0) CC (jd ddX11_setEdge 20 rfl) (by decide) ?_
        refine jr_iload_n CC (jd ddX11_setEdge 21 rfl) 1 rfl ?_
        refine jr_iload_n CC (jd ddX11_setEdge 22 rfl) 2 rfl ?_
        refine jr_iload_n CC (jd ddX11_setEdge 23 rfl) 3 rfl ?_
        refine jr_iconst (v := 0) CC (jd ddX11_setEdge 24 rfl) (by decide) ?_
        refine jr_iload CC (jd ddX11_setEdge 25 rfl) 4 rfl ?_
        refine jr_callV (q0 := 0) (rest := []) [.int 0, .int ch, .int lv, .int hy, .int 0, .int ri] CC (jd ddX11_setEdge 26 rfl) (jy_X11_114 CC) (k_X11_sets l t hfl m0 mb (upd R 44 0) 0 ch lv hy 0 ri hup) [0] rfl (by decide) rfl rfl rfl rfl (by decide) (Nat.le_of_ble_eq_true rfl) (by rintro v u h; rcases h with ⟨rfl, rfl⟩ <;> exact (show ([m0] : List Nat) = [m0] from rfl)) (fun _ _ h => h.elim) (fun _ _ h => h.elim) (fun v u h => ?_)
        rcases h with ⟨rfl, rfl⟩
        refine jr_norm [(m0, .inr (10, jmdl (mSets (upd R 44 0) 0 ch lv hy 0 ri) mb))] [] 49 0 0 rfl rfl rfl rfl rfl ?_
        exact jr_vret CC MM (jd ddX11_setEdge 27 rfl) rfl (by decide) (by decide) (Or.inl ⟨by simp [eEdge, jI, jin_iff, c1, c3, c5], rfl, rfl⟩)
set_option maxHeartbeats 8000000 in
set_option maxRecDepth 100000 in
theorem k_X11_setWidth (l : Launch) (t : Nat → ClassId) (hfl : l.stackTraces = false) (m0 : Nat) (mb : Nat → Nat) (R : Nat → Int32) (ch : Int32) (lv : Int32) (le : Int32) (mo : Int32) (hi : Int32) (hup : hi = 0 ∨ hi = 1) : jKx l t yX11_setWidth (Cond.code yX11_setWidth cX11_setWidth 6 none :: jWS) { frames := 2, cells := 0, slots := 0, locals := 46 } [.ref m0, .int ch, .int lv, .int le, .int mo, .int hi] [(m0, .inr (10, jmdl R mb))] (fun vv uu => (((eWidth ch lv le mo) = 0) ∧ vv = none ∧ uu = [(m0, .inr (10, jmdl (mSets (upd R 44 0) 1 ch lv le mo hi) mb))]) ∨ (((eWidth ch lv le mo) = 1) ∧ vv = none ∧ uu = [(m0, .inr (10, jmdl (upd R 44 1) mb))])) (fun _ _ => False) := by
  refine jK_of hfl (by decide +kernel) (Nat.le_of_ble_eq_true rfl) ?_
  intro p e s m args below meth c D A Q CC MM
  refine jr_norm0 [(0, .ref m0), (1, .int ch), (2, .int lv), (3, .int le), (4, .int mo), (5, .int hi)] rfl ?_
  refine jr_aload_n CC (jd ddX11_setWidth 0 rfl) 0 rfl ?_
  refine jr_iload_n CC (jd ddX11_setWidth 1 rfl) 1 rfl ?_
  refine jr_iconst (v := 0) CC (jd ddX11_setWidth 2 rfl) (by decide) ?_
  refine jr_iconst (v := 1) CC (jd ddX11_setWidth 3 rfl) (by decide) ?_
  refine jr_callS (rest := [.ref m0]) [.int ch, .int 0, .int 1] CC (jd ddX11_setWidth 4 rfl) (jy_X11_67 CC) (k_X11_isIn l t hfl ch 0 1) [] rfl (by decide) rfl rfl (by decide) (Nat.le_of_ble_eq_true rfl) (by rintro v u h; rcases h with ⟨rfl, rfl⟩ <;> rfl) (fun _ _ h => h.elim) (fun _ _ h => h.elim) (fun v u h => ?_)
  rcases h with ⟨rfl, rfl⟩
  refine jr_norm [(m0, .inr (10, jmdl R mb))] [.int (mIn ch 0 1), .ref m0] 7 0 0 rfl rfl rfl rfl rfl ?_
  refine jr_if_eq 42 CC (jd ddX11_setWidth 5 rfl) (by decide) (fun c1 => ?_) (fun c1 => ?_)
  · refine jr_iconst (v := 1) CC (jd ddX11_setWidth 21 rfl) (by decide) ?_
    refine jr_callV (q0 := 0) (rest := []) [.int 1] CC (jd ddX11_setWidth 22 rfl) (jy_X11_111 CC) (k_X11_fails_1 l t hfl m0 mb R) [0] rfl (by decide) rfl rfl rfl rfl (by decide) (Nat.le_of_ble_eq_true rfl) (by rintro v u h; rcases h with ⟨rfl, rfl⟩ <;> exact (show ([m0] : List Nat) = [m0] from rfl)) (fun _ _ h => h.elim) (fun _ _ h => h.elim) (fun v u h => ?_)
    rcases h with ⟨rfl, rfl⟩
    refine jr_norm [(m0, .inr (10, jmdl (upd R 44 1) mb))] [.int 1] 46 0 0 rfl rfl rfl rfl rfl ?_
    refine jr_if_ne 61 CC (jd ddX11_setWidth 23 rfl) (by decide) (fun _ => ?_) (fun h => absurd h (by decide))
    exact jr_vret CC MM (jd ddX11_setWidth 32 rfl) rfl (by decide) (by decide) (Or.inr ⟨by simp [eWidth, jI, jin_iff, c1], rfl, rfl⟩)
  · refine jr_iload_n CC (jd ddX11_setWidth 6 rfl) 2 rfl ?_
    refine jr_callS (rest := [.ref m0]) [.int lv] CC (jd ddX11_setWidth 7 rfl) (jy_X11_107 CC) (k_X11_isValue l t hfl lv) [] rfl (by decide) rfl rfl (by decide) (Nat.le_of_ble_eq_true rfl) (by rintro v u h; rcases h with ⟨rfl, rfl⟩ <;> rfl) (fun _ _ h => h.elim) (fun _ _ h => h.elim) (fun v u h => ?_)
    rcases h with ⟨rfl, rfl⟩
    refine jr_norm [(m0, .inr (10, jmdl R mb))] [.int (mIn lv (-128) 127), .ref m0] 14 0 0 rfl rfl rfl rfl rfl ?_
    refine jr_if_eq 42 CC (jd ddX11_setWidth 8 rfl) (by decide) (fun c3 => ?_) (fun c3 => ?_)
    · refine jr_iconst (v := 1) CC (jd ddX11_setWidth 21 rfl) (by decide) ?_
      refine jr_callV (q0 := 0) (rest := []) [.int 1] CC (jd ddX11_setWidth 22 rfl) (jy_X11_111 CC) (k_X11_fails_1 l t hfl m0 mb R) [0] rfl (by decide) rfl rfl rfl rfl (by decide) (Nat.le_of_ble_eq_true rfl) (by rintro v u h; rcases h with ⟨rfl, rfl⟩ <;> exact (show ([m0] : List Nat) = [m0] from rfl)) (fun _ _ h => h.elim) (fun _ _ h => h.elim) (fun v u h => ?_)
      rcases h with ⟨rfl, rfl⟩
      refine jr_norm [(m0, .inr (10, jmdl (upd R 44 1) mb))] [.int 1] 46 0 0 rfl rfl rfl rfl rfl ?_
      refine jr_if_ne 61 CC (jd ddX11_setWidth 23 rfl) (by decide) (fun _ => ?_) (fun h => absurd h (by decide))
      exact jr_vret CC MM (jd ddX11_setWidth 32 rfl) rfl (by decide) (by decide) (Or.inr ⟨by simp [eWidth, jI, jin_iff, c1, c3], rfl, rfl⟩)
    · refine jr_iload_n CC (jd ddX11_setWidth 9 rfl) 3 rfl ?_
      refine jr_iconst (v := 1) CC (jd ddX11_setWidth 10 rfl) (by decide) ?_
      refine jr_bipush (v := 100) CC (jd ddX11_setWidth 11 rfl) (by decide) ?_
      refine jr_callS (rest := [.ref m0]) [.int le, .int 1, .int 100] CC (jd ddX11_setWidth 12 rfl) (jy_X11_67 CC) (k_X11_isIn l t hfl le 1 100) [] rfl (by decide) rfl rfl (by decide) (Nat.le_of_ble_eq_true rfl) (by rintro v u h; rcases h with ⟨rfl, rfl⟩ <;> rfl) (fun _ _ h => h.elim) (fun _ _ h => h.elim) (fun v u h => ?_)
      rcases h with ⟨rfl, rfl⟩
      refine jr_norm [(m0, .inr (10, jmdl R mb))] [.int (mIn le 1 100), .ref m0] 24 0 0 rfl rfl rfl rfl rfl ?_
      refine jr_if_eq 42 CC (jd ddX11_setWidth 13 rfl) (by decide) (fun c5 => ?_) (fun c5 => ?_)
      · refine jr_iconst (v := 1) CC (jd ddX11_setWidth 21 rfl) (by decide) ?_
        refine jr_callV (q0 := 0) (rest := []) [.int 1] CC (jd ddX11_setWidth 22 rfl) (jy_X11_111 CC) (k_X11_fails_1 l t hfl m0 mb R) [0] rfl (by decide) rfl rfl rfl rfl (by decide) (Nat.le_of_ble_eq_true rfl) (by rintro v u h; rcases h with ⟨rfl, rfl⟩ <;> exact (show ([m0] : List Nat) = [m0] from rfl)) (fun _ _ h => h.elim) (fun _ _ h => h.elim) (fun v u h => ?_)
        rcases h with ⟨rfl, rfl⟩
        refine jr_norm [(m0, .inr (10, jmdl (upd R 44 1) mb))] [.int 1] 46 0 0 rfl rfl rfl rfl rfl ?_
        refine jr_if_ne 61 CC (jd ddX11_setWidth 23 rfl) (by decide) (fun _ => ?_) (fun h => absurd h (by decide))
        exact jr_vret CC MM (jd ddX11_setWidth 32 rfl) rfl (by decide) (by decide) (Or.inr ⟨by simp [eWidth, jI, jin_iff, c1, c3, c5], rfl, rfl⟩)
      · refine jr_iload CC (jd ddX11_setWidth 14 rfl) 4 rfl ?_
        refine jr_iload_n CC (jd ddX11_setWidth 15 rfl) 3 rfl ?_
        refine jr_bipush (v := 100) CC (jd ddX11_setWidth 16 rfl) (by decide) ?_
        refine jr_callS (rest := [.ref m0]) [.int mo, .int le, .int 100] CC (jd ddX11_setWidth 17 rfl) (jy_X11_67 CC) (k_X11_isIn l t hfl mo le 100) [] rfl (by decide) rfl rfl (by decide) (Nat.le_of_ble_eq_true rfl) (by rintro v u h; rcases h with ⟨rfl, rfl⟩ <;> rfl) (fun _ _ h => h.elim) (fun _ _ h => h.elim) (fun v u h => ?_)
        rcases h with ⟨rfl, rfl⟩
        refine jr_norm [(m0, .inr (10, jmdl R mb))] [.int (mIn mo le 100), .ref m0] 35 0 0 rfl rfl rfl rfl rfl ?_
        refine jr_if_eq 42 CC (jd ddX11_setWidth 18 rfl) (by decide) (fun c7 => ?_) (fun c7 => ?_)
        · refine jr_iconst (v := 1) CC (jd ddX11_setWidth 21 rfl) (by decide) ?_
          refine jr_callV (q0 := 0) (rest := []) [.int 1] CC (jd ddX11_setWidth 22 rfl) (jy_X11_111 CC) (k_X11_fails_1 l t hfl m0 mb R) [0] rfl (by decide) rfl rfl rfl rfl (by decide) (Nat.le_of_ble_eq_true rfl) (by rintro v u h; rcases h with ⟨rfl, rfl⟩ <;> exact (show ([m0] : List Nat) = [m0] from rfl)) (fun _ _ h => h.elim) (fun _ _ h => h.elim) (fun v u h => ?_)
          rcases h with ⟨rfl, rfl⟩
          refine jr_norm [(m0, .inr (10, jmdl (upd R 44 1) mb))] [.int 1] 46 0 0 rfl rfl rfl rfl rfl ?_
          refine jr_if_ne 61 CC (jd ddX11_setWidth 23 rfl) (by decide) (fun _ => ?_) (fun h => absurd h (by decide))
          exact jr_vret CC MM (jd ddX11_setWidth 32 rfl) rfl (by decide) (by decide) (Or.inr ⟨by simp [eWidth, jI, jin_iff, c1, c3, c5, c7], rfl, rfl⟩)
        · refine jr_iconst (v := 0) CC (jd ddX11_setWidth 19 rfl) (by decide) ?_
          refine jr_goto 43 CC (jd ddX11_setWidth 20 rfl) (by decide) ?_
          refine jr_callV (q0 := 0) (rest := []) [.int 0] CC (jd ddX11_setWidth 22 rfl) (jy_X11_111 CC) (k_X11_fails_0 l t hfl m0 mb R) [0] rfl (by decide) rfl rfl rfl rfl (by decide) (Nat.le_of_ble_eq_true rfl) (by rintro v u h; rcases h with ⟨rfl, rfl⟩ <;> exact (show ([m0] : List Nat) = [m0] from rfl)) (fun _ _ h => h.elim) (fun _ _ h => h.elim) (fun v u h => ?_)
          rcases h with ⟨rfl, rfl⟩
          refine jr_norm [(m0, .inr (10, jmdl (upd R 44 0) mb))] [.int 0] 46 0 0 rfl rfl rfl rfl rfl ?_
          refine jr_if_ne 61 CC (jd ddX11_setWidth 23 rfl) (by decide) (fun h => absurd h (by decide)) (fun _ => ?_)
          refine jr_aload_n CC (jd ddX11_setWidth 24 rfl) 0 rfl ?_
          refine jr_iconst (v := 1) CC (jd ddX11_setWidth 25 rfl) (by decide) ?_
          refine jr_iload_n CC (jd ddX11_setWidth 26 rfl) 1 rfl ?_
          refine jr_iload_n CC (jd ddX11_setWidth 27 rfl) 2 rfl ?_
          refine jr_iload_n CC (jd ddX11_setWidth 28 rfl) 3 rfl ?_
          refine jr_iload CC (jd ddX11_setWidth 29 rfl) 4 rfl ?_
          refine jr_iload CC (jd ddX11_setWidth 30 rfl) 5 rfl ?_
          refine jr_callV (q0 := 0) (rest := []) [.int 1, .int ch, .int lv, .int le, .int mo, .int hi] CC (jd ddX11_setWidth 31 rfl) (jy_X11_114 CC) (k_X11_sets l t hfl m0 mb (upd R 44 0) 1 ch lv le mo hi hup) [0] rfl (by decide) rfl rfl rfl rfl (by decide) (Nat.le_of_ble_eq_true rfl) (by rintro v u h; rcases h with ⟨rfl, rfl⟩ <;> exact (show ([m0] : List Nat) = [m0] from rfl)) (fun _ _ h => h.elim) (fun _ _ h => h.elim) (fun v u h => ?_)
          rcases h with ⟨rfl, rfl⟩
          refine jr_norm [(m0, .inr (10, jmdl (mSets (upd R 44 0) 1 ch lv le mo hi) mb))] [] 61 0 0 rfl rfl rfl rfl rfl ?_
          exact jr_vret CC MM (jd ddX11_setWidth 32 rfl) rfl (by decide) (by decide) (Or.inl ⟨by simp [eWidth, jI, jin_iff, c1, c3, c5, c7], rfl, rfl⟩)
set_option maxHeartbeats 8000000 in
set_option maxRecDepth 100000 in
theorem k_X11_setRunt (l : Launch) (t : Nat → ClassId) (hfl : l.stackTraces = false) (m0 : Nat) (mb : Nat → Nat) (R : Nat → Int32) (ch : Int32) (lo : Int32) (hi : Int32) : jKx l t yX11_setRunt (Cond.code yX11_setRunt cX11_setRunt 4 none :: jWS) { frames := 2, cells := 0, slots := 0, locals := 46 } [.ref m0, .int ch, .int lo, .int hi] [(m0, .inr (10, jmdl R mb))] (fun vv uu => (((eRunt ch lo hi) = 0) ∧ vv = none ∧ uu = [(m0, .inr (10, jmdl (mSets (upd R 44 0) 2 ch lo hi 0 1) mb))]) ∨ (((eRunt ch lo hi) = 1) ∧ vv = none ∧ uu = [(m0, .inr (10, jmdl (upd R 44 1) mb))])) (fun _ _ => False) := by
  refine jK_of hfl (by decide +kernel) (Nat.le_of_ble_eq_true rfl) ?_
  intro p e s m args below meth c D A Q CC MM
  refine jr_norm0 [(0, .ref m0), (1, .int ch), (2, .int lo), (3, .int hi)] rfl ?_
  refine jr_aload_n CC (jd ddX11_setRunt 0 rfl) 0 rfl ?_
  refine jr_iload_n CC (jd ddX11_setRunt 1 rfl) 1 rfl ?_
  refine jr_iconst (v := 0) CC (jd ddX11_setRunt 2 rfl) (by decide) ?_
  refine jr_iconst (v := 1) CC (jd ddX11_setRunt 3 rfl) (by decide) ?_
  refine jr_callS (rest := [.ref m0]) [.int ch, .int 0, .int 1] CC (jd ddX11_setRunt 4 rfl) (jy_X11_67 CC) (k_X11_isIn l t hfl ch 0 1) [] rfl (by decide) rfl rfl (by decide) (Nat.le_of_ble_eq_true rfl) (by rintro v u h; rcases h with ⟨rfl, rfl⟩ <;> rfl) (fun _ _ h => h.elim) (fun _ _ h => h.elim) (fun v u h => ?_)
  rcases h with ⟨rfl, rfl⟩
  refine jr_norm [(m0, .inr (10, jmdl R mb))] [.int (mIn ch 0 1), .ref m0] 7 0 0 rfl rfl rfl rfl rfl ?_
  refine jr_if_eq 31 CC (jd ddX11_setRunt 5 rfl) (by decide) (fun c1 => ?_) (fun c1 => ?_)
  · refine jr_iconst (v := 1) CC (jd ddX11_setRunt 16 rfl) (by decide) ?_
    refine jr_callV (q0 := 0) (rest := []) [.int 1] CC (jd ddX11_setRunt 17 rfl) (jy_X11_111 CC) (k_X11_fails_1 l t hfl m0 mb R) [0] rfl (by decide) rfl rfl rfl rfl (by decide) (Nat.le_of_ble_eq_true rfl) (by rintro v u h; rcases h with ⟨rfl, rfl⟩ <;> exact (show ([m0] : List Nat) = [m0] from rfl)) (fun _ _ h => h.elim) (fun _ _ h => h.elim) (fun v u h => ?_)
    rcases h with ⟨rfl, rfl⟩
    refine jr_norm [(m0, .inr (10, jmdl (upd R 44 1) mb))] [.int 1] 35 0 0 rfl rfl rfl rfl rfl ?_
    refine jr_if_ne 48 CC (jd ddX11_setRunt 18 rfl) (by decide) (fun _ => ?_) (fun h => absurd h (by decide))
    exact jr_vret CC MM (jd ddX11_setRunt 27 rfl) rfl (by decide) (by decide) (Or.inr ⟨by simp [eRunt, jI, jin_iff, c1], rfl, rfl⟩)
  · refine jr_iload_n CC (jd ddX11_setRunt 6 rfl) 2 rfl ?_
    refine jr_callS (rest := [.ref m0]) [.int lo] CC (jd ddX11_setRunt 7 rfl) (jy_X11_107 CC) (k_X11_isValue l t hfl lo) [] rfl (by decide) rfl rfl (by decide) (Nat.le_of_ble_eq_true rfl) (by rintro v u h; rcases h with ⟨rfl, rfl⟩ <;> rfl) (fun _ _ h => h.elim) (fun _ _ h => h.elim) (fun v u h => ?_)
    rcases h with ⟨rfl, rfl⟩
    refine jr_norm [(m0, .inr (10, jmdl R mb))] [.int (mIn lo (-128) 127), .ref m0] 14 0 0 rfl rfl rfl rfl rfl ?_
    refine jr_if_eq 31 CC (jd ddX11_setRunt 8 rfl) (by decide) (fun c3 => ?_) (fun c3 => ?_)
    · refine jr_iconst (v := 1) CC (jd ddX11_setRunt 16 rfl) (by decide) ?_
      refine jr_callV (q0 := 0) (rest := []) [.int 1] CC (jd ddX11_setRunt 17 rfl) (jy_X11_111 CC) (k_X11_fails_1 l t hfl m0 mb R) [0] rfl (by decide) rfl rfl rfl rfl (by decide) (Nat.le_of_ble_eq_true rfl) (by rintro v u h; rcases h with ⟨rfl, rfl⟩ <;> exact (show ([m0] : List Nat) = [m0] from rfl)) (fun _ _ h => h.elim) (fun _ _ h => h.elim) (fun v u h => ?_)
      rcases h with ⟨rfl, rfl⟩
      refine jr_norm [(m0, .inr (10, jmdl (upd R 44 1) mb))] [.int 1] 35 0 0 rfl rfl rfl rfl rfl ?_
      refine jr_if_ne 48 CC (jd ddX11_setRunt 18 rfl) (by decide) (fun _ => ?_) (fun h => absurd h (by decide))
      exact jr_vret CC MM (jd ddX11_setRunt 27 rfl) rfl (by decide) (by decide) (Or.inr ⟨by simp [eRunt, jI, jin_iff, c1, c3], rfl, rfl⟩)
    · refine jr_iload_n CC (jd ddX11_setRunt 9 rfl) 3 rfl ?_
      refine jr_iload_n CC (jd ddX11_setRunt 10 rfl) 2 rfl ?_
      refine jr_bipush (v := 127) CC (jd ddX11_setRunt 11 rfl) (by decide) ?_
      refine jr_callS (rest := [.ref m0]) [.int hi, .int lo, .int 127] CC (jd ddX11_setRunt 12 rfl) (jy_X11_67 CC) (k_X11_isIn l t hfl hi lo 127) [] rfl (by decide) rfl rfl (by decide) (Nat.le_of_ble_eq_true rfl) (by rintro v u h; rcases h with ⟨rfl, rfl⟩ <;> rfl) (fun _ _ h => h.elim) (fun _ _ h => h.elim) (fun v u h => ?_)
      rcases h with ⟨rfl, rfl⟩
      refine jr_norm [(m0, .inr (10, jmdl R mb))] [.int (mIn hi lo 127), .ref m0] 24 0 0 rfl rfl rfl rfl rfl ?_
      refine jr_if_eq 31 CC (jd ddX11_setRunt 13 rfl) (by decide) (fun c5 => ?_) (fun c5 => ?_)
      · refine jr_iconst (v := 1) CC (jd ddX11_setRunt 16 rfl) (by decide) ?_
        refine jr_callV (q0 := 0) (rest := []) [.int 1] CC (jd ddX11_setRunt 17 rfl) (jy_X11_111 CC) (k_X11_fails_1 l t hfl m0 mb R) [0] rfl (by decide) rfl rfl rfl rfl (by decide) (Nat.le_of_ble_eq_true rfl) (by rintro v u h; rcases h with ⟨rfl, rfl⟩ <;> exact (show ([m0] : List Nat) = [m0] from rfl)) (fun _ _ h => h.elim) (fun _ _ h => h.elim) (fun v u h => ?_)
        rcases h with ⟨rfl, rfl⟩
        refine jr_norm [(m0, .inr (10, jmdl (upd R 44 1) mb))] [.int 1] 35 0 0 rfl rfl rfl rfl rfl ?_
        refine jr_if_ne 48 CC (jd ddX11_setRunt 18 rfl) (by decide) (fun _ => ?_) (fun h => absurd h (by decide))
        exact jr_vret CC MM (jd ddX11_setRunt 27 rfl) rfl (by decide) (by decide) (Or.inr ⟨by simp [eRunt, jI, jin_iff, c1, c3, c5], rfl, rfl⟩)
      · refine jr_iconst (v := 0) CC (jd ddX11_setRunt 14 rfl) (by decide) ?_
        refine jr_goto 32 CC (jd ddX11_setRunt 15 rfl) (by decide) ?_
        refine jr_callV (q0 := 0) (rest := []) [.int 0] CC (jd ddX11_setRunt 17 rfl) (jy_X11_111 CC) (k_X11_fails_0 l t hfl m0 mb R) [0] rfl (by decide) rfl rfl rfl rfl (by decide) (Nat.le_of_ble_eq_true rfl) (by rintro v u h; rcases h with ⟨rfl, rfl⟩ <;> exact (show ([m0] : List Nat) = [m0] from rfl)) (fun _ _ h => h.elim) (fun _ _ h => h.elim) (fun v u h => ?_)
        rcases h with ⟨rfl, rfl⟩
        refine jr_norm [(m0, .inr (10, jmdl (upd R 44 0) mb))] [.int 0] 35 0 0 rfl rfl rfl rfl rfl ?_
        refine jr_if_ne 48 CC (jd ddX11_setRunt 18 rfl) (by decide) (fun h => absurd h (by decide)) (fun _ => ?_)
        refine jr_aload_n CC (jd ddX11_setRunt 19 rfl) 0 rfl ?_
        refine jr_iconst (v := 2) CC (jd ddX11_setRunt 20 rfl) (by decide) ?_
        refine jr_iload_n CC (jd ddX11_setRunt 21 rfl) 1 rfl ?_
        refine jr_iload_n CC (jd ddX11_setRunt 22 rfl) 2 rfl ?_
        refine jr_iload_n CC (jd ddX11_setRunt 23 rfl) 3 rfl ?_
        refine jr_iconst (v := 0) CC (jd ddX11_setRunt 24 rfl) (by decide) ?_
        refine jr_iconst (v := 1) CC (jd ddX11_setRunt 25 rfl) (by decide) ?_
        refine jr_callV (q0 := 0) (rest := []) [.int 2, .int ch, .int lo, .int hi, .int 0, .int 1] CC (jd ddX11_setRunt 26 rfl) (jy_X11_114 CC) (k_X11_sets l t hfl m0 mb (upd R 44 0) 2 ch lo hi 0 1 (Or.inr rfl)) [0] rfl (by decide) rfl rfl rfl rfl (by decide) (Nat.le_of_ble_eq_true rfl) (by rintro v u h; rcases h with ⟨rfl, rfl⟩ <;> exact (show ([m0] : List Nat) = [m0] from rfl)) (fun _ _ h => h.elim) (fun _ _ h => h.elim) (fun v u h => ?_)
        rcases h with ⟨rfl, rfl⟩
        refine jr_norm [(m0, .inr (10, jmdl (mSets (upd R 44 0) 2 ch lo hi 0 1) mb))] [] 48 0 0 rfl rfl rfl rfl rfl ?_
        exact jr_vret CC MM (jd ddX11_setRunt 27 rfl) rfl (by decide) (by decide) (Or.inl ⟨by simp [eRunt, jI, jin_iff, c1, c3, c5], rfl, rfl⟩)
set_option maxHeartbeats 8000000 in
set_option maxRecDepth 100000 in
theorem k_X11_setSequence (l : Launch) (t : Nat → ClassId) (hfl : l.stackTraces = false) (m0 : Nat) (mb : Nat → Nat) (R : Nat → Int32) (a : Int32) (b : Int32) (sp : Int32) : jKx l t yX11_setSequence (Cond.code yX11_setSequence cX11_setSequence 4 none :: jWS) { frames := 2, cells := 0, slots := 0, locals := 46 } [.ref m0, .int a, .int b, .int sp] [(m0, .inr (10, jmdl R mb))] (fun vv uu => (((eSeq a b sp) = 0) ∧ vv = none ∧ uu = [(m0, .inr (10, jmdl (mSets (upd R 44 0) 3 0 a b sp 1) mb))]) ∨ (((eSeq a b sp) = 1) ∧ vv = none ∧ uu = [(m0, .inr (10, jmdl (upd R 44 1) mb))])) (fun _ _ => False) := by
  refine jK_of hfl (by decide +kernel) (Nat.le_of_ble_eq_true rfl) ?_
  intro p e s m args below meth c D A Q CC MM
  refine jr_norm0 [(0, .ref m0), (1, .int a), (2, .int b), (3, .int sp)] rfl ?_
  refine jr_aload_n CC (jd ddX11_setSequence 0 rfl) 0 rfl ?_
  refine jr_iload_n CC (jd ddX11_setSequence 1 rfl) 1 rfl ?_
  refine jr_callS (rest := [.ref m0]) [.int a] CC (jd ddX11_setSequence 2 rfl) (jy_X11_107 CC) (k_X11_isValue l t hfl a) [] rfl (by decide) rfl rfl (by decide) (Nat.le_of_ble_eq_true rfl) (by rintro v u h; rcases h with ⟨rfl, rfl⟩ <;> rfl) (fun _ _ h => h.elim) (fun _ _ h => h.elim) (fun v u h => ?_)
  rcases h with ⟨rfl, rfl⟩
  refine jr_norm [(m0, .inr (10, jmdl R mb))] [.int (mIn a (-128) 127), .ref m0] 5 0 0 rfl rfl rfl rfl rfl ?_
  refine jr_if_eq 29 CC (jd ddX11_setSequence 3 rfl) (by decide) (fun c1 => ?_) (fun c1 => ?_)
  · refine jr_iconst (v := 1) CC (jd ddX11_setSequence 14 rfl) (by decide) ?_
    refine jr_callV (q0 := 0) (rest := []) [.int 1] CC (jd ddX11_setSequence 15 rfl) (jy_X11_111 CC) (k_X11_fails_1 l t hfl m0 mb R) [0] rfl (by decide) rfl rfl rfl rfl (by decide) (Nat.le_of_ble_eq_true rfl) (by rintro v u h; rcases h with ⟨rfl, rfl⟩ <;> exact (show ([m0] : List Nat) = [m0] from rfl)) (fun _ _ h => h.elim) (fun _ _ h => h.elim) (fun v u h => ?_)
    rcases h with ⟨rfl, rfl⟩
    refine jr_norm [(m0, .inr (10, jmdl (upd R 44 1) mb))] [.int 1] 33 0 0 rfl rfl rfl rfl rfl ?_
    refine jr_if_ne 46 CC (jd ddX11_setSequence 16 rfl) (by decide) (fun _ => ?_) (fun h => absurd h (by decide))
    exact jr_vret CC MM (jd ddX11_setSequence 25 rfl) rfl (by decide) (by decide) (Or.inr ⟨by simp [eSeq, jI, jin_iff, c1], rfl, rfl⟩)
  · refine jr_iload_n CC (jd ddX11_setSequence 4 rfl) 2 rfl ?_
    refine jr_callS (rest := [.ref m0]) [.int b] CC (jd ddX11_setSequence 5 rfl) (jy_X11_107 CC) (k_X11_isValue l t hfl b) [] rfl (by decide) rfl rfl (by decide) (Nat.le_of_ble_eq_true rfl) (by rintro v u h; rcases h with ⟨rfl, rfl⟩ <;> rfl) (fun _ _ h => h.elim) (fun _ _ h => h.elim) (fun v u h => ?_)
    rcases h with ⟨rfl, rfl⟩
    refine jr_norm [(m0, .inr (10, jmdl R mb))] [.int (mIn b (-128) 127), .ref m0] 12 0 0 rfl rfl rfl rfl rfl ?_
    refine jr_if_eq 29 CC (jd ddX11_setSequence 6 rfl) (by decide) (fun c3 => ?_) (fun c3 => ?_)
    · refine jr_iconst (v := 1) CC (jd ddX11_setSequence 14 rfl) (by decide) ?_
      refine jr_callV (q0 := 0) (rest := []) [.int 1] CC (jd ddX11_setSequence 15 rfl) (jy_X11_111 CC) (k_X11_fails_1 l t hfl m0 mb R) [0] rfl (by decide) rfl rfl rfl rfl (by decide) (Nat.le_of_ble_eq_true rfl) (by rintro v u h; rcases h with ⟨rfl, rfl⟩ <;> exact (show ([m0] : List Nat) = [m0] from rfl)) (fun _ _ h => h.elim) (fun _ _ h => h.elim) (fun v u h => ?_)
      rcases h with ⟨rfl, rfl⟩
      refine jr_norm [(m0, .inr (10, jmdl (upd R 44 1) mb))] [.int 1] 33 0 0 rfl rfl rfl rfl rfl ?_
      refine jr_if_ne 46 CC (jd ddX11_setSequence 16 rfl) (by decide) (fun _ => ?_) (fun h => absurd h (by decide))
      exact jr_vret CC MM (jd ddX11_setSequence 25 rfl) rfl (by decide) (by decide) (Or.inr ⟨by simp [eSeq, jI, jin_iff, c1, c3], rfl, rfl⟩)
    · refine jr_iload_n CC (jd ddX11_setSequence 7 rfl) 3 rfl ?_
      refine jr_iconst (v := 0) CC (jd ddX11_setSequence 8 rfl) (by decide) ?_
      refine jr_bipush (v := 100) CC (jd ddX11_setSequence 9 rfl) (by decide) ?_
      refine jr_callS (rest := [.ref m0]) [.int sp, .int 0, .int 100] CC (jd ddX11_setSequence 10 rfl) (jy_X11_67 CC) (k_X11_isIn l t hfl sp 0 100) [] rfl (by decide) rfl rfl (by decide) (Nat.le_of_ble_eq_true rfl) (by rintro v u h; rcases h with ⟨rfl, rfl⟩ <;> rfl) (fun _ _ h => h.elim) (fun _ _ h => h.elim) (fun v u h => ?_)
      rcases h with ⟨rfl, rfl⟩
      refine jr_norm [(m0, .inr (10, jmdl R mb))] [.int (mIn sp 0 100), .ref m0] 22 0 0 rfl rfl rfl rfl rfl ?_
      refine jr_if_eq 29 CC (jd ddX11_setSequence 11 rfl) (by decide) (fun c5 => ?_) (fun c5 => ?_)
      · refine jr_iconst (v := 1) CC (jd ddX11_setSequence 14 rfl) (by decide) ?_
        refine jr_callV (q0 := 0) (rest := []) [.int 1] CC (jd ddX11_setSequence 15 rfl) (jy_X11_111 CC) (k_X11_fails_1 l t hfl m0 mb R) [0] rfl (by decide) rfl rfl rfl rfl (by decide) (Nat.le_of_ble_eq_true rfl) (by rintro v u h; rcases h with ⟨rfl, rfl⟩ <;> exact (show ([m0] : List Nat) = [m0] from rfl)) (fun _ _ h => h.elim) (fun _ _ h => h.elim) (fun v u h => ?_)
        rcases h with ⟨rfl, rfl⟩
        refine jr_norm [(m0, .inr (10, jmdl (upd R 44 1) mb))] [.int 1] 33 0 0 rfl rfl rfl rfl rfl ?_
        refine jr_if_ne 46 CC (jd ddX11_setSequence 16 rfl) (by decide) (fun _ => ?_) (fun h => absurd h (by decide))
        exact jr_vret CC MM (jd ddX11_setSequence 25 rfl) rfl (by decide) (by decide) (Or.inr ⟨by simp [eSeq, jI, jin_iff, c1, c3, c5], rfl, rfl⟩)
      · refine jr_iconst (v := 0) CC (jd ddX11_setSequence 12 rfl) (by decide) ?_
        refine jr_goto 30 CC (jd ddX11_setSequence 13 rfl) (by decide) ?_
        refine jr_callV (q0 := 0) (rest := []) [.int 0] CC (jd ddX11_setSequence 15 rfl) (jy_X11_111 CC) (k_X11_fails_0 l t hfl m0 mb R) [0] rfl (by decide) rfl rfl rfl rfl (by decide) (Nat.le_of_ble_eq_true rfl) (by rintro v u h; rcases h with ⟨rfl, rfl⟩ <;> exact (show ([m0] : List Nat) = [m0] from rfl)) (fun _ _ h => h.elim) (fun _ _ h => h.elim) (fun v u h => ?_)
        rcases h with ⟨rfl, rfl⟩
        refine jr_norm [(m0, .inr (10, jmdl (upd R 44 0) mb))] [.int 0] 33 0 0 rfl rfl rfl rfl rfl ?_
        refine jr_if_ne 46 CC (jd ddX11_setSequence 16 rfl) (by decide) (fun h => absurd h (by decide)) (fun _ => ?_)
        refine jr_aload_n CC (jd ddX11_setSequence 17 rfl) 0 rfl ?_
        refine jr_iconst (v := 3) CC (jd ddX11_setSequence 18 rfl) (by decide) ?_
        refine jr_iconst (v := 0) CC (jd ddX11_setSequence 19 rfl) (by decide) ?_
        refine jr_iload_n CC (jd ddX11_setSequence 20 rfl) 1 rfl ?_
        refine jr_iload_n CC (jd ddX11_setSequence 21 rfl) 2 rfl ?_
        refine jr_iload_n CC (jd ddX11_setSequence 22 rfl) 3 rfl ?_
        refine jr_iconst (v := 1) CC (jd ddX11_setSequence 23 rfl) (by decide) ?_
        refine jr_callV (q0 := 0) (rest := []) [.int 3, .int 0, .int a, .int b, .int sp, .int 1] CC (jd ddX11_setSequence 24 rfl) (jy_X11_114 CC) (k_X11_sets l t hfl m0 mb (upd R 44 0) 3 0 a b sp 1 (Or.inr rfl)) [0] rfl (by decide) rfl rfl rfl rfl (by decide) (Nat.le_of_ble_eq_true rfl) (by rintro v u h; rcases h with ⟨rfl, rfl⟩ <;> exact (show ([m0] : List Nat) = [m0] from rfl)) (fun _ _ h => h.elim) (fun _ _ h => h.elim) (fun v u h => ?_)
        rcases h with ⟨rfl, rfl⟩
        refine jr_norm [(m0, .inr (10, jmdl (mSets (upd R 44 0) 3 0 a b sp 1) mb))] [] 46 0 0 rfl rfl rfl rfl rfl ?_
        exact jr_vret CC MM (jd ddX11_setSequence 25 rfl) rfl (by decide) (by decide) (Or.inl ⟨by simp [eSeq, jI, jin_iff, c1, c3, c5], rfl, rfl⟩)
set_option maxHeartbeats 8000000 in
set_option maxRecDepth 100000 in
theorem k_X11_setLengths (l : Launch) (t : Nat → ClassId) (hfl : l.stackTraces = false) (m0 : Nat) (mb : Nat → Nat) (R : Nat → Int32) (a : Int32) (b : Int32) : jKx l t yX11_setLengths (Cond.code yX11_setLengths cX11_setLengths 3 none :: jWS) { frames := 1, cells := 0, slots := 0, locals := 22 } [.ref m0, .int a, .int b] [(m0, .inr (10, jmdl R mb))] (fun vv uu => (((eLen a b (R 20)) = 0) ∧ vv = none ∧ uu = [(m0, .inr (10, jmdl (upd (upd (upd R 44 0) 17 a) 18 b) mb))]) ∨ (((eLen a b (R 20)) = 1) ∧ vv = none ∧ uu = [(m0, .inr (10, jmdl (upd R 44 1) mb))]) ∨ (((eLen a b (R 20)) = 2) ∧ vv = none ∧ uu = [(m0, .inr (10, jmdl (upd R 44 2) mb))])) (fun _ _ => False) := by
  refine jK_of hfl (by decide +kernel) (Nat.le_of_ble_eq_true rfl) ?_
  intro p e s m args below meth c D A Q CC MM
  refine jr_norm0 [(0, .ref m0), (1, .int a), (2, .int b)] rfl ?_
  refine jr_aload_n CC (jd ddX11_setLengths 0 rfl) 0 rfl ?_
  refine jr_iload_n CC (jd ddX11_setLengths 1 rfl) 1 rfl ?_
  refine jr_iconst (v := 0) CC (jd ddX11_setLengths 2 rfl) (by decide) ?_
  refine jr_bipush (v := 16) CC (jd ddX11_setLengths 3 rfl) (by decide) ?_
  refine jr_callS (rest := [.ref m0]) [.int a, .int 0, .int 16] CC (jd ddX11_setLengths 4 rfl) (jy_X11_67 CC) (k_X11_isIn l t hfl a 0 16) [] rfl (by decide) rfl rfl (by decide) (Nat.le_of_ble_eq_true rfl) (by rintro v u h; rcases h with ⟨rfl, rfl⟩ <;> rfl) (fun _ _ h => h.elim) (fun _ _ h => h.elim) (fun v u h => ?_)
  rcases h with ⟨rfl, rfl⟩
  refine jr_norm [(m0, .inr (10, jmdl R mb))] [.int (mIn a 0 16), .ref m0] 8 0 0 rfl rfl rfl rfl rfl ?_
  refine jr_if_eq 21 CC (jd ddX11_setLengths 5 rfl) (by decide) (fun c1 => ?_) (fun c1 => ?_)
  · refine jr_iconst (v := 1) CC (jd ddX11_setLengths 11 rfl) (by decide) ?_
    refine jr_goto 37 CC (jd ddX11_setLengths 12 rfl) (by decide) ?_
    refine jr_callV (q0 := 0) (rest := []) [.int 1] CC (jd ddX11_setLengths 19 rfl) (jy_X11_111 CC) (k_X11_fails_1 l t hfl m0 mb R) [0] rfl (by decide) rfl rfl rfl rfl (by decide) (Nat.le_of_ble_eq_true rfl) (by rintro v u h; rcases h with ⟨rfl, rfl⟩ <;> exact (show ([m0] : List Nat) = [m0] from rfl)) (fun _ _ h => h.elim) (fun _ _ h => h.elim) (fun v u h => ?_)
    rcases h with ⟨rfl, rfl⟩
    refine jr_norm [(m0, .inr (10, jmdl (upd R 44 1) mb))] [.int 1] 40 0 0 rfl rfl rfl rfl rfl ?_
    refine jr_if_ne 53 CC (jd ddX11_setLengths 20 rfl) (by decide) (fun _ => ?_) (fun h => absurd h (by decide))
    exact jr_vret CC MM (jd ddX11_setLengths 27 rfl) rfl (by decide) (by decide) (Or.inr (Or.inl ⟨by simp [eLen, jI, jin_iff, c1], rfl, rfl⟩))
  · refine jr_iload_n CC (jd ddX11_setLengths 6 rfl) 2 rfl ?_
    refine jr_iconst (v := 0) CC (jd ddX11_setLengths 7 rfl) (by decide) ?_
    refine jr_bipush (v := 32) CC (jd ddX11_setLengths 8 rfl) (by decide) ?_
    refine jr_callS (rest := [.ref m0]) [.int b, .int 0, .int 32] CC (jd ddX11_setLengths 9 rfl) (jy_X11_67 CC) (k_X11_isIn l t hfl b 0 32) [] rfl (by decide) rfl rfl (by decide) (Nat.le_of_ble_eq_true rfl) (by rintro v u h; rcases h with ⟨rfl, rfl⟩ <;> rfl) (fun _ _ h => h.elim) (fun _ _ h => h.elim) (fun v u h => ?_)
    rcases h with ⟨rfl, rfl⟩
    refine jr_norm [(m0, .inr (10, jmdl R mb))] [.int (mIn b 0 32), .ref m0] 18 0 0 rfl rfl rfl rfl rfl ?_
    refine jr_if_ne 25 CC (jd ddX11_setLengths 10 rfl) (by decide) (fun c3 => ?_) (fun c3 => ?_)
    · refine jr_aload_n CC (jd ddX11_setLengths 13 rfl) 0 rfl ?_
      refine jr_get (v := .int (R 20)) CC (jd ddX11_setLengths 14 rfl) (jf_X11_141 CC) 0 rfl rfl ?_
      refine jr_if_eq 36 CC (jd ddX11_setLengths 15 rfl) (by decide) (fun c4 => ?_) (fun c4 => ?_)
      · refine jr_iconst (v := 0) CC (jd ddX11_setLengths 18 rfl) (by decide) ?_
        refine jr_callV (q0 := 0) (rest := []) [.int 0] CC (jd ddX11_setLengths 19 rfl) (jy_X11_111 CC) (k_X11_fails_0 l t hfl m0 mb R) [0] rfl (by decide) rfl rfl rfl rfl (by decide) (Nat.le_of_ble_eq_true rfl) (by rintro v u h; rcases h with ⟨rfl, rfl⟩ <;> exact (show ([m0] : List Nat) = [m0] from rfl)) (fun _ _ h => h.elim) (fun _ _ h => h.elim) (fun v u h => ?_)
        rcases h with ⟨rfl, rfl⟩
        refine jr_norm [(m0, .inr (10, jmdl (upd R 44 0) mb))] [.int 0] 40 0 0 rfl rfl rfl rfl rfl ?_
        refine jr_if_ne 53 CC (jd ddX11_setLengths 20 rfl) (by decide) (fun h => absurd h (by decide)) (fun _ => ?_)
        refine jr_aload_n CC (jd ddX11_setLengths 21 rfl) 0 rfl ?_
        refine jr_iload_n CC (jd ddX11_setLengths 22 rfl) 1 rfl ?_
        refine jr_put CC (jd ddX11_setLengths 23 rfl) (jf_X11_17 CC) 0 rfl rfl rfl (Nat.le_of_ble_eq_true rfl) ?_
        refine jr_ws [(m0, .inr (10, jmdl (upd (upd R 44 0) 17 a) mb))] rfl ?_
        refine jr_aload_n CC (jd ddX11_setLengths 24 rfl) 0 rfl ?_
        refine jr_iload_n CC (jd ddX11_setLengths 25 rfl) 2 rfl ?_
        refine jr_put CC (jd ddX11_setLengths 26 rfl) (jf_X11_20 CC) 0 rfl rfl rfl (Nat.le_of_ble_eq_true rfl) ?_
        refine jr_ws [(m0, .inr (10, jmdl (upd (upd (upd R 44 0) 17 a) 18 b) mb))] rfl ?_
        exact jr_vret CC MM (jd ddX11_setLengths 27 rfl) rfl (by decide) (by decide) (Or.inl ⟨by simp [eLen, jI, jin_iff, c1, c3, c4], rfl, rfl⟩)
      · refine jr_iconst (v := 2) CC (jd ddX11_setLengths 16 rfl) (by decide) ?_
        refine jr_goto 37 CC (jd ddX11_setLengths 17 rfl) (by decide) ?_
        refine jr_callV (q0 := 0) (rest := []) [.int 2] CC (jd ddX11_setLengths 19 rfl) (jy_X11_111 CC) (k_X11_fails_2 l t hfl m0 mb R) [0] rfl (by decide) rfl rfl rfl rfl (by decide) (Nat.le_of_ble_eq_true rfl) (by rintro v u h; rcases h with ⟨rfl, rfl⟩ <;> exact (show ([m0] : List Nat) = [m0] from rfl)) (fun _ _ h => h.elim) (fun _ _ h => h.elim) (fun v u h => ?_)
        rcases h with ⟨rfl, rfl⟩
        refine jr_norm [(m0, .inr (10, jmdl (upd R 44 2) mb))] [.int 1] 40 0 0 rfl rfl rfl rfl rfl ?_
        refine jr_if_ne 53 CC (jd ddX11_setLengths 20 rfl) (by decide) (fun _ => ?_) (fun h => absurd h (by decide))
        exact jr_vret CC MM (jd ddX11_setLengths 27 rfl) rfl (by decide) (by decide) (Or.inr (Or.inr ⟨by simp [eLen, jI, jin_iff, c1, c3, c4], rfl, rfl⟩))
    · refine jr_iconst (v := 1) CC (jd ddX11_setLengths 11 rfl) (by decide) ?_
      refine jr_goto 37 CC (jd ddX11_setLengths 12 rfl) (by decide) ?_
      refine jr_callV (q0 := 0) (rest := []) [.int 1] CC (jd ddX11_setLengths 19 rfl) (jy_X11_111 CC) (k_X11_fails_1 l t hfl m0 mb R) [0] rfl (by decide) rfl rfl rfl rfl (by decide) (Nat.le_of_ble_eq_true rfl) (by rintro v u h; rcases h with ⟨rfl, rfl⟩ <;> exact (show ([m0] : List Nat) = [m0] from rfl)) (fun _ _ h => h.elim) (fun _ _ h => h.elim) (fun v u h => ?_)
      rcases h with ⟨rfl, rfl⟩
      refine jr_norm [(m0, .inr (10, jmdl (upd R 44 1) mb))] [.int 1] 40 0 0 rfl rfl rfl rfl rfl ?_
      refine jr_if_ne 53 CC (jd ddX11_setLengths 20 rfl) (by decide) (fun _ => ?_) (fun h => absurd h (by decide))
      exact jr_vret CC MM (jd ddX11_setLengths 27 rfl) rfl (by decide) (by decide) (Or.inr (Or.inl ⟨by simp [eLen, jI, jin_iff, c1, c3], rfl, rfl⟩))
set_option maxHeartbeats 8000000 in
set_option maxRecDepth 100000 in
theorem k_X11_setHoldoff (l : Launch) (t : Nat → ClassId) (hfl : l.stackTraces = false) (m0 : Nat) (mb : Nat → Nat) (R : Nat → Int32) (a : Int32) : jKx l t yX11_setHoldoff (Cond.code yX11_setHoldoff cX11_setHoldoff 3 (some .int) :: jWS) { frames := 1, cells := 0, slots := 0, locals := 22 } [.ref m0, .int a] [(m0, .inr (10, jmdl R mb))] (fun vv uu => (((eHold a) = 0) ∧ vv = some (.int (R 19)) ∧ uu = [(m0, .inr (10, jmdl (upd (upd R 44 0) 19 a) mb))]) ∨ (((eHold a) = 1) ∧ vv = some (.int 0) ∧ uu = [(m0, .inr (10, jmdl (upd R 44 1) mb))])) (fun _ _ => False) := by
  refine jK_of hfl (by decide +kernel) (Nat.le_of_ble_eq_true rfl) ?_
  intro p e s m args below meth c D A Q CC MM
  refine jr_norm0 [(0, .ref m0), (1, .int a)] rfl ?_
  refine jr_aload_n CC (jd ddX11_setHoldoff 0 rfl) 0 rfl ?_
  refine jr_iload_n CC (jd ddX11_setHoldoff 1 rfl) 1 rfl ?_
  refine jr_iconst (v := 0) CC (jd ddX11_setHoldoff 2 rfl) (by decide) ?_
  refine jr_sipush (v := 1000) CC (jd ddX11_setHoldoff 3 rfl) (by decide) ?_
  refine jr_callS (rest := [.ref m0]) [.int a, .int 0, .int 1000] CC (jd ddX11_setHoldoff 4 rfl) (jy_X11_67 CC) (k_X11_isIn l t hfl a 0 1000) [] rfl (by decide) rfl rfl (by decide) (Nat.le_of_ble_eq_true rfl) (by rintro v u h; rcases h with ⟨rfl, rfl⟩ <;> rfl) (fun _ _ h => h.elim) (fun _ _ h => h.elim) (fun v u h => ?_)
  rcases h with ⟨rfl, rfl⟩
  refine jr_norm [(m0, .inr (10, jmdl R mb))] [.int (mIn a 0 1000), .ref m0] 9 0 0 rfl rfl rfl rfl rfl ?_
  refine jr_if_eq 16 CC (jd ddX11_setHoldoff 5 rfl) (by decide) (fun c1 => ?_) (fun c1 => ?_)
  · refine jr_iconst (v := 1) CC (jd ddX11_setHoldoff 8 rfl) (by decide) ?_
    refine jr_callV (q0 := 0) (rest := []) [.int 1] CC (jd ddX11_setHoldoff 9 rfl) (jy_X11_111 CC) (k_X11_fails_1 l t hfl m0 mb R) [0] rfl (by decide) rfl rfl rfl rfl (by decide) (Nat.le_of_ble_eq_true rfl) (by rintro v u h; rcases h with ⟨rfl, rfl⟩ <;> exact (show ([m0] : List Nat) = [m0] from rfl)) (fun _ _ h => h.elim) (fun _ _ h => h.elim) (fun v u h => ?_)
    rcases h with ⟨rfl, rfl⟩
    refine jr_norm [(m0, .inr (10, jmdl (upd R 44 1) mb))] [.int 1] 20 0 0 rfl rfl rfl rfl rfl ?_
    refine jr_if_eq 25 CC (jd ddX11_setHoldoff 10 rfl) (by decide) (fun h => absurd h (by decide)) (fun _ => ?_)
    refine jr_iconst (v := 0) CC (jd ddX11_setHoldoff 11 rfl) (by decide) ?_
    exact jr_iret CC MM (jd ddX11_setHoldoff 12 rfl) rfl (by decide) (by decide) (Or.inr ⟨by simp [eHold, jI, jin_iff, c1], rfl, rfl⟩)
  · refine jr_iconst (v := 0) CC (jd ddX11_setHoldoff 6 rfl) (by decide) ?_
    refine jr_goto 17 CC (jd ddX11_setHoldoff 7 rfl) (by decide) ?_
    refine jr_callV (q0 := 0) (rest := []) [.int 0] CC (jd ddX11_setHoldoff 9 rfl) (jy_X11_111 CC) (k_X11_fails_0 l t hfl m0 mb R) [0] rfl (by decide) rfl rfl rfl rfl (by decide) (Nat.le_of_ble_eq_true rfl) (by rintro v u h; rcases h with ⟨rfl, rfl⟩ <;> exact (show ([m0] : List Nat) = [m0] from rfl)) (fun _ _ h => h.elim) (fun _ _ h => h.elim) (fun v u h => ?_)
    rcases h with ⟨rfl, rfl⟩
    refine jr_norm [(m0, .inr (10, jmdl (upd R 44 0) mb))] [.int 0] 20 0 0 rfl rfl rfl rfl rfl ?_
    refine jr_if_eq 25 CC (jd ddX11_setHoldoff 10 rfl) (by decide) (fun _ => ?_) (fun h => absurd h (by decide))
    refine jr_aload_n CC (jd ddX11_setHoldoff 13 rfl) 0 rfl ?_
    refine jr_get (v := .int (R 19)) CC (jd ddX11_setHoldoff 14 rfl) (jf_X11_144 CC) 0 rfl rfl ?_
    refine jr_istore_n 2 [(2, .int (R 19)), (0, .ref m0), (1, .int a)] CC (jd ddX11_setHoldoff 15 rfl) rfl (by decide) rfl ?_
    refine jr_aload_n CC (jd ddX11_setHoldoff 16 rfl) 1 rfl ?_
    refine jr_iload_n CC (jd ddX11_setHoldoff 17 rfl) 2 rfl ?_
    refine jr_put CC (jd ddX11_setHoldoff 18 rfl) (jf_X11_144 CC) 0 rfl rfl rfl (Nat.le_of_ble_eq_true rfl) ?_
    refine jr_ws [(m0, .inr (10, jmdl (upd (upd R 44 0) 19 a) mb))] rfl ?_
    refine jr_iload_n CC (jd ddX11_setHoldoff 19 rfl) 0 rfl ?_
    exact jr_iret CC MM (jd ddX11_setHoldoff 20 rfl) rfl (by decide) (by decide) (Or.inl ⟨by simp [eHold, jI, jin_iff, c1], rfl, rfl⟩)
set_option maxHeartbeats 8000000 in
set_option maxRecDepth 100000 in
theorem k_X11_arm (l : Launch) (t : Nat → ClassId) (hfl : l.stackTraces = false) (m0 : Nat) (mb : Nat → Nat) (R : Nat → Int32) : jKx l t yX11_arm (Cond.code yX11_arm cX11_arm 2 (some .int) :: jWS) { frames := 0, cells := 0, slots := 0, locals := 0 } [.ref m0] [(m0, .inr (10, jmdl R mb))] (fun vv uu => (vv = some (.int (R 28)) ∧ uu = [(m0, .inr (10, jmdl (upd (upd (upd (upd (upd (upd R 44 0) 28 0) 20 1) 21 0) 22 0) 35 0) mb))])) (fun _ _ => False) := by
  refine jK_of hfl (by decide +kernel) (Nat.le_of_ble_eq_true rfl) ?_
  intro p e s m args below meth c D A Q CC MM
  refine jr_norm0 [(0, .ref m0)] rfl ?_
  refine jr_aload_n CC (jd ddX11_arm 0 rfl) 0 rfl ?_
  refine jr_iconst (v := 0) CC (jd ddX11_arm 1 rfl) (by decide) ?_
  refine jr_put CC (jd ddX11_arm 2 rfl) (jf_X11_64 CC) 0 rfl rfl rfl (Nat.le_of_ble_eq_true rfl) ?_
  refine jr_ws [(m0, .inr (10, jmdl (upd R 44 0) mb))] rfl ?_
  refine jr_aload_n CC (jd ddX11_arm 3 rfl) 0 rfl ?_
  refine jr_get (v := .int (R 28)) CC (jd ddX11_arm 4 rfl) (jf_X11_147 CC) 0 rfl rfl ?_
  refine jr_istore_n 1 [(1, .int (R 28)), (0, .ref m0)] CC (jd ddX11_arm 5 rfl) rfl (by decide) rfl ?_
  refine jr_aload_n CC (jd ddX11_arm 6 rfl) 1 rfl ?_
  refine jr_iconst (v := 0) CC (jd ddX11_arm 7 rfl) (by decide) ?_
  refine jr_put CC (jd ddX11_arm 8 rfl) (jf_X11_147 CC) 0 rfl rfl rfl (Nat.le_of_ble_eq_true rfl) ?_
  refine jr_ws [(m0, .inr (10, jmdl (upd (upd R 44 0) 28 0) mb))] rfl ?_
  refine jr_aload_n CC (jd ddX11_arm 9 rfl) 1 rfl ?_
  refine jr_pc (pc' := 16) rfl ?_
  refine jr_iconst (v := 1) CC (jd ddX11_arm 10 rfl) (by decide) ?_
  refine jr_put CC (jd ddX11_arm 11 rfl) (jf_X11_141 CC) 0 rfl rfl rfl (Nat.le_of_ble_eq_true rfl) ?_
  refine jr_ws [(m0, .inr (10, jmdl (upd (upd (upd R 44 0) 28 0) 20 1) mb))] rfl ?_
  refine jr_aload_n CC (jd ddX11_arm 12 rfl) 1 rfl ?_
  refine jr_iconst (v := 0) CC (jd ddX11_arm 13 rfl) (by decide) ?_
  refine jr_put CC (jd ddX11_arm 14 rfl) (jf_X11_150 CC) 0 rfl rfl rfl (Nat.le_of_ble_eq_true rfl) ?_
  refine jr_ws [(m0, .inr (10, jmdl (upd (upd (upd (upd R 44 0) 28 0) 20 1) 21 0) mb))] rfl ?_
  refine jr_aload_n CC (jd ddX11_arm 15 rfl) 1 rfl ?_
  refine jr_iconst (v := 0) CC (jd ddX11_arm 16 rfl) (by decide) ?_
  refine jr_put CC (jd ddX11_arm 17 rfl) (jf_X11_153 CC) 0 rfl rfl rfl (Nat.le_of_ble_eq_true rfl) ?_
  refine jr_ws [(m0, .inr (10, jmdl (upd (upd (upd (upd (upd R 44 0) 28 0) 20 1) 21 0) 22 0) mb))] rfl ?_
  refine jr_aload_n CC (jd ddX11_arm 18 rfl) 1 rfl ?_
  refine jr_iconst (v := 0) CC (jd ddX11_arm 19 rfl) (by decide) ?_
  refine jr_pc (pc' := 32) rfl ?_
  refine jr_put CC (jd ddX11_arm 20 rfl) (jf_X11_156 CC) 0 rfl rfl rfl (Nat.le_of_ble_eq_true rfl) ?_
  refine jr_ws [(m0, .inr (10, jmdl (upd (upd (upd (upd (upd (upd R 44 0) 28 0) 20 1) 21 0) 22 0) 35 0) mb))] rfl ?_
  refine jr_iload_n CC (jd ddX11_arm 21 rfl) 0 rfl ?_
  exact jr_iret CC MM (jd ddX11_arm 22 rfl) rfl (by decide) (by decide) ⟨rfl, rfl⟩
set_option maxHeartbeats 8000000 in
set_option maxRecDepth 100000 in
theorem k_X11_disarm (l : Launch) (t : Nat → ClassId) (hfl : l.stackTraces = false) (m0 : Nat) (mb : Nat → Nat) (R : Nat → Int32) (hB : mBool R) : jKx l t yX11_disarm (Cond.code yX11_disarm cX11_disarm 2 (some .boolean) :: jWS) { frames := 0, cells := 0, slots := 0, locals := 0 } [.ref m0] [(m0, .inr (10, jmdl R mb))] (fun vv uu => (vv = some (.int (R 20)) ∧ uu = [(m0, .inr (10, jmdl (upd (upd (upd R 44 0) 20 0) 21 0) mb))])) (fun _ _ => False) := by
  refine jK_of hfl (by decide +kernel) (Nat.le_of_ble_eq_true rfl) ?_
  intro p e s m args below meth c D A Q CC MM
  refine jr_norm0 [(0, .ref m0)] rfl ?_
  refine jr_aload_n CC (jd ddX11_disarm 0 rfl) 0 rfl ?_
  refine jr_iconst (v := 0) CC (jd ddX11_disarm 1 rfl) (by decide) ?_
  refine jr_put CC (jd ddX11_disarm 2 rfl) (jf_X11_64 CC) 0 rfl rfl rfl (Nat.le_of_ble_eq_true rfl) ?_
  refine jr_ws [(m0, .inr (10, jmdl (upd R 44 0) mb))] rfl ?_
  refine jr_aload_n CC (jd ddX11_disarm 3 rfl) 0 rfl ?_
  refine jr_get (v := .int (R 20)) CC (jd ddX11_disarm 4 rfl) (jf_X11_141 CC) 0 rfl rfl ?_
  refine jr_istore_n 1 [(1, .int (R 20)), (0, .ref m0)] CC (jd ddX11_disarm 5 rfl) rfl (by decide) rfl ?_
  refine jr_aload_n CC (jd ddX11_disarm 6 rfl) 1 rfl ?_
  refine jr_iconst (v := 0) CC (jd ddX11_disarm 7 rfl) (by decide) ?_
  refine jr_put CC (jd ddX11_disarm 8 rfl) (jf_X11_141 CC) 0 rfl rfl rfl (Nat.le_of_ble_eq_true rfl) ?_
  refine jr_ws [(m0, .inr (10, jmdl (upd (upd R 44 0) 20 0) mb))] rfl ?_
  refine jr_aload_n CC (jd ddX11_disarm 9 rfl) 1 rfl ?_
  refine jr_pc (pc' := 16) rfl ?_
  refine jr_iconst (v := 0) CC (jd ddX11_disarm 10 rfl) (by decide) ?_
  refine jr_put CC (jd ddX11_disarm 11 rfl) (jf_X11_150 CC) 0 rfl rfl rfl (Nat.le_of_ble_eq_true rfl) ?_
  refine jr_ws [(m0, .inr (10, jmdl (upd (upd (upd R 44 0) 20 0) 21 0) mb))] rfl ?_
  refine jr_iload_n CC (jd ddX11_disarm 12 rfl) 0 rfl ?_
  exact jr_zret (jb01n hB.2.2.2.2.2.2.1) CC MM (jd ddX11_disarm 13 rfl) rfl (by decide) (by decide) ⟨rfl, rfl⟩
set_option maxHeartbeats 8000000 in
set_option maxRecDepth 100000 in
theorem k_X11_isArmed (l : Launch) (t : Nat → ClassId) (hfl : l.stackTraces = false) (m0 : Nat) (mb : Nat → Nat) (R : Nat → Int32) (hB : mBool R) : jKx l t yX11_isArmed (Cond.code yX11_isArmed cX11_isArmed 1 (some .boolean) :: jWS) { frames := 0, cells := 0, slots := 0, locals := 0 } [.ref m0] [(m0, .inr (10, jmdl R mb))] (fun vv uu => (vv = some (.int (R 20)) ∧ uu = [(m0, .inr (10, jmdl (upd R 44 0) mb))])) (fun _ _ => False) := by
  refine jK_of hfl (by decide +kernel) (Nat.le_of_ble_eq_true rfl) ?_
  intro p e s m args below meth c D A Q CC MM
  refine jr_norm0 [(0, .ref m0)] rfl ?_
  refine jr_aload_n CC (jd ddX11_isArmed 0 rfl) 0 rfl ?_
  refine jr_iconst (v := 0) CC (jd ddX11_isArmed 1 rfl) (by decide) ?_
  refine jr_put CC (jd ddX11_isArmed 2 rfl) (jf_X11_64 CC) 0 rfl rfl rfl (Nat.le_of_ble_eq_true rfl) ?_
  refine jr_ws [(m0, .inr (10, jmdl (upd R 44 0) mb))] rfl ?_
  refine jr_aload_n CC (jd ddX11_isArmed 3 rfl) 0 rfl ?_
  refine jr_get (v := .int (R 20)) CC (jd ddX11_isArmed 4 rfl) (jf_X11_141 CC) 0 rfl rfl ?_
  exact jr_zret (jb01n hB.2.2.2.2.2.2.1) CC MM (jd ddX11_isArmed 5 rfl) rfl (by decide) (by decide) ⟨rfl, rfl⟩
set_option maxHeartbeats 8000000 in
set_option maxRecDepth 100000 in
theorem k_X11_isCatching (l : Launch) (t : Nat → ClassId) (hfl : l.stackTraces = false) (m0 : Nat) (mb : Nat → Nat) (R : Nat → Int32) (hB : mBool R) : jKx l t yX11_isCatching (Cond.code yX11_isCatching cX11_isCatching 1 (some .boolean) :: jWS) { frames := 0, cells := 0, slots := 0, locals := 0 } [.ref m0] [(m0, .inr (10, jmdl R mb))] (fun vv uu => (vv = some (.int (R 21)) ∧ uu = [(m0, .inr (10, jmdl (upd R 44 0) mb))])) (fun _ _ => False) := by
  refine jK_of hfl (by decide +kernel) (Nat.le_of_ble_eq_true rfl) ?_
  intro p e s m args below meth c D A Q CC MM
  refine jr_norm0 [(0, .ref m0)] rfl ?_
  refine jr_aload_n CC (jd ddX11_isCatching 0 rfl) 0 rfl ?_
  refine jr_iconst (v := 0) CC (jd ddX11_isCatching 1 rfl) (by decide) ?_
  refine jr_put CC (jd ddX11_isCatching 2 rfl) (jf_X11_64 CC) 0 rfl rfl rfl (Nat.le_of_ble_eq_true rfl) ?_
  refine jr_ws [(m0, .inr (10, jmdl (upd R 44 0) mb))] rfl ?_
  refine jr_aload_n CC (jd ddX11_isCatching 3 rfl) 0 rfl ?_
  refine jr_get (v := .int (R 21)) CC (jd ddX11_isCatching 4 rfl) (jf_X11_150 CC) 0 rfl rfl ?_
  exact jr_zret (jb01n hB.2.2.2.2.2.2.2.1) CC MM (jd ddX11_isCatching 5 rfl) rfl (by decide) (by decide) ⟨rfl, rfl⟩
set_option maxHeartbeats 8000000 in
set_option maxRecDepth 100000 in
theorem k_X11_samples (l : Launch) (t : Nat → ClassId) (hfl : l.stackTraces = false) (m0 : Nat) (mb : Nat → Nat) (R : Nat → Int32) : jKx l t yX11_samples (Cond.code yX11_samples cX11_samples 1 (some .int) :: jWS) { frames := 1, cells := 0, slots := 0, locals := 21 } [.ref m0] [(m0, .inr (10, jmdl R mb))] (fun vv uu => (vv = some (.int (R 24)) ∧ uu = [(m0, .inr (10, jmdl (upd R 44 0) mb))])) (fun _ _ => False) := by
  refine jK_of hfl (by decide +kernel) (Nat.le_of_ble_eq_true rfl) ?_
  intro p e s m args below meth c D A Q CC MM
  refine jr_norm0 [(0, .ref m0)] rfl ?_
  refine jr_aload_n CC (jd ddX11_samples 0 rfl) 0 rfl ?_
  refine jr_aload_n CC (jd ddX11_samples 1 rfl) 0 rfl ?_
  refine jr_get (v := .int (R 24)) CC (jd ddX11_samples 2 rfl) (jf_X11_159 CC) 0 rfl rfl ?_
  refine jr_callV (q0 := 0) (rest := []) [.int (R 24)] CC (jd ddX11_samples 3 rfl) (jy_X11_185 CC) (k_X11_tells l t hfl m0 mb R (R 24)) [0] rfl (by decide) rfl rfl rfl rfl (by decide) (Nat.le_of_ble_eq_true rfl) (by rintro v u h; rcases h with ⟨rfl, rfl⟩ <;> exact (show ([m0] : List Nat) = [m0] from rfl)) (fun _ _ h => h.elim) (fun _ _ h => h.elim) (fun v u h => ?_)
  rcases h with ⟨rfl, rfl⟩
  refine jr_norm [(m0, .inr (10, jmdl (upd R 44 0) mb))] [.int (R 24)] 8 0 0 rfl rfl rfl rfl rfl ?_
  exact jr_iret CC MM (jd ddX11_samples 4 rfl) rfl (by decide) (by decide) ⟨rfl, rfl⟩
set_option maxHeartbeats 8000000 in
set_option maxRecDepth 100000 in
theorem k_X11_fired (l : Launch) (t : Nat → ClassId) (hfl : l.stackTraces = false) (m0 : Nat) (mb : Nat → Nat) (R : Nat → Int32) : jKx l t yX11_fired (Cond.code yX11_fired cX11_fired 1 (some .int) :: jWS) { frames := 1, cells := 0, slots := 0, locals := 21 } [.ref m0] [(m0, .inr (10, jmdl R mb))] (fun vv uu => (vv = some (.int (R 25)) ∧ uu = [(m0, .inr (10, jmdl (upd R 44 0) mb))])) (fun _ _ => False) := by
  refine jK_of hfl (by decide +kernel) (Nat.le_of_ble_eq_true rfl) ?_
  intro p e s m args below meth c D A Q CC MM
  refine jr_norm0 [(0, .ref m0)] rfl ?_
  refine jr_aload_n CC (jd ddX11_fired 0 rfl) 0 rfl ?_
  refine jr_aload_n CC (jd ddX11_fired 1 rfl) 0 rfl ?_
  refine jr_get (v := .int (R 25)) CC (jd ddX11_fired 2 rfl) (jf_X11_171 CC) 0 rfl rfl ?_
  refine jr_callV (q0 := 0) (rest := []) [.int (R 25)] CC (jd ddX11_fired 3 rfl) (jy_X11_185 CC) (k_X11_tells l t hfl m0 mb R (R 25)) [0] rfl (by decide) rfl rfl rfl rfl (by decide) (Nat.le_of_ble_eq_true rfl) (by rintro v u h; rcases h with ⟨rfl, rfl⟩ <;> exact (show ([m0] : List Nat) = [m0] from rfl)) (fun _ _ h => h.elim) (fun _ _ h => h.elim) (fun v u h => ?_)
  rcases h with ⟨rfl, rfl⟩
  refine jr_norm [(m0, .inr (10, jmdl (upd R 44 0) mb))] [.int (R 25)] 8 0 0 rfl rfl rfl rfl rfl ?_
  exact jr_iret CC MM (jd ddX11_fired 4 rfl) rfl (by decide) (by decide) ⟨rfl, rfl⟩
set_option maxHeartbeats 8000000 in
set_option maxRecDepth 100000 in
theorem k_X11_records (l : Launch) (t : Nat → ClassId) (hfl : l.stackTraces = false) (m0 : Nat) (mb : Nat → Nat) (R : Nat → Int32) : jKx l t yX11_records (Cond.code yX11_records cX11_records 1 (some .int) :: jWS) { frames := 1, cells := 0, slots := 0, locals := 21 } [.ref m0] [(m0, .inr (10, jmdl R mb))] (fun vv uu => (vv = some (.int (R 28)) ∧ uu = [(m0, .inr (10, jmdl (upd R 44 0) mb))])) (fun _ _ => False) := by
  refine jK_of hfl (by decide +kernel) (Nat.le_of_ble_eq_true rfl) ?_
  intro p e s m args below meth c D A Q CC MM
  refine jr_norm0 [(0, .ref m0)] rfl ?_
  refine jr_aload_n CC (jd ddX11_records 0 rfl) 0 rfl ?_
  refine jr_aload_n CC (jd ddX11_records 1 rfl) 0 rfl ?_
  refine jr_get (v := .int (R 28)) CC (jd ddX11_records 2 rfl) (jf_X11_147 CC) 0 rfl rfl ?_
  refine jr_callV (q0 := 0) (rest := []) [.int (R 28)] CC (jd ddX11_records 3 rfl) (jy_X11_185 CC) (k_X11_tells l t hfl m0 mb R (R 28)) [0] rfl (by decide) rfl rfl rfl rfl (by decide) (Nat.le_of_ble_eq_true rfl) (by rintro v u h; rcases h with ⟨rfl, rfl⟩ <;> exact (show ([m0] : List Nat) = [m0] from rfl)) (fun _ _ h => h.elim) (fun _ _ h => h.elim) (fun v u h => ?_)
  rcases h with ⟨rfl, rfl⟩
  refine jr_norm [(m0, .inr (10, jmdl (upd R 44 0) mb))] [.int (R 28)] 8 0 0 rfl rfl rfl rfl rfl ?_
  exact jr_iret CC MM (jd ddX11_records 4 rfl) rfl (by decide) (by decide) ⟨rfl, rfl⟩
set_option maxHeartbeats 8000000 in
set_option maxRecDepth 100000 in
theorem k_X11_failures (l : Launch) (t : Nat → ClassId) (hfl : l.stackTraces = false) (m0 : Nat) (mb : Nat → Nat) (R : Nat → Int32) : jKx l t yX11_failures (Cond.code yX11_failures cX11_failures 1 (some .int) :: jWS) { frames := 1, cells := 0, slots := 0, locals := 21 } [.ref m0] [(m0, .inr (10, jmdl R mb))] (fun vv uu => (vv = some (.int (R 35)) ∧ uu = [(m0, .inr (10, jmdl (upd R 44 0) mb))])) (fun _ _ => False) := by
  refine jK_of hfl (by decide +kernel) (Nat.le_of_ble_eq_true rfl) ?_
  intro p e s m args below meth c D A Q CC MM
  refine jr_norm0 [(0, .ref m0)] rfl ?_
  refine jr_aload_n CC (jd ddX11_failures 0 rfl) 0 rfl ?_
  refine jr_aload_n CC (jd ddX11_failures 1 rfl) 0 rfl ?_
  refine jr_get (v := .int (R 35)) CC (jd ddX11_failures 2 rfl) (jf_X11_156 CC) 0 rfl rfl ?_
  refine jr_callV (q0 := 0) (rest := []) [.int (R 35)] CC (jd ddX11_failures 3 rfl) (jy_X11_185 CC) (k_X11_tells l t hfl m0 mb R (R 35)) [0] rfl (by decide) rfl rfl rfl rfl (by decide) (Nat.le_of_ble_eq_true rfl) (by rintro v u h; rcases h with ⟨rfl, rfl⟩ <;> exact (show ([m0] : List Nat) = [m0] from rfl)) (fun _ _ h => h.elim) (fun _ _ h => h.elim) (fun v u h => ?_)
  rcases h with ⟨rfl, rfl⟩
  refine jr_norm [(m0, .inr (10, jmdl (upd R 44 0) mb))] [.int (R 35)] 8 0 0 rfl rfl rfl rfl rfl ?_
  exact jr_iret CC MM (jd ddX11_failures 4 rfl) rfl (by decide) (by decide) ⟨rfl, rfl⟩
set_option maxHeartbeats 8000000 in
set_option maxRecDepth 100000 in
theorem k_X11_clearTrace (l : Launch) (t : Nat → ClassId) (hfl : l.stackTraces = false) (m0 : Nat) (mb : Nat → Nat) (R : Nat → Int32) : jKx l t yX11_clearTrace (Cond.code yX11_clearTrace cX11_clearTrace 2 (some .int) :: jWS) { frames := 0, cells := 0, slots := 0, locals := 0 } [.ref m0] [(m0, .inr (10, jmdl R mb))] (fun vv uu => (vv = some (.int (R 37)) ∧ uu = [(m0, .inr (10, jmdl (upd (upd (upd R 44 0) 37 0) 41 0) mb))])) (fun _ _ => False) := by
  refine jK_of hfl (by decide +kernel) (Nat.le_of_ble_eq_true rfl) ?_
  intro p e s m args below meth c D A Q CC MM
  refine jr_norm0 [(0, .ref m0)] rfl ?_
  refine jr_aload_n CC (jd ddX11_clearTrace 0 rfl) 0 rfl ?_
  refine jr_iconst (v := 0) CC (jd ddX11_clearTrace 1 rfl) (by decide) ?_
  refine jr_put CC (jd ddX11_clearTrace 2 rfl) (jf_X11_64 CC) 0 rfl rfl rfl (Nat.le_of_ble_eq_true rfl) ?_
  refine jr_ws [(m0, .inr (10, jmdl (upd R 44 0) mb))] rfl ?_
  refine jr_aload_n CC (jd ddX11_clearTrace 3 rfl) 0 rfl ?_
  refine jr_get (v := .int (R 37)) CC (jd ddX11_clearTrace 4 rfl) (jf_X11_205 CC) 0 rfl rfl ?_
  refine jr_istore_n 1 [(1, .int (R 37)), (0, .ref m0)] CC (jd ddX11_clearTrace 5 rfl) rfl (by decide) rfl ?_
  refine jr_aload_n CC (jd ddX11_clearTrace 6 rfl) 1 rfl ?_
  refine jr_iconst (v := 0) CC (jd ddX11_clearTrace 7 rfl) (by decide) ?_
  refine jr_put CC (jd ddX11_clearTrace 8 rfl) (jf_X11_205 CC) 0 rfl rfl rfl (Nat.le_of_ble_eq_true rfl) ?_
  refine jr_ws [(m0, .inr (10, jmdl (upd (upd R 44 0) 37 0) mb))] rfl ?_
  refine jr_aload_n CC (jd ddX11_clearTrace 9 rfl) 1 rfl ?_
  refine jr_pc (pc' := 16) rfl ?_
  refine jr_iconst (v := 0) CC (jd ddX11_clearTrace 10 rfl) (by decide) ?_
  refine jr_put CC (jd ddX11_clearTrace 11 rfl) (jf_X11_208 CC) 0 rfl rfl rfl (Nat.le_of_ble_eq_true rfl) ?_
  refine jr_ws [(m0, .inr (10, jmdl (upd (upd (upd R 44 0) 37 0) 41 0) mb))] rfl ?_
  refine jr_iload_n CC (jd ddX11_clearTrace 12 rfl) 0 rfl ?_
  exact jr_iret CC MM (jd ddX11_clearTrace 13 rfl) rfl (by decide) (by decide) ⟨rfl, rfl⟩
set_option maxHeartbeats 8000000 in
set_option maxRecDepth 100000 in
theorem k_X11_firstOffence (l : Launch) (t : Nat → ClassId) (hfl : l.stackTraces = false) (m0 : Nat) (mb : Nat → Nat) (R : Nat → Int32) : jKx l t yX11_firstOffence (Cond.code yX11_firstOffence cX11_firstOffence 1 (some .int) :: jWS) { frames := 1, cells := 0, slots := 0, locals := 21 } [.ref m0] [(m0, .inr (10, jmdl R mb))] (fun vv uu => ((¬ R 35 = 0) ∧ vv = some (.int (R 36)) ∧ uu = [(m0, .inr (10, jmdl (upd R 44 0) mb))]) ∨ ((R 35 = 0) ∧ vv = some (.int 0) ∧ uu = [(m0, .inr (10, jmdl (upd R 44 1) mb))])) (fun _ _ => False) := by
  refine jK_of hfl (by decide +kernel) (Nat.le_of_ble_eq_true rfl) ?_
  intro p e s m args below meth c D A Q CC MM
  refine jr_norm0 [(0, .ref m0)] rfl ?_
  refine jr_aload_n CC (jd ddX11_firstOffence 0 rfl) 0 rfl ?_
  refine jr_aload_n CC (jd ddX11_firstOffence 1 rfl) 0 rfl ?_
  refine jr_get (v := .int (R 35)) CC (jd ddX11_firstOffence 2 rfl) (jf_X11_156 CC) 0 rfl rfl ?_
  refine jr_if_ne 12 CC (jd ddX11_firstOffence 3 rfl) (by decide) (fun c1 => ?_) (fun c1 => ?_)
  · refine jr_iconst (v := 0) CC (jd ddX11_firstOffence 6 rfl) (by decide) ?_
    refine jr_callV (q0 := 0) (rest := []) [.int 0] CC (jd ddX11_firstOffence 7 rfl) (jy_X11_111 CC) (k_X11_fails_0 l t hfl m0 mb R) [0] rfl (by decide) rfl rfl rfl rfl (by decide) (Nat.le_of_ble_eq_true rfl) (by rintro v u h; rcases h with ⟨rfl, rfl⟩ <;> exact (show ([m0] : List Nat) = [m0] from rfl)) (fun _ _ h => h.elim) (fun _ _ h => h.elim) (fun v u h => ?_)
    rcases h with ⟨rfl, rfl⟩
    refine jr_norm [(m0, .inr (10, jmdl (upd R 44 0) mb))] [.int 0] 16 0 0 rfl rfl rfl rfl rfl ?_
    refine jr_if_eq 23 CC (jd ddX11_firstOffence 8 rfl) (by decide) (fun _ => ?_) (fun h => absurd h (by decide))
    refine jr_aload_n CC (jd ddX11_firstOffence 11 rfl) 0 rfl ?_
    refine jr_get (v := .int (R 36)) CC (jd ddX11_firstOffence 12 rfl) (jf_X11_162 CC) 0 rfl rfl ?_
    exact jr_iret CC MM (jd ddX11_firstOffence 13 rfl) rfl (by decide) (by decide) (Or.inl ⟨c1, rfl, rfl⟩)
  · refine jr_iconst (v := 1) CC (jd ddX11_firstOffence 4 rfl) (by decide) ?_
    refine jr_goto 13 CC (jd ddX11_firstOffence 5 rfl) (by decide) ?_
    refine jr_callV (q0 := 0) (rest := []) [.int 1] CC (jd ddX11_firstOffence 7 rfl) (jy_X11_111 CC) (k_X11_fails_1 l t hfl m0 mb R) [0] rfl (by decide) rfl rfl rfl rfl (by decide) (Nat.le_of_ble_eq_true rfl) (by rintro v u h; rcases h with ⟨rfl, rfl⟩ <;> exact (show ([m0] : List Nat) = [m0] from rfl)) (fun _ _ h => h.elim) (fun _ _ h => h.elim) (fun v u h => ?_)
    rcases h with ⟨rfl, rfl⟩
    refine jr_norm [(m0, .inr (10, jmdl (upd R 44 1) mb))] [.int 1] 16 0 0 rfl rfl rfl rfl rfl ?_
    refine jr_if_eq 23 CC (jd ddX11_firstOffence 8 rfl) (by decide) (fun h => absurd h (by decide)) (fun _ => ?_)
    refine jr_iconst (v := 0) CC (jd ddX11_firstOffence 9 rfl) (by decide) ?_
    refine jr_goto 27 CC (jd ddX11_firstOffence 10 rfl) (by decide) ?_
    exact jr_iret CC MM (jd ddX11_firstOffence 13 rfl) rfl (by decide) (by decide) (Or.inr ⟨c1, rfl, rfl⟩)
/-! the reference's conditions -/
def mE (R : Nat → Int32) (v : Int32) : Int32 := if R 9 = 0 then 0 else if R 5 = 0 then (if R 2 ≤ v then 0 else 1) else (if v ≤ R 2 then 0 else 1)
def mEr (R : Nat → Int32) (v f : Int32) : Int32 := if f = 0 then (if R 9 = 0 then (if R 5 = 0 then (if v < R 2 + R 3 then 0 else 1) else (if R 2 - R 3 < v then 0 else 1)) else 1) else 0
def mBf (R : Nat → Int32) (w : Int32) : Int32 := if w = 0 then (if R 10 ≤ 0 then 0 else if R 12 = 0 then 0 else 1) else 0
def mOv (R : Nat → Int32) (t : Int32) : Int32 := if R 13 = 0 then (if t = 0 then 0 else 1) else 1
def mBg (R : Nat → Int32) (w t : Int32) : Nat → Int32 := if w = 0 then upd (upd R 11 (R 10)) 10 0 else if R 10 ≤ 0 then upd (upd (upd R 12 (R 6)) 13 t) 10 (R 10 + 1) else upd (upd (upd R 12 (R 12)) 13 (mOv R t)) 10 (R 10 + 1)
def mSa (R : Nat → Int32) (a : Int32) : Int32 := if R 6 = 0 then 0 else if R 2 < R 7 then 0 else if a ≤ R 2 then 0 else 1
def mSb (R : Nat → Int32) (b : Int32) : Int32 := if R 6 = 0 then 0 else if R 3 < R 8 then 0 else if b ≤ R 3 then 0 else 1
def mSr (R : Nat → Int32) (f : Int32) : Int32 := if f = 0 then R 15 else R 16
def mSm (R : Nat → Int32) (f : Int32) : Int32 := if R 14 = 0 then (if f = 0 then 0 else 1) else 1
def mSf (R : Nat → Int32) (f g : Int32) : Int32 := if g = 0 then 0 else if mSm R f = 0 then 0 else if R 4 < R 16 - mSr R f then 0 else 1
def mSz (R : Nat → Int32) (f g : Int32) : Int32 := if mSm R f = 0 then 0 else if mSf R f g = 0 then 1 else 0
def mV (R : Nat → Int32) (a b : Int32) : Int32 := if R 1 = 0 then a else b
def mWi (R : Nat → Int32) (v : Int32) : Int32 := if v ≤ R 2 then 0 else 1
def mWs (R : Nat → Int32) (i : Int32) : Int32 := if i = R 5 then 1 else 0
def mRt (R : Nat → Int32) (v : Int32) : Int32 := if v ≤ R 3 then 0 else 1
def mWr (R : Nat → Int32) (w : Int32) : Int32 := if mBf R w = 0 then 0 else mIn (mBg R w 0 11) (mBg R w 0 3) (mBg R w 0 4)
def mRr (R : Nat → Int32) (w t : Int32) : Int32 := if mBf R w = 0 then 0 else if mBg R w t 13 = 0 then 1 else 0
/-- whether the condition fires at a sample -/
def mR (R : Nat → Int32) (a b : Int32) : Int32 := if R 0 = 0 then mE R (mV R a b) else if R 0 = 1 then mWr R (mWs R (mWi R (mV R a b))) else if R 0 = 2 then mRr R (mWi R (mV R a b)) (mRt R (mV R a b)) else mSf R (mSa R a) (mSb R b)
def mG0 (R : Nat → Int32) (a b : Int32) : Nat → Int32 := if R 0 = 0 then upd R 9 (mEr R (mV R a b) (mE R (mV R a b))) else if R 0 = 1 then mBg R (mWs R (mWi R (mV R a b))) 0 else if R 0 = 2 then mBg R (mWi R (mV R a b)) (mRt R (mV R a b)) else upd (upd (upd R 15 (mSr R (mSa R a))) 14 (mSm R (mSa R a))) 14 (mSz R (mSa R a) (mSb R b))
def mG (R : Nat → Int32) (a b : Int32) : Nat → Int32 := upd (upd (upd (upd (mG0 R a b) 6 1) 7 a) 8 b) 16 (mG0 R a b 16 + 1)
theorem mE01 (R : Nat → Int32) (v : Int32) : mE R v = 0 ∨ mE R v = 1 := by
  unfold mE; (repeat' split) <;> first | exact Or.inl rfl | exact Or.inr rfl
theorem mBf01 (R : Nat → Int32) (v : Int32) : mBf R v = 0 ∨ mBf R v = 1 := by
  unfold mBf; (repeat' split) <;> first | exact Or.inl rfl | exact Or.inr rfl
theorem mSf01 (R : Nat → Int32) (f g : Int32) : mSf R f g = 0 ∨ mSf R f g = 1 := by
  unfold mSf; (repeat' split) <;> first | exact Or.inl rfl | exact Or.inr rfl
theorem mWr01 (R : Nat → Int32) (w : Int32) : mWr R w = 0 ∨ mWr R w = 1 := by
  unfold mWr; split
  · exact Or.inl rfl
  · exact mIn01 _ _ _
theorem mRr01 (R : Nat → Int32) (w t : Int32) : mRr R w t = 0 ∨ mRr R w t = 1 := by
  unfold mRr; (repeat' split) <;> first | exact Or.inl rfl | exact Or.inr rfl
theorem mWi01 (R : Nat → Int32) (v : Int32) : mWi R v = 0 ∨ mWi R v = 1 := by
  unfold mWi; (repeat' split) <;> first | exact Or.inl rfl | exact Or.inr rfl
theorem mWs01 (R : Nat → Int32) (v : Int32) : mWs R v = 0 ∨ mWs R v = 1 := by
  unfold mWs; (repeat' split) <;> first | exact Or.inl rfl | exact Or.inr rfl
theorem mRt01 (R : Nat → Int32) (v : Int32) : mRt R v = 0 ∨ mRt R v = 1 := by
  unfold mRt; (repeat' split) <;> first | exact Or.inl rfl | exact Or.inr rfl
theorem mSa01 (R : Nat → Int32) (v : Int32) : mSa R v = 0 ∨ mSa R v = 1 := by
  unfold mSa; (repeat' split) <;> first | exact Or.inl rfl | exact Or.inr rfl
theorem mSb01 (R : Nat → Int32) (v : Int32) : mSb R v = 0 ∨ mSb R v = 1 := by
  unfold mSb; (repeat' split) <;> first | exact Or.inl rfl | exact Or.inr rfl
set_option maxHeartbeats 8000000 in
set_option maxRecDepth 100000 in
theorem k_X11_isEdge (l : Launch) (t : Nat → ClassId) (hfl : l.stackTraces = false) (m0 : Nat) (mb : Nat → Nat) (R : Nat → Int32) (v : Int32) : jKx l t yX11_isEdge (Cond.code yX11_isEdge cX11_isEdge 3 (some .boolean) :: jWS) { frames := 0, cells := 0, slots := 0, locals := 0 } [.ref m0, .int v] [(m0, .inr (10, jmdl R mb))] (fun vv uu => (vv = some (.int (mE R v)) ∧ uu = [(m0, .inr (10, jmdl (upd R 9 (mEr R v (mE R v))) mb))])) (fun _ _ => False) := by
  refine jK_of hfl (by decide +kernel) (Nat.le_of_ble_eq_true rfl) ?_
  intro p e s m args below meth c D A Q CC MM
  refine jr_norm0 [(0, .ref m0), (1, .int v)] rfl ?_
  have hJ2 : ∀ v1 : Int32, mE R v = v1 → J p l e { frames := 0, cells := 0, slots := 0, locals := 0 } s m args below meth c D A 3 Q [(m0, .inr (10, jmdl R mb))] [(0, .ref m0), (1, .int v)] 38 [.int v1] 0 0 := by
    intro v1 e3
    have bv1 : v1 = 0 ∨ v1 = 1 := e3 ▸ (mE01 _ _)
    refine jr_istore_n 2 [(2, .int v1), (0, .ref m0), (1, .int v)] CC (jd ddX11_isEdge 18 rfl) rfl (by decide) rfl ?_
    refine jr_aload_n CC (jd ddX11_isEdge 19 rfl) 1 rfl ?_
    refine jr_iload_n CC (jd ddX11_isEdge 20 rfl) 0 rfl ?_
    refine jr_if_ne 91 CC (jd ddX11_isEdge 21 rfl) (by decide) (fun c4 => ?_) (fun c4 => ?_)
    · refine jr_iconst (v := 0) CC (jd ddX11_isEdge 45 rfl) (by decide) ?_
      refine jr_put CC (jd ddX11_isEdge 46 rfl) (jf_X11_74 CC) 0 rfl rfl rfl (Nat.le_of_ble_eq_true rfl) ?_
      refine jr_ws [(m0, .inr (10, jmdl (upd R 9 0) mb))] rfl ?_
      refine jr_iload_n CC (jd ddX11_isEdge 47 rfl) 0 rfl ?_
      exact jr_zret (jb01n bv1) CC MM (jd ddX11_isEdge 48 rfl) rfl (by decide) (by decide) (by have er := e3; have ew : mEr R v v1 = 0 := (by simp [mEr, c4]); rw [er, ew]; exact ⟨rfl, rfl⟩)
    · refine jr_aload_n CC (jd ddX11_isEdge 22 rfl) 1 rfl ?_
      refine jr_get (v := .int (R 9)) CC (jd ddX11_isEdge 23 rfl) (jf_X11_74 CC) 0 rfl rfl ?_
      refine jr_if_ne 87 CC (jd ddX11_isEdge 24 rfl) (by decide) (fun c5 => ?_) (fun c5 => ?_)
      · refine jr_iconst (v := 1) CC (jd ddX11_isEdge 43 rfl) (by decide) ?_
        refine jr_goto 92 CC (jd ddX11_isEdge 44 rfl) (by decide) ?_
        refine jr_put CC (jd ddX11_isEdge 46 rfl) (jf_X11_74 CC) 0 rfl rfl rfl (Nat.le_of_ble_eq_true rfl) ?_
        refine jr_ws [(m0, .inr (10, jmdl (upd R 9 1) mb))] rfl ?_
        refine jr_iload_n CC (jd ddX11_isEdge 47 rfl) 0 rfl ?_
        exact jr_zret (jb01n bv1) CC MM (jd ddX11_isEdge 48 rfl) rfl (by decide) (by decide) (by have er := e3; have ew : mEr R v v1 = 1 := (by simp [mEr, c4, c5]); rw [er, ew]; exact ⟨rfl, rfl⟩)
      · refine jr_aload_n CC (jd ddX11_isEdge 25 rfl) 1 rfl ?_
        refine jr_get (v := .int (R 5)) CC (jd ddX11_isEdge 26 rfl) (jf_X11_13 CC) 0 rfl rfl ?_
        refine jr_if_eq 74 CC (jd ddX11_isEdge 27 rfl) (by decide) (fun c6 => ?_) (fun c6 => ?_)
        · refine jr_pc (pc' := 74) rfl ?_
          refine jr_iload_n CC (jd ddX11_isEdge 36 rfl) 2 rfl ?_
          refine jr_aload_n CC (jd ddX11_isEdge 37 rfl) 1 rfl ?_
          refine jr_get (v := .int (R 2)) CC (jd ddX11_isEdge 38 rfl) (jf_X11_95 CC) 0 rfl rfl ?_
          refine jr_aload_n CC (jd ddX11_isEdge 39 rfl) 1 rfl ?_
          refine jr_get (v := .int (R 3)) CC (jd ddX11_isEdge 40 rfl) (jf_X11_98 CC) 0 rfl rfl ?_
          refine jr_iadd CC (jd ddX11_isEdge 41 rfl) ?_
          refine jr_icmp_lt 91 CC (jd ddX11_isEdge 42 rfl) (by decide) (fun c7 => ?_) (fun c7 => ?_)
          · refine jr_iconst (v := 0) CC (jd ddX11_isEdge 45 rfl) (by decide) ?_
            refine jr_put CC (jd ddX11_isEdge 46 rfl) (jf_X11_74 CC) 0 rfl rfl rfl (Nat.le_of_ble_eq_true rfl) ?_
            refine jr_ws [(m0, .inr (10, jmdl (upd R 9 0) mb))] rfl ?_
            refine jr_iload_n CC (jd ddX11_isEdge 47 rfl) 0 rfl ?_
            refine jr_pc (pc' := 96) rfl ?_
            exact jr_zret (jb01n bv1) CC MM (jd ddX11_isEdge 48 rfl) rfl (by decide) (by decide) (by have er := e3; have ew : mEr R v v1 = 0 := (by simp [mEr, c4, c5, c6, c7]); rw [er, ew]; exact ⟨rfl, rfl⟩)
          · refine jr_iconst (v := 1) CC (jd ddX11_isEdge 43 rfl) (by decide) ?_
            refine jr_goto 92 CC (jd ddX11_isEdge 44 rfl) (by decide) ?_
            refine jr_put CC (jd ddX11_isEdge 46 rfl) (jf_X11_74 CC) 0 rfl rfl rfl (Nat.le_of_ble_eq_true rfl) ?_
            refine jr_ws [(m0, .inr (10, jmdl (upd R 9 1) mb))] rfl ?_
            refine jr_iload_n CC (jd ddX11_isEdge 47 rfl) 0 rfl ?_
            exact jr_zret (jb01n bv1) CC MM (jd ddX11_isEdge 48 rfl) rfl (by decide) (by decide) (by have er := e3; have ew : mEr R v v1 = 1 := (by simp [mEr, c4, c5, c6, c7]); rw [er, ew]; exact ⟨rfl, rfl⟩)
        · refine jr_pc (pc' := 58) rfl ?_
          refine jr_iload_n CC (jd ddX11_isEdge 28 rfl) 2 rfl ?_
          refine jr_aload_n CC (jd ddX11_isEdge 29 rfl) 1 rfl ?_
          refine jr_get (v := .int (R 2)) CC (jd ddX11_isEdge 30 rfl) (jf_X11_95 CC) 0 rfl rfl ?_
          refine jr_aload_n CC (jd ddX11_isEdge 31 rfl) 1 rfl ?_
          refine jr_get (v := .int (R 3)) CC (jd ddX11_isEdge 32 rfl) (jf_X11_98 CC) 0 rfl rfl ?_
          refine jr_isub CC (jd ddX11_isEdge 33 rfl) ?_
          refine jr_icmp_gt 91 CC (jd ddX11_isEdge 34 rfl) (by decide) (fun c8 => ?_) (fun c8 => ?_)
          · refine jr_iconst (v := 0) CC (jd ddX11_isEdge 45 rfl) (by decide) ?_
            refine jr_put CC (jd ddX11_isEdge 46 rfl) (jf_X11_74 CC) 0 rfl rfl rfl (Nat.le_of_ble_eq_true rfl) ?_
            refine jr_ws [(m0, .inr (10, jmdl (upd R 9 0) mb))] rfl ?_
            refine jr_iload_n CC (jd ddX11_isEdge 47 rfl) 0 rfl ?_
            refine jr_pc (pc' := 96) rfl ?_
            exact jr_zret (jb01n bv1) CC MM (jd ddX11_isEdge 48 rfl) rfl (by decide) (by decide) (by have er := e3; have ew : mEr R v v1 = 0 := (by simp [mEr, c4, c5, c6, c8]); rw [er, ew]; exact ⟨rfl, rfl⟩)
          · refine jr_goto 87 CC (jd ddX11_isEdge 35 rfl) (by decide) ?_
            refine jr_iconst (v := 1) CC (jd ddX11_isEdge 43 rfl) (by decide) ?_
            refine jr_goto 92 CC (jd ddX11_isEdge 44 rfl) (by decide) ?_
            refine jr_put CC (jd ddX11_isEdge 46 rfl) (jf_X11_74 CC) 0 rfl rfl rfl (Nat.le_of_ble_eq_true rfl) ?_
            refine jr_ws [(m0, .inr (10, jmdl (upd R 9 1) mb))] rfl ?_
            refine jr_iload_n CC (jd ddX11_isEdge 47 rfl) 0 rfl ?_
            exact jr_zret (jb01n bv1) CC MM (jd ddX11_isEdge 48 rfl) rfl (by decide) (by decide) (by have er := e3; have ew : mEr R v v1 = 1 := (by simp [mEr, c4, c5, c6, c8]); rw [er, ew]; exact ⟨rfl, rfl⟩)
  refine jr_norm [(m0, .inr (10, jmdl R mb))] [] 0 0 0 rfl rfl rfl rfl rfl ?_
  refine jr_aload_n CC (jd ddX11_isEdge 0 rfl) 0 rfl ?_
  refine jr_get (v := .int (R 9)) CC (jd ddX11_isEdge 1 rfl) (jf_X11_74 CC) 0 rfl rfl ?_
  refine jr_if_eq 37 CC (jd ddX11_isEdge 2 rfl) (by decide) (fun c9 => ?_) (fun c9 => ?_)
  · refine jr_iconst (v := 0) CC (jd ddX11_isEdge 17 rfl) (by decide) ?_
    exact hJ2 _ (by first | (simp [mE, c9]; done))
  · refine jr_aload_n CC (jd ddX11_isEdge 3 rfl) 0 rfl ?_
    refine jr_get (v := .int (R 5)) CC (jd ddX11_isEdge 4 rfl) (jf_X11_13 CC) 0 rfl rfl ?_
    refine jr_if_eq 25 CC (jd ddX11_isEdge 5 rfl) (by decide) (fun c10 => ?_) (fun c10 => ?_)
    · refine jr_iload_n CC (jd ddX11_isEdge 11 rfl) 1 rfl ?_
      refine jr_aload_n CC (jd ddX11_isEdge 12 rfl) 0 rfl ?_
      refine jr_get (v := .int (R 2)) CC (jd ddX11_isEdge 13 rfl) (jf_X11_95 CC) 0 rfl rfl ?_
      refine jr_icmp_ge 37 CC (jd ddX11_isEdge 14 rfl) (by decide) (fun c11 => ?_) (fun c11 => ?_)
      · refine jr_pc (pc' := 37) rfl ?_
        refine jr_iconst (v := 0) CC (jd ddX11_isEdge 17 rfl) (by decide) ?_
        exact hJ2 _ (by first | (simp [mE, c9, c10, c11]; done))
      · refine jr_pc (pc' := 33) rfl ?_
        refine jr_iconst (v := 1) CC (jd ddX11_isEdge 15 rfl) (by decide) ?_
        refine jr_goto 38 CC (jd ddX11_isEdge 16 rfl) (by decide) ?_
        exact hJ2 _ (by first | (simp [mE, c9, c10, c11]; done))
    · refine jr_iload_n CC (jd ddX11_isEdge 6 rfl) 1 rfl ?_
      refine jr_aload_n CC (jd ddX11_isEdge 7 rfl) 0 rfl ?_
      refine jr_get (v := .int (R 2)) CC (jd ddX11_isEdge 8 rfl) (jf_X11_95 CC) 0 rfl rfl ?_
      refine jr_icmp_le 37 CC (jd ddX11_isEdge 9 rfl) (by decide) (fun c12 => ?_) (fun c12 => ?_)
      · refine jr_pc (pc' := 37) rfl ?_
        refine jr_iconst (v := 0) CC (jd ddX11_isEdge 17 rfl) (by decide) ?_
        exact hJ2 _ (by first | (simp [mE, c9, c10, c12]; done))
      · refine jr_pc (pc' := 22) rfl ?_
        refine jr_goto 33 CC (jd ddX11_isEdge 10 rfl) (by decide) ?_
        refine jr_iconst (v := 1) CC (jd ddX11_isEdge 15 rfl) (by decide) ?_
        refine jr_goto 38 CC (jd ddX11_isEdge 16 rfl) (by decide) ?_
        exact hJ2 _ (by first | (simp [mE, c9, c10, c12]; done))
set_option maxHeartbeats 8000000 in
set_option maxRecDepth 100000 in
theorem k_X11_isBehind (l : Launch) (t : Nat → ClassId) (hfl : l.stackTraces = false) (m0 : Nat) (mb : Nat → Nat) (R : Nat → Int32) (w : Int32) (tm : Int32) (hB : mBool R) (ht : tm = 0 ∨ tm = 1) : jKx l t yX11_isBehind (Cond.code yX11_isBehind cX11_isBehind 5 (some .boolean) :: jWS) { frames := 0, cells := 0, slots := 0, locals := 0 } [.ref m0, .int w, .int tm] [(m0, .inr (10, jmdl R mb))] (fun vv uu => (vv = some (.int (mBf R w)) ∧ uu = [(m0, .inr (10, jmdl (mBg R w tm) mb))])) (fun _ _ => False) := by
  refine jK_of hfl (by decide +kernel) (Nat.le_of_ble_eq_true rfl) ?_
  intro p e s m args below meth c D A Q CC MM
  refine jr_norm0 [(0, .ref m0), (1, .int w), (2, .int tm)] rfl ?_
  refine jr_aload_n CC (jd ddX11_isBehind 0 rfl) 0 rfl ?_
  refine jr_get (v := .int (R 10)) CC (jd ddX11_isBehind 1 rfl) (jf_X11_77 CC) 0 rfl rfl ?_
  refine jr_if_le 11 CC (jd ddX11_isBehind 2 rfl) (by decide) (fun c1 => ?_) (fun c1 => ?_)
  · refine jr_iconst (v := 0) CC (jd ddX11_isBehind 5 rfl) (by decide) ?_
    refine jr_istore_n 3 [(3, .int 0), (0, .ref m0), (1, .int w), (2, .int tm)] CC (jd ddX11_isBehind 6 rfl) rfl (by decide) rfl ?_
    refine jr_iload_n CC (jd ddX11_isBehind 7 rfl) 2 rfl ?_
    refine jr_if_eq 76 CC (jd ddX11_isBehind 8 rfl) (by decide) (fun c2 => ?_) (fun c2 => ?_)
    · refine jr_iload_n CC (jd ddX11_isBehind 40 rfl) 0 rfl ?_
      refine jr_if_eq 91 CC (jd ddX11_isBehind 41 rfl) (by decide) (fun _ => ?_) (fun h => absurd h (by decide))
      refine jr_iconst (v := 0) CC (jd ddX11_isBehind 47 rfl) (by decide) ?_
      refine jr_pc (pc' := 92) rfl ?_
      refine jr_istore [(4, .int 0), (3, .int 0), (0, .ref m0), (1, .int w), (2, .int tm)] CC (jd ddX11_isBehind 48 rfl) (by decide) rfl ?_
      refine jr_aload_n CC (jd ddX11_isBehind 49 rfl) 2 rfl ?_
      refine jr_aload_n CC (jd ddX11_isBehind 50 rfl) 2 rfl ?_
      refine jr_get (v := .int (R 10)) CC (jd ddX11_isBehind 51 rfl) (jf_X11_77 CC) 0 rfl rfl ?_
      refine jr_put CC (jd ddX11_isBehind 52 rfl) (jf_X11_118 CC) 0 rfl rfl rfl (Nat.le_of_ble_eq_true rfl) ?_
      refine jr_ws [(m0, .inr (10, jmdl (upd R 11 (R 10)) mb))] rfl ?_
      refine jr_aload_n CC (jd ddX11_isBehind 53 rfl) 2 rfl ?_
      refine jr_iconst (v := 0) CC (jd ddX11_isBehind 54 rfl) (by decide) ?_
      refine jr_put CC (jd ddX11_isBehind 55 rfl) (jf_X11_77 CC) 0 rfl rfl rfl (Nat.le_of_ble_eq_true rfl) ?_
      refine jr_ws [(m0, .inr (10, jmdl (upd (upd R 11 (R 10)) 10 0) mb))] rfl ?_
      refine jr_iload CC (jd ddX11_isBehind 56 rfl) 0 rfl ?_
      exact jr_zret rfl CC MM (jd ddX11_isBehind 57 rfl) rfl (by decide) (by decide) (by have er : mBf R w = 0 := (by simp [mBf, mBg, mOv, c1, c2]); have ew : mBg R w tm = (upd (upd R 11 (R 10)) 10 0) := (by simp [mBf, mBg, mOv, c1, c2]); rw [er, ew]; exact ⟨rfl, rfl⟩)
    · refine jr_aload_n CC (jd ddX11_isBehind 9 rfl) 1 rfl ?_
      refine jr_iload_n CC (jd ddX11_isBehind 10 rfl) 0 rfl ?_
      refine jr_if_eq 29 CC (jd ddX11_isBehind 11 rfl) (by decide) (fun _ => ?_) (fun h => absurd h (by decide))
      refine jr_pc (pc' := 29) rfl ?_
      refine jr_aload_n CC (jd ddX11_isBehind 15 rfl) 1 rfl ?_
      refine jr_get (v := .int (R 6)) CC (jd ddX11_isBehind 16 rfl) (jf_X11_71 CC) 0 rfl rfl ?_
      refine jr_put CC (jd ddX11_isBehind 17 rfl) (jf_X11_80 CC) 0 rfl (jb01n hB.2.1) (jb01f hB.2.1) (Nat.le_of_ble_eq_true rfl) ?_
      refine jr_ws [(m0, .inr (10, jmdl (upd R 12 (R 6)) mb))] rfl ?_
      refine jr_aload_n CC (jd ddX11_isBehind 18 rfl) 1 rfl ?_
      refine jr_iload_n CC (jd ddX11_isBehind 19 rfl) 0 rfl ?_
      refine jr_if_eq 60 CC (jd ddX11_isBehind 20 rfl) (by decide) (fun _ => ?_) (fun h => absurd h (by decide))
      refine jr_iload_n CC (jd ddX11_isBehind 30 rfl) 3 rfl ?_
      refine jr_put CC (jd ddX11_isBehind 31 rfl) (jf_X11_83 CC) 0 rfl (jb01n ht) (jb01f ht) (Nat.le_of_ble_eq_true rfl) ?_
      refine jr_ws [(m0, .inr (10, jmdl (upd (upd R 12 (R 6)) 13 tm) mb))] rfl ?_
      refine jr_aload_n CC (jd ddX11_isBehind 32 rfl) 1 rfl ?_
      refine jr_dup CC (jd ddX11_isBehind 33 rfl) rfl ?_
      refine jr_pc (pc' := 66) rfl ?_
      refine jr_get (v := .int (R 10)) CC (jd ddX11_isBehind 34 rfl) (jf_X11_77 CC) 0 rfl rfl ?_
      refine jr_iconst (v := 1) CC (jd ddX11_isBehind 35 rfl) (by decide) ?_
      refine jr_iadd CC (jd ddX11_isBehind 36 rfl) ?_
      refine jr_put CC (jd ddX11_isBehind 37 rfl) (jf_X11_77 CC) 0 rfl rfl rfl (Nat.le_of_ble_eq_true rfl) ?_
      refine jr_ws [(m0, .inr (10, jmdl (upd (upd (upd R 12 (R 6)) 13 tm) 10 ((R 10) + 1)) mb))] rfl ?_
      refine jr_iconst (v := 0) CC (jd ddX11_isBehind 38 rfl) (by decide) ?_
      exact jr_zret rfl CC MM (jd ddX11_isBehind 39 rfl) rfl (by decide) (by decide) (by have er : mBf R w = 0 := (by simp [mBf, mBg, mOv, c1, c2]); have ew : mBg R w tm = (upd (upd (upd R 12 (R 6)) 13 tm) 10 ((R 10) + 1)) := (by simp [mBf, mBg, mOv, c1, c2]); rw [er, ew]; exact ⟨rfl, rfl⟩)
  · refine jr_iconst (v := 1) CC (jd ddX11_isBehind 3 rfl) (by decide) ?_
    refine jr_goto 12 CC (jd ddX11_isBehind 4 rfl) (by decide) ?_
    refine jr_istore_n 3 [(3, .int 1), (0, .ref m0), (1, .int w), (2, .int tm)] CC (jd ddX11_isBehind 6 rfl) rfl (by decide) rfl ?_
    refine jr_iload_n CC (jd ddX11_isBehind 7 rfl) 2 rfl ?_
    refine jr_if_eq 76 CC (jd ddX11_isBehind 8 rfl) (by decide) (fun c6 => ?_) (fun c6 => ?_)
    · refine jr_iload_n CC (jd ddX11_isBehind 40 rfl) 0 rfl ?_
      refine jr_if_eq 91 CC (jd ddX11_isBehind 41 rfl) (by decide) (fun h => absurd h (by decide)) (fun _ => ?_)
      refine jr_aload_n CC (jd ddX11_isBehind 42 rfl) 1 rfl ?_
      refine jr_get (v := .int (R 12)) CC (jd ddX11_isBehind 43 rfl) (jf_X11_80 CC) 0 rfl rfl ?_
      refine jr_if_eq 91 CC (jd ddX11_isBehind 44 rfl) (by decide) (fun c8 => ?_) (fun c8 => ?_)
      · refine jr_iconst (v := 0) CC (jd ddX11_isBehind 47 rfl) (by decide) ?_
        refine jr_istore [(4, .int 0), (3, .int 1), (0, .ref m0), (1, .int w), (2, .int tm)] CC (jd ddX11_isBehind 48 rfl) (by decide) rfl ?_
        refine jr_pc (pc' := 94) rfl ?_
        refine jr_aload_n CC (jd ddX11_isBehind 49 rfl) 2 rfl ?_
        refine jr_aload_n CC (jd ddX11_isBehind 50 rfl) 2 rfl ?_
        refine jr_get (v := .int (R 10)) CC (jd ddX11_isBehind 51 rfl) (jf_X11_77 CC) 0 rfl rfl ?_
        refine jr_put CC (jd ddX11_isBehind 52 rfl) (jf_X11_118 CC) 0 rfl rfl rfl (Nat.le_of_ble_eq_true rfl) ?_
        refine jr_ws [(m0, .inr (10, jmdl (upd R 11 (R 10)) mb))] rfl ?_
        refine jr_aload_n CC (jd ddX11_isBehind 53 rfl) 2 rfl ?_
        refine jr_iconst (v := 0) CC (jd ddX11_isBehind 54 rfl) (by decide) ?_
        refine jr_put CC (jd ddX11_isBehind 55 rfl) (jf_X11_77 CC) 0 rfl rfl rfl (Nat.le_of_ble_eq_true rfl) ?_
        refine jr_ws [(m0, .inr (10, jmdl (upd (upd R 11 (R 10)) 10 0) mb))] rfl ?_
        refine jr_iload CC (jd ddX11_isBehind 56 rfl) 0 rfl ?_
        exact jr_zret rfl CC MM (jd ddX11_isBehind 57 rfl) rfl (by decide) (by decide) (by have er : mBf R w = 0 := (by simp [mBf, mBg, mOv, c1, c6, c8]); have ew : mBg R w tm = (upd (upd R 11 (R 10)) 10 0) := (by simp [mBf, mBg, mOv, c1, c6, c8]); rw [er, ew]; exact ⟨rfl, rfl⟩)
      · refine jr_iconst (v := 1) CC (jd ddX11_isBehind 45 rfl) (by decide) ?_
        refine jr_goto 92 CC (jd ddX11_isBehind 46 rfl) (by decide) ?_
        refine jr_istore [(4, .int 1), (3, .int 1), (0, .ref m0), (1, .int w), (2, .int tm)] CC (jd ddX11_isBehind 48 rfl) (by decide) rfl ?_
        refine jr_aload_n CC (jd ddX11_isBehind 49 rfl) 2 rfl ?_
        refine jr_aload_n CC (jd ddX11_isBehind 50 rfl) 2 rfl ?_
        refine jr_get (v := .int (R 10)) CC (jd ddX11_isBehind 51 rfl) (jf_X11_77 CC) 0 rfl rfl ?_
        refine jr_put CC (jd ddX11_isBehind 52 rfl) (jf_X11_118 CC) 0 rfl rfl rfl (Nat.le_of_ble_eq_true rfl) ?_
        refine jr_ws [(m0, .inr (10, jmdl (upd R 11 (R 10)) mb))] rfl ?_
        refine jr_aload_n CC (jd ddX11_isBehind 53 rfl) 2 rfl ?_
        refine jr_iconst (v := 0) CC (jd ddX11_isBehind 54 rfl) (by decide) ?_
        refine jr_put CC (jd ddX11_isBehind 55 rfl) (jf_X11_77 CC) 0 rfl rfl rfl (Nat.le_of_ble_eq_true rfl) ?_
        refine jr_ws [(m0, .inr (10, jmdl (upd (upd R 11 (R 10)) 10 0) mb))] rfl ?_
        refine jr_iload CC (jd ddX11_isBehind 56 rfl) 0 rfl ?_
        exact jr_zret rfl CC MM (jd ddX11_isBehind 57 rfl) rfl (by decide) (by decide) (by have er : mBf R w = 1 := (by simp [mBf, mBg, mOv, c1, c6, c8]); have ew : mBg R w tm = (upd (upd R 11 (R 10)) 10 0) := (by simp [mBf, mBg, mOv, c1, c6, c8]); rw [er, ew]; exact ⟨rfl, rfl⟩)
    · refine jr_aload_n CC (jd ddX11_isBehind 9 rfl) 1 rfl ?_
      refine jr_iload_n CC (jd ddX11_isBehind 10 rfl) 0 rfl ?_
      refine jr_if_eq 29 CC (jd ddX11_isBehind 11 rfl) (by decide) (fun h => absurd h (by decide)) (fun _ => ?_)
      refine jr_aload_n CC (jd ddX11_isBehind 12 rfl) 1 rfl ?_
      refine jr_get (v := .int (R 12)) CC (jd ddX11_isBehind 13 rfl) (jf_X11_80 CC) 0 rfl rfl ?_
      refine jr_goto 33 CC (jd ddX11_isBehind 14 rfl) (by decide) ?_
      refine jr_put CC (jd ddX11_isBehind 17 rfl) (jf_X11_80 CC) 0 rfl (jb01n hB.2.2.2.1) (jb01f hB.2.2.2.1) (Nat.le_of_ble_eq_true rfl) ?_
      refine jr_ws [(m0, .inr (10, jmdl (upd R 12 (R 12)) mb))] rfl ?_
      refine jr_aload_n CC (jd ddX11_isBehind 18 rfl) 1 rfl ?_
      refine jr_iload_n CC (jd ddX11_isBehind 19 rfl) 0 rfl ?_
      refine jr_if_eq 60 CC (jd ddX11_isBehind 20 rfl) (by decide) (fun h => absurd h (by decide)) (fun _ => ?_)
      refine jr_aload_n CC (jd ddX11_isBehind 21 rfl) 1 rfl ?_
      refine jr_get (v := .int (R 13)) CC (jd ddX11_isBehind 22 rfl) (jf_X11_83 CC) 0 rfl rfl ?_
      refine jr_if_ne 52 CC (jd ddX11_isBehind 23 rfl) (by decide) (fun c11 => ?_) (fun c11 => ?_)
      · refine jr_iconst (v := 1) CC (jd ddX11_isBehind 26 rfl) (by decide) ?_
        refine jr_goto 61 CC (jd ddX11_isBehind 27 rfl) (by decide) ?_
        refine jr_put CC (jd ddX11_isBehind 31 rfl) (jf_X11_83 CC) 0 rfl rfl rfl (Nat.le_of_ble_eq_true rfl) ?_
        refine jr_ws [(m0, .inr (10, jmdl (upd (upd R 12 (R 12)) 13 1) mb))] rfl ?_
        refine jr_aload_n CC (jd ddX11_isBehind 32 rfl) 1 rfl ?_
        refine jr_dup CC (jd ddX11_isBehind 33 rfl) rfl ?_
        refine jr_get (v := .int (R 10)) CC (jd ddX11_isBehind 34 rfl) (jf_X11_77 CC) 0 rfl rfl ?_
        refine jr_iconst (v := 1) CC (jd ddX11_isBehind 35 rfl) (by decide) ?_
        refine jr_iadd CC (jd ddX11_isBehind 36 rfl) ?_
        refine jr_put CC (jd ddX11_isBehind 37 rfl) (jf_X11_77 CC) 0 rfl rfl rfl (Nat.le_of_ble_eq_true rfl) ?_
        refine jr_ws [(m0, .inr (10, jmdl (upd (upd (upd R 12 (R 12)) 13 1) 10 ((R 10) + 1)) mb))] rfl ?_
        refine jr_iconst (v := 0) CC (jd ddX11_isBehind 38 rfl) (by decide) ?_
        exact jr_zret rfl CC MM (jd ddX11_isBehind 39 rfl) rfl (by decide) (by decide) (by have er : mBf R w = 0 := (by simp [mBf, mBg, mOv, c1, c6, c11]); have ew : mBg R w tm = (upd (upd (upd R 12 (R 12)) 13 1) 10 ((R 10) + 1)) := (by simp [mBf, mBg, mOv, c1, c6, c11]); rw [er, ew]; exact ⟨rfl, rfl⟩)
      · refine jr_iload_n CC (jd ddX11_isBehind 24 rfl) 3 rfl ?_
        refine jr_if_eq 56 CC (jd ddX11_isBehind 25 rfl) (by decide) (fun c12 => ?_) (fun c12 => ?_)
        · refine jr_iconst (v := 0) CC (jd ddX11_isBehind 28 rfl) (by decide) ?_
          refine jr_pc (pc' := 57) rfl ?_
          refine jr_goto 61 CC (jd ddX11_isBehind 29 rfl) (by decide) ?_
          refine jr_put CC (jd ddX11_isBehind 31 rfl) (jf_X11_83 CC) 0 rfl rfl rfl (Nat.le_of_ble_eq_true rfl) ?_
          refine jr_ws [(m0, .inr (10, jmdl (upd (upd R 12 (R 12)) 13 0) mb))] rfl ?_
          refine jr_aload_n CC (jd ddX11_isBehind 32 rfl) 1 rfl ?_
          refine jr_dup CC (jd ddX11_isBehind 33 rfl) rfl ?_
          refine jr_get (v := .int (R 10)) CC (jd ddX11_isBehind 34 rfl) (jf_X11_77 CC) 0 rfl rfl ?_
          refine jr_iconst (v := 1) CC (jd ddX11_isBehind 35 rfl) (by decide) ?_
          refine jr_iadd CC (jd ddX11_isBehind 36 rfl) ?_
          refine jr_put CC (jd ddX11_isBehind 37 rfl) (jf_X11_77 CC) 0 rfl rfl rfl (Nat.le_of_ble_eq_true rfl) ?_
          refine jr_ws [(m0, .inr (10, jmdl (upd (upd (upd R 12 (R 12)) 13 0) 10 ((R 10) + 1)) mb))] rfl ?_
          refine jr_iconst (v := 0) CC (jd ddX11_isBehind 38 rfl) (by decide) ?_
          exact jr_zret rfl CC MM (jd ddX11_isBehind 39 rfl) rfl (by decide) (by decide) (by have er : mBf R w = 0 := (by simp [mBf, mBg, mOv, c1, c6, c11, c12]); have ew : mBg R w tm = (upd (upd (upd R 12 (R 12)) 13 0) 10 ((R 10) + 1)) := (by simp [mBf, mBg, mOv, c1, c6, c11, c12]); rw [er, ew]; exact ⟨rfl, rfl⟩)
        · refine jr_iconst (v := 1) CC (jd ddX11_isBehind 26 rfl) (by decide) ?_
          refine jr_pc (pc' := 53) rfl ?_
          refine jr_goto 61 CC (jd ddX11_isBehind 27 rfl) (by decide) ?_
          refine jr_put CC (jd ddX11_isBehind 31 rfl) (jf_X11_83 CC) 0 rfl rfl rfl (Nat.le_of_ble_eq_true rfl) ?_
          refine jr_ws [(m0, .inr (10, jmdl (upd (upd R 12 (R 12)) 13 1) mb))] rfl ?_
          refine jr_aload_n CC (jd ddX11_isBehind 32 rfl) 1 rfl ?_
          refine jr_dup CC (jd ddX11_isBehind 33 rfl) rfl ?_
          refine jr_get (v := .int (R 10)) CC (jd ddX11_isBehind 34 rfl) (jf_X11_77 CC) 0 rfl rfl ?_
          refine jr_iconst (v := 1) CC (jd ddX11_isBehind 35 rfl) (by decide) ?_
          refine jr_iadd CC (jd ddX11_isBehind 36 rfl) ?_
          refine jr_put CC (jd ddX11_isBehind 37 rfl) (jf_X11_77 CC) 0 rfl rfl rfl (Nat.le_of_ble_eq_true rfl) ?_
          refine jr_ws [(m0, .inr (10, jmdl (upd (upd (upd R 12 (R 12)) 13 1) 10 ((R 10) + 1)) mb))] rfl ?_
          refine jr_iconst (v := 0) CC (jd ddX11_isBehind 38 rfl) (by decide) ?_
          exact jr_zret rfl CC MM (jd ddX11_isBehind 39 rfl) rfl (by decide) (by decide) (by have er : mBf R w = 0 := (by simp [mBf, mBg, mOv, c1, c6, c11, c12]); have ew : mBg R w tm = (upd (upd (upd R 12 (R 12)) 13 1) 10 ((R 10) + 1)) := (by simp [mBf, mBg, mOv, c1, c6, c11, c12]); rw [er, ew]; exact ⟨rfl, rfl⟩)
set_option maxHeartbeats 8000000 in
set_option maxRecDepth 100000 in
theorem k_X11_isSequence (l : Launch) (t : Nat → ClassId) (hfl : l.stackTraces = false) (m0 : Nat) (mb : Nat → Nat) (R : Nat → Int32) (a : Int32) (b : Int32) : jKx l t yX11_isSequence (Cond.code yX11_isSequence cX11_isSequence 6 (some .boolean) :: jWS) { frames := 0, cells := 0, slots := 0, locals := 0 } [.ref m0, .int a, .int b] [(m0, .inr (10, jmdl R mb))] (fun vv uu => (vv = some (.int (mSf R (mSa R a) (mSb R b))) ∧ uu = [(m0, .inr (10, jmdl (upd (upd (upd R 15 (mSr R (mSa R a))) 14 (mSm R (mSa R a))) 14 (mSz R (mSa R a) (mSb R b))) mb))])) (fun _ _ => False) := by
  refine jK_of hfl (by decide +kernel) (Nat.le_of_ble_eq_true rfl) ?_
  intro p e s m args below meth c D A Q CC MM
  refine jr_norm0 [(0, .ref m0), (1, .int a), (2, .int b)] rfl ?_
  have hJ2 : ∀ v1 : Int32, mSa R a = v1 → J p l e { frames := 0, cells := 0, slots := 0, locals := 0 } s m args below meth c D A 6 Q [(m0, .inr (10, jmdl R mb))] [(0, .ref m0), (1, .int a), (2, .int b)] 31 [.int v1] 0 0 := by
    intro v1 e3
    have bv1 : v1 = 0 ∨ v1 = 1 := e3 ▸ (mSa01 _ _)
    refine jr_istore_n 3 [(3, .int v1), (0, .ref m0), (1, .int a), (2, .int b)] CC (jd ddX11_isSequence 15 rfl) rfl (by decide) rfl ?_
    have hJ5 : ∀ v4 : Int32, mSb R b = v4 → J p l e { frames := 0, cells := 0, slots := 0, locals := 0 } s m args below meth c D A 6 Q [(m0, .inr (10, jmdl R mb))] [(3, .int v1), (0, .ref m0), (1, .int a), (2, .int b)] 63 [.int v4] 0 0 := by
      intro v4 e6
      have bv4 : v4 = 0 ∨ v4 = 1 := e6 ▸ (mSb01 _ _)
      refine jr_istore [(4, .int v4), (3, .int v1), (0, .ref m0), (1, .int a), (2, .int b)] CC (jd ddX11_isSequence 31 rfl) (by decide) rfl ?_
      refine jr_aload_n CC (jd ddX11_isSequence 32 rfl) 2 rfl ?_
      refine jr_iload_n CC (jd ddX11_isSequence 33 rfl) 1 rfl ?_
      refine jr_if_eq 77 CC (jd ddX11_isSequence 34 rfl) (by decide) (fun c7 => ?_) (fun c7 => ?_)
      · refine jr_aload_n CC (jd ddX11_isSequence 38 rfl) 2 rfl ?_
        refine jr_get (v := .int (R 15)) CC (jd ddX11_isSequence 39 rfl) (jf_X11_127 CC) 0 rfl rfl ?_
        refine jr_put CC (jd ddX11_isSequence 40 rfl) (jf_X11_127 CC) 0 rfl rfl rfl (Nat.le_of_ble_eq_true rfl) ?_
        refine jr_ws [(m0, .inr (10, jmdl (upd R 15 (R 15)) mb))] rfl ?_
        refine jr_aload_n CC (jd ddX11_isSequence 41 rfl) 2 rfl ?_
        refine jr_aload_n CC (jd ddX11_isSequence 42 rfl) 2 rfl ?_
        refine jr_get (v := .int (R 14)) CC (jd ddX11_isSequence 43 rfl) (jf_X11_86 CC) 0 rfl rfl ?_
        refine jr_pc (pc' := 89) rfl ?_
        refine jr_if_ne 96 CC (jd ddX11_isSequence 44 rfl) (by decide) (fun c8 => ?_) (fun c8 => ?_)
        · refine jr_iconst (v := 1) CC (jd ddX11_isSequence 47 rfl) (by decide) ?_
          refine jr_goto 101 CC (jd ddX11_isSequence 48 rfl) (by decide) ?_
          refine jr_put CC (jd ddX11_isSequence 50 rfl) (jf_X11_86 CC) 0 rfl rfl rfl (Nat.le_of_ble_eq_true rfl) ?_
          refine jr_ws [(m0, .inr (10, jmdl (upd (upd R 15 (R 15)) 14 1) mb))] rfl ?_
          refine jr_iload CC (jd ddX11_isSequence 51 rfl) 0 rfl ?_
          refine jr_if_eq 136 CC (jd ddX11_isSequence 52 rfl) (by decide) (fun c9 => ?_) (fun c9 => ?_)
          · refine jr_iconst (v := 0) CC (jd ddX11_isSequence 66 rfl) (by decide) ?_
            refine jr_istore [(5, .int 0), (4, .int v4), (3, .int v1), (0, .ref m0), (1, .int a), (2, .int b)] CC (jd ddX11_isSequence 67 rfl) (by decide) rfl ?_
            refine jr_aload_n CC (jd ddX11_isSequence 68 rfl) 3 rfl ?_
            refine jr_aload_n CC (jd ddX11_isSequence 69 rfl) 3 rfl ?_
            refine jr_get (v := .int 1) CC (jd ddX11_isSequence 70 rfl) (jf_X11_86 CC) 0 rfl rfl ?_
            refine jr_if_eq 156 CC (jd ddX11_isSequence 71 rfl) (by decide) (fun h => absurd h (by decide)) (fun _ => ?_)
            refine jr_iload CC (jd ddX11_isSequence 72 rfl) 0 rfl ?_
            refine jr_pc (pc' := 149) rfl ?_
            refine jr_if_ne 156 CC (jd ddX11_isSequence 73 rfl) (by decide) (fun h => absurd h (by decide)) (fun _ => ?_)
            refine jr_iconst (v := 1) CC (jd ddX11_isSequence 74 rfl) (by decide) ?_
            refine jr_goto 157 CC (jd ddX11_isSequence 75 rfl) (by decide) ?_
            refine jr_put CC (jd ddX11_isSequence 77 rfl) (jf_X11_86 CC) 0 rfl rfl rfl (Nat.le_of_ble_eq_true rfl) ?_
            refine jr_ws [(m0, .inr (10, jmdl (upd (upd (upd R 15 (R 15)) 14 1) 14 1) mb))] rfl ?_
            refine jr_iload CC (jd ddX11_isSequence 78 rfl) 0 rfl ?_
            exact jr_zret rfl CC MM (jd ddX11_isSequence 79 rfl) rfl (by decide) (by decide) (by (try simp only [Int32.sub_self] at *); rw [e3, e6]; have er : mSf R v1 v4 = 0 := (by simp [mSf, mSm, mSr, c7, c8, c9]); have e1 : mSr R v1 = R 15 := (by simp [mSr, c7, c8, c9]); have e2 : mSm R v1 = 1 := (by simp [mSm, c7, c8, c9]); have e3 : mSz R v1 v4 = 1 := (by simp [mSz, mSf, mSm, mSr, c7, c8, c9]); rw [er, e1, e2, e3]; exact ⟨rfl, rfl⟩)
          · refine jr_aload_n CC (jd ddX11_isSequence 53 rfl) 2 rfl ?_
            refine jr_get (v := .int 1) CC (jd ddX11_isSequence 54 rfl) (jf_X11_86 CC) 0 rfl rfl ?_
            refine jr_if_eq 136 CC (jd ddX11_isSequence 55 rfl) (by decide) (fun h => absurd h (by decide)) (fun _ => ?_)
            refine jr_aload_n CC (jd ddX11_isSequence 56 rfl) 2 rfl ?_
            refine jr_get (v := .int (R 16)) CC (jd ddX11_isSequence 57 rfl) (jf_X11_89 CC) 0 rfl rfl ?_
            refine jr_aload_n CC (jd ddX11_isSequence 58 rfl) 2 rfl ?_
            refine jr_get (v := .int (R 15)) CC (jd ddX11_isSequence 59 rfl) (jf_X11_127 CC) 0 rfl rfl ?_
            refine jr_pc (pc' := 124) rfl ?_
            refine jr_isub CC (jd ddX11_isSequence 60 rfl) ?_
            refine jr_aload_n CC (jd ddX11_isSequence 61 rfl) 2 rfl ?_
            refine jr_get (v := .int (R 4)) CC (jd ddX11_isSequence 62 rfl) (jf_X11_101 CC) 0 rfl rfl ?_
            refine jr_icmp_gt 136 CC (jd ddX11_isSequence 63 rfl) (by decide) (fun c13 => ?_) (fun c13 => ?_)
            · refine jr_iconst (v := 0) CC (jd ddX11_isSequence 66 rfl) (by decide) ?_
              refine jr_istore [(5, .int 0), (4, .int v4), (3, .int v1), (0, .ref m0), (1, .int a), (2, .int b)] CC (jd ddX11_isSequence 67 rfl) (by decide) rfl ?_
              refine jr_aload_n CC (jd ddX11_isSequence 68 rfl) 3 rfl ?_
              refine jr_aload_n CC (jd ddX11_isSequence 69 rfl) 3 rfl ?_
              refine jr_get (v := .int 1) CC (jd ddX11_isSequence 70 rfl) (jf_X11_86 CC) 0 rfl rfl ?_
              refine jr_if_eq 156 CC (jd ddX11_isSequence 71 rfl) (by decide) (fun h => absurd h (by decide)) (fun _ => ?_)
              refine jr_pc (pc' := 147) rfl ?_
              refine jr_iload CC (jd ddX11_isSequence 72 rfl) 0 rfl ?_
              refine jr_if_ne 156 CC (jd ddX11_isSequence 73 rfl) (by decide) (fun h => absurd h (by decide)) (fun _ => ?_)
              refine jr_iconst (v := 1) CC (jd ddX11_isSequence 74 rfl) (by decide) ?_
              refine jr_goto 157 CC (jd ddX11_isSequence 75 rfl) (by decide) ?_
              refine jr_put CC (jd ddX11_isSequence 77 rfl) (jf_X11_86 CC) 0 rfl rfl rfl (Nat.le_of_ble_eq_true rfl) ?_
              refine jr_ws [(m0, .inr (10, jmdl (upd (upd (upd R 15 (R 15)) 14 1) 14 1) mb))] rfl ?_
              refine jr_iload CC (jd ddX11_isSequence 78 rfl) 0 rfl ?_
              exact jr_zret rfl CC MM (jd ddX11_isSequence 79 rfl) rfl (by decide) (by decide) (by (try simp only [Int32.sub_self] at *); rw [e3, e6]; have er : mSf R v1 v4 = 0 := (by simp [mSf, mSm, mSr, c7, c8, c9, c13]); have e1 : mSr R v1 = R 15 := (by simp [mSr, c7, c8, c9, c13]); have e2 : mSm R v1 = 1 := (by simp [mSm, c7, c8, c9, c13]); have e3 : mSz R v1 v4 = 1 := (by simp [mSz, mSf, mSm, mSr, c7, c8, c9, c13]); rw [er, e1, e2, e3]; exact ⟨rfl, rfl⟩)
            · refine jr_iconst (v := 1) CC (jd ddX11_isSequence 64 rfl) (by decide) ?_
              refine jr_goto 137 CC (jd ddX11_isSequence 65 rfl) (by decide) ?_
              refine jr_istore [(5, .int 1), (4, .int v4), (3, .int v1), (0, .ref m0), (1, .int a), (2, .int b)] CC (jd ddX11_isSequence 67 rfl) (by decide) rfl ?_
              refine jr_aload_n CC (jd ddX11_isSequence 68 rfl) 3 rfl ?_
              refine jr_aload_n CC (jd ddX11_isSequence 69 rfl) 3 rfl ?_
              refine jr_get (v := .int 1) CC (jd ddX11_isSequence 70 rfl) (jf_X11_86 CC) 0 rfl rfl ?_
              refine jr_if_eq 156 CC (jd ddX11_isSequence 71 rfl) (by decide) (fun h => absurd h (by decide)) (fun _ => ?_)
              refine jr_iload CC (jd ddX11_isSequence 72 rfl) 0 rfl ?_
              refine jr_if_ne 156 CC (jd ddX11_isSequence 73 rfl) (by decide) (fun _ => ?_) (fun h => absurd h (by decide))
              refine jr_iconst (v := 0) CC (jd ddX11_isSequence 76 rfl) (by decide) ?_
              refine jr_put CC (jd ddX11_isSequence 77 rfl) (jf_X11_86 CC) 0 rfl rfl rfl (Nat.le_of_ble_eq_true rfl) ?_
              refine jr_ws [(m0, .inr (10, jmdl (upd (upd (upd R 15 (R 15)) 14 1) 14 0) mb))] rfl ?_
              refine jr_iload CC (jd ddX11_isSequence 78 rfl) 0 rfl ?_
              refine jr_pc (pc' := 162) rfl ?_
              exact jr_zret rfl CC MM (jd ddX11_isSequence 79 rfl) rfl (by decide) (by decide) (by (try simp only [Int32.sub_self] at *); rw [e3, e6]; have er : mSf R v1 v4 = 1 := (by simp [mSf, mSm, mSr, c7, c8, c9, c13]); have e1 : mSr R v1 = R 15 := (by simp [mSr, c7, c8, c9, c13]); have e2 : mSm R v1 = 1 := (by simp [mSm, c7, c8, c9, c13]); have e3 : mSz R v1 v4 = 0 := (by simp [mSz, mSf, mSm, mSr, c7, c8, c9, c13]); rw [er, e1, e2, e3]; exact ⟨rfl, rfl⟩)
        · refine jr_iload_n CC (jd ddX11_isSequence 45 rfl) 1 rfl ?_
          refine jr_if_eq 100 CC (jd ddX11_isSequence 46 rfl) (by decide) (fun _ => ?_) (fun h => absurd c7 h)
          refine jr_iconst (v := 0) CC (jd ddX11_isSequence 49 rfl) (by decide) ?_
          refine jr_put CC (jd ddX11_isSequence 50 rfl) (jf_X11_86 CC) 0 rfl rfl rfl (Nat.le_of_ble_eq_true rfl) ?_
          refine jr_ws [(m0, .inr (10, jmdl (upd (upd R 15 (R 15)) 14 0) mb))] rfl ?_
          refine jr_iload CC (jd ddX11_isSequence 51 rfl) 0 rfl ?_
          refine jr_if_eq 136 CC (jd ddX11_isSequence 52 rfl) (by decide) (fun c19 => ?_) (fun c19 => ?_)
          · refine jr_iconst (v := 0) CC (jd ddX11_isSequence 66 rfl) (by decide) ?_
            refine jr_istore [(5, .int 0), (4, .int v4), (3, .int v1), (0, .ref m0), (1, .int a), (2, .int b)] CC (jd ddX11_isSequence 67 rfl) (by decide) rfl ?_
            refine jr_aload_n CC (jd ddX11_isSequence 68 rfl) 3 rfl ?_
            refine jr_pc (pc' := 140) rfl ?_
            refine jr_aload_n CC (jd ddX11_isSequence 69 rfl) 3 rfl ?_
            refine jr_get (v := .int 0) CC (jd ddX11_isSequence 70 rfl) (jf_X11_86 CC) 0 rfl rfl ?_
            refine jr_if_eq 156 CC (jd ddX11_isSequence 71 rfl) (by decide) (fun _ => ?_) (fun h => absurd h (by decide))
            refine jr_iconst (v := 0) CC (jd ddX11_isSequence 76 rfl) (by decide) ?_
            refine jr_put CC (jd ddX11_isSequence 77 rfl) (jf_X11_86 CC) 0 rfl rfl rfl (Nat.le_of_ble_eq_true rfl) ?_
            refine jr_ws [(m0, .inr (10, jmdl (upd (upd (upd R 15 (R 15)) 14 0) 14 0) mb))] rfl ?_
            refine jr_iload CC (jd ddX11_isSequence 78 rfl) 0 rfl ?_
            exact jr_zret rfl CC MM (jd ddX11_isSequence 79 rfl) rfl (by decide) (by decide) (by (try simp only [Int32.sub_self] at *); rw [e3, e6]; have er : mSf R v1 v4 = 0 := (by simp [mSf, mSm, mSr, c7, c8, c19]); have e1 : mSr R v1 = R 15 := (by simp [mSr, c7, c8, c19]); have e2 : mSm R v1 = 0 := (by simp [mSm, c7, c8, c19]); have e3 : mSz R v1 v4 = 0 := (by simp [mSz, mSf, mSm, mSr, c7, c8, c19]); rw [er, e1, e2, e3]; exact ⟨rfl, rfl⟩)
          · refine jr_aload_n CC (jd ddX11_isSequence 53 rfl) 2 rfl ?_
            refine jr_get (v := .int 0) CC (jd ddX11_isSequence 54 rfl) (jf_X11_86 CC) 0 rfl rfl ?_
            refine jr_if_eq 136 CC (jd ddX11_isSequence 55 rfl) (by decide) (fun _ => ?_) (fun h => absurd h (by decide))
            refine jr_pc (pc' := 136) rfl ?_
            refine jr_iconst (v := 0) CC (jd ddX11_isSequence 66 rfl) (by decide) ?_
            refine jr_istore [(5, .int 0), (4, .int v4), (3, .int v1), (0, .ref m0), (1, .int a), (2, .int b)] CC (jd ddX11_isSequence 67 rfl) (by decide) rfl ?_
            refine jr_aload_n CC (jd ddX11_isSequence 68 rfl) 3 rfl ?_
            refine jr_aload_n CC (jd ddX11_isSequence 69 rfl) 3 rfl ?_
            refine jr_get (v := .int 0) CC (jd ddX11_isSequence 70 rfl) (jf_X11_86 CC) 0 rfl rfl ?_
            refine jr_if_eq 156 CC (jd ddX11_isSequence 71 rfl) (by decide) (fun _ => ?_) (fun h => absurd h (by decide))
            refine jr_iconst (v := 0) CC (jd ddX11_isSequence 76 rfl) (by decide) ?_
            refine jr_put CC (jd ddX11_isSequence 77 rfl) (jf_X11_86 CC) 0 rfl rfl rfl (Nat.le_of_ble_eq_true rfl) ?_
            refine jr_ws [(m0, .inr (10, jmdl (upd (upd (upd R 15 (R 15)) 14 0) 14 0) mb))] rfl ?_
            refine jr_iload CC (jd ddX11_isSequence 78 rfl) 0 rfl ?_
            exact jr_zret rfl CC MM (jd ddX11_isSequence 79 rfl) rfl (by decide) (by decide) (by (try simp only [Int32.sub_self] at *); rw [e3, e6]; have er : mSf R v1 v4 = 0 := (by simp [mSf, mSm, mSr, c7, c8, c19]); have e1 : mSr R v1 = R 15 := (by simp [mSr, c7, c8, c19]); have e2 : mSm R v1 = 0 := (by simp [mSm, c7, c8, c19]); have e3 : mSz R v1 v4 = 0 := (by simp [mSz, mSf, mSm, mSr, c7, c8, c19]); rw [er, e1, e2, e3]; exact ⟨rfl, rfl⟩)
      · refine jr_aload_n CC (jd ddX11_isSequence 35 rfl) 2 rfl ?_
        refine jr_get (v := .int (R 16)) CC (jd ddX11_isSequence 36 rfl) (jf_X11_89 CC) 0 rfl rfl ?_
        refine jr_goto 81 CC (jd ddX11_isSequence 37 rfl) (by decide) ?_
        refine jr_put CC (jd ddX11_isSequence 40 rfl) (jf_X11_127 CC) 0 rfl rfl rfl (Nat.le_of_ble_eq_true rfl) ?_
        refine jr_ws [(m0, .inr (10, jmdl (upd R 15 (R 16)) mb))] rfl ?_
        refine jr_aload_n CC (jd ddX11_isSequence 41 rfl) 2 rfl ?_
        refine jr_aload_n CC (jd ddX11_isSequence 42 rfl) 2 rfl ?_
        refine jr_get (v := .int (R 14)) CC (jd ddX11_isSequence 43 rfl) (jf_X11_86 CC) 0 rfl rfl ?_
        refine jr_if_ne 96 CC (jd ddX11_isSequence 44 rfl) (by decide) (fun c23 => ?_) (fun c23 => ?_)
        · refine jr_iconst (v := 1) CC (jd ddX11_isSequence 47 rfl) (by decide) ?_
          refine jr_goto 101 CC (jd ddX11_isSequence 48 rfl) (by decide) ?_
          refine jr_put CC (jd ddX11_isSequence 50 rfl) (jf_X11_86 CC) 0 rfl rfl rfl (Nat.le_of_ble_eq_true rfl) ?_
          refine jr_ws [(m0, .inr (10, jmdl (upd (upd R 15 (R 16)) 14 1) mb))] rfl ?_
          refine jr_iload CC (jd ddX11_isSequence 51 rfl) 0 rfl ?_
          refine jr_if_eq 136 CC (jd ddX11_isSequence 52 rfl) (by decide) (fun c24 => ?_) (fun c24 => ?_)
          · refine jr_iconst (v := 0) CC (jd ddX11_isSequence 66 rfl) (by decide) ?_
            refine jr_istore [(5, .int 0), (4, .int v4), (3, .int v1), (0, .ref m0), (1, .int a), (2, .int b)] CC (jd ddX11_isSequence 67 rfl) (by decide) rfl ?_
            refine jr_aload_n CC (jd ddX11_isSequence 68 rfl) 3 rfl ?_
            refine jr_aload_n CC (jd ddX11_isSequence 69 rfl) 3 rfl ?_
            refine jr_get (v := .int 1) CC (jd ddX11_isSequence 70 rfl) (jf_X11_86 CC) 0 rfl rfl ?_
            refine jr_if_eq 156 CC (jd ddX11_isSequence 71 rfl) (by decide) (fun h => absurd h (by decide)) (fun _ => ?_)
            refine jr_iload CC (jd ddX11_isSequence 72 rfl) 0 rfl ?_
            refine jr_pc (pc' := 149) rfl ?_
            refine jr_if_ne 156 CC (jd ddX11_isSequence 73 rfl) (by decide) (fun h => absurd h (by decide)) (fun _ => ?_)
            refine jr_iconst (v := 1) CC (jd ddX11_isSequence 74 rfl) (by decide) ?_
            refine jr_goto 157 CC (jd ddX11_isSequence 75 rfl) (by decide) ?_
            refine jr_put CC (jd ddX11_isSequence 77 rfl) (jf_X11_86 CC) 0 rfl rfl rfl (Nat.le_of_ble_eq_true rfl) ?_
            refine jr_ws [(m0, .inr (10, jmdl (upd (upd (upd R 15 (R 16)) 14 1) 14 1) mb))] rfl ?_
            refine jr_iload CC (jd ddX11_isSequence 78 rfl) 0 rfl ?_
            exact jr_zret rfl CC MM (jd ddX11_isSequence 79 rfl) rfl (by decide) (by decide) (by (try simp only [Int32.sub_self] at *); rw [e3, e6]; have er : mSf R v1 v4 = 0 := (by simp [mSf, mSm, mSr, c7, c23, c24]); have e1 : mSr R v1 = R 16 := (by simp [mSr, c7, c23, c24]); have e2 : mSm R v1 = 1 := (by simp [mSm, c7, c23, c24]); have e3 : mSz R v1 v4 = 1 := (by simp [mSz, mSf, mSm, mSr, c7, c23, c24]); rw [er, e1, e2, e3]; exact ⟨rfl, rfl⟩)
          · refine jr_aload_n CC (jd ddX11_isSequence 53 rfl) 2 rfl ?_
            refine jr_get (v := .int 1) CC (jd ddX11_isSequence 54 rfl) (jf_X11_86 CC) 0 rfl rfl ?_
            refine jr_if_eq 136 CC (jd ddX11_isSequence 55 rfl) (by decide) (fun h => absurd h (by decide)) (fun _ => ?_)
            refine jr_aload_n CC (jd ddX11_isSequence 56 rfl) 2 rfl ?_
            refine jr_get (v := .int (R 16)) CC (jd ddX11_isSequence 57 rfl) (jf_X11_89 CC) 0 rfl rfl ?_
            refine jr_aload_n CC (jd ddX11_isSequence 58 rfl) 2 rfl ?_
            refine jr_get (v := .int (R 16)) CC (jd ddX11_isSequence 59 rfl) (jf_X11_127 CC) 0 rfl rfl ?_
            refine jr_pc (pc' := 124) rfl ?_
            refine jr_isub CC (jd ddX11_isSequence 60 rfl) ?_
            refine jr_aload_n CC (jd ddX11_isSequence 61 rfl) 2 rfl ?_
            refine jr_get (v := .int (R 4)) CC (jd ddX11_isSequence 62 rfl) (jf_X11_101 CC) 0 rfl rfl ?_
            refine jr_icmp_gt 136 CC (jd ddX11_isSequence 63 rfl) (by decide) (fun c28 => ?_) (fun c28 => ?_)
            · refine jr_iconst (v := 0) CC (jd ddX11_isSequence 66 rfl) (by decide) ?_
              refine jr_istore [(5, .int 0), (4, .int v4), (3, .int v1), (0, .ref m0), (1, .int a), (2, .int b)] CC (jd ddX11_isSequence 67 rfl) (by decide) rfl ?_
              refine jr_aload_n CC (jd ddX11_isSequence 68 rfl) 3 rfl ?_
              refine jr_aload_n CC (jd ddX11_isSequence 69 rfl) 3 rfl ?_
              refine jr_get (v := .int 1) CC (jd ddX11_isSequence 70 rfl) (jf_X11_86 CC) 0 rfl rfl ?_
              refine jr_if_eq 156 CC (jd ddX11_isSequence 71 rfl) (by decide) (fun h => absurd h (by decide)) (fun _ => ?_)
              refine jr_pc (pc' := 147) rfl ?_
              refine jr_iload CC (jd ddX11_isSequence 72 rfl) 0 rfl ?_
              refine jr_if_ne 156 CC (jd ddX11_isSequence 73 rfl) (by decide) (fun h => absurd h (by decide)) (fun _ => ?_)
              refine jr_iconst (v := 1) CC (jd ddX11_isSequence 74 rfl) (by decide) ?_
              refine jr_goto 157 CC (jd ddX11_isSequence 75 rfl) (by decide) ?_
              refine jr_put CC (jd ddX11_isSequence 77 rfl) (jf_X11_86 CC) 0 rfl rfl rfl (Nat.le_of_ble_eq_true rfl) ?_
              refine jr_ws [(m0, .inr (10, jmdl (upd (upd (upd R 15 (R 16)) 14 1) 14 1) mb))] rfl ?_
              refine jr_iload CC (jd ddX11_isSequence 78 rfl) 0 rfl ?_
              exact jr_zret rfl CC MM (jd ddX11_isSequence 79 rfl) rfl (by decide) (by decide) (by (try simp only [Int32.sub_self] at *); rw [e3, e6]; have er : mSf R v1 v4 = 0 := (by simp [mSf, mSm, mSr, c7, c23, c24, c28]); have e1 : mSr R v1 = R 16 := (by simp [mSr, c7, c23, c24, c28]); have e2 : mSm R v1 = 1 := (by simp [mSm, c7, c23, c24, c28]); have e3 : mSz R v1 v4 = 1 := (by simp [mSz, mSf, mSm, mSr, c7, c23, c24, c28]); rw [er, e1, e2, e3]; exact ⟨rfl, rfl⟩)
            · refine jr_iconst (v := 1) CC (jd ddX11_isSequence 64 rfl) (by decide) ?_
              refine jr_goto 137 CC (jd ddX11_isSequence 65 rfl) (by decide) ?_
              refine jr_istore [(5, .int 1), (4, .int v4), (3, .int v1), (0, .ref m0), (1, .int a), (2, .int b)] CC (jd ddX11_isSequence 67 rfl) (by decide) rfl ?_
              refine jr_aload_n CC (jd ddX11_isSequence 68 rfl) 3 rfl ?_
              refine jr_aload_n CC (jd ddX11_isSequence 69 rfl) 3 rfl ?_
              refine jr_get (v := .int 1) CC (jd ddX11_isSequence 70 rfl) (jf_X11_86 CC) 0 rfl rfl ?_
              refine jr_if_eq 156 CC (jd ddX11_isSequence 71 rfl) (by decide) (fun h => absurd h (by decide)) (fun _ => ?_)
              refine jr_iload CC (jd ddX11_isSequence 72 rfl) 0 rfl ?_
              refine jr_if_ne 156 CC (jd ddX11_isSequence 73 rfl) (by decide) (fun _ => ?_) (fun h => absurd h (by decide))
              refine jr_iconst (v := 0) CC (jd ddX11_isSequence 76 rfl) (by decide) ?_
              refine jr_put CC (jd ddX11_isSequence 77 rfl) (jf_X11_86 CC) 0 rfl rfl rfl (Nat.le_of_ble_eq_true rfl) ?_
              refine jr_ws [(m0, .inr (10, jmdl (upd (upd (upd R 15 (R 16)) 14 1) 14 0) mb))] rfl ?_
              refine jr_iload CC (jd ddX11_isSequence 78 rfl) 0 rfl ?_
              refine jr_pc (pc' := 162) rfl ?_
              exact jr_zret rfl CC MM (jd ddX11_isSequence 79 rfl) rfl (by decide) (by decide) (by (try simp only [Int32.sub_self] at *); rw [e3, e6]; have er : mSf R v1 v4 = 1 := (by simp [mSf, mSm, mSr, c7, c23, c24, c28]); have e1 : mSr R v1 = R 16 := (by simp [mSr, c7, c23, c24, c28]); have e2 : mSm R v1 = 1 := (by simp [mSm, c7, c23, c24, c28]); have e3 : mSz R v1 v4 = 0 := (by simp [mSz, mSf, mSm, mSr, c7, c23, c24, c28]); rw [er, e1, e2, e3]; exact ⟨rfl, rfl⟩)
        · refine jr_iload_n CC (jd ddX11_isSequence 45 rfl) 1 rfl ?_
          refine jr_if_eq 100 CC (jd ddX11_isSequence 46 rfl) (by decide) (fun h => absurd h c7) (fun _ => ?_)
          refine jr_iconst (v := 1) CC (jd ddX11_isSequence 47 rfl) (by decide) ?_
          refine jr_goto 101 CC (jd ddX11_isSequence 48 rfl) (by decide) ?_
          refine jr_put CC (jd ddX11_isSequence 50 rfl) (jf_X11_86 CC) 0 rfl rfl rfl (Nat.le_of_ble_eq_true rfl) ?_
          refine jr_ws [(m0, .inr (10, jmdl (upd (upd R 15 (R 16)) 14 1) mb))] rfl ?_
          refine jr_iload CC (jd ddX11_isSequence 51 rfl) 0 rfl ?_
          refine jr_if_eq 136 CC (jd ddX11_isSequence 52 rfl) (by decide) (fun c34 => ?_) (fun c34 => ?_)
          · refine jr_iconst (v := 0) CC (jd ddX11_isSequence 66 rfl) (by decide) ?_
            refine jr_istore [(5, .int 0), (4, .int v4), (3, .int v1), (0, .ref m0), (1, .int a), (2, .int b)] CC (jd ddX11_isSequence 67 rfl) (by decide) rfl ?_
            refine jr_aload_n CC (jd ddX11_isSequence 68 rfl) 3 rfl ?_
            refine jr_aload_n CC (jd ddX11_isSequence 69 rfl) 3 rfl ?_
            refine jr_get (v := .int 1) CC (jd ddX11_isSequence 70 rfl) (jf_X11_86 CC) 0 rfl rfl ?_
            refine jr_if_eq 156 CC (jd ddX11_isSequence 71 rfl) (by decide) (fun h => absurd h (by decide)) (fun _ => ?_)
            refine jr_iload CC (jd ddX11_isSequence 72 rfl) 0 rfl ?_
            refine jr_pc (pc' := 149) rfl ?_
            refine jr_if_ne 156 CC (jd ddX11_isSequence 73 rfl) (by decide) (fun h => absurd h (by decide)) (fun _ => ?_)
            refine jr_iconst (v := 1) CC (jd ddX11_isSequence 74 rfl) (by decide) ?_
            refine jr_goto 157 CC (jd ddX11_isSequence 75 rfl) (by decide) ?_
            refine jr_put CC (jd ddX11_isSequence 77 rfl) (jf_X11_86 CC) 0 rfl rfl rfl (Nat.le_of_ble_eq_true rfl) ?_
            refine jr_ws [(m0, .inr (10, jmdl (upd (upd (upd R 15 (R 16)) 14 1) 14 1) mb))] rfl ?_
            refine jr_iload CC (jd ddX11_isSequence 78 rfl) 0 rfl ?_
            exact jr_zret rfl CC MM (jd ddX11_isSequence 79 rfl) rfl (by decide) (by decide) (by (try simp only [Int32.sub_self] at *); rw [e3, e6]; have er : mSf R v1 v4 = 0 := (by simp [mSf, mSm, mSr, c7, c23, c34]); have e1 : mSr R v1 = R 16 := (by simp [mSr, c7, c23, c34]); have e2 : mSm R v1 = 1 := (by simp [mSm, c7, c23, c34]); have e3 : mSz R v1 v4 = 1 := (by simp [mSz, mSf, mSm, mSr, c7, c23, c34]); rw [er, e1, e2, e3]; exact ⟨rfl, rfl⟩)
          · refine jr_aload_n CC (jd ddX11_isSequence 53 rfl) 2 rfl ?_
            refine jr_get (v := .int 1) CC (jd ddX11_isSequence 54 rfl) (jf_X11_86 CC) 0 rfl rfl ?_
            refine jr_if_eq 136 CC (jd ddX11_isSequence 55 rfl) (by decide) (fun h => absurd h (by decide)) (fun _ => ?_)
            refine jr_aload_n CC (jd ddX11_isSequence 56 rfl) 2 rfl ?_
            refine jr_get (v := .int (R 16)) CC (jd ddX11_isSequence 57 rfl) (jf_X11_89 CC) 0 rfl rfl ?_
            refine jr_aload_n CC (jd ddX11_isSequence 58 rfl) 2 rfl ?_
            refine jr_get (v := .int (R 16)) CC (jd ddX11_isSequence 59 rfl) (jf_X11_127 CC) 0 rfl rfl ?_
            refine jr_pc (pc' := 124) rfl ?_
            refine jr_isub CC (jd ddX11_isSequence 60 rfl) ?_
            refine jr_aload_n CC (jd ddX11_isSequence 61 rfl) 2 rfl ?_
            refine jr_get (v := .int (R 4)) CC (jd ddX11_isSequence 62 rfl) (jf_X11_101 CC) 0 rfl rfl ?_
            refine jr_icmp_gt 136 CC (jd ddX11_isSequence 63 rfl) (by decide) (fun c38 => ?_) (fun c38 => ?_)
            · refine jr_iconst (v := 0) CC (jd ddX11_isSequence 66 rfl) (by decide) ?_
              refine jr_istore [(5, .int 0), (4, .int v4), (3, .int v1), (0, .ref m0), (1, .int a), (2, .int b)] CC (jd ddX11_isSequence 67 rfl) (by decide) rfl ?_
              refine jr_aload_n CC (jd ddX11_isSequence 68 rfl) 3 rfl ?_
              refine jr_aload_n CC (jd ddX11_isSequence 69 rfl) 3 rfl ?_
              refine jr_get (v := .int 1) CC (jd ddX11_isSequence 70 rfl) (jf_X11_86 CC) 0 rfl rfl ?_
              refine jr_if_eq 156 CC (jd ddX11_isSequence 71 rfl) (by decide) (fun h => absurd h (by decide)) (fun _ => ?_)
              refine jr_pc (pc' := 147) rfl ?_
              refine jr_iload CC (jd ddX11_isSequence 72 rfl) 0 rfl ?_
              refine jr_if_ne 156 CC (jd ddX11_isSequence 73 rfl) (by decide) (fun h => absurd h (by decide)) (fun _ => ?_)
              refine jr_iconst (v := 1) CC (jd ddX11_isSequence 74 rfl) (by decide) ?_
              refine jr_goto 157 CC (jd ddX11_isSequence 75 rfl) (by decide) ?_
              refine jr_put CC (jd ddX11_isSequence 77 rfl) (jf_X11_86 CC) 0 rfl rfl rfl (Nat.le_of_ble_eq_true rfl) ?_
              refine jr_ws [(m0, .inr (10, jmdl (upd (upd (upd R 15 (R 16)) 14 1) 14 1) mb))] rfl ?_
              refine jr_iload CC (jd ddX11_isSequence 78 rfl) 0 rfl ?_
              exact jr_zret rfl CC MM (jd ddX11_isSequence 79 rfl) rfl (by decide) (by decide) (by (try simp only [Int32.sub_self] at *); rw [e3, e6]; have er : mSf R v1 v4 = 0 := (by simp [mSf, mSm, mSr, c7, c23, c34, c38]); have e1 : mSr R v1 = R 16 := (by simp [mSr, c7, c23, c34, c38]); have e2 : mSm R v1 = 1 := (by simp [mSm, c7, c23, c34, c38]); have e3 : mSz R v1 v4 = 1 := (by simp [mSz, mSf, mSm, mSr, c7, c23, c34, c38]); rw [er, e1, e2, e3]; exact ⟨rfl, rfl⟩)
            · refine jr_iconst (v := 1) CC (jd ddX11_isSequence 64 rfl) (by decide) ?_
              refine jr_goto 137 CC (jd ddX11_isSequence 65 rfl) (by decide) ?_
              refine jr_istore [(5, .int 1), (4, .int v4), (3, .int v1), (0, .ref m0), (1, .int a), (2, .int b)] CC (jd ddX11_isSequence 67 rfl) (by decide) rfl ?_
              refine jr_aload_n CC (jd ddX11_isSequence 68 rfl) 3 rfl ?_
              refine jr_aload_n CC (jd ddX11_isSequence 69 rfl) 3 rfl ?_
              refine jr_get (v := .int 1) CC (jd ddX11_isSequence 70 rfl) (jf_X11_86 CC) 0 rfl rfl ?_
              refine jr_if_eq 156 CC (jd ddX11_isSequence 71 rfl) (by decide) (fun h => absurd h (by decide)) (fun _ => ?_)
              refine jr_iload CC (jd ddX11_isSequence 72 rfl) 0 rfl ?_
              refine jr_if_ne 156 CC (jd ddX11_isSequence 73 rfl) (by decide) (fun _ => ?_) (fun h => absurd h (by decide))
              refine jr_iconst (v := 0) CC (jd ddX11_isSequence 76 rfl) (by decide) ?_
              refine jr_put CC (jd ddX11_isSequence 77 rfl) (jf_X11_86 CC) 0 rfl rfl rfl (Nat.le_of_ble_eq_true rfl) ?_
              refine jr_ws [(m0, .inr (10, jmdl (upd (upd (upd R 15 (R 16)) 14 1) 14 0) mb))] rfl ?_
              refine jr_iload CC (jd ddX11_isSequence 78 rfl) 0 rfl ?_
              refine jr_pc (pc' := 162) rfl ?_
              exact jr_zret rfl CC MM (jd ddX11_isSequence 79 rfl) rfl (by decide) (by decide) (by (try simp only [Int32.sub_self] at *); rw [e3, e6]; have er : mSf R v1 v4 = 1 := (by simp [mSf, mSm, mSr, c7, c23, c34, c38]); have e1 : mSr R v1 = R 16 := (by simp [mSr, c7, c23, c34, c38]); have e2 : mSm R v1 = 1 := (by simp [mSm, c7, c23, c34, c38]); have e3 : mSz R v1 v4 = 0 := (by simp [mSz, mSf, mSm, mSr, c7, c23, c34, c38]); rw [er, e1, e2, e3]; exact ⟨rfl, rfl⟩)
    refine jr_norm [(m0, .inr (10, jmdl R mb))] [] 32 0 0 rfl rfl rfl rfl rfl ?_
    refine jr_aload_n CC (jd ddX11_isSequence 16 rfl) 1 rfl ?_
    refine jr_get (v := .int (R 6)) CC (jd ddX11_isSequence 17 rfl) (jf_X11_71 CC) 0 rfl rfl ?_
    refine jr_if_eq 62 CC (jd ddX11_isSequence 18 rfl) (by decide) (fun c43 => ?_) (fun c43 => ?_)
    · refine jr_iconst (v := 0) CC (jd ddX11_isSequence 30 rfl) (by decide) ?_
      exact hJ5 _ (by first | (simp [mSa, mSb, c43]; done))
    · refine jr_aload_n CC (jd ddX11_isSequence 19 rfl) 1 rfl ?_
      refine jr_get (v := .int (R 8)) CC (jd ddX11_isSequence 20 rfl) (jf_X11_124 CC) 0 rfl rfl ?_
      refine jr_aload_n CC (jd ddX11_isSequence 21 rfl) 1 rfl ?_
      refine jr_get (v := .int (R 3)) CC (jd ddX11_isSequence 22 rfl) (jf_X11_98 CC) 0 rfl rfl ?_
      refine jr_icmp_gt 62 CC (jd ddX11_isSequence 23 rfl) (by decide) (fun c44 => ?_) (fun c44 => ?_)
      · refine jr_iconst (v := 0) CC (jd ddX11_isSequence 30 rfl) (by decide) ?_
        exact hJ5 _ (by first | (simp [mSa, mSb, c43, c44]; done))
      · refine jr_iload_n CC (jd ddX11_isSequence 24 rfl) 3 rfl ?_
        refine jr_aload_n CC (jd ddX11_isSequence 25 rfl) 1 rfl ?_
        refine jr_pc (pc' := 52) rfl ?_
        refine jr_get (v := .int (R 3)) CC (jd ddX11_isSequence 26 rfl) (jf_X11_98 CC) 0 rfl rfl ?_
        refine jr_icmp_le 62 CC (jd ddX11_isSequence 27 rfl) (by decide) (fun c45 => ?_) (fun c45 => ?_)
        · refine jr_iconst (v := 0) CC (jd ddX11_isSequence 30 rfl) (by decide) ?_
          exact hJ5 _ (by first | (simp [mSa, mSb, c43, c44, c45]; done))
        · refine jr_iconst (v := 1) CC (jd ddX11_isSequence 28 rfl) (by decide) ?_
          refine jr_goto 63 CC (jd ddX11_isSequence 29 rfl) (by decide) ?_
          exact hJ5 _ (by first | (simp [mSa, mSb, c43, c44, c45]; done))
  refine jr_norm [(m0, .inr (10, jmdl R mb))] [] 0 0 0 rfl rfl rfl rfl rfl ?_
  refine jr_aload_n CC (jd ddX11_isSequence 0 rfl) 0 rfl ?_
  refine jr_get (v := .int (R 6)) CC (jd ddX11_isSequence 1 rfl) (jf_X11_71 CC) 0 rfl rfl ?_
  refine jr_if_eq 30 CC (jd ddX11_isSequence 2 rfl) (by decide) (fun c46 => ?_) (fun c46 => ?_)
  · refine jr_iconst (v := 0) CC (jd ddX11_isSequence 14 rfl) (by decide) ?_
    exact hJ2 _ (by first | (simp [mSa, mSb, c46]; done))
  · refine jr_aload_n CC (jd ddX11_isSequence 3 rfl) 0 rfl ?_
    refine jr_get (v := .int (R 7)) CC (jd ddX11_isSequence 4 rfl) (jf_X11_121 CC) 0 rfl rfl ?_
    refine jr_aload_n CC (jd ddX11_isSequence 5 rfl) 0 rfl ?_
    refine jr_get (v := .int (R 2)) CC (jd ddX11_isSequence 6 rfl) (jf_X11_95 CC) 0 rfl rfl ?_
    refine jr_icmp_gt 30 CC (jd ddX11_isSequence 7 rfl) (by decide) (fun c47 => ?_) (fun c47 => ?_)
    · refine jr_iconst (v := 0) CC (jd ddX11_isSequence 14 rfl) (by decide) ?_
      exact hJ2 _ (by first | (simp [mSa, mSb, c46, c47]; done))
    · refine jr_iload_n CC (jd ddX11_isSequence 8 rfl) 1 rfl ?_
      refine jr_aload_n CC (jd ddX11_isSequence 9 rfl) 0 rfl ?_
      refine jr_pc (pc' := 20) rfl ?_
      refine jr_get (v := .int (R 2)) CC (jd ddX11_isSequence 10 rfl) (jf_X11_95 CC) 0 rfl rfl ?_
      refine jr_icmp_le 30 CC (jd ddX11_isSequence 11 rfl) (by decide) (fun c48 => ?_) (fun c48 => ?_)
      · refine jr_iconst (v := 0) CC (jd ddX11_isSequence 14 rfl) (by decide) ?_
        exact hJ2 _ (by first | (simp [mSa, mSb, c46, c47, c48]; done))
      · refine jr_iconst (v := 1) CC (jd ddX11_isSequence 12 rfl) (by decide) ?_
        refine jr_goto 31 CC (jd ddX11_isSequence 13 rfl) (by decide) ?_
        exact hJ2 _ (by first | (simp [mSa, mSb, c46, c47, c48]; done))
