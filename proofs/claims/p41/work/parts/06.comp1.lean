/-! what the cells hold, as functions -/
def jr2 (a b : Nat) : Nat → Option Nat := fun i => if i = 0 then some a else if i = 1 then some b else none
theorem jand15 {n : Nat} (h : n < 2147483648) : nI n &&& 15 = nI (n % 16) := pk_andN (by omega) 4 (by decide)
theorem jle_of {a b : Nat} (h : nI a ≤ nI b) (ha : a < 2147483648) (hb : b < 2147483648) : a ≤ b := (nI_leI ha hb).mp h
theorem jle_not {a b : Nat} (h : ¬ nI a ≤ nI b) (ha : a < 2147483648) (hb : b < 2147483648) : b < a := Nat.not_le.mp fun q => h ((nI_leI ha hb).mpr q)
theorem jlt_of {a b : Nat} (h : nI a < nI b) (ha : a < 2147483648) (hb : b < 2147483648) : a < b := (nI_ltI ha hb).mp h
theorem jlt_not {a b : Nat} (h : ¬ nI a < nI b) (ha : a < 2147483648) (hb : b < 2147483648) : b ≤ a := Nat.not_lt.mp fun q => h ((nI_ltI ha hb).mpr q)
theorem jeq_of {a b : Nat} (h : nI a = nI b) (ha : a < 2147483648) (hb : b < 2147483648) : a = b := (nI_eq ha hb).mp h
theorem jeq_not {a b : Nat} (h : ¬ nI a = nI b) (ha : a < 2147483648) (hb : b < 2147483648) : a ≠ b := fun q => h ((nI_eq ha hb).mpr q)
theorem j_nle {c : Int32} {k : Nat} (n : Nat) (hc : c = nI n) (h : k < n) (hn : n < 2147483648) : ¬ c ≤ nI k := by rw [hc]; exact nI_ge h hn
theorem j_le {c : Int32} {k : Nat} (n : Nat) (hc : c = nI n) (h : n ≤ k) (hn : k < 2147483648) : c ≤ nI k := by rw [hc]; exact nI_le h hn
set_option maxHeartbeats 8000000 in
set_option maxRecDepth 100000 in
theorem k_X0_begin (l : Launch) (t : Nat → ClassId) (hfl : l.stackTraces = false) (h0 : Nat) (h1 : Nat) (tr : Int32) (wa : Int32) (tk : Int32) (a : Int32) (b : Int32) : jKx l t yX0_begin (Cond.code yX0_begin cX0_begin 3 none :: jWS) { frames := 0, cells := 0, slots := 0, locals := 0 } [.ref h0, .int a, .int b] [(h0, .inr (0, [.ref h1, .int tr, .int wa, .int tk]))] (fun vv uu => (vv = none ∧ uu = [(h0, .inr (0, [.ref h1, .int a, .int b, .int 0]))])) (fun _ _ => False) := by
  refine jK_of hfl (by decide +kernel) (Nat.le_of_ble_eq_true rfl) ?_
  intro p e s m args below meth c D A Q CC MM
  refine jr_norm0 [(0, .ref h0), (1, .int a), (2, .int b)] rfl ?_
  refine jr_aload_n CC (jd ddX0_begin 0 rfl) 0 rfl ?_
  refine jr_iload_n CC (jd ddX0_begin 1 rfl) 1 rfl ?_
  refine jr_put CC (jd ddX0_begin 2 rfl) (jf_X0_16 CC) 0 rfl rfl rfl (Nat.le_of_ble_eq_true rfl) ?_
  refine jr_aload_n CC (jd ddX0_begin 3 rfl) 0 rfl ?_
  refine jr_iload_n CC (jd ddX0_begin 4 rfl) 2 rfl ?_
  refine jr_put CC (jd ddX0_begin 5 rfl) (jf_X0_20 CC) 0 rfl rfl rfl (Nat.le_of_ble_eq_true rfl) ?_
  refine jr_aload_n CC (jd ddX0_begin 6 rfl) 0 rfl ?_
  refine jr_iconst (v := 0) CC (jd ddX0_begin 7 rfl) (by decide) ?_
  refine jr_put CC (jd ddX0_begin 8 rfl) (jf_X0_23 CC) 0 rfl rfl rfl (Nat.le_of_ble_eq_true rfl) ?_
  exact jr_vret CC MM (jd ddX0_begin 9 rfl) rfl (by decide) (by decide) ⟨rfl, rfl⟩
set_option maxHeartbeats 8000000 in
set_option maxRecDepth 100000 in
theorem k_X0_isFull (l : Launch) (t : Nat → ClassId) (hfl : l.stackTraces = false) (h0 : Nat) (h1 : Nat) (tr : Int32) (wa : Int32) (tk : Int32) : jKx l t yX0_isFull (Cond.code yX0_isFull cX0_isFull 1 (some .boolean) :: jWS) { frames := 0, cells := 0, slots := 0, locals := 0 } [.ref h0] [(h0, .inr (0, [.ref h1, .int tr, .int wa, .int tk]))] (fun vv uu => ((tk < wa) ∧ vv = some (.int 0) ∧ uu = [(h0, .inr (0, [.ref h1, .int tr, .int wa, .int tk]))]) ∨ ((¬ tk < wa) ∧ vv = some (.int 1) ∧ uu = [(h0, .inr (0, [.ref h1, .int tr, .int wa, .int tk]))])) (fun _ _ => False) := by
  refine jK_of hfl (by decide +kernel) (Nat.le_of_ble_eq_true rfl) ?_
  intro p e s m args below meth c D A Q CC MM
  refine jr_norm0 [(0, .ref h0)] rfl ?_
  refine jr_aload_n CC (jd ddX0_isFull 0 rfl) 0 rfl ?_
  refine jr_get (v := .int tk) CC (jd ddX0_isFull 1 rfl) (jf_X0_23 CC) 0 rfl rfl ?_
  refine jr_aload_n CC (jd ddX0_isFull 2 rfl) 0 rfl ?_
  refine jr_get (v := .int wa) CC (jd ddX0_isFull 3 rfl) (jf_X0_20 CC) 0 rfl rfl ?_
  refine jr_icmp_lt 15 CC (jd ddX0_isFull 4 rfl) (by decide) (fun c1 => ?_) (fun c1 => ?_)
  · refine jr_iconst (v := 0) CC (jd ddX0_isFull 7 rfl) (by decide) ?_
    exact jr_zret rfl CC MM (jd ddX0_isFull 8 rfl) rfl (by decide) (by decide) (Or.inl ⟨c1, rfl, rfl⟩)
  · refine jr_iconst (v := 1) CC (jd ddX0_isFull 5 rfl) (by decide) ?_
    refine jr_goto 16 CC (jd ddX0_isFull 6 rfl) (by decide) ?_
    exact jr_zret rfl CC MM (jd ddX0_isFull 8 rfl) rfl (by decide) (by decide) (Or.inr ⟨c1, rfl, rfl⟩)
set_option maxHeartbeats 8000000 in
set_option maxRecDepth 100000 in
theorem k_X0_at (l : Launch) (t : Nat → ClassId) (hfl : l.stackTraces = false) (h0 : Nat) (h1 : Nat) (h2 : Nat) (h3 : Nat) (tr : Int32) (wa : Int32) (tk : Int32) (f0 : Nat → Int32) (f1 : Nat → Int32) (ch : Int32) (j : Nat) (hj : j < 49) : jKx l t yX0_at (Cond.code yX0_at cX0_at 3 (some .int) :: jWS) { frames := 0, cells := 0, slots := 0, locals := 0 } [.ref h0, .int ch, .int (nI j)] [(h0, .inr (0, [.ref h1, .int tr, .int wa, .int tk])), (h1, .inl (t 1, 2, .inr (.inr (.inr (.inr (jr2 h2 h3)))))), (h2, .inl (t 0, 49, .inl f0)), (h3, .inl (t 0, 49, .inl f1))] (fun vv uu => ((¬ ch = 0) ∧ vv = some (.int (f1 j)) ∧ uu = [(h0, .inr (0, [.ref h1, .int tr, .int wa, .int tk])), (h1, .inl (t 1, 2, .inr (.inr (.inr (.inr (jr2 h2 h3)))))), (h2, .inl (t 0, 49, .inl f0)), (h3, .inl (t 0, 49, .inl f1))]) ∨ ((ch = 0) ∧ vv = some (.int (f0 j)) ∧ uu = [(h0, .inr (0, [.ref h1, .int tr, .int wa, .int tk])), (h1, .inl (t 1, 2, .inr (.inr (.inr (.inr (jr2 h2 h3)))))), (h2, .inl (t 0, 49, .inl f0)), (h3, .inl (t 0, 49, .inl f1))])) (fun _ _ => False) := by
  refine jK_of hfl (by decide +kernel) (Nat.le_of_ble_eq_true rfl) ?_
  intro p e s m args below meth c D A Q CC MM
  refine jr_norm0 [(0, .ref h0), (1, .int ch), (2, .int (nI j))] rfl ?_
  refine jr_aload_n CC (jd ddX0_at 0 rfl) 0 rfl ?_
  refine jr_get (v := .ref h1) CC (jd ddX0_at 1 rfl) (jf_X0_11 CC) 0 rfl rfl ?_
  refine jr_iload_n CC (jd ddX0_at 2 rfl) 1 rfl ?_
  refine jr_if_ne 12 CC (jd ddX0_at 3 rfl) (by decide) (fun c1 => ?_) (fun c1 => ?_)
  · refine jr_iconst (v := 1) CC (jd ddX0_at 6 rfl) (by decide) ?_
    refine jr_alda (v := .ref h3) CC (jd ddX0_at 7 rfl) 1 1 rfl (by decide) (by decide) (by decide) rfl ?_
    refine jr_iload_n CC (jd ddX0_at 8 rfl) 2 rfl ?_
    refine jr_ialdN CC (jd ddX0_at 9 rfl) 3 j rfl rfl (by omega) (by decide) ?_
    exact jr_iret CC MM (jd ddX0_at 10 rfl) rfl (by decide) (by decide) (Or.inl ⟨c1, rfl, rfl⟩)
  · refine jr_iconst (v := 0) CC (jd ddX0_at 4 rfl) (by decide) ?_
    refine jr_goto 13 CC (jd ddX0_at 5 rfl) (by decide) ?_
    refine jr_alda (v := .ref h2) CC (jd ddX0_at 7 rfl) 1 0 rfl (by decide) (by decide) (by decide) rfl ?_
    refine jr_iload_n CC (jd ddX0_at 8 rfl) 2 rfl ?_
    refine jr_ialdN CC (jd ddX0_at 9 rfl) 2 j rfl rfl (by omega) (by decide) ?_
    exact jr_iret CC MM (jd ddX0_at 10 rfl) rfl (by decide) (by decide) (Or.inr ⟨c1, rfl, rfl⟩)
set_option maxHeartbeats 8000000 in
set_option maxRecDepth 100000 in
theorem k_X0_add (l : Launch) (t : Nat → ClassId) (hfl : l.stackTraces = false) (h0 : Nat) (h1 : Nat) (h2 : Nat) (h3 : Nat) (tr : Int32) (wa : Int32) (k : Nat) (f0 : Nat → Int32) (f1 : Nat → Int32) (a : Int32) (b : Int32) (hk : k < 49) : jKx l t yX0_add (Cond.code yX0_add cX0_add 3 none :: jWS) { frames := 0, cells := 0, slots := 0, locals := 0 } [.ref h0, .int a, .int b] [(h0, .inr (0, [.ref h1, .int tr, .int wa, .int (nI k)])), (h1, .inl (t 1, 2, .inr (.inr (.inr (.inr (jr2 h2 h3)))))), (h2, .inl (t 0, 49, .inl f0)), (h3, .inl (t 0, 49, .inl f1))] (fun vv uu => (vv = none ∧ uu = [(h0, .inr (0, [.ref h1, .int tr, .int wa, .int (nI (k + 1))])), (h1, .inl (t 1, 2, .inr (.inr (.inr (.inr (jr2 h2 h3)))))), (h2, .inl (t 0, 49, .inl (upd f0 k a))), (h3, .inl (t 0, 49, .inl (upd f1 k b)))])) (fun _ _ => False) := by
  refine jK_of hfl (by decide +kernel) (Nat.le_of_ble_eq_true rfl) ?_
  intro p e s m args below meth c D A Q CC MM
  refine jr_norm0 [(0, .ref h0), (1, .int a), (2, .int b)] rfl ?_
  refine jr_aload_n CC (jd ddX0_add 0 rfl) 0 rfl ?_
  refine jr_get (v := .int (nI k)) CC (jd ddX0_add 1 rfl) (jf_X0_23 CC) 0 rfl rfl ?_
  refine jr_bipush (v := 49) CC (jd ddX0_add 2 rfl) (by decide) ?_
  refine jr_icmp_ge 43 CC (jd ddX0_add 3 rfl) (by decide) (fun h => absurd h (j_nle 49 rfl hk (by decide))) (fun _ => ?_)
  refine jr_aload_n CC (jd ddX0_add 4 rfl) 0 rfl ?_
  refine jr_get (v := .ref h1) CC (jd ddX0_add 5 rfl) (jf_X0_11 CC) 0 rfl rfl ?_
  refine jr_iconst (v := 0) CC (jd ddX0_add 6 rfl) (by decide) ?_
  refine jr_alda (v := .ref h2) CC (jd ddX0_add 7 rfl) 1 0 rfl (by decide) (by decide) (by decide) rfl ?_
  refine jr_aload_n CC (jd ddX0_add 8 rfl) 0 rfl ?_
  refine jr_get (v := .int (nI k)) CC (jd ddX0_add 9 rfl) (jf_X0_23 CC) 0 rfl rfl ?_
  refine jr_pc (pc' := 19) rfl ?_
  refine jr_iload_n CC (jd ddX0_add 10 rfl) 1 rfl ?_
  refine jr_iastN CC (jd ddX0_add 11 rfl) 2 k rfl rfl (by omega) (by decide) ?_
  refine jr_aload_n CC (jd ddX0_add 12 rfl) 0 rfl ?_
  refine jr_get (v := .ref h1) CC (jd ddX0_add 13 rfl) (jf_X0_11 CC) 0 rfl rfl ?_
  refine jr_iconst (v := 1) CC (jd ddX0_add 14 rfl) (by decide) ?_
  refine jr_alda (v := .ref h3) CC (jd ddX0_add 15 rfl) 1 1 rfl (by decide) (by decide) (by decide) rfl ?_
  refine jr_aload_n CC (jd ddX0_add 16 rfl) 0 rfl ?_
  refine jr_get (v := .int (nI k)) CC (jd ddX0_add 17 rfl) (jf_X0_23 CC) 0 rfl rfl ?_
  refine jr_iload_n CC (jd ddX0_add 18 rfl) 2 rfl ?_
  refine jr_iastN CC (jd ddX0_add 19 rfl) 3 k rfl rfl (by omega) (by decide) ?_
  refine jr_pc (pc' := 33) rfl ?_
  refine jr_aload_n CC (jd ddX0_add 20 rfl) 0 rfl ?_
  refine jr_dup CC (jd ddX0_add 21 rfl) rfl ?_
  refine jr_get (v := .int (nI k)) CC (jd ddX0_add 22 rfl) (jf_X0_23 CC) 0 rfl rfl ?_
  refine jr_iconst (v := 1) CC (jd ddX0_add 23 rfl) (by decide) ?_
  refine jr_iadd CC (jd ddX0_add 24 rfl) ?_
  refine jr_st [.int (nI (k + 1)), .ref h0] (by rw [nI_1]) ?_
  refine jr_put CC (jd ddX0_add 25 rfl) (jf_X0_23 CC) 0 rfl rfl rfl (Nat.le_of_ble_eq_true rfl) ?_
  exact jr_vret CC MM (jd ddX0_add 26 rfl) rfl (by decide) (by decide) ⟨rfl, rfl⟩
set_option maxHeartbeats 8000000 in
set_option maxRecDepth 100000 in
theorem k_X4_add (l : Launch) (t : Nat → ClassId) (hfl : l.stackTraces = false) (h0 : Nat) (h1 : Nat) (h2 : Nat) (h3 : Nat) (n : Nat) (f0 : Nat → Int32) (f1 : Nat → Int32) (a : Int32) (b : Int32) (hn : n < 1000000) : jKx l t yX4_add (Cond.code yX4_add cX4_add 3 none :: jWS) { frames := 0, cells := 0, slots := 0, locals := 0 } [.ref h0, .int a, .int b] [(h0, .inr (3, [.ref h1, .int (nI n)])), (h1, .inl (t 1, 2, .inr (.inr (.inr (.inr (jr2 h2 h3)))))), (h2, .inl (t 0, 16, .inl f0)), (h3, .inl (t 0, 16, .inl f1))] (fun vv uu => (vv = none ∧ uu = [(h0, .inr (3, [.ref h1, .int (nI (n + 1))])), (h1, .inl (t 1, 2, .inr (.inr (.inr (.inr (jr2 h2 h3)))))), (h2, .inl (t 0, 16, .inl (upd f0 (n % 16) a))), (h3, .inl (t 0, 16, .inl (upd f1 (n % 16) b)))])) (fun _ _ => False) := by
  refine jK_of hfl (by decide +kernel) (Nat.le_of_ble_eq_true rfl) ?_
  intro p e s m args below meth c D A Q CC MM
  refine jr_norm0 [(0, .ref h0), (1, .int a), (2, .int b)] rfl ?_
  refine jr_aload_n CC (jd ddX4_add 0 rfl) 0 rfl ?_
  refine jr_get (v := .ref h1) CC (jd ddX4_add 1 rfl) (jf_X4_11 CC) 0 rfl rfl ?_
  refine jr_iconst (v := 0) CC (jd ddX4_add 2 rfl) (by decide) ?_
  refine jr_alda (v := .ref h2) CC (jd ddX4_add 3 rfl) 1 0 rfl (by decide) (by decide) (by decide) rfl ?_
  refine jr_aload_n CC (jd ddX4_add 4 rfl) 0 rfl ?_
  refine jr_get (v := .int (nI n)) CC (jd ddX4_add 5 rfl) (jf_X4_16 CC) 0 rfl rfl ?_
  refine jr_bipush (v := 15) CC (jd ddX4_add 6 rfl) (by decide) ?_
  refine jr_iand CC (jd ddX4_add 7 rfl) ?_
  refine jr_st [.int (nI (n % 16)), .ref h2] (by rw [jand15 (by omega)]) ?_
  refine jr_iload_n CC (jd ddX4_add 8 rfl) 1 rfl ?_
  refine jr_iastN CC (jd ddX4_add 9 rfl) 2 (n % 16) rfl rfl (by omega) (by decide) ?_
  refine jr_pc (pc' := 15) rfl ?_
  refine jr_aload_n CC (jd ddX4_add 10 rfl) 0 rfl ?_
  refine jr_get (v := .ref h1) CC (jd ddX4_add 11 rfl) (jf_X4_11 CC) 0 rfl rfl ?_
  refine jr_iconst (v := 1) CC (jd ddX4_add 12 rfl) (by decide) ?_
  refine jr_alda (v := .ref h3) CC (jd ddX4_add 13 rfl) 1 1 rfl (by decide) (by decide) (by decide) rfl ?_
  refine jr_aload_n CC (jd ddX4_add 14 rfl) 0 rfl ?_
  refine jr_get (v := .int (nI n)) CC (jd ddX4_add 15 rfl) (jf_X4_16 CC) 0 rfl rfl ?_
  refine jr_bipush (v := 15) CC (jd ddX4_add 16 rfl) (by decide) ?_
  refine jr_iand CC (jd ddX4_add 17 rfl) ?_
  refine jr_st [.int (nI (n % 16)), .ref h3] (by rw [jand15 (by omega)]) ?_
  refine jr_iload_n CC (jd ddX4_add 18 rfl) 2 rfl ?_
  refine jr_iastN CC (jd ddX4_add 19 rfl) 3 (n % 16) rfl rfl (by omega) (by decide) ?_
  refine jr_pc (pc' := 30) rfl ?_
  refine jr_aload_n CC (jd ddX4_add 20 rfl) 0 rfl ?_
  refine jr_dup CC (jd ddX4_add 21 rfl) rfl ?_
  refine jr_get (v := .int (nI n)) CC (jd ddX4_add 22 rfl) (jf_X4_16 CC) 0 rfl rfl ?_
  refine jr_iconst (v := 1) CC (jd ddX4_add 23 rfl) (by decide) ?_
  refine jr_iadd CC (jd ddX4_add 24 rfl) ?_
  refine jr_st [.int (nI (n + 1)), .ref h0] (by rw [nI_1]) ?_
  refine jr_put CC (jd ddX4_add 25 rfl) (jf_X4_16 CC) 0 rfl rfl rfl (Nat.le_of_ble_eq_true rfl) ?_
  exact jr_vret CC MM (jd ddX4_add 26 rfl) rfl (by decide) (by decide) ⟨rfl, rfl⟩
set_option maxHeartbeats 8000000 in
set_option maxRecDepth 100000 in
theorem k_X4_back (l : Launch) (t : Nat → ClassId) (hfl : l.stackTraces = false) (h0 : Nat) (h1 : Nat) (h2 : Nat) (h3 : Nat) (n : Nat) (f0 : Nat → Int32) (f1 : Nat → Int32) (ch : Int32) (d : Nat) (hd : d ≤ n) (hn : n < 1000000) : jKx l t yX4_back (Cond.code yX4_back cX4_back 3 (some .int) :: jWS) { frames := 0, cells := 0, slots := 0, locals := 0 } [.ref h0, .int ch, .int (nI d)] [(h0, .inr (3, [.ref h1, .int (nI n)])), (h1, .inl (t 1, 2, .inr (.inr (.inr (.inr (jr2 h2 h3)))))), (h2, .inl (t 0, 16, .inl f0)), (h3, .inl (t 0, 16, .inl f1))] (fun vv uu => ((¬ ch = 0) ∧ vv = some (.int (f1 ((n - d) % 16))) ∧ uu = [(h0, .inr (3, [.ref h1, .int (nI n)])), (h1, .inl (t 1, 2, .inr (.inr (.inr (.inr (jr2 h2 h3)))))), (h2, .inl (t 0, 16, .inl f0)), (h3, .inl (t 0, 16, .inl f1))]) ∨ ((ch = 0) ∧ vv = some (.int (f0 ((n - d) % 16))) ∧ uu = [(h0, .inr (3, [.ref h1, .int (nI n)])), (h1, .inl (t 1, 2, .inr (.inr (.inr (.inr (jr2 h2 h3)))))), (h2, .inl (t 0, 16, .inl f0)), (h3, .inl (t 0, 16, .inl f1))])) (fun _ _ => False) := by
  refine jK_of hfl (by decide +kernel) (Nat.le_of_ble_eq_true rfl) ?_
  intro p e s m args below meth c D A Q CC MM
  refine jr_norm0 [(0, .ref h0), (1, .int ch), (2, .int (nI d))] rfl ?_
  refine jr_aload_n CC (jd ddX4_back 0 rfl) 0 rfl ?_
  refine jr_get (v := .ref h1) CC (jd ddX4_back 1 rfl) (jf_X4_11 CC) 0 rfl rfl ?_
  refine jr_iload_n CC (jd ddX4_back 2 rfl) 1 rfl ?_
  refine jr_if_ne 12 CC (jd ddX4_back 3 rfl) (by decide) (fun c1 => ?_) (fun c1 => ?_)
  · refine jr_iconst (v := 1) CC (jd ddX4_back 6 rfl) (by decide) ?_
    refine jr_alda (v := .ref h3) CC (jd ddX4_back 7 rfl) 1 1 rfl (by decide) (by decide) (by decide) rfl ?_
    refine jr_aload_n CC (jd ddX4_back 8 rfl) 0 rfl ?_
    refine jr_get (v := .int (nI n)) CC (jd ddX4_back 9 rfl) (jf_X4_16 CC) 0 rfl rfl ?_
    refine jr_iload_n CC (jd ddX4_back 10 rfl) 2 rfl ?_
    refine jr_isub CC (jd ddX4_back 11 rfl) ?_
    refine jr_st [.int (nI (n - d)), .ref h3] (by rw [pk_sub hd]) ?_
    refine jr_pc (pc' := 20) rfl ?_
    refine jr_bipush (v := 15) CC (jd ddX4_back 12 rfl) (by decide) ?_
    refine jr_iand CC (jd ddX4_back 13 rfl) ?_
    refine jr_st [.int (nI ((n - d) % 16)), .ref h3] (by rw [jand15 (by omega)]) ?_
    refine jr_ialdN CC (jd ddX4_back 14 rfl) 3 ((n - d) % 16) rfl rfl (by omega) (by decide) ?_
    exact jr_iret CC MM (jd ddX4_back 15 rfl) rfl (by decide) (by decide) (Or.inl ⟨c1, rfl, rfl⟩)
  · refine jr_iconst (v := 0) CC (jd ddX4_back 4 rfl) (by decide) ?_
    refine jr_goto 13 CC (jd ddX4_back 5 rfl) (by decide) ?_
    refine jr_alda (v := .ref h2) CC (jd ddX4_back 7 rfl) 1 0 rfl (by decide) (by decide) (by decide) rfl ?_
    refine jr_aload_n CC (jd ddX4_back 8 rfl) 0 rfl ?_
    refine jr_get (v := .int (nI n)) CC (jd ddX4_back 9 rfl) (jf_X4_16 CC) 0 rfl rfl ?_
    refine jr_iload_n CC (jd ddX4_back 10 rfl) 2 rfl ?_
    refine jr_isub CC (jd ddX4_back 11 rfl) ?_
    refine jr_st [.int (nI (n - d)), .ref h2] (by rw [pk_sub hd]) ?_
    refine jr_bipush (v := 15) CC (jd ddX4_back 12 rfl) (by decide) ?_
    refine jr_iand CC (jd ddX4_back 13 rfl) ?_
    refine jr_st [.int (nI ((n - d) % 16)), .ref h2] (by rw [jand15 (by omega)]) ?_
    refine jr_ialdN CC (jd ddX4_back 14 rfl) 2 ((n - d) % 16) rfl rfl (by omega) (by decide) ?_
    exact jr_iret CC MM (jd ddX4_back 15 rfl) rfl (by decide) (by decide) (Or.inr ⟨c1, rfl, rfl⟩)
/-! conditions: their fields as a function, and what a sample does to them -/
def jcond (ci : Nat) (G : Nat → Int32) : List Value := match ci with
  | 1 => [.int (G 0), .int (G 1), .int (G 2), .int (G 3), .int (G 4)]
  | 6 => [.int (G 0), .int (G 1), .int (G 2), .int (G 3), .int (G 4), .int (G 5)]
  | 7 => [.int (G 0), .int (G 1), .int (G 2), .int (G 3), .int (G 4), .int (G 5), .int (G 6), .int (G 7)]
  | _ => [.int (G 0), .int (G 1), .int (G 2), .int (G 3), .int (G 4), .int (G 5), .int (G 6)]
def eV (G : Nat → Int32) (a b : Int32) : Int32 := if G 0 = 0 then a else b
-- edge: 0 channel, 1 level, 2 hysteresis, 3 rising, 4 ready
def eP (G : Nat → Int32) (v : Int32) : Int32 := if G 3 = 0 then (if G 1 ≤ v then 0 else 1) else (if v ≤ G 1 then 0 else 1)
def eF (G : Nat → Int32) (p : Int32) : Int32 := if G 4 = 0 then 0 else if p = 0 then 0 else 1
def eN (G : Nat → Int32) (v f : Int32) : Nat → Int32 := if f = 0 then (if G 3 = 0 then (if v < G 1 + G 2 then G else upd G 4 1) else (if G 1 - G 2 < v then G else upd G 4 1)) else upd G 4 0
-- width: 0 channel, 1 level, 2 least, 3 most, 4 high, 5 sawOutside, 6 width
theorem eF01 (G : Nat → Int32) (p : Int32) : eF G p = 0 ∨ eF G p = 1 := by
  unfold eF; (repeat' split) <;> first | exact Or.inl rfl | exact Or.inr rfl
def wI (G : Nat → Int32) (v : Int32) : Int32 := if v ≤ G 1 then 0 else 1
def wS (G : Nat → Int32) (i : Int32) : Int32 := if i = G 4 then 1 else 0
def wF (G : Nat → Int32) : Int32 := if G 5 = 0 then 0 else if G 6 < G 2 then 0 else if G 3 < G 6 then 0 else 1
theorem wF01 (G : Nat → Int32) : wF G = 0 ∨ wF G = 1 := by
  unfold wF; (repeat' split) <;> first | exact Or.inl rfl | exact Or.inr rfl
-- runt: 0 channel, 1 low, 2 high, 3 sawOutside, 4 inside, 5 tooHigh
def rT (G : Nat → Int32) (v : Int32) : Int32 := if G 5 = 0 then (if v ≤ G 2 then 0 else 1) else 1
def rF (G : Nat → Int32) : Int32 := if G 3 = 0 then 0 else if G 4 = 0 then 0 else if G 5 = 0 then 1 else 0
theorem rT01 (G : Nat → Int32) (v : Int32) : rT G v = 0 ∨ rT G v = 1 := by
  unfold rT; (repeat' split) <;> first | exact Or.inl rfl | exact Or.inr rfl
theorem rF01 (G : Nat → Int32) : rF G = 0 ∨ rF G = 1 := by
  unfold rF; (repeat' split) <;> first | exact Or.inl rfl | exact Or.inr rfl
-- sequence: 0 firstLevel, 1 secondLevel, 2 span, 3 looked, 4 firstBefore, 5 secondBefore, 6 remembers, 7 remembered
def sA (G : Nat → Int32) (a : Int32) : Int32 := if G 3 = 0 then 0 else if G 0 < G 4 then 0 else if a ≤ G 0 then 0 else 1
def sB (G : Nat → Int32) (b : Int32) : Int32 := if G 3 = 0 then 0 else if G 1 < G 5 then 0 else if b ≤ G 1 then 0 else 1
def sM (G : Nat → Int32) (nr a b : Int32) : Nat → Int32 := if sA G a = 0 then upd (upd (upd G 3 1) 4 a) 5 b else upd (upd (upd (upd (upd G 3 1) 4 a) 5 b) 6 1) 7 nr
def sF (M : Nat → Int32) (f nr : Int32) : Int32 := if f = 0 then 0 else if M 6 = 0 then 0 else if M 2 < nr - M 7 then 0 else 1
theorem sF01 (M : Nat → Int32) (f nr : Int32) : sF M f nr = 0 ∨ sF M f nr = 1 := by
  unfold sF; (repeat' split) <;> first | exact Or.inl rfl | exact Or.inr rfl
/-- whether a condition of class ci fires -/
def cR (ci : Nat) (G : Nat → Int32) (nr a b : Int32) : Int32 := match ci with
  | 1 => eF G (eP G (eV G a b))
  | 6 => if eV G a b ≤ G 1 then rF G else 0
  | 7 => sF (sM G nr a b) (sB G b) nr
  | _ => if wS G (wI G (eV G a b)) = 0 then wF G else 0
/-- its fields behind the sample -/
def cG (ci : Nat) (G : Nat → Int32) (nr a b : Int32) : Nat → Int32 := match ci with
  | 1 => eN G (eV G a b) (eF G (eP G (eV G a b)))
  | 6 => if eV G a b ≤ G 1 then upd (upd (upd G 3 1) 4 0) 5 0 else upd (upd G 4 1) 5 (rT G (eV G a b))
  | 7 => if sF (sM G nr a b) (sB G b) nr = 0 then sM G nr a b else upd (sM G nr a b) 6 0
  | _ => if wS G (wI G (eV G a b)) = 0 then upd (upd G 5 1) 6 0 else upd G 6 (G 6 + 1)
theorem cR01 (ci : Nat) (G : Nat → Int32) (nr a b : Int32) : cR ci G nr a b = 0 ∨ cR ci G nr a b = 1 := by
  unfold cR
  split
  · exact eF01 _ _
  · split
    · exact rF01 _
    · exact Or.inl rfl
  · exact sF01 _ _ _
  · split
    · exact wF01 _
    · exact Or.inl rfl

set_option maxHeartbeats 8000000 in
set_option maxRecDepth 100000 in
theorem k_X2_firesAt (l : Launch) (t : Nat → ClassId) (hfl : l.stackTraces = false) (h0 : Nat) (G : Nat → Int32) (nr : Int32) (a : Int32) (b : Int32) : jKx l t yX2_firesAt (Cond.code yX2_firesAt cX2_firesAt 7 (some .boolean) :: jWS) { frames := 0, cells := 0, slots := 0, locals := 0 } [.ref h0, .int nr, .int a, .int b] [(h0, .inr (1, jcond 1 G))] (fun vv uu => (vv = some (.int (cR 1 G nr a b)) ∧ uu = [(h0, .inr (1, jcond 1 (cG 1 G nr a b)))])) (fun _ _ => False) := by
  refine jK_of hfl (by decide +kernel) (Nat.le_of_ble_eq_true rfl) ?_
  intro p e s m args below meth c D A Q CC MM
  refine jr_norm0 [(0, .ref h0), (1, .int nr), (2, .int a), (3, .int b)] rfl ?_
  have hJ2 : ∀ v1 : Int32, eV G a b = v1 → J p l e { frames := 0, cells := 0, slots := 0, locals := 0 } s m args below meth c D A 7 Q [(h0, .inr (1, jcond 1 G))] [(0, .ref h0), (1, .int nr), (2, .int a), (3, .int b)] 12 [.int v1] 0 0 := by
    intro v1 e3
    refine jr_istore [(4, .int v1), (0, .ref h0), (1, .int nr), (2, .int a), (3, .int b)] CC (jd ddX2_firesAt 6 rfl) (by decide) rfl ?_
    have hJ5 : ∀ v4 : Int32, eP G v1 = v4 → J p l e { frames := 0, cells := 0, slots := 0, locals := 0 } s m args below meth c D A 7 Q [(h0, .inr (1, jcond 1 G))] [(4, .int v1), (0, .ref h0), (1, .int nr), (2, .int a), (3, .int b)] 52 [.int v4] 0 0 := by
      intro v4 e6
      refine jr_istore [(5, .int v4), (4, .int v1), (0, .ref h0), (1, .int nr), (2, .int a), (3, .int b)] CC (jd ddX2_firesAt 25 rfl) (by decide) rfl ?_
      have hJ8 : ∀ v7 : Int32, eF G v4 = v7 → J p l e { frames := 0, cells := 0, slots := 0, locals := 0 } s m args below meth c D A 7 Q [(h0, .inr (1, jcond 1 G))] [(5, .int v4), (4, .int v1), (0, .ref h0), (1, .int nr), (2, .int a), (3, .int b)] 71 [.int v7] 0 0 := by
        intro v7 e9
        have bv7 : v7 = 0 ∨ v7 = 1 := e9 ▸ (eF01 _ _)
        refine jr_istore [(6, .int v7), (5, .int v4), (4, .int v1), (0, .ref h0), (1, .int nr), (2, .int a), (3, .int b)] CC (jd ddX2_firesAt 34 rfl) (by decide) rfl ?_
        refine jr_iload CC (jd ddX2_firesAt 35 rfl) 0 rfl ?_
        refine jr_if_eq 86 CC (jd ddX2_firesAt 36 rfl) (by decide) (fun c10 => ?_) (fun c10 => ?_)
        · refine jr_aload_n CC (jd ddX2_firesAt 41 rfl) 3 rfl ?_
          refine jr_get (v := .int (G 3)) CC (jd ddX2_firesAt 42 rfl) (jf_X2_19 CC) 0 rfl rfl ?_
          refine jr_if_eq 110 CC (jd ddX2_firesAt 43 rfl) (by decide) (fun c11 => ?_) (fun c11 => ?_)
          · refine jr_iload CC (jd ddX2_firesAt 52 rfl) 2 rfl ?_
            refine jr_aload_n CC (jd ddX2_firesAt 53 rfl) 3 rfl ?_
            refine jr_get (v := .int (G 1)) CC (jd ddX2_firesAt 54 rfl) (jf_X2_13 CC) 0 rfl rfl ?_
            refine jr_aload_n CC (jd ddX2_firesAt 55 rfl) 3 rfl ?_
            refine jr_pc (pc' := 117) rfl ?_
            refine jr_get (v := .int (G 2)) CC (jd ddX2_firesAt 56 rfl) (jf_X2_16 CC) 0 rfl rfl ?_
            refine jr_iadd CC (jd ddX2_firesAt 57 rfl) ?_
            refine jr_icmp_lt 129 CC (jd ddX2_firesAt 58 rfl) (by decide) (fun c12 => ?_) (fun c12 => ?_)
            · refine jr_iload CC (jd ddX2_firesAt 62 rfl) 0 rfl ?_
              exact jr_zret (jb01n bv7) CC MM (jd ddX2_firesAt 63 rfl) rfl (by decide) (by decide) (by have er : cR 1 G nr a b = v7 := (by simp [cR, cG, eN, e3, e6, e9, c10, c11, c12]); have ew : cG 1 G nr a b = G := (by simp [cR, cG, eN, e3, e6, e9, c10, c11, c12]); rw [er, ew]; exact ⟨rfl, rfl⟩)
            · refine jr_aload_n CC (jd ddX2_firesAt 59 rfl) 3 rfl ?_
              refine jr_iconst (v := 1) CC (jd ddX2_firesAt 60 rfl) (by decide) ?_
              refine jr_put CC (jd ddX2_firesAt 61 rfl) (jf_X2_23 CC) 0 rfl rfl rfl (Nat.le_of_ble_eq_true rfl) ?_
              refine jr_ws [(h0, .inr (1, jcond 1 (upd G 4 1)))] rfl ?_
              refine jr_iload CC (jd ddX2_firesAt 62 rfl) 0 rfl ?_
              exact jr_zret (jb01n bv7) CC MM (jd ddX2_firesAt 63 rfl) rfl (by decide) (by decide) (by have er : cR 1 G nr a b = v7 := (by simp [cR, cG, eN, e3, e6, e9, c10, c11, c12]); have ew : cG 1 G nr a b = (upd G 4 1) := (by simp [cR, cG, eN, e3, e6, e9, c10, c11, c12]); rw [er, ew]; exact ⟨rfl, rfl⟩)
          · refine jr_iload CC (jd ddX2_firesAt 44 rfl) 2 rfl ?_
            refine jr_aload_n CC (jd ddX2_firesAt 45 rfl) 3 rfl ?_
            refine jr_get (v := .int (G 1)) CC (jd ddX2_firesAt 46 rfl) (jf_X2_13 CC) 0 rfl rfl ?_
            refine jr_aload_n CC (jd ddX2_firesAt 47 rfl) 3 rfl ?_
            refine jr_pc (pc' := 100) rfl ?_
            refine jr_get (v := .int (G 2)) CC (jd ddX2_firesAt 48 rfl) (jf_X2_16 CC) 0 rfl rfl ?_
            refine jr_isub CC (jd ddX2_firesAt 49 rfl) ?_
            refine jr_icmp_gt 129 CC (jd ddX2_firesAt 50 rfl) (by decide) (fun c13 => ?_) (fun c13 => ?_)
            · refine jr_iload CC (jd ddX2_firesAt 62 rfl) 0 rfl ?_
              exact jr_zret (jb01n bv7) CC MM (jd ddX2_firesAt 63 rfl) rfl (by decide) (by decide) (by have er : cR 1 G nr a b = v7 := (by simp [cR, cG, eN, e3, e6, e9, c10, c11, c13]); have ew : cG 1 G nr a b = G := (by simp [cR, cG, eN, e3, e6, e9, c10, c11, c13]); rw [er, ew]; exact ⟨rfl, rfl⟩)
            · refine jr_goto 124 CC (jd ddX2_firesAt 51 rfl) (by decide) ?_
              refine jr_aload_n CC (jd ddX2_firesAt 59 rfl) 3 rfl ?_
              refine jr_iconst (v := 1) CC (jd ddX2_firesAt 60 rfl) (by decide) ?_
              refine jr_put CC (jd ddX2_firesAt 61 rfl) (jf_X2_23 CC) 0 rfl rfl rfl (Nat.le_of_ble_eq_true rfl) ?_
              refine jr_ws [(h0, .inr (1, jcond 1 (upd G 4 1)))] rfl ?_
              refine jr_iload CC (jd ddX2_firesAt 62 rfl) 0 rfl ?_
              exact jr_zret (jb01n bv7) CC MM (jd ddX2_firesAt 63 rfl) rfl (by decide) (by decide) (by have er : cR 1 G nr a b = v7 := (by simp [cR, cG, eN, e3, e6, e9, c10, c11, c13]); have ew : cG 1 G nr a b = (upd G 4 1) := (by simp [cR, cG, eN, e3, e6, e9, c10, c11, c13]); rw [er, ew]; exact ⟨rfl, rfl⟩)
        · refine jr_aload_n CC (jd ddX2_firesAt 37 rfl) 3 rfl ?_
          refine jr_iconst (v := 0) CC (jd ddX2_firesAt 38 rfl) (by decide) ?_
          refine jr_put CC (jd ddX2_firesAt 39 rfl) (jf_X2_23 CC) 0 rfl rfl rfl (Nat.le_of_ble_eq_true rfl) ?_
          refine jr_ws [(h0, .inr (1, jcond 1 (upd G 4 0)))] rfl ?_
          refine jr_goto 129 CC (jd ddX2_firesAt 40 rfl) (by decide) ?_
          refine jr_iload CC (jd ddX2_firesAt 62 rfl) 0 rfl ?_
          exact jr_zret (jb01n bv7) CC MM (jd ddX2_firesAt 63 rfl) rfl (by decide) (by decide) (by have er : cR 1 G nr a b = v7 := (by simp [cR, cG, eN, e3, e6, e9, c10]); have ew : cG 1 G nr a b = (upd G 4 0) := (by simp [cR, cG, eN, e3, e6, e9, c10]); rw [er, ew]; exact ⟨rfl, rfl⟩)
      refine jr_norm [(h0, .inr (1, jcond 1 G))] [] 54 0 0 rfl rfl rfl rfl rfl ?_
      refine jr_aload_n CC (jd ddX2_firesAt 26 rfl) 2 rfl ?_
      refine jr_get (v := .int (G 4)) CC (jd ddX2_firesAt 27 rfl) (jf_X2_23 CC) 0 rfl rfl ?_
      refine jr_if_eq 70 CC (jd ddX2_firesAt 28 rfl) (by decide) (fun c14 => ?_) (fun c14 => ?_)
      · refine jr_iconst (v := 0) CC (jd ddX2_firesAt 33 rfl) (by decide) ?_
        exact hJ8 _ (by first | (simp [eV, eP, eF, c14]; done) | (simp only [Int32.sub_self] at *; simp [sA, sB, sF, upd, *]; done))
      · refine jr_iload CC (jd ddX2_firesAt 29 rfl) 0 rfl ?_
        refine jr_if_eq 70 CC (jd ddX2_firesAt 30 rfl) (by decide) (fun c15 => ?_) (fun c15 => ?_)
        · refine jr_iconst (v := 0) CC (jd ddX2_firesAt 33 rfl) (by decide) ?_
          exact hJ8 _ (by first | (simp [eV, eP, eF, c14, c15]; done) | (simp only [Int32.sub_self] at *; simp [sA, sB, sF, upd, *]; done))
        · refine jr_iconst (v := 1) CC (jd ddX2_firesAt 31 rfl) (by decide) ?_
          refine jr_goto 71 CC (jd ddX2_firesAt 32 rfl) (by decide) ?_
          exact hJ8 _ (by first | (simp [eV, eP, eF, c14, c15]; done) | (simp only [Int32.sub_self] at *; simp [sA, sB, sF, upd, *]; done))
    refine jr_norm [(h0, .inr (1, jcond 1 G))] [] 14 0 0 rfl rfl rfl rfl rfl ?_
    refine jr_aload_n CC (jd ddX2_firesAt 7 rfl) 1 rfl ?_
    refine jr_get (v := .int (G 3)) CC (jd ddX2_firesAt 8 rfl) (jf_X2_19 CC) 0 rfl rfl ?_
    refine jr_if_eq 38 CC (jd ddX2_firesAt 9 rfl) (by decide) (fun c16 => ?_) (fun c16 => ?_)
    · refine jr_iload CC (jd ddX2_firesAt 18 rfl) 0 rfl ?_
      refine jr_aload_n CC (jd ddX2_firesAt 19 rfl) 1 rfl ?_
      refine jr_get (v := .int (G 1)) CC (jd ddX2_firesAt 20 rfl) (jf_X2_13 CC) 0 rfl rfl ?_
      refine jr_icmp_ge 51 CC (jd ddX2_firesAt 21 rfl) (by decide) (fun c17 => ?_) (fun c17 => ?_)
      · refine jr_iconst (v := 0) CC (jd ddX2_firesAt 24 rfl) (by decide) ?_
        exact hJ5 _ (by first | (simp [eV, eP, eF, c16, c17]; done) | (simp only [Int32.sub_self] at *; simp [sA, sB, sF, upd, *]; done))
      · refine jr_iconst (v := 1) CC (jd ddX2_firesAt 22 rfl) (by decide) ?_
        refine jr_goto 52 CC (jd ddX2_firesAt 23 rfl) (by decide) ?_
        exact hJ5 _ (by first | (simp [eV, eP, eF, c16, c17]; done) | (simp only [Int32.sub_self] at *; simp [sA, sB, sF, upd, *]; done))
    · refine jr_iload CC (jd ddX2_firesAt 10 rfl) 0 rfl ?_
      refine jr_aload_n CC (jd ddX2_firesAt 11 rfl) 1 rfl ?_
      refine jr_get (v := .int (G 1)) CC (jd ddX2_firesAt 12 rfl) (jf_X2_13 CC) 0 rfl rfl ?_
      refine jr_icmp_le 34 CC (jd ddX2_firesAt 13 rfl) (by decide) (fun c18 => ?_) (fun c18 => ?_)
      · refine jr_iconst (v := 0) CC (jd ddX2_firesAt 16 rfl) (by decide) ?_
        refine jr_goto 52 CC (jd ddX2_firesAt 17 rfl) (by decide) ?_
        exact hJ5 _ (by first | (simp [eV, eP, eF, c16, c18]; done) | (simp only [Int32.sub_self] at *; simp [sA, sB, sF, upd, *]; done))
      · refine jr_iconst (v := 1) CC (jd ddX2_firesAt 14 rfl) (by decide) ?_
        refine jr_goto 52 CC (jd ddX2_firesAt 15 rfl) (by decide) ?_
        exact hJ5 _ (by first | (simp [eV, eP, eF, c16, c18]; done) | (simp only [Int32.sub_self] at *; simp [sA, sB, sF, upd, *]; done))
  refine jr_norm [(h0, .inr (1, jcond 1 G))] [] 0 0 0 rfl rfl rfl rfl rfl ?_
  refine jr_aload_n CC (jd ddX2_firesAt 0 rfl) 0 rfl ?_
  refine jr_get (v := .int (G 0)) CC (jd ddX2_firesAt 1 rfl) (jf_X2_7 CC) 0 rfl rfl ?_
  refine jr_if_ne 11 CC (jd ddX2_firesAt 2 rfl) (by decide) (fun c19 => ?_) (fun c19 => ?_)
  · refine jr_iload_n CC (jd ddX2_firesAt 5 rfl) 3 rfl ?_
    exact hJ2 _ (by first | (simp [eV, eP, eF, c19]; done) | (simp only [Int32.sub_self] at *; simp [sA, sB, sF, upd, *]; done))
  · refine jr_iload_n CC (jd ddX2_firesAt 3 rfl) 2 rfl ?_
    refine jr_goto 12 CC (jd ddX2_firesAt 4 rfl) (by decide) ?_
    exact hJ2 _ (by first | (simp [eV, eP, eF, c19]; done) | (simp only [Int32.sub_self] at *; simp [sA, sB, sF, upd, *]; done))
set_option maxHeartbeats 8000000 in
set_option maxRecDepth 100000 in
theorem k_X7_firesAt (l : Launch) (t : Nat → ClassId) (hfl : l.stackTraces = false) (h0 : Nat) (G : Nat → Int32) (nr : Int32) (a : Int32) (b : Int32) : jKx l t yX7_firesAt (Cond.code yX7_firesAt cX7_firesAt 6 (some .boolean) :: jWS) { frames := 0, cells := 0, slots := 0, locals := 0 } [.ref h0, .int nr, .int a, .int b] [(h0, .inr (6, jcond 6 G))] (fun vv uu => (vv = some (.int (cR 6 G nr a b)) ∧ uu = [(h0, .inr (6, jcond 6 (cG 6 G nr a b)))])) (fun _ _ => False) := by
  refine jK_of hfl (by decide +kernel) (Nat.le_of_ble_eq_true rfl) ?_
  intro p e s m args below meth c D A Q CC MM
  refine jr_norm0 [(0, .ref h0), (1, .int nr), (2, .int a), (3, .int b)] rfl ?_
  have hJ2 : ∀ v1 : Int32, eV G a b = v1 → J p l e { frames := 0, cells := 0, slots := 0, locals := 0 } s m args below meth c D A 6 Q [(h0, .inr (6, jcond 6 G))] [(0, .ref h0), (1, .int nr), (2, .int a), (3, .int b)] 12 [.int v1] 0 0 := by
    intro v1 e3
    refine jr_istore [(4, .int v1), (0, .ref h0), (1, .int nr), (2, .int a), (3, .int b)] CC (jd ddX7_firesAt 6 rfl) (by decide) rfl ?_
    refine jr_iload CC (jd ddX7_firesAt 7 rfl) 0 rfl ?_
    refine jr_aload_n CC (jd ddX7_firesAt 8 rfl) 1 rfl ?_
    refine jr_get (v := .int (G 1)) CC (jd ddX7_firesAt 9 rfl) (jf_X7_13 CC) 0 rfl rfl ?_
    refine jr_icmp_le 55 CC (jd ddX7_firesAt 10 rfl) (by decide) (fun c4 => ?_) (fun c4 => ?_)
    · have hJ6 : ∀ v5 : Int32, rF G = v5 → J p l e { frames := 0, cells := 0, slots := 0, locals := 0 } s m args below meth c D A 6 Q [(h0, .inr (6, jcond 6 G))] [(4, .int v1), (0, .ref h0), (1, .int nr), (2, .int a), (3, .int b)] 81 [.int v5] 0 0 := by
        intro v5 e7
        have bv5 : v5 = 0 ∨ v5 = 1 := e7 ▸ (rF01 _)
        refine jr_istore [(5, .int v5), (4, .int v1), (0, .ref h0), (1, .int nr), (2, .int a), (3, .int b)] CC (jd ddX7_firesAt 40 rfl) (by decide) rfl ?_
        refine jr_aload_n CC (jd ddX7_firesAt 41 rfl) 2 rfl ?_
        refine jr_iconst (v := 1) CC (jd ddX7_firesAt 42 rfl) (by decide) ?_
        refine jr_put CC (jd ddX7_firesAt 43 rfl) (jf_X7_26 CC) 0 rfl rfl rfl (Nat.le_of_ble_eq_true rfl) ?_
        refine jr_ws [(h0, .inr (6, jcond 6 (upd G 3 1)))] rfl ?_
        refine jr_aload_n CC (jd ddX7_firesAt 44 rfl) 2 rfl ?_
        refine jr_iconst (v := 0) CC (jd ddX7_firesAt 45 rfl) (by decide) ?_
        refine jr_put CC (jd ddX7_firesAt 46 rfl) (jf_X7_19 CC) 0 rfl rfl rfl (Nat.le_of_ble_eq_true rfl) ?_
        refine jr_ws [(h0, .inr (6, jcond 6 (upd (upd G 3 1) 4 0)))] rfl ?_
        refine jr_aload_n CC (jd ddX7_firesAt 47 rfl) 2 rfl ?_
        refine jr_iconst (v := 0) CC (jd ddX7_firesAt 48 rfl) (by decide) ?_
        refine jr_put CC (jd ddX7_firesAt 49 rfl) (jf_X7_23 CC) 0 rfl rfl rfl (Nat.le_of_ble_eq_true rfl) ?_
        refine jr_ws [(h0, .inr (6, jcond 6 (upd (upd (upd G 3 1) 4 0) 5 0)))] rfl ?_
        refine jr_pc (pc' := 98) rfl ?_
        refine jr_iload CC (jd ddX7_firesAt 50 rfl) 0 rfl ?_
        exact jr_zret (jb01n bv5) CC MM (jd ddX7_firesAt 51 rfl) rfl (by decide) (by decide) (by have er : cR 6 G nr a b = v5 := (by simp [cR, cG, e3, c4, e7]); have ew : cG 6 G nr a b = (upd (upd (upd G 3 1) 4 0) 5 0) := (by simp [cR, cG, e3, c4, e7]); rw [er, ew]; exact ⟨rfl, rfl⟩)
      refine jr_norm [(h0, .inr (6, jcond 6 G))] [] 55 0 0 rfl rfl rfl rfl rfl ?_
      refine jr_aload_n CC (jd ddX7_firesAt 28 rfl) 1 rfl ?_
      refine jr_get (v := .int (G 3)) CC (jd ddX7_firesAt 29 rfl) (jf_X7_26 CC) 0 rfl rfl ?_
      refine jr_if_eq 80 CC (jd ddX7_firesAt 30 rfl) (by decide) (fun c8 => ?_) (fun c8 => ?_)
      · refine jr_iconst (v := 0) CC (jd ddX7_firesAt 39 rfl) (by decide) ?_
        exact hJ6 _ (by first | (simp [eV, rT, rF, c8]; done) | (simp only [Int32.sub_self] at *; simp [sA, sB, sF, upd, *]; done))
      · refine jr_aload_n CC (jd ddX7_firesAt 31 rfl) 1 rfl ?_
        refine jr_get (v := .int (G 4)) CC (jd ddX7_firesAt 32 rfl) (jf_X7_19 CC) 0 rfl rfl ?_
        refine jr_if_eq 80 CC (jd ddX7_firesAt 33 rfl) (by decide) (fun c9 => ?_) (fun c9 => ?_)
        · refine jr_iconst (v := 0) CC (jd ddX7_firesAt 39 rfl) (by decide) ?_
          exact hJ6 _ (by first | (simp [eV, rT, rF, c8, c9]; done) | (simp only [Int32.sub_self] at *; simp [sA, sB, sF, upd, *]; done))
        · refine jr_aload_n CC (jd ddX7_firesAt 34 rfl) 1 rfl ?_
          refine jr_get (v := .int (G 5)) CC (jd ddX7_firesAt 35 rfl) (jf_X7_23 CC) 0 rfl rfl ?_
          refine jr_if_ne 80 CC (jd ddX7_firesAt 36 rfl) (by decide) (fun c10 => ?_) (fun c10 => ?_)
          · refine jr_iconst (v := 0) CC (jd ddX7_firesAt 39 rfl) (by decide) ?_
            exact hJ6 _ (by first | (simp [eV, rT, rF, c8, c9, c10]; done) | (simp only [Int32.sub_self] at *; simp [sA, sB, sF, upd, *]; done))
          · refine jr_iconst (v := 1) CC (jd ddX7_firesAt 37 rfl) (by decide) ?_
            refine jr_pc (pc' := 77) rfl ?_
            refine jr_goto 81 CC (jd ddX7_firesAt 38 rfl) (by decide) ?_
            exact hJ6 _ (by first | (simp [eV, rT, rF, c8, c9, c10]; done) | (simp only [Int32.sub_self] at *; simp [sA, sB, sF, upd, *]; done))
    · refine jr_aload_n CC (jd ddX7_firesAt 11 rfl) 1 rfl ?_
      refine jr_iconst (v := 1) CC (jd ddX7_firesAt 12 rfl) (by decide) ?_
      refine jr_put CC (jd ddX7_firesAt 13 rfl) (jf_X7_19 CC) 0 rfl rfl rfl (Nat.le_of_ble_eq_true rfl) ?_
      refine jr_ws [(h0, .inr (6, jcond 6 (upd G 4 1)))] rfl ?_
      refine jr_aload_n CC (jd ddX7_firesAt 14 rfl) 1 rfl ?_
      have hJ12 : ∀ v11 : Int32, rT G v1 = v11 → J p l e { frames := 0, cells := 0, slots := 0, locals := 0 } s m args below meth c D A 6 Q [(h0, .inr (6, jcond 6 (upd G 4 1)))] [(4, .int v1), (0, .ref h0), (1, .int nr), (2, .int a), (3, .int b)] 50 [.int v11, .ref h0] 0 0 := by
        intro v11 e13
        have bv11 : v11 = 0 ∨ v11 = 1 := e13 ▸ (rT01 _ _)
        refine jr_put CC (jd ddX7_firesAt 25 rfl) (jf_X7_23 CC) 0 rfl (jb01n bv11) (jb01f bv11) (Nat.le_of_ble_eq_true rfl) ?_
        refine jr_ws [(h0, .inr (6, jcond 6 (upd (upd G 4 1) 5 v11)))] rfl ?_
        refine jr_iconst (v := 0) CC (jd ddX7_firesAt 26 rfl) (by decide) ?_
        exact jr_zret rfl CC MM (jd ddX7_firesAt 27 rfl) rfl (by decide) (by decide) (by have er : cR 6 G nr a b = 0 := (by simp [cR, cG, e3, c4, e13]); have ew : cG 6 G nr a b = (upd (upd G 4 1) 5 v11) := (by simp [cR, cG, e3, c4, e13]); rw [er, ew]; exact ⟨rfl, rfl⟩)
      refine jr_norm [(h0, .inr (6, jcond 6 (upd G 4 1)))] [.ref h0] 29 0 0 rfl rfl rfl rfl rfl ?_
      refine jr_aload_n CC (jd ddX7_firesAt 15 rfl) 1 rfl ?_
      refine jr_get (v := .int (G 5)) CC (jd ddX7_firesAt 16 rfl) (jf_X7_23 CC) 0 rfl rfl ?_
      refine jr_if_ne 45 CC (jd ddX7_firesAt 17 rfl) (by decide) (fun c14 => ?_) (fun c14 => ?_)
      · refine jr_iconst (v := 1) CC (jd ddX7_firesAt 22 rfl) (by decide) ?_
        refine jr_goto 50 CC (jd ddX7_firesAt 23 rfl) (by decide) ?_
        exact hJ12 _ (by first | (simp [eV, rT, rF, c14]; done) | (simp only [Int32.sub_self] at *; simp [sA, sB, sF, upd, *]; done))
      · refine jr_iload CC (jd ddX7_firesAt 18 rfl) 0 rfl ?_
        refine jr_aload_n CC (jd ddX7_firesAt 19 rfl) 1 rfl ?_
        refine jr_get (v := .int (G 2)) CC (jd ddX7_firesAt 20 rfl) (jf_X7_16 CC) 0 rfl rfl ?_
        refine jr_icmp_le 49 CC (jd ddX7_firesAt 21 rfl) (by decide) (fun c15 => ?_) (fun c15 => ?_)
        · refine jr_iconst (v := 0) CC (jd ddX7_firesAt 24 rfl) (by decide) ?_
          exact hJ12 _ (by first | (simp [eV, rT, rF, c14, c15]; done) | (simp only [Int32.sub_self] at *; simp [sA, sB, sF, upd, *]; done))
        · refine jr_iconst (v := 1) CC (jd ddX7_firesAt 22 rfl) (by decide) ?_
          refine jr_goto 50 CC (jd ddX7_firesAt 23 rfl) (by decide) ?_
          exact hJ12 _ (by first | (simp [eV, rT, rF, c14, c15]; done) | (simp only [Int32.sub_self] at *; simp [sA, sB, sF, upd, *]; done))
  refine jr_norm [(h0, .inr (6, jcond 6 G))] [] 0 0 0 rfl rfl rfl rfl rfl ?_
  refine jr_aload_n CC (jd ddX7_firesAt 0 rfl) 0 rfl ?_
  refine jr_get (v := .int (G 0)) CC (jd ddX7_firesAt 1 rfl) (jf_X7_7 CC) 0 rfl rfl ?_
  refine jr_if_ne 11 CC (jd ddX7_firesAt 2 rfl) (by decide) (fun c16 => ?_) (fun c16 => ?_)
  · refine jr_iload_n CC (jd ddX7_firesAt 5 rfl) 3 rfl ?_
    exact hJ2 _ (by first | (simp [eV, rT, rF, c16]; done) | (simp only [Int32.sub_self] at *; simp [sA, sB, sF, upd, *]; done))
  · refine jr_iload_n CC (jd ddX7_firesAt 3 rfl) 2 rfl ?_
    refine jr_goto 12 CC (jd ddX7_firesAt 4 rfl) (by decide) ?_
    exact hJ2 _ (by first | (simp [eV, rT, rF, c16]; done) | (simp only [Int32.sub_self] at *; simp [sA, sB, sF, upd, *]; done))
set_option maxHeartbeats 8000000 in
set_option maxRecDepth 100000 in
theorem k_X8_firesAt (l : Launch) (t : Nat → ClassId) (hfl : l.stackTraces = false) (h0 : Nat) (G : Nat → Int32) (nr : Int32) (a : Int32) (b : Int32) : jKx l t yX8_firesAt (Cond.code yX8_firesAt cX8_firesAt 7 (some .boolean) :: jWS) { frames := 0, cells := 0, slots := 0, locals := 0 } [.ref h0, .int nr, .int a, .int b] [(h0, .inr (7, jcond 7 G))] (fun vv uu => (vv = some (.int (cR 7 G nr a b)) ∧ uu = [(h0, .inr (7, jcond 7 (cG 7 G nr a b)))])) (fun _ _ => False) := by
  refine jK_of hfl (by decide +kernel) (Nat.le_of_ble_eq_true rfl) ?_
  intro p e s m args below meth c D A Q CC MM
  refine jr_norm0 [(0, .ref h0), (1, .int nr), (2, .int a), (3, .int b)] rfl ?_
  have hJ2 : ∀ v1 : Int32, sA G a = v1 → J p l e { frames := 0, cells := 0, slots := 0, locals := 0 } s m args below meth c D A 7 Q [(h0, .inr (7, jcond 7 G))] [(0, .ref h0), (1, .int nr), (2, .int a), (3, .int b)] 31 [.int v1] 0 0 := by
    intro v1 e3
    refine jr_istore [(4, .int v1), (0, .ref h0), (1, .int nr), (2, .int a), (3, .int b)] CC (jd ddX8_firesAt 15 rfl) (by decide) rfl ?_
    have hJ5 : ∀ v4 : Int32, sB G b = v4 → J p l e { frames := 0, cells := 0, slots := 0, locals := 0 } s m args below meth c D A 7 Q [(h0, .inr (7, jcond 7 G))] [(4, .int v1), (0, .ref h0), (1, .int nr), (2, .int a), (3, .int b)] 64 [.int v4] 0 0 := by
      intro v4 e6
      refine jr_istore [(5, .int v4), (4, .int v1), (0, .ref h0), (1, .int nr), (2, .int a), (3, .int b)] CC (jd ddX8_firesAt 31 rfl) (by decide) rfl ?_
      refine jr_aload_n CC (jd ddX8_firesAt 32 rfl) 2 rfl ?_
      refine jr_iconst (v := 1) CC (jd ddX8_firesAt 33 rfl) (by decide) ?_
      refine jr_put CC (jd ddX8_firesAt 34 rfl) (jf_X8_19 CC) 0 rfl rfl rfl (Nat.le_of_ble_eq_true rfl) ?_
      refine jr_ws [(h0, .inr (7, jcond 7 (upd G 3 1)))] rfl ?_
      refine jr_aload_n CC (jd ddX8_firesAt 35 rfl) 2 rfl ?_
      refine jr_iload_n CC (jd ddX8_firesAt 36 rfl) 4 rfl ?_
      refine jr_put CC (jd ddX8_firesAt 37 rfl) (jf_X8_23 CC) 0 rfl rfl rfl (Nat.le_of_ble_eq_true rfl) ?_
      refine jr_ws [(h0, .inr (7, jcond 7 (upd (upd G 3 1) 4 a)))] rfl ?_
      refine jr_aload_n CC (jd ddX8_firesAt 38 rfl) 2 rfl ?_
      refine jr_iload_n CC (jd ddX8_firesAt 39 rfl) 5 rfl ?_
      refine jr_put CC (jd ddX8_firesAt 40 rfl) (jf_X8_26 CC) 0 rfl rfl rfl (Nat.le_of_ble_eq_true rfl) ?_
      refine jr_ws [(h0, .inr (7, jcond 7 (upd (upd (upd G 3 1) 4 a) 5 b)))] rfl ?_
      refine jr_pc (pc' := 81) rfl ?_
      refine jr_iload CC (jd ddX8_firesAt 41 rfl) 1 rfl ?_
      refine jr_if_eq 96 CC (jd ddX8_firesAt 42 rfl) (by decide) (fun c7 => ?_) (fun c7 => ?_)
      · have hJ9 : ∀ v8 : Int32, sF (upd (upd (upd G 3 1) 4 a) 5 b) v4 nr = v8 → J p l e { frames := 0, cells := 0, slots := 0, locals := 0 } s m args below meth c D A 7 Q [(h0, .inr (7, jcond 7 (upd (upd (upd G 3 1) 4 a) 5 b)))] [(5, .int v4), (4, .int v1), (0, .ref h0), (1, .int nr), (2, .int a), (3, .int b)] 126 [.int v8] 0 0 := by
          intro v8 e10
          have bv8 : v8 = 0 ∨ v8 = 1 := e10 ▸ (sF01 _ _ _)
          refine jr_istore [(6, .int v8), (5, .int v4), (4, .int v1), (0, .ref h0), (1, .int nr), (2, .int a), (3, .int b)] CC (jd ddX8_firesAt 64 rfl) (by decide) rfl ?_
          refine jr_iload CC (jd ddX8_firesAt 65 rfl) 0 rfl ?_
          refine jr_if_eq 138 CC (jd ddX8_firesAt 66 rfl) (by decide) (fun c11 => ?_) (fun c11 => ?_)
          · refine jr_iload CC (jd ddX8_firesAt 70 rfl) 0 rfl ?_
            exact jr_zret (jb01n bv8) CC MM (jd ddX8_firesAt 71 rfl) rfl (by decide) (by decide) (by have er : cR 7 G nr a b = v8 := (by simp [cR, cG, sM, e3, e6, c7, e10, c11]); have ew : cG 7 G nr a b = (upd (upd (upd G 3 1) 4 a) 5 b) := (by simp [cR, cG, sM, e3, e6, c7, e10, c11]); rw [er, ew]; exact ⟨rfl, rfl⟩)
          · refine jr_aload_n CC (jd ddX8_firesAt 67 rfl) 3 rfl ?_
            refine jr_iconst (v := 0) CC (jd ddX8_firesAt 68 rfl) (by decide) ?_
            refine jr_put CC (jd ddX8_firesAt 69 rfl) (jf_X8_29 CC) 0 rfl rfl rfl (Nat.le_of_ble_eq_true rfl) ?_
            refine jr_ws [(h0, .inr (7, jcond 7 (upd (upd (upd (upd G 3 1) 4 a) 5 b) 6 0)))] rfl ?_
            refine jr_iload CC (jd ddX8_firesAt 70 rfl) 0 rfl ?_
            exact jr_zret (jb01n bv8) CC MM (jd ddX8_firesAt 71 rfl) rfl (by decide) (by decide) (by have er : cR 7 G nr a b = v8 := (by simp [cR, cG, sM, e3, e6, c7, e10, c11]); have ew : cG 7 G nr a b = (upd (upd (upd (upd G 3 1) 4 a) 5 b) 6 0) := (by simp [cR, cG, sM, e3, e6, c7, e10, c11]); rw [er, ew]; exact ⟨rfl, rfl⟩)
        refine jr_norm [(h0, .inr (7, jcond 7 (upd (upd (upd G 3 1) 4 a) 5 b)))] [] 96 0 0 rfl rfl rfl rfl rfl ?_
        refine jr_iload CC (jd ddX8_firesAt 49 rfl) 0 rfl ?_
        refine jr_if_eq 125 CC (jd ddX8_firesAt 50 rfl) (by decide) (fun c12 => ?_) (fun c12 => ?_)
        · refine jr_iconst (v := 0) CC (jd ddX8_firesAt 63 rfl) (by decide) ?_
          exact hJ9 _ (by first | (simp [sA, sB, sF, upd, c12]; done) | (simp only [Int32.sub_self] at *; simp [sA, sB, sF, upd, *]; done))
        · refine jr_aload_n CC (jd ddX8_firesAt 51 rfl) 2 rfl ?_
          refine jr_get (v := .int (G 6)) CC (jd ddX8_firesAt 52 rfl) (jf_X8_29 CC) 0 rfl rfl ?_
          refine jr_if_eq 125 CC (jd ddX8_firesAt 53 rfl) (by decide) (fun c13 => ?_) (fun c13 => ?_)
          · refine jr_iconst (v := 0) CC (jd ddX8_firesAt 63 rfl) (by decide) ?_
            exact hJ9 _ (by first | (simp [sA, sB, sF, upd, c12, c13]; done) | (simp only [Int32.sub_self] at *; simp [sA, sB, sF, upd, *]; done))
          · refine jr_iload_n CC (jd ddX8_firesAt 54 rfl) 3 rfl ?_
            refine jr_aload_n CC (jd ddX8_firesAt 55 rfl) 2 rfl ?_
            refine jr_get (v := .int (G 7)) CC (jd ddX8_firesAt 56 rfl) (jf_X8_32 CC) 0 rfl rfl ?_
            refine jr_isub CC (jd ddX8_firesAt 57 rfl) ?_
            refine jr_aload_n CC (jd ddX8_firesAt 58 rfl) 2 rfl ?_
            refine jr_pc (pc' := 115) rfl ?_
            refine jr_get (v := .int (G 2)) CC (jd ddX8_firesAt 59 rfl) (jf_X8_16 CC) 0 rfl rfl ?_
            refine jr_icmp_gt 125 CC (jd ddX8_firesAt 60 rfl) (by decide) (fun c14 => ?_) (fun c14 => ?_)
            · refine jr_iconst (v := 0) CC (jd ddX8_firesAt 63 rfl) (by decide) ?_
              exact hJ9 _ (by first | (simp [sA, sB, sF, upd, c12, c13, c14]; done) | (simp only [Int32.sub_self] at *; simp [sA, sB, sF, upd, *]; done))
            · refine jr_iconst (v := 1) CC (jd ddX8_firesAt 61 rfl) (by decide) ?_
              refine jr_goto 126 CC (jd ddX8_firesAt 62 rfl) (by decide) ?_
              exact hJ9 _ (by first | (simp [sA, sB, sF, upd, c12, c13, c14]; done) | (simp only [Int32.sub_self] at *; simp [sA, sB, sF, upd, *]; done))
      · refine jr_aload_n CC (jd ddX8_firesAt 43 rfl) 2 rfl ?_
        refine jr_iconst (v := 1) CC (jd ddX8_firesAt 44 rfl) (by decide) ?_
        refine jr_put CC (jd ddX8_firesAt 45 rfl) (jf_X8_29 CC) 0 rfl rfl rfl (Nat.le_of_ble_eq_true rfl) ?_
        refine jr_ws [(h0, .inr (7, jcond 7 (upd (upd (upd (upd G 3 1) 4 a) 5 b) 6 1)))] rfl ?_
        refine jr_aload_n CC (jd ddX8_firesAt 46 rfl) 2 rfl ?_
        refine jr_iload_n CC (jd ddX8_firesAt 47 rfl) 3 rfl ?_
        refine jr_put CC (jd ddX8_firesAt 48 rfl) (jf_X8_32 CC) 0 rfl rfl rfl (Nat.le_of_ble_eq_true rfl) ?_
        refine jr_ws [(h0, .inr (7, jcond 7 (upd (upd (upd (upd (upd G 3 1) 4 a) 5 b) 6 1) 7 nr)))] rfl ?_
        have hJ16 : ∀ v15 : Int32, sF (upd (upd (upd (upd (upd G 3 1) 4 a) 5 b) 6 1) 7 nr) v4 nr = v15 → J p l e { frames := 0, cells := 0, slots := 0, locals := 0 } s m args below meth c D A 7 Q [(h0, .inr (7, jcond 7 (upd (upd (upd (upd (upd G 3 1) 4 a) 5 b) 6 1) 7 nr)))] [(5, .int v4), (4, .int v1), (0, .ref h0), (1, .int nr), (2, .int a), (3, .int b)] 126 [.int v15] 0 0 := by
          intro v15 e17
          have bv15 : v15 = 0 ∨ v15 = 1 := e17 ▸ (sF01 _ _ _)
          refine jr_istore [(6, .int v15), (5, .int v4), (4, .int v1), (0, .ref h0), (1, .int nr), (2, .int a), (3, .int b)] CC (jd ddX8_firesAt 64 rfl) (by decide) rfl ?_
          refine jr_iload CC (jd ddX8_firesAt 65 rfl) 0 rfl ?_
          refine jr_if_eq 138 CC (jd ddX8_firesAt 66 rfl) (by decide) (fun c18 => ?_) (fun c18 => ?_)
          · refine jr_iload CC (jd ddX8_firesAt 70 rfl) 0 rfl ?_
            exact jr_zret (jb01n bv15) CC MM (jd ddX8_firesAt 71 rfl) rfl (by decide) (by decide) (by have er : cR 7 G nr a b = v15 := (by simp [cR, cG, sM, e3, e6, c7, e17, c18]); have ew : cG 7 G nr a b = (upd (upd (upd (upd (upd G 3 1) 4 a) 5 b) 6 1) 7 nr) := (by simp [cR, cG, sM, e3, e6, c7, e17, c18]); rw [er, ew]; exact ⟨rfl, rfl⟩)
          · refine jr_aload_n CC (jd ddX8_firesAt 67 rfl) 3 rfl ?_
            refine jr_iconst (v := 0) CC (jd ddX8_firesAt 68 rfl) (by decide) ?_
            refine jr_put CC (jd ddX8_firesAt 69 rfl) (jf_X8_29 CC) 0 rfl rfl rfl (Nat.le_of_ble_eq_true rfl) ?_
            refine jr_ws [(h0, .inr (7, jcond 7 (upd (upd (upd (upd (upd (upd G 3 1) 4 a) 5 b) 6 1) 7 nr) 6 0)))] rfl ?_
            refine jr_iload CC (jd ddX8_firesAt 70 rfl) 0 rfl ?_
            exact jr_zret (jb01n bv15) CC MM (jd ddX8_firesAt 71 rfl) rfl (by decide) (by decide) (by have er : cR 7 G nr a b = v15 := (by simp [cR, cG, sM, e3, e6, c7, e17, c18]); have ew : cG 7 G nr a b = (upd (upd (upd (upd (upd (upd G 3 1) 4 a) 5 b) 6 1) 7 nr) 6 0) := (by simp [cR, cG, sM, e3, e6, c7, e17, c18]); rw [er, ew]; exact ⟨rfl, rfl⟩)
        refine jr_norm [(h0, .inr (7, jcond 7 (upd (upd (upd (upd (upd G 3 1) 4 a) 5 b) 6 1) 7 nr)))] [] 96 0 0 rfl rfl rfl rfl rfl ?_
        refine jr_iload CC (jd ddX8_firesAt 49 rfl) 0 rfl ?_
        refine jr_if_eq 125 CC (jd ddX8_firesAt 50 rfl) (by decide) (fun c19 => ?_) (fun c19 => ?_)
        · refine jr_iconst (v := 0) CC (jd ddX8_firesAt 63 rfl) (by decide) ?_
          exact hJ16 _ (by first | (simp [sA, sB, sF, upd, c19]; done) | (simp only [Int32.sub_self] at *; simp [sA, sB, sF, upd, *]; done))
        · refine jr_aload_n CC (jd ddX8_firesAt 51 rfl) 2 rfl ?_
          refine jr_get (v := .int 1) CC (jd ddX8_firesAt 52 rfl) (jf_X8_29 CC) 0 rfl rfl ?_
          refine jr_if_eq 125 CC (jd ddX8_firesAt 53 rfl) (by decide) (fun h => absurd h (by decide)) (fun _ => ?_)
          refine jr_iload_n CC (jd ddX8_firesAt 54 rfl) 3 rfl ?_
          refine jr_aload_n CC (jd ddX8_firesAt 55 rfl) 2 rfl ?_
          refine jr_get (v := .int nr) CC (jd ddX8_firesAt 56 rfl) (jf_X8_32 CC) 0 rfl rfl ?_
          refine jr_isub CC (jd ddX8_firesAt 57 rfl) ?_
          refine jr_aload_n CC (jd ddX8_firesAt 58 rfl) 2 rfl ?_
          refine jr_pc (pc' := 115) rfl ?_
          refine jr_get (v := .int (G 2)) CC (jd ddX8_firesAt 59 rfl) (jf_X8_16 CC) 0 rfl rfl ?_
          refine jr_icmp_gt 125 CC (jd ddX8_firesAt 60 rfl) (by decide) (fun c21 => ?_) (fun c21 => ?_)
          · refine jr_iconst (v := 0) CC (jd ddX8_firesAt 63 rfl) (by decide) ?_
            exact hJ16 _ (by first | (simp [sA, sB, sF, upd, c19, c21]; done) | (simp only [Int32.sub_self] at *; simp [sA, sB, sF, upd, *]; done))
          · refine jr_iconst (v := 1) CC (jd ddX8_firesAt 61 rfl) (by decide) ?_
            refine jr_goto 126 CC (jd ddX8_firesAt 62 rfl) (by decide) ?_
            exact hJ16 _ (by first | (simp [sA, sB, sF, upd, c19, c21]; done) | (simp only [Int32.sub_self] at *; simp [sA, sB, sF, upd, *]; done))
    refine jr_norm [(h0, .inr (7, jcond 7 G))] [] 33 0 0 rfl rfl rfl rfl rfl ?_
    refine jr_aload_n CC (jd ddX8_firesAt 16 rfl) 1 rfl ?_
    refine jr_get (v := .int (G 3)) CC (jd ddX8_firesAt 17 rfl) (jf_X8_19 CC) 0 rfl rfl ?_
    refine jr_if_eq 63 CC (jd ddX8_firesAt 18 rfl) (by decide) (fun c22 => ?_) (fun c22 => ?_)
    · refine jr_iconst (v := 0) CC (jd ddX8_firesAt 30 rfl) (by decide) ?_
      exact hJ5 _ (by first | (simp [sA, sB, sF, upd, c22]; done) | (simp only [Int32.sub_self] at *; simp [sA, sB, sF, upd, *]; done))
    · refine jr_aload_n CC (jd ddX8_firesAt 19 rfl) 1 rfl ?_
      refine jr_get (v := .int (G 5)) CC (jd ddX8_firesAt 20 rfl) (jf_X8_26 CC) 0 rfl rfl ?_
      refine jr_aload_n CC (jd ddX8_firesAt 21 rfl) 1 rfl ?_
      refine jr_get (v := .int (G 1)) CC (jd ddX8_firesAt 22 rfl) (jf_X8_13 CC) 0 rfl rfl ?_
      refine jr_icmp_gt 63 CC (jd ddX8_firesAt 23 rfl) (by decide) (fun c23 => ?_) (fun c23 => ?_)
      · refine jr_iconst (v := 0) CC (jd ddX8_firesAt 30 rfl) (by decide) ?_
        exact hJ5 _ (by first | (simp [sA, sB, sF, upd, c22, c23]; done) | (simp only [Int32.sub_self] at *; simp [sA, sB, sF, upd, *]; done))
      · refine jr_iload_n CC (jd ddX8_firesAt 24 rfl) 4 rfl ?_
        refine jr_aload_n CC (jd ddX8_firesAt 25 rfl) 1 rfl ?_
        refine jr_pc (pc' := 53) rfl ?_
        refine jr_get (v := .int (G 1)) CC (jd ddX8_firesAt 26 rfl) (jf_X8_13 CC) 0 rfl rfl ?_
        refine jr_icmp_le 63 CC (jd ddX8_firesAt 27 rfl) (by decide) (fun c24 => ?_) (fun c24 => ?_)
        · refine jr_iconst (v := 0) CC (jd ddX8_firesAt 30 rfl) (by decide) ?_
          exact hJ5 _ (by first | (simp [sA, sB, sF, upd, c22, c23, c24]; done) | (simp only [Int32.sub_self] at *; simp [sA, sB, sF, upd, *]; done))
        · refine jr_iconst (v := 1) CC (jd ddX8_firesAt 28 rfl) (by decide) ?_
          refine jr_goto 64 CC (jd ddX8_firesAt 29 rfl) (by decide) ?_
          exact hJ5 _ (by first | (simp [sA, sB, sF, upd, c22, c23, c24]; done) | (simp only [Int32.sub_self] at *; simp [sA, sB, sF, upd, *]; done))
  refine jr_norm [(h0, .inr (7, jcond 7 G))] [] 0 0 0 rfl rfl rfl rfl rfl ?_
  refine jr_aload_n CC (jd ddX8_firesAt 0 rfl) 0 rfl ?_
  refine jr_get (v := .int (G 3)) CC (jd ddX8_firesAt 1 rfl) (jf_X8_19 CC) 0 rfl rfl ?_
  refine jr_if_eq 30 CC (jd ddX8_firesAt 2 rfl) (by decide) (fun c25 => ?_) (fun c25 => ?_)
  · refine jr_iconst (v := 0) CC (jd ddX8_firesAt 14 rfl) (by decide) ?_
    exact hJ2 _ (by first | (simp [sA, sB, sF, upd, c25]; done) | (simp only [Int32.sub_self] at *; simp [sA, sB, sF, upd, *]; done))
  · refine jr_aload_n CC (jd ddX8_firesAt 3 rfl) 0 rfl ?_
    refine jr_get (v := .int (G 4)) CC (jd ddX8_firesAt 4 rfl) (jf_X8_23 CC) 0 rfl rfl ?_
    refine jr_aload_n CC (jd ddX8_firesAt 5 rfl) 0 rfl ?_
    refine jr_get (v := .int (G 0)) CC (jd ddX8_firesAt 6 rfl) (jf_X8_7 CC) 0 rfl rfl ?_
    refine jr_icmp_gt 30 CC (jd ddX8_firesAt 7 rfl) (by decide) (fun c26 => ?_) (fun c26 => ?_)
    · refine jr_iconst (v := 0) CC (jd ddX8_firesAt 14 rfl) (by decide) ?_
      exact hJ2 _ (by first | (simp [sA, sB, sF, upd, c25, c26]; done) | (simp only [Int32.sub_self] at *; simp [sA, sB, sF, upd, *]; done))
    · refine jr_iload_n CC (jd ddX8_firesAt 8 rfl) 2 rfl ?_
      refine jr_aload_n CC (jd ddX8_firesAt 9 rfl) 0 rfl ?_
      refine jr_pc (pc' := 20) rfl ?_
      refine jr_get (v := .int (G 0)) CC (jd ddX8_firesAt 10 rfl) (jf_X8_7 CC) 0 rfl rfl ?_
      refine jr_icmp_le 30 CC (jd ddX8_firesAt 11 rfl) (by decide) (fun c27 => ?_) (fun c27 => ?_)
      · refine jr_iconst (v := 0) CC (jd ddX8_firesAt 14 rfl) (by decide) ?_
        exact hJ2 _ (by first | (simp [sA, sB, sF, upd, c25, c26, c27]; done) | (simp only [Int32.sub_self] at *; simp [sA, sB, sF, upd, *]; done))
      · refine jr_iconst (v := 1) CC (jd ddX8_firesAt 12 rfl) (by decide) ?_
        refine jr_goto 31 CC (jd ddX8_firesAt 13 rfl) (by decide) ?_
        exact hJ2 _ (by first | (simp [sA, sB, sF, upd, c25, c26, c27]; done) | (simp only [Int32.sub_self] at *; simp [sA, sB, sF, upd, *]; done))
set_option maxHeartbeats 8000000 in
set_option maxRecDepth 100000 in
theorem k_X9_firesAt (l : Launch) (t : Nat → ClassId) (hfl : l.stackTraces = false) (h0 : Nat) (G : Nat → Int32) (nr : Int32) (a : Int32) (b : Int32) : jKx l t yX9_firesAt (Cond.code yX9_firesAt cX9_firesAt 7 (some .boolean) :: jWS) { frames := 0, cells := 0, slots := 0, locals := 0 } [.ref h0, .int nr, .int a, .int b] [(h0, .inr (8, jcond 8 G))] (fun vv uu => (vv = some (.int (cR 8 G nr a b)) ∧ uu = [(h0, .inr (8, jcond 8 (cG 8 G nr a b)))])) (fun _ _ => False) := by
  refine jK_of hfl (by decide +kernel) (Nat.le_of_ble_eq_true rfl) ?_
  intro p e s m args below meth c D A Q CC MM
  refine jr_norm0 [(0, .ref h0), (1, .int nr), (2, .int a), (3, .int b)] rfl ?_
  have hJ2 : ∀ v1 : Int32, eV G a b = v1 → J p l e { frames := 0, cells := 0, slots := 0, locals := 0 } s m args below meth c D A 7 Q [(h0, .inr (8, jcond 8 G))] [(0, .ref h0), (1, .int nr), (2, .int a), (3, .int b)] 12 [.int v1] 0 0 := by
    intro v1 e3
    refine jr_istore [(4, .int v1), (0, .ref h0), (1, .int nr), (2, .int a), (3, .int b)] CC (jd ddX9_firesAt 6 rfl) (by decide) rfl ?_
    have hJ5 : ∀ v4 : Int32, wI G v1 = v4 → J p l e { frames := 0, cells := 0, slots := 0, locals := 0 } s m args below meth c D A 7 Q [(h0, .inr (8, jcond 8 G))] [(4, .int v1), (0, .ref h0), (1, .int nr), (2, .int a), (3, .int b)] 28 [.int v4] 0 0 := by
      intro v4 e6
      have hJ8 : ∀ v7 : Int32, wS G v4 = v7 → J p l e { frames := 0, cells := 0, slots := 0, locals := 0 } s m args below meth c D A 7 Q [(h0, .inr (8, jcond 8 G))] [(4, .int v1), (0, .ref h0), (1, .int nr), (2, .int a), (3, .int b)] 40 [.int v7] 0 0 := by
        intro v7 e9
        refine jr_istore [(5, .int v7), (4, .int v1), (0, .ref h0), (1, .int nr), (2, .int a), (3, .int b)] CC (jd ddX9_firesAt 20 rfl) (by decide) rfl ?_
        refine jr_iload CC (jd ddX9_firesAt 21 rfl) 0 rfl ?_
        refine jr_if_eq 59 CC (jd ddX9_firesAt 22 rfl) (by decide) (fun c10 => ?_) (fun c10 => ?_)
        · have hJ12 : ∀ v11 : Int32, wF G = v11 → J p l e { frames := 0, cells := 0, slots := 0, locals := 0 } s m args below meth c D A 7 Q [(h0, .inr (8, jcond 8 G))] [(5, .int v7), (4, .int v1), (0, .ref h0), (1, .int nr), (2, .int a), (3, .int b)] 93 [.int v11] 0 0 := by
            intro v11 e13
            have bv11 : v11 = 0 ∨ v11 = 1 := e13 ▸ (wF01 _)
            refine jr_istore [(6, .int v11), (5, .int v7), (4, .int v1), (0, .ref h0), (1, .int nr), (2, .int a), (3, .int b)] CC (jd ddX9_firesAt 47 rfl) (by decide) rfl ?_
            refine jr_aload_n CC (jd ddX9_firesAt 48 rfl) 3 rfl ?_
            refine jr_iconst (v := 1) CC (jd ddX9_firesAt 49 rfl) (by decide) ?_
            refine jr_put CC (jd ddX9_firesAt 50 rfl) (jf_X9_29 CC) 0 rfl rfl rfl (Nat.le_of_ble_eq_true rfl) ?_
            refine jr_ws [(h0, .inr (8, jcond 8 (upd G 5 1)))] rfl ?_
            refine jr_aload_n CC (jd ddX9_firesAt 51 rfl) 3 rfl ?_
            refine jr_iconst (v := 0) CC (jd ddX9_firesAt 52 rfl) (by decide) ?_
            refine jr_put CC (jd ddX9_firesAt 53 rfl) (jf_X9_26 CC) 0 rfl rfl rfl (Nat.le_of_ble_eq_true rfl) ?_
            refine jr_ws [(h0, .inr (8, jcond 8 (upd (upd G 5 1) 6 0)))] rfl ?_
            refine jr_iload CC (jd ddX9_firesAt 54 rfl) 0 rfl ?_
            exact jr_zret (jb01n bv11) CC MM (jd ddX9_firesAt 55 rfl) rfl (by decide) (by decide) (by have er : cR 8 G nr a b = v11 := (by simp [cR, cG, e3, e6, e9, c10, e13]); have ew : cG 8 G nr a b = (upd (upd G 5 1) 6 0) := (by simp [cR, cG, e3, e6, e9, c10, e13]); rw [er, ew]; exact ⟨rfl, rfl⟩)
          refine jr_norm [(h0, .inr (8, jcond 8 G))] [] 59 0 0 rfl rfl rfl rfl rfl ?_
          refine jr_aload_n CC (jd ddX9_firesAt 31 rfl) 2 rfl ?_
          refine jr_get (v := .int (G 5)) CC (jd ddX9_firesAt 32 rfl) (jf_X9_29 CC) 0 rfl rfl ?_
          refine jr_if_eq 92 CC (jd ddX9_firesAt 33 rfl) (by decide) (fun c14 => ?_) (fun c14 => ?_)
          · refine jr_iconst (v := 0) CC (jd ddX9_firesAt 46 rfl) (by decide) ?_
            exact hJ12 _ (by first | (simp [eV, wI, wS, wF, c14]; done) | (simp only [Int32.sub_self] at *; simp [sA, sB, sF, upd, *]; done))
          · refine jr_aload_n CC (jd ddX9_firesAt 34 rfl) 2 rfl ?_
            refine jr_get (v := .int (G 6)) CC (jd ddX9_firesAt 35 rfl) (jf_X9_26 CC) 0 rfl rfl ?_
            refine jr_aload_n CC (jd ddX9_firesAt 36 rfl) 2 rfl ?_
            refine jr_get (v := .int (G 2)) CC (jd ddX9_firesAt 37 rfl) (jf_X9_16 CC) 0 rfl rfl ?_
            refine jr_icmp_lt 92 CC (jd ddX9_firesAt 38 rfl) (by decide) (fun c15 => ?_) (fun c15 => ?_)
            · refine jr_iconst (v := 0) CC (jd ddX9_firesAt 46 rfl) (by decide) ?_
              exact hJ12 _ (by first | (simp [eV, wI, wS, wF, c14, c15]; done) | (simp only [Int32.sub_self] at *; simp [sA, sB, sF, upd, *]; done))
            · refine jr_aload_n CC (jd ddX9_firesAt 39 rfl) 2 rfl ?_
              refine jr_get (v := .int (G 6)) CC (jd ddX9_firesAt 40 rfl) (jf_X9_26 CC) 0 rfl rfl ?_
              refine jr_pc (pc' := 81) rfl ?_
              refine jr_aload_n CC (jd ddX9_firesAt 41 rfl) 2 rfl ?_
              refine jr_get (v := .int (G 3)) CC (jd ddX9_firesAt 42 rfl) (jf_X9_19 CC) 0 rfl rfl ?_
              refine jr_icmp_gt 92 CC (jd ddX9_firesAt 43 rfl) (by decide) (fun c16 => ?_) (fun c16 => ?_)
              · refine jr_iconst (v := 0) CC (jd ddX9_firesAt 46 rfl) (by decide) ?_
                exact hJ12 _ (by first | (simp [eV, wI, wS, wF, c14, c15, c16]; done) | (simp only [Int32.sub_self] at *; simp [sA, sB, sF, upd, *]; done))
              · refine jr_iconst (v := 1) CC (jd ddX9_firesAt 44 rfl) (by decide) ?_
                refine jr_goto 93 CC (jd ddX9_firesAt 45 rfl) (by decide) ?_
                exact hJ12 _ (by first | (simp [eV, wI, wS, wF, c14, c15, c16]; done) | (simp only [Int32.sub_self] at *; simp [sA, sB, sF, upd, *]; done))
        · refine jr_aload_n CC (jd ddX9_firesAt 23 rfl) 2 rfl ?_
          refine jr_dup CC (jd ddX9_firesAt 24 rfl) rfl ?_
          refine jr_get (v := .int (G 6)) CC (jd ddX9_firesAt 25 rfl) (jf_X9_26 CC) 0 rfl rfl ?_
          refine jr_iconst (v := 1) CC (jd ddX9_firesAt 26 rfl) (by decide) ?_
          refine jr_iadd CC (jd ddX9_firesAt 27 rfl) ?_
          refine jr_put CC (jd ddX9_firesAt 28 rfl) (jf_X9_26 CC) 0 rfl rfl rfl (Nat.le_of_ble_eq_true rfl) ?_
          refine jr_ws [(h0, .inr (8, jcond 8 (upd G 6 ((G 6) + 1))))] rfl ?_
          refine jr_iconst (v := 0) CC (jd ddX9_firesAt 29 rfl) (by decide) ?_
          refine jr_pc (pc' := 58) rfl ?_
          exact jr_zret rfl CC MM (jd ddX9_firesAt 30 rfl) rfl (by decide) (by decide) (by have er : cR 8 G nr a b = 0 := (by simp [cR, cG, e3, e6, e9, c10]); have ew : cG 8 G nr a b = (upd G 6 ((G 6) + 1)) := (by simp [cR, cG, e3, e6, e9, c10]); rw [er, ew]; exact ⟨rfl, rfl⟩)
      refine jr_norm [(h0, .inr (8, jcond 8 G))] [.int v4] 28 0 0 rfl rfl rfl rfl rfl ?_
      refine jr_aload_n CC (jd ddX9_firesAt 14 rfl) 1 rfl ?_
      refine jr_get (v := .int (G 4)) CC (jd ddX9_firesAt 15 rfl) (jf_X9_22 CC) 0 rfl rfl ?_
      refine jr_icmp_ne 39 CC (jd ddX9_firesAt 16 rfl) (by decide) (fun c17 => ?_) (fun c17 => ?_)
      · refine jr_iconst (v := 0) CC (jd ddX9_firesAt 19 rfl) (by decide) ?_
        exact hJ8 _ (by first | (simp [eV, wI, wS, wF, c17]; done) | (simp only [Int32.sub_self] at *; simp [sA, sB, sF, upd, *]; done))
      · refine jr_iconst (v := 1) CC (jd ddX9_firesAt 17 rfl) (by decide) ?_
        refine jr_goto 40 CC (jd ddX9_firesAt 18 rfl) (by decide) ?_
        exact hJ8 _ (by first | (simp [eV, wI, wS, wF, c17]; done) | (simp only [Int32.sub_self] at *; simp [sA, sB, sF, upd, *]; done))
    refine jr_norm [(h0, .inr (8, jcond 8 G))] [] 14 0 0 rfl rfl rfl rfl rfl ?_
    refine jr_iload CC (jd ddX9_firesAt 7 rfl) 0 rfl ?_
    refine jr_aload_n CC (jd ddX9_firesAt 8 rfl) 1 rfl ?_
    refine jr_get (v := .int (G 1)) CC (jd ddX9_firesAt 9 rfl) (jf_X9_13 CC) 0 rfl rfl ?_
    refine jr_icmp_le 27 CC (jd ddX9_firesAt 10 rfl) (by decide) (fun c18 => ?_) (fun c18 => ?_)
    · refine jr_iconst (v := 0) CC (jd ddX9_firesAt 13 rfl) (by decide) ?_
      exact hJ5 _ (by first | (simp [eV, wI, wS, wF, c18]; done) | (simp only [Int32.sub_self] at *; simp [sA, sB, sF, upd, *]; done))
    · refine jr_iconst (v := 1) CC (jd ddX9_firesAt 11 rfl) (by decide) ?_
      refine jr_goto 28 CC (jd ddX9_firesAt 12 rfl) (by decide) ?_
      exact hJ5 _ (by first | (simp [eV, wI, wS, wF, c18]; done) | (simp only [Int32.sub_self] at *; simp [sA, sB, sF, upd, *]; done))
  refine jr_norm [(h0, .inr (8, jcond 8 G))] [] 0 0 0 rfl rfl rfl rfl rfl ?_
  refine jr_aload_n CC (jd ddX9_firesAt 0 rfl) 0 rfl ?_
  refine jr_get (v := .int (G 0)) CC (jd ddX9_firesAt 1 rfl) (jf_X9_7 CC) 0 rfl rfl ?_
  refine jr_if_ne 11 CC (jd ddX9_firesAt 2 rfl) (by decide) (fun c19 => ?_) (fun c19 => ?_)
  · refine jr_iload_n CC (jd ddX9_firesAt 5 rfl) 3 rfl ?_
    exact hJ2 _ (by first | (simp [eV, wI, wS, wF, c19]; done) | (simp only [Int32.sub_self] at *; simp [sA, sB, sF, upd, *]; done))
  · refine jr_iload_n CC (jd ddX9_firesAt 3 rfl) 2 rfl ?_
    refine jr_goto 12 CC (jd ddX9_firesAt 4 rfl) (by decide) ?_
    exact hJ2 _ (by first | (simp [eV, wI, wS, wF, c19]; done) | (simp only [Int32.sub_self] at *; simp [sA, sB, sF, upd, *]; done))
