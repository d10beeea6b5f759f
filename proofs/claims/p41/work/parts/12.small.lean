noncomputable def jI (P : Prop) (a b : Int32) : Int32 := @ite Int32 P (Classical.propDecidable P) a b
theorem jI_t {P : Prop} {a b : Int32} (h : P) : jI P a b = a := @if_pos P (Classical.propDecidable P) h Int32 a b
theorem jI_f {P : Prop} {a b : Int32} (h : ¬ P) : jI P a b = b := @if_neg P (Classical.propDecidable P) h Int32 a b
/-! fresh conditions -/
def gE (ch lv hy ri : Int32) : Nat → Int32 := fun i => match i with | 0 => ch | 1 => lv | 2 => hy | 3 => ri | _ => 0
def gW (ch lv le mo hi : Int32) : Nat → Int32 := fun i => match i with | 0 => ch | 1 => lv | 2 => le | 3 => mo | 4 => hi | _ => 0
def gR (ch lo hi : Int32) : Nat → Int32 := fun i => match i with | 0 => ch | 1 => lo | 2 => hi | _ => 0
def gS (a b sp : Int32) : Nat → Int32 := fun i => match i with | 0 => a | 1 => b | 2 => sp | _ => 0
def cNew (ci : Nat) (G : Nat → Int32) : Nat → Int32 := match ci with
  | 1 => gE (G 0) (G 1) (G 2) (G 3)
  | 6 => gR (G 0) (G 1) (G 2)
  | 7 => gS (G 0) (G 1) (G 2)
  | _ => gW (G 0) (G 1) (G 2) (G 3) (G 4)
/-! the number of what is thrown, 0 for none -/
noncomputable def eEdge (ch lv hy : Int32) : Int32 := jI (jin ch 0 1 ∧ jin lv (-128) 127 ∧ jin hy 0 100) 0 1
noncomputable def eWidth (ch lv le mo : Int32) : Int32 := jI (jin ch 0 1 ∧ jin lv (-128) 127 ∧ jin le 1 100 ∧ jin mo le 100) 0 1
noncomputable def eRunt (ch lo hi : Int32) : Int32 := jI (jin ch 0 1 ∧ jin lo (-128) 127 ∧ jin hi lo 127) 0 1
noncomputable def eSeq (a b sp : Int32) : Int32 := jI (jin a (-128) 127 ∧ jin b (-128) 127 ∧ jin sp 0 100) 0 1
noncomputable def eLen (a b ar : Int32) : Int32 := jI (jin a 0 16 ∧ jin b 0 32) (if ar = 0 then 0 else 2) 1
noncomputable def eHold (a : Int32) : Int32 := jI (jin a 0 1000) 0 1
noncomputable def eRec (n x : Int32) : Int32 := jI (jrec n x) 0 1
noncomputable def eMask (a b lo hi : Int32) : Int32 := jI (jin a 0 48 ∧ jin b a 48 ∧ jin lo (-128) 127 ∧ jin hi lo 127) 0 1
noncomputable def ePutC (ch pt : Int32) : Int32 := jI (jin ch 0 1) (if pt < 16 then 0 else 2) 1
noncomputable def ePutK (v pt : Int32) : Int32 := jI (jin v (-1000) 1000) (if pt < 16 then 0 else 2) 1
noncomputable def eApply (o pt ht : Int32) : Int32 := jI (jin o 0 3) (if pt < 16 then (if 1 ≤ ht then 0 else 2) else 2) 1
noncomputable def eComb (o pt ht : Int32) : Int32 := jI (jin o 0 4) (if pt < 16 then (if 2 ≤ ht then 0 else 2) else 2) 1
set_option maxHeartbeats 8000000 in
set_option maxRecDepth 100000 in
theorem k_X1_init (l : Launch) (t : Nat → ClassId) (hfl : l.stackTraces = false) (h0 : Nat) : jKx l t yX1_init (Cond.code yX1_init cX1_init 1 none :: jWS) { frames := 1, cells := 0, slots := 0, locals := 12 } [.ref h0] [] (fun vv uu => (vv = none ∧ uu = [])) (fun _ _ => False) := by
  refine jK_of hfl (by decide +kernel) (Nat.le_of_ble_eq_true rfl) ?_
  intro p e s m args below meth c D A Q CC MM
  refine jr_norm0 [(0, .ref h0)] rfl ?_
  refine jr_aload_n CC (jd ddX1_init 0 rfl) 0 rfl ?_
  refine jr_objInit CC (jd ddX1_init 1 rfl) (joi_X1 CC.2.2.2.2.1) (by decide) (Nat.le_of_ble_eq_true rfl) ?_
  exact jr_vret CC MM (jd ddX1_init 2 rfl) rfl (by decide) (by decide) ⟨rfl, rfl⟩
set_option maxHeartbeats 8000000 in
set_option maxRecDepth 100000 in
theorem k_X2_init (l : Launch) (t : Nat → ClassId) (hfl : l.stackTraces = false) (h0 : Nat) (ch : Int32) (lv : Int32) (hy : Int32) (ri : Int32) (hri : ri = 0 ∨ ri = 1) : jKx l t yX2_init (Cond.code yX2_init cX2_init 5 none :: jWS) { frames := 2, cells := 0, slots := 0, locals := 32 } [.ref h0, .int ch, .int lv, .int hy, .int ri] [(h0, .inr (1, [.int 0, .int 0, .int 0, .int 0, .int 0]))] (fun vv uu => (vv = none ∧ uu = [(h0, .inr (1, jcond 1 (gE ch lv hy ri)))])) (fun _ _ => False) := by
  refine jK_of hfl (by decide +kernel) (Nat.le_of_ble_eq_true rfl) ?_
  intro p e s m args below meth c D A Q CC MM
  refine jr_norm0 [(0, .ref h0), (1, .int ch), (2, .int lv), (3, .int hy), (4, .int ri)] rfl ?_
  refine jr_aload_n CC (jd ddX2_init 0 rfl) 0 rfl ?_
  refine jr_callIN (rest := []) [] CC (jd ddX2_init 1 rfl) (jy_X2_1 CC) (k_X1_init l t hfl h0) [] rfl (by decide) rfl rfl (by decide) (Nat.le_of_ble_eq_true rfl) (by rintro v u h; rcases h with ⟨rfl, rfl⟩ <;> rfl) (fun _ _ h => h.elim) (fun _ _ h => h.elim) (fun v u h => ?_)
  rcases h with ⟨rfl, rfl⟩
  refine jr_norm [(h0, .inr (1, [.int 0, .int 0, .int 0, .int 0, .int 0]))] [] 4 0 0 rfl rfl rfl rfl rfl ?_
  refine jr_aload_n CC (jd ddX2_init 2 rfl) 0 rfl ?_
  refine jr_iload_n CC (jd ddX2_init 3 rfl) 1 rfl ?_
  refine jr_putF CC MM.2.2.2.2.2 (jd ddX2_init 4 rfl) (jff_X2_7 CC) 0 rfl rfl rfl (Nat.le_of_ble_eq_true rfl) ?_
  refine jr_aload_n CC (jd ddX2_init 5 rfl) 0 rfl ?_
  refine jr_iload_n CC (jd ddX2_init 6 rfl) 2 rfl ?_
  refine jr_putF CC MM.2.2.2.2.2 (jd ddX2_init 7 rfl) (jff_X2_13 CC) 0 rfl rfl rfl (Nat.le_of_ble_eq_true rfl) ?_
  refine jr_aload_n CC (jd ddX2_init 8 rfl) 0 rfl ?_
  refine jr_iload_n CC (jd ddX2_init 9 rfl) 3 rfl ?_
  refine jr_putF CC MM.2.2.2.2.2 (jd ddX2_init 10 rfl) (jff_X2_16 CC) 0 rfl rfl rfl (Nat.le_of_ble_eq_true rfl) ?_
  refine jr_aload_n CC (jd ddX2_init 11 rfl) 0 rfl ?_
  refine jr_pc (pc' := 20) rfl ?_
  refine jr_iload CC (jd ddX2_init 12 rfl) 4 rfl ?_
  refine jr_putF CC MM.2.2.2.2.2 (jd ddX2_init 13 rfl) (jff_X2_19 CC) 0 rfl (jb01n hri) (jb01f hri) (Nat.le_of_ble_eq_true rfl) ?_
  exact jr_vret CC MM (jd ddX2_init 14 rfl) rfl (by decide) (by decide) ⟨rfl, rfl⟩
set_option maxHeartbeats 8000000 in
set_option maxRecDepth 100000 in
theorem k_X9_init (l : Launch) (t : Nat → ClassId) (hfl : l.stackTraces = false) (h0 : Nat) (ch : Int32) (lv : Int32) (le : Int32) (mo : Int32) (hi : Int32) (hhi : hi = 0 ∨ hi = 1) : jKx l t yX9_init (Cond.code yX9_init cX9_init 6 none :: jWS) { frames := 2, cells := 0, slots := 0, locals := 32 } [.ref h0, .int ch, .int lv, .int le, .int mo, .int hi] [(h0, .inr (8, [.int 0, .int 0, .int 0, .int 0, .int 0, .int 0, .int 0]))] (fun vv uu => (vv = none ∧ uu = [(h0, .inr (8, jcond 8 (gW ch lv le mo hi)))])) (fun _ _ => False) := by
  refine jK_of hfl (by decide +kernel) (Nat.le_of_ble_eq_true rfl) ?_
  intro p e s m args below meth c D A Q CC MM
  refine jr_norm0 [(0, .ref h0), (1, .int ch), (2, .int lv), (3, .int le), (4, .int mo), (5, .int hi)] rfl ?_
  refine jr_aload_n CC (jd ddX9_init 0 rfl) 0 rfl ?_
  refine jr_callIN (rest := []) [] CC (jd ddX9_init 1 rfl) (jy_X9_1 CC) (k_X1_init l t hfl h0) [] rfl (by decide) rfl rfl (by decide) (Nat.le_of_ble_eq_true rfl) (by rintro v u h; rcases h with ⟨rfl, rfl⟩ <;> rfl) (fun _ _ h => h.elim) (fun _ _ h => h.elim) (fun v u h => ?_)
  rcases h with ⟨rfl, rfl⟩
  refine jr_norm [(h0, .inr (8, [.int 0, .int 0, .int 0, .int 0, .int 0, .int 0, .int 0]))] [] 4 0 0 rfl rfl rfl rfl rfl ?_
  refine jr_aload_n CC (jd ddX9_init 2 rfl) 0 rfl ?_
  refine jr_iload_n CC (jd ddX9_init 3 rfl) 1 rfl ?_
  refine jr_putF CC MM.2.2.2.2.2 (jd ddX9_init 4 rfl) (jff_X9_7 CC) 0 rfl rfl rfl (Nat.le_of_ble_eq_true rfl) ?_
  refine jr_aload_n CC (jd ddX9_init 5 rfl) 0 rfl ?_
  refine jr_iload_n CC (jd ddX9_init 6 rfl) 2 rfl ?_
  refine jr_putF CC MM.2.2.2.2.2 (jd ddX9_init 7 rfl) (jff_X9_13 CC) 0 rfl rfl rfl (Nat.le_of_ble_eq_true rfl) ?_
  refine jr_aload_n CC (jd ddX9_init 8 rfl) 0 rfl ?_
  refine jr_iload_n CC (jd ddX9_init 9 rfl) 3 rfl ?_
  refine jr_putF CC MM.2.2.2.2.2 (jd ddX9_init 10 rfl) (jff_X9_16 CC) 0 rfl rfl rfl (Nat.le_of_ble_eq_true rfl) ?_
  refine jr_aload_n CC (jd ddX9_init 11 rfl) 0 rfl ?_
  refine jr_pc (pc' := 20) rfl ?_
  refine jr_iload CC (jd ddX9_init 12 rfl) 4 rfl ?_
  refine jr_putF CC MM.2.2.2.2.2 (jd ddX9_init 13 rfl) (jff_X9_19 CC) 0 rfl rfl rfl (Nat.le_of_ble_eq_true rfl) ?_
  refine jr_aload_n CC (jd ddX9_init 14 rfl) 0 rfl ?_
  refine jr_iload CC (jd ddX9_init 15 rfl) 5 rfl ?_
  refine jr_putF CC MM.2.2.2.2.2 (jd ddX9_init 16 rfl) (jff_X9_22 CC) 0 rfl (jb01n hhi) (jb01f hhi) (Nat.le_of_ble_eq_true rfl) ?_
  exact jr_vret CC MM (jd ddX9_init 17 rfl) rfl (by decide) (by decide) ⟨rfl, rfl⟩
set_option maxHeartbeats 8000000 in
set_option maxRecDepth 100000 in
theorem k_X7_init (l : Launch) (t : Nat → ClassId) (hfl : l.stackTraces = false) (h0 : Nat) (ch : Int32) (lo : Int32) (hi : Int32) : jKx l t yX7_init (Cond.code yX7_init cX7_init 4 none :: jWS) { frames := 2, cells := 0, slots := 0, locals := 32 } [.ref h0, .int ch, .int lo, .int hi] [(h0, .inr (6, [.int 0, .int 0, .int 0, .int 0, .int 0, .int 0]))] (fun vv uu => (vv = none ∧ uu = [(h0, .inr (6, jcond 6 (gR ch lo hi)))])) (fun _ _ => False) := by
  refine jK_of hfl (by decide +kernel) (Nat.le_of_ble_eq_true rfl) ?_
  intro p e s m args below meth c D A Q CC MM
  refine jr_norm0 [(0, .ref h0), (1, .int ch), (2, .int lo), (3, .int hi)] rfl ?_
  refine jr_aload_n CC (jd ddX7_init 0 rfl) 0 rfl ?_
  refine jr_callIN (rest := []) [] CC (jd ddX7_init 1 rfl) (jy_X7_1 CC) (k_X1_init l t hfl h0) [] rfl (by decide) rfl rfl (by decide) (Nat.le_of_ble_eq_true rfl) (by rintro v u h; rcases h with ⟨rfl, rfl⟩ <;> rfl) (fun _ _ h => h.elim) (fun _ _ h => h.elim) (fun v u h => ?_)
  rcases h with ⟨rfl, rfl⟩
  refine jr_norm [(h0, .inr (6, [.int 0, .int 0, .int 0, .int 0, .int 0, .int 0]))] [] 4 0 0 rfl rfl rfl rfl rfl ?_
  refine jr_aload_n CC (jd ddX7_init 2 rfl) 0 rfl ?_
  refine jr_iload_n CC (jd ddX7_init 3 rfl) 1 rfl ?_
  refine jr_putF CC MM.2.2.2.2.2 (jd ddX7_init 4 rfl) (jff_X7_7 CC) 0 rfl rfl rfl (Nat.le_of_ble_eq_true rfl) ?_
  refine jr_aload_n CC (jd ddX7_init 5 rfl) 0 rfl ?_
  refine jr_iload_n CC (jd ddX7_init 6 rfl) 2 rfl ?_
  refine jr_putF CC MM.2.2.2.2.2 (jd ddX7_init 7 rfl) (jff_X7_13 CC) 0 rfl rfl rfl (Nat.le_of_ble_eq_true rfl) ?_
  refine jr_aload_n CC (jd ddX7_init 8 rfl) 0 rfl ?_
  refine jr_iload_n CC (jd ddX7_init 9 rfl) 3 rfl ?_
  refine jr_putF CC MM.2.2.2.2.2 (jd ddX7_init 10 rfl) (jff_X7_16 CC) 0 rfl rfl rfl (Nat.le_of_ble_eq_true rfl) ?_
  exact jr_vret CC MM (jd ddX7_init 11 rfl) rfl (by decide) (by decide) ⟨rfl, rfl⟩
set_option maxHeartbeats 8000000 in
set_option maxRecDepth 100000 in
theorem k_X8_init (l : Launch) (t : Nat → ClassId) (hfl : l.stackTraces = false) (h0 : Nat) (a : Int32) (b : Int32) (sp : Int32) : jKx l t yX8_init (Cond.code yX8_init cX8_init 4 none :: jWS) { frames := 2, cells := 0, slots := 0, locals := 32 } [.ref h0, .int a, .int b, .int sp] [(h0, .inr (7, [.int 0, .int 0, .int 0, .int 0, .int 0, .int 0, .int 0, .int 0]))] (fun vv uu => (vv = none ∧ uu = [(h0, .inr (7, jcond 7 (gS a b sp)))])) (fun _ _ => False) := by
  refine jK_of hfl (by decide +kernel) (Nat.le_of_ble_eq_true rfl) ?_
  intro p e s m args below meth c D A Q CC MM
  refine jr_norm0 [(0, .ref h0), (1, .int a), (2, .int b), (3, .int sp)] rfl ?_
  refine jr_aload_n CC (jd ddX8_init 0 rfl) 0 rfl ?_
  refine jr_callIN (rest := []) [] CC (jd ddX8_init 1 rfl) (jy_X8_1 CC) (k_X1_init l t hfl h0) [] rfl (by decide) rfl rfl (by decide) (Nat.le_of_ble_eq_true rfl) (by rintro v u h; rcases h with ⟨rfl, rfl⟩ <;> rfl) (fun _ _ h => h.elim) (fun _ _ h => h.elim) (fun v u h => ?_)
  rcases h with ⟨rfl, rfl⟩
  refine jr_norm [(h0, .inr (7, [.int 0, .int 0, .int 0, .int 0, .int 0, .int 0, .int 0, .int 0]))] [] 4 0 0 rfl rfl rfl rfl rfl ?_
  refine jr_aload_n CC (jd ddX8_init 2 rfl) 0 rfl ?_
  refine jr_iload_n CC (jd ddX8_init 3 rfl) 1 rfl ?_
  refine jr_putF CC MM.2.2.2.2.2 (jd ddX8_init 4 rfl) (jff_X8_7 CC) 0 rfl rfl rfl (Nat.le_of_ble_eq_true rfl) ?_
  refine jr_aload_n CC (jd ddX8_init 5 rfl) 0 rfl ?_
  refine jr_iload_n CC (jd ddX8_init 6 rfl) 2 rfl ?_
  refine jr_putF CC MM.2.2.2.2.2 (jd ddX8_init 7 rfl) (jff_X8_13 CC) 0 rfl rfl rfl (Nat.le_of_ble_eq_true rfl) ?_
  refine jr_aload_n CC (jd ddX8_init 8 rfl) 0 rfl ?_
  refine jr_iload_n CC (jd ddX8_init 9 rfl) 3 rfl ?_
  refine jr_putF CC MM.2.2.2.2.2 (jd ddX8_init 10 rfl) (jff_X8_16 CC) 0 rfl rfl rfl (Nat.le_of_ble_eq_true rfl) ?_
  exact jr_vret CC MM (jd ddX8_init 11 rfl) rfl (by decide) (by decide) ⟨rfl, rfl⟩
set_option maxHeartbeats 8000000 in
set_option maxRecDepth 100000 in
theorem k_X10_setEdge (l : Launch) (t : Nat → ClassId) (hfl : l.stackTraces = false) (h0 : Nat) (x1 : Nat) (x2 : Nat) (x3 : Nat) (x4 : Nat) (x5 : Nat) (x6 : Nat) (fi : Int32) (ch : Int32) (lv : Int32) (hy : Int32) (ri : Int32) (hri : ri = 0 ∨ ri = 1) : jKx l t yX10_setEdge (Cond.code yX10_setEdge cX10_setEdge 5 none :: jWS) { frames := 8, cells := 4, slots := 23, locals := 124 } [.ref h0, .int ch, .int lv, .int hy, .int ri] [(h0, .inr (9, [.ref x1, .ref x2, .ref x3, .ref x4, .ref x5, .ref x6, .int fi]))] (fun vv uu => (∃ q9 : Nat, ((eEdge ch lv hy) = 0) ∧ vv = none ∧ uu = [(h0, .inr (9, [.ref x1, .ref x2, .ref x3, .ref x4, .ref x5, .ref q9, .int fi])), (q9, .inr (1, jcond 1 (gE ch lv hy ri)))])) (fun EE uu => (((eEdge ch lv hy) = 1) ∧ EE = "java/lang/IllegalArgumentException" ∧ uu = [(h0, .inr (9, [.ref x1, .ref x2, .ref x3, .ref x4, .ref x5, .ref x6, .int fi]))])) := by
  refine jK_of hfl (by decide +kernel) (Nat.le_of_ble_eq_true rfl) ?_
  intro p e s m args below meth c D A Q CC MM
  refine jr_norm0 [(0, .ref h0), (1, .int ch), (2, .int lv), (3, .int hy), (4, .int ri)] rfl ?_
  refine jr_iload_n CC (jd ddX10_setEdge 0 rfl) 1 rfl ?_
  refine jr_callS (rest := []) [.int ch] CC (jd ddX10_setEdge 1 rfl) (jy_X10_50 CC) (k_X10_checkChannel l t hfl ch) [] rfl (by decide) rfl rfl (by decide) (Nat.le_of_ble_eq_true rfl) (by rintro v u h; rcases h with ⟨h0, rfl, rfl⟩ <;> rfl) (by rintro v u h; rcases h with ⟨h0, rfl, rfl⟩ <;> rfl) (fun E u hx => ?_) (fun v u h => ?_)
  · rcases hx with ⟨c1, rfl, rfl⟩
    exact jr_out CC MM (by decide) (by decide) ⟨by simp [eEdge, jI, c1], rfl, rfl⟩
  · rcases h with ⟨c2, rfl, rfl⟩
    refine jr_norm [(h0, .inr (9, [.ref x1, .ref x2, .ref x3, .ref x4, .ref x5, .ref x6, .int fi]))] [] 4 1 6 rfl rfl rfl rfl rfl ?_
    refine jr_iload_n CC (jd ddX10_setEdge 2 rfl) 2 rfl ?_
    refine jr_callS (rest := []) [.int lv] CC (jd ddX10_setEdge 3 rfl) (jy_X10_54 CC) (k_X10_checkValue l t hfl lv) [] rfl (by decide) rfl rfl (by decide) (Nat.le_of_ble_eq_true rfl) (by rintro v u h; rcases h with ⟨h0, rfl, rfl⟩ <;> rfl) (by rintro v u h; rcases h with ⟨h0, rfl, rfl⟩ <;> rfl) (fun E u hx => ?_) (fun v u h => ?_)
    · rcases hx with ⟨c3, rfl, rfl⟩
      exact jr_out CC MM (by decide) (by decide) ⟨by simp [eEdge, jI, c2, c3], rfl, rfl⟩
    · rcases h with ⟨c4, rfl, rfl⟩
      refine jr_norm [(h0, .inr (9, [.ref x1, .ref x2, .ref x3, .ref x4, .ref x5, .ref x6, .int fi]))] [] 8 2 12 rfl rfl rfl rfl rfl ?_
      refine jr_iload_n CC (jd ddX10_setEdge 4 rfl) 3 rfl ?_
      refine jr_iconst (v := 0) CC (jd ddX10_setEdge 5 rfl) (by decide) ?_
      refine jr_bipush (v := 100) CC (jd ddX10_setEdge 6 rfl) (by decide) ?_
      refine jr_callS (rest := []) [.int hy, .int 0, .int 100] CC (jd ddX10_setEdge 7 rfl) (jy_X10_57 CC) (k_X10_checkRange l t hfl hy 0 100) [] rfl (by decide) rfl rfl (by decide) (Nat.le_of_ble_eq_true rfl) (by rintro v u h; rcases h with ⟨h0, rfl, rfl⟩ <;> rfl) (by rintro v u h; rcases h with ⟨h0, rfl, rfl⟩ <;> rfl) (fun E u hx => ?_) (fun v u h => ?_)
      · rcases hx with ⟨c5, rfl, rfl⟩
        exact jr_out CC MM (by decide) (by decide) ⟨by simp [eEdge, jI, c2, c4, c5], rfl, rfl⟩
      · rcases h with ⟨c6, rfl, rfl⟩
        refine jr_norm [(h0, .inr (9, [.ref x1, .ref x2, .ref x3, .ref x4, .ref x5, .ref x6, .int fi]))] [] 15 3 18 rfl rfl rfl rfl rfl ?_
        refine jr_aload_n CC (jd ddX10_setEdge 8 rfl) 0 rfl ?_
        refine jr_new [.int 0, .int 0, .int 0, .int 0, .int 0] CC (jd ddX10_setEdge 9 rfl) (jn_X10_41 CC) (by intro j hj; match j, hj with | 0, _ => rfl | 1, _ => rfl | 2, _ => rfl | 3, _ => rfl | 4, _ => rfl) (by decide) (by decide) (fun q7 => ?_)
        refine jr_dup CC (jd ddX10_setEdge 10 rfl) rfl ?_
        refine jr_iload_n CC (jd ddX10_setEdge 11 rfl) 1 rfl ?_
        refine jr_iload_n CC (jd ddX10_setEdge 12 rfl) 2 rfl ?_
        refine jr_iload_n CC (jd ddX10_setEdge 13 rfl) 3 rfl ?_
        refine jr_iload CC (jd ddX10_setEdge 14 rfl) 4 rfl ?_
        refine jr_callI (rest := [.ref q7, .ref h0]) [.int ch, .int lv, .int hy, .int ri] CC (jd ddX10_setEdge 15 rfl) (jy_X10_43 CC) (k_X2_init l t hfl q7 ch lv hy ri hri) [1] rfl (by decide) rfl rfl (by decide) (Nat.le_of_ble_eq_true rfl) (by rintro v u h; rcases h with ⟨rfl, rfl⟩ <;> rfl) (fun _ _ h => h.elim) (fun _ _ h => h.elim) (fun v u h => ?_)
        rcases h with ⟨rfl, rfl⟩
        refine jr_norm [(h0, .inr (9, [.ref x1, .ref x2, .ref x3, .ref x4, .ref x5, .ref x6, .int fi])), (q7, .inr (1, jcond 1 (gE ch lv hy ri)))] [.ref q7, .ref h0] 28 4 23 rfl rfl rfl rfl rfl ?_
        refine jr_put CC (jd ddX10_setEdge 16 rfl) (jf_X10_46 CC) 0 rfl rfl rfl (Nat.le_of_ble_eq_true rfl) ?_
        exact jr_vret CC MM (jd ddX10_setEdge 17 rfl) rfl (by decide) (by decide) ⟨q7, by simp [eEdge, jI, c2, c4, c6], rfl, rfl⟩
set_option maxHeartbeats 8000000 in
set_option maxRecDepth 100000 in
theorem k_X10_setWidth (l : Launch) (t : Nat → ClassId) (hfl : l.stackTraces = false) (h0 : Nat) (x1 : Nat) (x2 : Nat) (x3 : Nat) (x4 : Nat) (x5 : Nat) (x6 : Nat) (fi : Int32) (ch : Int32) (lv : Int32) (le : Int32) (mo : Int32) (hi : Int32) (hhi : hi = 0 ∨ hi = 1) : jKx l t yX10_setWidth (Cond.code yX10_setWidth cX10_setWidth 6 none :: jWS) { frames := 8, cells := 5, slots := 31, locals := 124 } [.ref h0, .int ch, .int lv, .int le, .int mo, .int hi] [(h0, .inr (9, [.ref x1, .ref x2, .ref x3, .ref x4, .ref x5, .ref x6, .int fi]))] (fun vv uu => (∃ q9 : Nat, ((eWidth ch lv le mo) = 0) ∧ vv = none ∧ uu = [(h0, .inr (9, [.ref x1, .ref x2, .ref x3, .ref x4, .ref x5, .ref q9, .int fi])), (q9, .inr (8, jcond 8 (gW ch lv le mo hi)))])) (fun EE uu => (((eWidth ch lv le mo) = 1) ∧ EE = "java/lang/IllegalArgumentException" ∧ uu = [(h0, .inr (9, [.ref x1, .ref x2, .ref x3, .ref x4, .ref x5, .ref x6, .int fi]))])) := by
  refine jK_of hfl (by decide +kernel) (Nat.le_of_ble_eq_true rfl) ?_
  intro p e s m args below meth c D A Q CC MM
  refine jr_norm0 [(0, .ref h0), (1, .int ch), (2, .int lv), (3, .int le), (4, .int mo), (5, .int hi)] rfl ?_
  refine jr_iload_n CC (jd ddX10_setWidth 0 rfl) 1 rfl ?_
  refine jr_callS (rest := []) [.int ch] CC (jd ddX10_setWidth 1 rfl) (jy_X10_50 CC) (k_X10_checkChannel l t hfl ch) [] rfl (by decide) rfl rfl (by decide) (Nat.le_of_ble_eq_true rfl) (by rintro v u h; rcases h with ⟨h0, rfl, rfl⟩ <;> rfl) (by rintro v u h; rcases h with ⟨h0, rfl, rfl⟩ <;> rfl) (fun E u hx => ?_) (fun v u h => ?_)
  · rcases hx with ⟨c1, rfl, rfl⟩
    exact jr_out CC MM (by decide) (by decide) ⟨by simp [eWidth, jI, c1], rfl, rfl⟩
  · rcases h with ⟨c2, rfl, rfl⟩
    refine jr_norm [(h0, .inr (9, [.ref x1, .ref x2, .ref x3, .ref x4, .ref x5, .ref x6, .int fi]))] [] 4 1 6 rfl rfl rfl rfl rfl ?_
    refine jr_iload_n CC (jd ddX10_setWidth 2 rfl) 2 rfl ?_
    refine jr_callS (rest := []) [.int lv] CC (jd ddX10_setWidth 3 rfl) (jy_X10_54 CC) (k_X10_checkValue l t hfl lv) [] rfl (by decide) rfl rfl (by decide) (Nat.le_of_ble_eq_true rfl) (by rintro v u h; rcases h with ⟨h0, rfl, rfl⟩ <;> rfl) (by rintro v u h; rcases h with ⟨h0, rfl, rfl⟩ <;> rfl) (fun E u hx => ?_) (fun v u h => ?_)
    · rcases hx with ⟨c3, rfl, rfl⟩
      exact jr_out CC MM (by decide) (by decide) ⟨by simp [eWidth, jI, c2, c3], rfl, rfl⟩
    · rcases h with ⟨c4, rfl, rfl⟩
      refine jr_norm [(h0, .inr (9, [.ref x1, .ref x2, .ref x3, .ref x4, .ref x5, .ref x6, .int fi]))] [] 8 2 12 rfl rfl rfl rfl rfl ?_
      refine jr_iload_n CC (jd ddX10_setWidth 4 rfl) 3 rfl ?_
      refine jr_iconst (v := 1) CC (jd ddX10_setWidth 5 rfl) (by decide) ?_
      refine jr_bipush (v := 100) CC (jd ddX10_setWidth 6 rfl) (by decide) ?_
      refine jr_callS (rest := []) [.int le, .int 1, .int 100] CC (jd ddX10_setWidth 7 rfl) (jy_X10_57 CC) (k_X10_checkRange l t hfl le 1 100) [] rfl (by decide) rfl rfl (by decide) (Nat.le_of_ble_eq_true rfl) (by rintro v u h; rcases h with ⟨h0, rfl, rfl⟩ <;> rfl) (by rintro v u h; rcases h with ⟨h0, rfl, rfl⟩ <;> rfl) (fun E u hx => ?_) (fun v u h => ?_)
      · rcases hx with ⟨c5, rfl, rfl⟩
        exact jr_out CC MM (by decide) (by decide) ⟨by simp [eWidth, jI, c2, c4, c5], rfl, rfl⟩
      · rcases h with ⟨c6, rfl, rfl⟩
        refine jr_norm [(h0, .inr (9, [.ref x1, .ref x2, .ref x3, .ref x4, .ref x5, .ref x6, .int fi]))] [] 15 3 18 rfl rfl rfl rfl rfl ?_
        refine jr_iload CC (jd ddX10_setWidth 8 rfl) 4 rfl ?_
        refine jr_iload_n CC (jd ddX10_setWidth 9 rfl) 3 rfl ?_
        refine jr_bipush (v := 100) CC (jd ddX10_setWidth 10 rfl) (by decide) ?_
        refine jr_callS (rest := []) [.int mo, .int le, .int 100] CC (jd ddX10_setWidth 11 rfl) (jy_X10_57 CC) (k_X10_checkRange l t hfl mo le 100) [] rfl (by decide) rfl rfl (by decide) (Nat.le_of_ble_eq_true rfl) (by rintro v u h; rcases h with ⟨h0, rfl, rfl⟩ <;> rfl) (by rintro v u h; rcases h with ⟨h0, rfl, rfl⟩ <;> rfl) (fun E u hx => ?_) (fun v u h => ?_)
        · rcases hx with ⟨c7, rfl, rfl⟩
          exact jr_out CC MM (by decide) (by decide) ⟨by simp [eWidth, jI, c2, c4, c6, c7], rfl, rfl⟩
        · rcases h with ⟨c8, rfl, rfl⟩
          refine jr_norm [(h0, .inr (9, [.ref x1, .ref x2, .ref x3, .ref x4, .ref x5, .ref x6, .int fi]))] [] 23 4 24 rfl rfl rfl rfl rfl ?_
          refine jr_aload_n CC (jd ddX10_setWidth 12 rfl) 0 rfl ?_
          refine jr_new [.int 0, .int 0, .int 0, .int 0, .int 0, .int 0, .int 0] CC (jd ddX10_setWidth 13 rfl) (jn_X10_61 CC) (by intro j hj; match j, hj with | 0, _ => rfl | 1, _ => rfl | 2, _ => rfl | 3, _ => rfl | 4, _ => rfl | 5, _ => rfl | 6, _ => rfl) (by decide) (by decide) (fun q9 => ?_)
          refine jr_dup CC (jd ddX10_setWidth 14 rfl) rfl ?_
          refine jr_iload_n CC (jd ddX10_setWidth 15 rfl) 1 rfl ?_
          refine jr_iload_n CC (jd ddX10_setWidth 16 rfl) 2 rfl ?_
          refine jr_iload_n CC (jd ddX10_setWidth 17 rfl) 3 rfl ?_
          refine jr_iload CC (jd ddX10_setWidth 18 rfl) 4 rfl ?_
          refine jr_iload CC (jd ddX10_setWidth 19 rfl) 5 rfl ?_
          refine jr_callI (rest := [.ref q9, .ref h0]) [.int ch, .int lv, .int le, .int mo, .int hi] CC (jd ddX10_setWidth 20 rfl) (jy_X10_63 CC) (k_X9_init l t hfl q9 ch lv le mo hi hhi) [1] rfl (by decide) rfl rfl (by decide) (Nat.le_of_ble_eq_true rfl) (by rintro v u h; rcases h with ⟨rfl, rfl⟩ <;> rfl) (fun _ _ h => h.elim) (fun _ _ h => h.elim) (fun v u h => ?_)
          rcases h with ⟨rfl, rfl⟩
          refine jr_norm [(h0, .inr (9, [.ref x1, .ref x2, .ref x3, .ref x4, .ref x5, .ref x6, .int fi])), (q9, .inr (8, jcond 8 (gW ch lv le mo hi)))] [.ref q9, .ref h0] 38 5 31 rfl rfl rfl rfl rfl ?_
          refine jr_put CC (jd ddX10_setWidth 21 rfl) (jf_X10_46 CC) 0 rfl rfl rfl (Nat.le_of_ble_eq_true rfl) ?_
          exact jr_vret CC MM (jd ddX10_setWidth 22 rfl) rfl (by decide) (by decide) ⟨q9, by simp [eWidth, jI, c2, c4, c6, c8], rfl, rfl⟩
set_option maxHeartbeats 8000000 in
set_option maxRecDepth 100000 in
theorem k_X10_setRunt (l : Launch) (t : Nat → ClassId) (hfl : l.stackTraces = false) (h0 : Nat) (x1 : Nat) (x2 : Nat) (x3 : Nat) (x4 : Nat) (x5 : Nat) (x6 : Nat) (fi : Int32) (ch : Int32) (lo : Int32) (hi : Int32) : jKx l t yX10_setRunt (Cond.code yX10_setRunt cX10_setRunt 4 none :: jWS) { frames := 8, cells := 4, slots := 24, locals := 124 } [.ref h0, .int ch, .int lo, .int hi] [(h0, .inr (9, [.ref x1, .ref x2, .ref x3, .ref x4, .ref x5, .ref x6, .int fi]))] (fun vv uu => (∃ q9 : Nat, ((eRunt ch lo hi) = 0) ∧ vv = none ∧ uu = [(h0, .inr (9, [.ref x1, .ref x2, .ref x3, .ref x4, .ref x5, .ref q9, .int fi])), (q9, .inr (6, jcond 6 (gR ch lo hi)))])) (fun EE uu => (((eRunt ch lo hi) = 1) ∧ EE = "java/lang/IllegalArgumentException" ∧ uu = [(h0, .inr (9, [.ref x1, .ref x2, .ref x3, .ref x4, .ref x5, .ref x6, .int fi]))])) := by
  refine jK_of hfl (by decide +kernel) (Nat.le_of_ble_eq_true rfl) ?_
  intro p e s m args below meth c D A Q CC MM
  refine jr_norm0 [(0, .ref h0), (1, .int ch), (2, .int lo), (3, .int hi)] rfl ?_
  refine jr_iload_n CC (jd ddX10_setRunt 0 rfl) 1 rfl ?_
  refine jr_callS (rest := []) [.int ch] CC (jd ddX10_setRunt 1 rfl) (jy_X10_50 CC) (k_X10_checkChannel l t hfl ch) [] rfl (by decide) rfl rfl (by decide) (Nat.le_of_ble_eq_true rfl) (by rintro v u h; rcases h with ⟨h0, rfl, rfl⟩ <;> rfl) (by rintro v u h; rcases h with ⟨h0, rfl, rfl⟩ <;> rfl) (fun E u hx => ?_) (fun v u h => ?_)
  · rcases hx with ⟨c1, rfl, rfl⟩
    exact jr_out CC MM (by decide) (by decide) ⟨by simp [eRunt, jI, c1], rfl, rfl⟩
  · rcases h with ⟨c2, rfl, rfl⟩
    refine jr_norm [(h0, .inr (9, [.ref x1, .ref x2, .ref x3, .ref x4, .ref x5, .ref x6, .int fi]))] [] 4 1 6 rfl rfl rfl rfl rfl ?_
    refine jr_iload_n CC (jd ddX10_setRunt 2 rfl) 2 rfl ?_
    refine jr_callS (rest := []) [.int lo] CC (jd ddX10_setRunt 3 rfl) (jy_X10_54 CC) (k_X10_checkValue l t hfl lo) [] rfl (by decide) rfl rfl (by decide) (Nat.le_of_ble_eq_true rfl) (by rintro v u h; rcases h with ⟨h0, rfl, rfl⟩ <;> rfl) (by rintro v u h; rcases h with ⟨h0, rfl, rfl⟩ <;> rfl) (fun E u hx => ?_) (fun v u h => ?_)
    · rcases hx with ⟨c3, rfl, rfl⟩
      exact jr_out CC MM (by decide) (by decide) ⟨by simp [eRunt, jI, c2, c3], rfl, rfl⟩
    · rcases h with ⟨c4, rfl, rfl⟩
      refine jr_norm [(h0, .inr (9, [.ref x1, .ref x2, .ref x3, .ref x4, .ref x5, .ref x6, .int fi]))] [] 8 2 12 rfl rfl rfl rfl rfl ?_
      refine jr_iload_n CC (jd ddX10_setRunt 4 rfl) 3 rfl ?_
      refine jr_iload_n CC (jd ddX10_setRunt 5 rfl) 2 rfl ?_
      refine jr_bipush (v := 127) CC (jd ddX10_setRunt 6 rfl) (by decide) ?_
      refine jr_callS (rest := []) [.int hi, .int lo, .int 127] CC (jd ddX10_setRunt 7 rfl) (jy_X10_57 CC) (k_X10_checkRange l t hfl hi lo 127) [] rfl (by decide) rfl rfl (by decide) (Nat.le_of_ble_eq_true rfl) (by rintro v u h; rcases h with ⟨h0, rfl, rfl⟩ <;> rfl) (by rintro v u h; rcases h with ⟨h0, rfl, rfl⟩ <;> rfl) (fun E u hx => ?_) (fun v u h => ?_)
      · rcases hx with ⟨c5, rfl, rfl⟩
        exact jr_out CC MM (by decide) (by decide) ⟨by simp [eRunt, jI, c2, c4, c5], rfl, rfl⟩
      · rcases h with ⟨c6, rfl, rfl⟩
        refine jr_norm [(h0, .inr (9, [.ref x1, .ref x2, .ref x3, .ref x4, .ref x5, .ref x6, .int fi]))] [] 15 3 18 rfl rfl rfl rfl rfl ?_
        refine jr_aload_n CC (jd ddX10_setRunt 8 rfl) 0 rfl ?_
        refine jr_new [.int 0, .int 0, .int 0, .int 0, .int 0, .int 0] CC (jd ddX10_setRunt 9 rfl) (jn_X10_66 CC) (by intro j hj; match j, hj with | 0, _ => rfl | 1, _ => rfl | 2, _ => rfl | 3, _ => rfl | 4, _ => rfl | 5, _ => rfl) (by decide) (by decide) (fun q7 => ?_)
        refine jr_dup CC (jd ddX10_setRunt 10 rfl) rfl ?_
        refine jr_iload_n CC (jd ddX10_setRunt 11 rfl) 1 rfl ?_
        refine jr_iload_n CC (jd ddX10_setRunt 12 rfl) 2 rfl ?_
        refine jr_iload_n CC (jd ddX10_setRunt 13 rfl) 3 rfl ?_
        refine jr_callI (rest := [.ref q7, .ref h0]) [.int ch, .int lo, .int hi] CC (jd ddX10_setRunt 14 rfl) (jy_X10_68 CC) (k_X7_init l t hfl q7 ch lo hi) [1] rfl (by decide) rfl rfl (by decide) (Nat.le_of_ble_eq_true rfl) (by rintro v u h; rcases h with ⟨rfl, rfl⟩ <;> rfl) (fun _ _ h => h.elim) (fun _ _ h => h.elim) (fun v u h => ?_)
        rcases h with ⟨rfl, rfl⟩
        refine jr_norm [(h0, .inr (9, [.ref x1, .ref x2, .ref x3, .ref x4, .ref x5, .ref x6, .int fi])), (q7, .inr (6, jcond 6 (gR ch lo hi)))] [.ref q7, .ref h0] 26 4 24 rfl rfl rfl rfl rfl ?_
        refine jr_put CC (jd ddX10_setRunt 15 rfl) (jf_X10_46 CC) 0 rfl rfl rfl (Nat.le_of_ble_eq_true rfl) ?_
        exact jr_vret CC MM (jd ddX10_setRunt 16 rfl) rfl (by decide) (by decide) ⟨q7, by simp [eRunt, jI, c2, c4, c6], rfl, rfl⟩
set_option maxHeartbeats 8000000 in
set_option maxRecDepth 100000 in
theorem k_X10_setSequence (l : Launch) (t : Nat → ClassId) (hfl : l.stackTraces = false) (h0 : Nat) (x1 : Nat) (x2 : Nat) (x3 : Nat) (x4 : Nat) (x5 : Nat) (x6 : Nat) (fi : Int32) (a : Int32) (b : Int32) (sp : Int32) : jKx l t yX10_setSequence (Cond.code yX10_setSequence cX10_setSequence 4 none :: jWS) { frames := 8, cells := 4, slots := 26, locals := 124 } [.ref h0, .int a, .int b, .int sp] [(h0, .inr (9, [.ref x1, .ref x2, .ref x3, .ref x4, .ref x5, .ref x6, .int fi]))] (fun vv uu => (∃ q9 : Nat, ((eSeq a b sp) = 0) ∧ vv = none ∧ uu = [(h0, .inr (9, [.ref x1, .ref x2, .ref x3, .ref x4, .ref x5, .ref q9, .int fi])), (q9, .inr (7, jcond 7 (gS a b sp)))])) (fun EE uu => (((eSeq a b sp) = 1) ∧ EE = "java/lang/IllegalArgumentException" ∧ uu = [(h0, .inr (9, [.ref x1, .ref x2, .ref x3, .ref x4, .ref x5, .ref x6, .int fi]))])) := by
  refine jK_of hfl (by decide +kernel) (Nat.le_of_ble_eq_true rfl) ?_
  intro p e s m args below meth c D A Q CC MM
  refine jr_norm0 [(0, .ref h0), (1, .int a), (2, .int b), (3, .int sp)] rfl ?_
  refine jr_iload_n CC (jd ddX10_setSequence 0 rfl) 1 rfl ?_
  refine jr_callS (rest := []) [.int a] CC (jd ddX10_setSequence 1 rfl) (jy_X10_54 CC) (k_X10_checkValue l t hfl a) [] rfl (by decide) rfl rfl (by decide) (Nat.le_of_ble_eq_true rfl) (by rintro v u h; rcases h with ⟨h0, rfl, rfl⟩ <;> rfl) (by rintro v u h; rcases h with ⟨h0, rfl, rfl⟩ <;> rfl) (fun E u hx => ?_) (fun v u h => ?_)
  · rcases hx with ⟨c1, rfl, rfl⟩
    exact jr_out CC MM (by decide) (by decide) ⟨by simp [eSeq, jI, c1], rfl, rfl⟩
  · rcases h with ⟨c2, rfl, rfl⟩
    refine jr_norm [(h0, .inr (9, [.ref x1, .ref x2, .ref x3, .ref x4, .ref x5, .ref x6, .int fi]))] [] 4 1 6 rfl rfl rfl rfl rfl ?_
    refine jr_iload_n CC (jd ddX10_setSequence 2 rfl) 2 rfl ?_
    refine jr_callS (rest := []) [.int b] CC (jd ddX10_setSequence 3 rfl) (jy_X10_54 CC) (k_X10_checkValue l t hfl b) [] rfl (by decide) rfl rfl (by decide) (Nat.le_of_ble_eq_true rfl) (by rintro v u h; rcases h with ⟨h0, rfl, rfl⟩ <;> rfl) (by rintro v u h; rcases h with ⟨h0, rfl, rfl⟩ <;> rfl) (fun E u hx => ?_) (fun v u h => ?_)
    · rcases hx with ⟨c3, rfl, rfl⟩
      exact jr_out CC MM (by decide) (by decide) ⟨by simp [eSeq, jI, c2, c3], rfl, rfl⟩
    · rcases h with ⟨c4, rfl, rfl⟩
      refine jr_norm [(h0, .inr (9, [.ref x1, .ref x2, .ref x3, .ref x4, .ref x5, .ref x6, .int fi]))] [] 8 2 12 rfl rfl rfl rfl rfl ?_
      refine jr_iload_n CC (jd ddX10_setSequence 4 rfl) 3 rfl ?_
      refine jr_iconst (v := 0) CC (jd ddX10_setSequence 5 rfl) (by decide) ?_
      refine jr_bipush (v := 100) CC (jd ddX10_setSequence 6 rfl) (by decide) ?_
      refine jr_callS (rest := []) [.int sp, .int 0, .int 100] CC (jd ddX10_setSequence 7 rfl) (jy_X10_57 CC) (k_X10_checkRange l t hfl sp 0 100) [] rfl (by decide) rfl rfl (by decide) (Nat.le_of_ble_eq_true rfl) (by rintro v u h; rcases h with ⟨h0, rfl, rfl⟩ <;> rfl) (by rintro v u h; rcases h with ⟨h0, rfl, rfl⟩ <;> rfl) (fun E u hx => ?_) (fun v u h => ?_)
      · rcases hx with ⟨c5, rfl, rfl⟩
        exact jr_out CC MM (by decide) (by decide) ⟨by simp [eSeq, jI, c2, c4, c5], rfl, rfl⟩
      · rcases h with ⟨c6, rfl, rfl⟩
        refine jr_norm [(h0, .inr (9, [.ref x1, .ref x2, .ref x3, .ref x4, .ref x5, .ref x6, .int fi]))] [] 15 3 18 rfl rfl rfl rfl rfl ?_
        refine jr_aload_n CC (jd ddX10_setSequence 8 rfl) 0 rfl ?_
        refine jr_new [.int 0, .int 0, .int 0, .int 0, .int 0, .int 0, .int 0, .int 0] CC (jd ddX10_setSequence 9 rfl) (jn_X10_70 CC) (by intro j hj; match j, hj with | 0, _ => rfl | 1, _ => rfl | 2, _ => rfl | 3, _ => rfl | 4, _ => rfl | 5, _ => rfl | 6, _ => rfl | 7, _ => rfl) (by decide) (by decide) (fun q7 => ?_)
        refine jr_dup CC (jd ddX10_setSequence 10 rfl) rfl ?_
        refine jr_iload_n CC (jd ddX10_setSequence 11 rfl) 1 rfl ?_
        refine jr_iload_n CC (jd ddX10_setSequence 12 rfl) 2 rfl ?_
        refine jr_iload_n CC (jd ddX10_setSequence 13 rfl) 3 rfl ?_
        refine jr_callI (rest := [.ref q7, .ref h0]) [.int a, .int b, .int sp] CC (jd ddX10_setSequence 14 rfl) (jy_X10_72 CC) (k_X8_init l t hfl q7 a b sp) [1] rfl (by decide) rfl rfl (by decide) (Nat.le_of_ble_eq_true rfl) (by rintro v u h; rcases h with ⟨rfl, rfl⟩ <;> rfl) (fun _ _ h => h.elim) (fun _ _ h => h.elim) (fun v u h => ?_)
        rcases h with ⟨rfl, rfl⟩
        refine jr_norm [(h0, .inr (9, [.ref x1, .ref x2, .ref x3, .ref x4, .ref x5, .ref x6, .int fi])), (q7, .inr (7, jcond 7 (gS a b sp)))] [.ref q7, .ref h0] 26 4 26 rfl rfl rfl rfl rfl ?_
        refine jr_put CC (jd ddX10_setSequence 15 rfl) (jf_X10_46 CC) 0 rfl rfl rfl (Nat.le_of_ble_eq_true rfl) ?_
        exact jr_vret CC MM (jd ddX10_setSequence 16 rfl) rfl (by decide) (by decide) ⟨q7, by simp [eSeq, jI, c2, c4, c6], rfl, rfl⟩
set_option maxHeartbeats 8000000 in
set_option maxRecDepth 100000 in
theorem k_X10_setLengths (l : Launch) (t : Nat → ClassId) (hfl : l.stackTraces = false) (h0 : Nat) (x1 : Nat) (x2 : Nat) (x3 : Nat) (x4 : Nat) (x5 : Nat) (x6 : Nat) (fi : Int32) (M : Nat → Int32) (ca : Nat) (cg : Option Nat) (a : Int32) (b : Int32) : jKx l t yX10_setLengths (Cond.code yX10_setLengths cX10_setLengths 3 none :: jWS) { frames := 7, cells := 3, slots := 18, locals := 104 } [.ref h0, .int a, .int b] [(h0, .inr (9, [.ref x1, .ref x2, .ref x3, .ref x4, .ref x5, .ref x6, .int fi])), (x2, .inr (5, jmem M ca cg))] (fun vv uu => (((eLen a b (M 3)) = 0) ∧ vv = none ∧ uu = [(h0, .inr (9, [.ref x1, .ref x2, .ref x3, .ref x4, .ref x5, .ref x6, .int fi])), (x2, .inr (5, jmem (upd (upd M 4 a) 5 b) ca cg))])) (fun EE uu => (((eLen a b (M 3)) = 1) ∧ EE = "java/lang/IllegalArgumentException" ∧ uu = [(h0, .inr (9, [.ref x1, .ref x2, .ref x3, .ref x4, .ref x5, .ref x6, .int fi])), (x2, .inr (5, jmem M ca cg))]) ∨ (((eLen a b (M 3)) = 2) ∧ EE = "java/lang/IllegalStateException" ∧ uu = [(h0, .inr (9, [.ref x1, .ref x2, .ref x3, .ref x4, .ref x5, .ref x6, .int fi])), (x2, .inr (5, jmem M ca cg))])) := by
  refine jK_of hfl (by decide +kernel) (Nat.le_of_ble_eq_true rfl) ?_
  intro p e s m args below meth c D A Q CC MM
  refine jr_norm0 [(0, .ref h0), (1, .int a), (2, .int b)] rfl ?_
  refine jr_iload_n CC (jd ddX10_setLengths 0 rfl) 1 rfl ?_
  refine jr_iconst (v := 0) CC (jd ddX10_setLengths 1 rfl) (by decide) ?_
  refine jr_bipush (v := 16) CC (jd ddX10_setLengths 2 rfl) (by decide) ?_
  refine jr_callS (rest := []) [.int a, .int 0, .int 16] CC (jd ddX10_setLengths 3 rfl) (jy_X10_57 CC) (k_X10_checkRange l t hfl a 0 16) [] rfl (by decide) rfl rfl (by decide) (Nat.le_of_ble_eq_true rfl) (by rintro v u h; rcases h with ⟨h0, rfl, rfl⟩ <;> rfl) (by rintro v u h; rcases h with ⟨h0, rfl, rfl⟩ <;> rfl) (fun E u hx => ?_) (fun v u h => ?_)
  · rcases hx with ⟨c1, rfl, rfl⟩
    exact jr_out CC MM (by decide) (by decide) (Or.inl ⟨by simp [eLen, jI, c1], rfl, rfl⟩)
  · rcases h with ⟨c2, rfl, rfl⟩
    refine jr_norm [(h0, .inr (9, [.ref x1, .ref x2, .ref x3, .ref x4, .ref x5, .ref x6, .int fi])), (x2, .inr (5, jmem M ca cg))] [] 7 1 6 rfl rfl rfl rfl rfl ?_
    refine jr_iload_n CC (jd ddX10_setLengths 4 rfl) 2 rfl ?_
    refine jr_iconst (v := 0) CC (jd ddX10_setLengths 5 rfl) (by decide) ?_
    refine jr_bipush (v := 32) CC (jd ddX10_setLengths 6 rfl) (by decide) ?_
    refine jr_callS (rest := []) [.int b, .int 0, .int 32] CC (jd ddX10_setLengths 7 rfl) (jy_X10_57 CC) (k_X10_checkRange l t hfl b 0 32) [] rfl (by decide) rfl rfl (by decide) (Nat.le_of_ble_eq_true rfl) (by rintro v u h; rcases h with ⟨h0, rfl, rfl⟩ <;> rfl) (by rintro v u h; rcases h with ⟨h0, rfl, rfl⟩ <;> rfl) (fun E u hx => ?_) (fun v u h => ?_)
    · rcases hx with ⟨c3, rfl, rfl⟩
      exact jr_out CC MM (by decide) (by decide) (Or.inl ⟨by simp [eLen, jI, c2, c3], rfl, rfl⟩)
    · rcases h with ⟨c4, rfl, rfl⟩
      refine jr_norm [(h0, .inr (9, [.ref x1, .ref x2, .ref x3, .ref x4, .ref x5, .ref x6, .int fi])), (x2, .inr (5, jmem M ca cg))] [] 14 2 12 rfl rfl rfl rfl rfl ?_
      refine jr_aload_n CC (jd ddX10_setLengths 8 rfl) 0 rfl ?_
      refine jr_get (v := .ref x2) CC (jd ddX10_setLengths 9 rfl) (jf_X10_19 CC) 0 rfl rfl ?_
      refine jr_get (v := .int (M 3)) CC (jd ddX10_setLengths 10 rfl) (jf_X10_73 CC) 1 rfl rfl ?_
      refine jr_if_eq 34 CC (jd ddX10_setLengths 11 rfl) (by decide) (fun c5 => ?_) (fun c5 => ?_)
      · refine jr_aload_n CC (jd ddX10_setLengths 17 rfl) 0 rfl ?_
        refine jr_get (v := .ref x2) CC (jd ddX10_setLengths 18 rfl) (jf_X10_19 CC) 0 rfl rfl ?_
        refine jr_iload_n CC (jd ddX10_setLengths 19 rfl) 1 rfl ?_
        refine jr_put CC (jd ddX10_setLengths 20 rfl) (jf_X10_84 CC) 1 rfl rfl rfl (Nat.le_of_ble_eq_true rfl) ?_
        refine jr_ws [(h0, .inr (9, [.ref x1, .ref x2, .ref x3, .ref x4, .ref x5, .ref x6, .int fi])), (x2, .inr (5, jmem (upd M 4 a) ca cg))] rfl ?_
        refine jr_aload_n CC (jd ddX10_setLengths 21 rfl) 0 rfl ?_
        refine jr_get (v := .ref x2) CC (jd ddX10_setLengths 22 rfl) (jf_X10_19 CC) 0 rfl rfl ?_
        refine jr_pc (pc' := 46) rfl ?_
        refine jr_iload_n CC (jd ddX10_setLengths 23 rfl) 2 rfl ?_
        refine jr_put CC (jd ddX10_setLengths 24 rfl) (jf_X10_88 CC) 1 rfl rfl rfl (Nat.le_of_ble_eq_true rfl) ?_
        refine jr_ws [(h0, .inr (9, [.ref x1, .ref x2, .ref x3, .ref x4, .ref x5, .ref x6, .int fi])), (x2, .inr (5, jmem (upd (upd M 4 a) 5 b) ca cg))] rfl ?_
        exact jr_vret CC MM (jd ddX10_setLengths 25 rfl) rfl (by decide) (by decide) ⟨by simp [eLen, jI, c2, c4, c5], rfl, rfl⟩
      · exact jr_throw (rm := { frames := 0, cells := 0, slots := 0, locals := 0 }) (text := "the scope is armed") CC MM (by decide +kernel) (jcl_X10_77 CC.2.2.2.2.1) (jini_1 CC.2.2.2.2.1) (by decide +kernel) (jat_X10_81 CC) (jgood_X10_81) (jd ddX10_setLengths 12 rfl) (jd ddX10_setLengths 13 rfl) (jd ddX10_setLengths 14 rfl) (jd ddX10_setLengths 15 rfl) (jd ddX10_setLengths 16 rfl) ⟨by decide, Nat.le_of_ble_eq_true rfl, by decide, by decide⟩ (Or.inr ⟨by simp [eLen, jI, c2, c4, c5], rfl, rfl⟩)
set_option maxHeartbeats 8000000 in
set_option maxRecDepth 100000 in
theorem k_X10_setHoldoff (l : Launch) (t : Nat → ClassId) (hfl : l.stackTraces = false) (h0 : Nat) (x1 : Nat) (x2 : Nat) (x3 : Nat) (x4 : Nat) (x5 : Nat) (x6 : Nat) (fi : Int32) (M : Nat → Int32) (ca : Nat) (cg : Option Nat) (a : Int32) : jKx l t yX10_setHoldoff (Cond.code yX10_setHoldoff cX10_setHoldoff 3 (some .int) :: jWS) { frames := 7, cells := 1, slots := 6, locals := 104 } [.ref h0, .int a] [(h0, .inr (9, [.ref x1, .ref x2, .ref x3, .ref x4, .ref x5, .ref x6, .int fi])), (x2, .inr (5, jmem M ca cg))] (fun vv uu => (((eHold a) = 0) ∧ vv = some (.int (M 6)) ∧ uu = [(h0, .inr (9, [.ref x1, .ref x2, .ref x3, .ref x4, .ref x5, .ref x6, .int fi])), (x2, .inr (5, jmem (upd M 6 a) ca cg))])) (fun EE uu => (((eHold a) = 1) ∧ EE = "java/lang/IllegalArgumentException" ∧ uu = [(h0, .inr (9, [.ref x1, .ref x2, .ref x3, .ref x4, .ref x5, .ref x6, .int fi])), (x2, .inr (5, jmem M ca cg))])) := by
  refine jK_of hfl (by decide +kernel) (Nat.le_of_ble_eq_true rfl) ?_
  intro p e s m args below meth c D A Q CC MM
  refine jr_norm0 [(0, .ref h0), (1, .int a)] rfl ?_
  refine jr_iload_n CC (jd ddX10_setHoldoff 0 rfl) 1 rfl ?_
  refine jr_iconst (v := 0) CC (jd ddX10_setHoldoff 1 rfl) (by decide) ?_
  refine jr_sipush (v := 1000) CC (jd ddX10_setHoldoff 2 rfl) (by decide) ?_
  refine jr_callS (rest := []) [.int a, .int 0, .int 1000] CC (jd ddX10_setHoldoff 3 rfl) (jy_X10_57 CC) (k_X10_checkRange l t hfl a 0 1000) [] rfl (by decide) rfl rfl (by decide) (Nat.le_of_ble_eq_true rfl) (by rintro v u h; rcases h with ⟨h0, rfl, rfl⟩ <;> rfl) (by rintro v u h; rcases h with ⟨h0, rfl, rfl⟩ <;> rfl) (fun E u hx => ?_) (fun v u h => ?_)
  · rcases hx with ⟨c1, rfl, rfl⟩
    exact jr_out CC MM (by decide) (by decide) ⟨by simp [eHold, jI, c1], rfl, rfl⟩
  · rcases h with ⟨c2, rfl, rfl⟩
    refine jr_norm [(h0, .inr (9, [.ref x1, .ref x2, .ref x3, .ref x4, .ref x5, .ref x6, .int fi])), (x2, .inr (5, jmem M ca cg))] [] 8 1 6 rfl rfl rfl rfl rfl ?_
    refine jr_aload_n CC (jd ddX10_setHoldoff 4 rfl) 0 rfl ?_
    refine jr_get (v := .ref x2) CC (jd ddX10_setHoldoff 5 rfl) (jf_X10_19 CC) 0 rfl rfl ?_
    refine jr_get (v := .int (M 6)) CC (jd ddX10_setHoldoff 6 rfl) (jf_X10_91 CC) 1 rfl rfl ?_
    refine jr_istore_n 2 [(2, .int (M 6)), (0, .ref h0), (1, .int a)] CC (jd ddX10_setHoldoff 7 rfl) rfl (by decide) rfl ?_
    refine jr_aload_n CC (jd ddX10_setHoldoff 8 rfl) 1 rfl ?_
    refine jr_get (v := .ref x2) CC (jd ddX10_setHoldoff 9 rfl) (jf_X10_19 CC) 0 rfl rfl ?_
    refine jr_iload_n CC (jd ddX10_setHoldoff 10 rfl) 2 rfl ?_
    refine jr_put CC (jd ddX10_setHoldoff 11 rfl) (jf_X10_91 CC) 1 rfl rfl rfl (Nat.le_of_ble_eq_true rfl) ?_
    refine jr_ws [(h0, .inr (9, [.ref x1, .ref x2, .ref x3, .ref x4, .ref x5, .ref x6, .int fi])), (x2, .inr (5, jmem (upd M 6 a) ca cg))] rfl ?_
    refine jr_iload_n CC (jd ddX10_setHoldoff 12 rfl) 0 rfl ?_
    exact jr_iret CC MM (jd ddX10_setHoldoff 13 rfl) rfl (by decide) (by decide) ⟨by simp [eHold, jI, c2], rfl, rfl⟩
set_option maxHeartbeats 8000000 in
set_option maxRecDepth 100000 in
theorem k_X10_arm (l : Launch) (t : Nat → ClassId) (hfl : l.stackTraces = false) (h0 : Nat) (x1 : Nat) (x2 : Nat) (x3 : Nat) (x4 : Nat) (x5 : Nat) (x6 : Nat) (fi : Int32) (M : Nat → Int32) (ca : Nat) (cg : Option Nat) : jKx l t yX10_arm (Cond.code yX10_arm cX10_arm 2 (some .int) :: jWS) { frames := 1, cells := 0, slots := 0, locals := 20 } [.ref h0] [(h0, .inr (9, [.ref x1, .ref x2, .ref x3, .ref x4, .ref x5, .ref x6, .int fi])), (x2, .inr (5, jmem M ca cg))] (fun vv uu => (vv = some (.int (M 1)) ∧ uu = [(h0, .inr (9, [.ref x1, .ref x2, .ref x3, .ref x4, .ref x5, .ref x6, .int fi])), (x2, .inr (5, jmem (upd (upd (upd (upd (upd M 3 1) 1 0) 7 0) 9 0) 10 (-1)) ca none))])) (fun _ _ => False) := by
  refine jK_of hfl (by decide +kernel) (Nat.le_of_ble_eq_true rfl) ?_
  intro p e s m args below meth c D A Q CC MM
  refine jr_norm0 [(0, .ref h0)] rfl ?_
  refine jr_aload_n CC (jd ddX10_arm 0 rfl) 0 rfl ?_
  refine jr_get (v := .ref x2) CC (jd ddX10_arm 1 rfl) (jf_X10_19 CC) 0 rfl rfl ?_
  refine jr_get (v := .int (M 1)) CC (jd ddX10_arm 2 rfl) (jf_X10_94 CC) 1 rfl rfl ?_
  refine jr_istore_n 1 [(1, .int (M 1)), (0, .ref h0)] CC (jd ddX10_arm 3 rfl) rfl (by decide) rfl ?_
  refine jr_aload_n CC (jd ddX10_arm 4 rfl) 1 rfl ?_
  refine jr_get (v := .ref x2) CC (jd ddX10_arm 5 rfl) (jf_X10_19 CC) 0 rfl rfl ?_
  refine jr_callV (q0 := 1) (rest := []) [] CC (jd ddX10_arm 6 rfl) (jy_X10_97 CC) (k_X6_beginAnew l t hfl x2 M ca cg) [1] rfl (by decide) rfl rfl rfl rfl (by decide) (Nat.le_of_ble_eq_true rfl) (by rintro v u h; rcases h with ⟨rfl, rfl⟩ <;> rfl) (fun _ _ h => h.elim) (fun _ _ h => h.elim) (fun v u h => ?_)
  rcases h with ⟨rfl, rfl⟩
  refine jr_norm [(h0, .inr (9, [.ref x1, .ref x2, .ref x3, .ref x4, .ref x5, .ref x6, .int fi])), (x2, .inr (5, jmem (upd (upd (upd (upd (upd M 3 1) 1 0) 7 0) 9 0) 10 (-1)) ca none))] [] 15 0 0 rfl rfl rfl rfl rfl ?_
  refine jr_iload_n CC (jd ddX10_arm 7 rfl) 0 rfl ?_
  exact jr_iret CC MM (jd ddX10_arm 8 rfl) rfl (by decide) (by decide) ⟨rfl, rfl⟩
set_option maxHeartbeats 8000000 in
set_option maxRecDepth 100000 in
theorem k_X10_disarm (l : Launch) (t : Nat → ClassId) (hfl : l.stackTraces = false) (h0 : Nat) (x1 : Nat) (x2 : Nat) (x3 : Nat) (x4 : Nat) (x5 : Nat) (x6 : Nat) (fi : Int32) (M : Nat → Int32) (ca : Nat) (cg : Option Nat) (h3 : M 3 = 0 ∨ M 3 = 1) : jKx l t yX10_disarm (Cond.code yX10_disarm cX10_disarm 2 (some .boolean) :: jWS) { frames := 0, cells := 0, slots := 0, locals := 0 } [.ref h0] [(h0, .inr (9, [.ref x1, .ref x2, .ref x3, .ref x4, .ref x5, .ref x6, .int fi])), (x2, .inr (5, jmem M ca cg))] (fun vv uu => (vv = some (.int (M 3)) ∧ uu = [(h0, .inr (9, [.ref x1, .ref x2, .ref x3, .ref x4, .ref x5, .ref x6, .int fi])), (x2, .inr (5, jmem (upd M 3 0) ca none))])) (fun _ _ => False) := by
  refine jK_of hfl (by decide +kernel) (Nat.le_of_ble_eq_true rfl) ?_
  intro p e s m args below meth c D A Q CC MM
  refine jr_norm0 [(0, .ref h0)] rfl ?_
  refine jr_aload_n CC (jd ddX10_disarm 0 rfl) 0 rfl ?_
  refine jr_get (v := .ref x2) CC (jd ddX10_disarm 1 rfl) (jf_X10_19 CC) 0 rfl rfl ?_
  refine jr_get (v := .int (M 3)) CC (jd ddX10_disarm 2 rfl) (jf_X10_73 CC) 1 rfl rfl ?_
  refine jr_istore_n 1 [(1, .int (M 3)), (0, .ref h0)] CC (jd ddX10_disarm 3 rfl) rfl (by decide) rfl ?_
  refine jr_aload_n CC (jd ddX10_disarm 4 rfl) 1 rfl ?_
  refine jr_get (v := .ref x2) CC (jd ddX10_disarm 5 rfl) (jf_X10_19 CC) 0 rfl rfl ?_
  refine jr_iconst (v := 0) CC (jd ddX10_disarm 6 rfl) (by decide) ?_
  refine jr_put CC (jd ddX10_disarm 7 rfl) (jf_X10_73 CC) 1 rfl rfl rfl (Nat.le_of_ble_eq_true rfl) ?_
  refine jr_ws [(h0, .inr (9, [.ref x1, .ref x2, .ref x3, .ref x4, .ref x5, .ref x6, .int fi])), (x2, .inr (5, jmem (upd M 3 0) ca cg))] rfl ?_
  refine jr_aload_n CC (jd ddX10_disarm 8 rfl) 1 rfl ?_
  refine jr_get (v := .ref x2) CC (jd ddX10_disarm 9 rfl) (jf_X10_19 CC) 0 rfl rfl ?_
  refine jr_pc (pc' := 20) rfl ?_
  refine jr_null CC (jd ddX10_disarm 10 rfl) ?_
  refine jr_put CC (jd ddX10_disarm 11 rfl) (jf_X10_100 CC) 1 rfl rfl rfl (Nat.le_of_ble_eq_true rfl) ?_
  refine jr_ws [(h0, .inr (9, [.ref x1, .ref x2, .ref x3, .ref x4, .ref x5, .ref x6, .int fi])), (x2, .inr (5, jmem (upd M 3 0) ca none))] rfl ?_
  refine jr_iload_n CC (jd ddX10_disarm 12 rfl) 0 rfl ?_
  exact jr_zret (jb01n h3) CC MM (jd ddX10_disarm 13 rfl) rfl (by decide) (by decide) ⟨rfl, rfl⟩
set_option maxHeartbeats 8000000 in
set_option maxRecDepth 100000 in
theorem k_X10_isArmed (l : Launch) (t : Nat → ClassId) (hfl : l.stackTraces = false) (h0 : Nat) (x1 : Nat) (x2 : Nat) (x3 : Nat) (x4 : Nat) (x5 : Nat) (x6 : Nat) (fi : Int32) (M : Nat → Int32) (ca : Nat) (cg : Option Nat) (h3 : M 3 = 0 ∨ M 3 = 1) : jKx l t yX10_isArmed (Cond.code yX10_isArmed cX10_isArmed 1 (some .boolean) :: jWS) { frames := 0, cells := 0, slots := 0, locals := 0 } [.ref h0] [(h0, .inr (9, [.ref x1, .ref x2, .ref x3, .ref x4, .ref x5, .ref x6, .int fi])), (x2, .inr (5, jmem M ca cg))] (fun vv uu => (vv = some (.int (M 3)) ∧ uu = [(h0, .inr (9, [.ref x1, .ref x2, .ref x3, .ref x4, .ref x5, .ref x6, .int fi])), (x2, .inr (5, jmem M ca cg))])) (fun _ _ => False) := by
  refine jK_of hfl (by decide +kernel) (Nat.le_of_ble_eq_true rfl) ?_
  intro p e s m args below meth c D A Q CC MM
  refine jr_norm0 [(0, .ref h0)] rfl ?_
  refine jr_aload_n CC (jd ddX10_isArmed 0 rfl) 0 rfl ?_
  refine jr_get (v := .ref x2) CC (jd ddX10_isArmed 1 rfl) (jf_X10_19 CC) 0 rfl rfl ?_
  refine jr_get (v := .int (M 3)) CC (jd ddX10_isArmed 2 rfl) (jf_X10_73 CC) 1 rfl rfl ?_
  exact jr_zret (jb01n h3) CC MM (jd ddX10_isArmed 3 rfl) rfl (by decide) (by decide) ⟨rfl, rfl⟩
set_option maxHeartbeats 8000000 in
set_option maxRecDepth 100000 in
theorem k_X10_isCatching (l : Launch) (t : Nat → ClassId) (hfl : l.stackTraces = false) (h0 : Nat) (x1 : Nat) (x2 : Nat) (x3 : Nat) (x4 : Nat) (x5 : Nat) (x6 : Nat) (fi : Int32) (M : Nat → Int32) (ca : Nat) : jKx l t yX10_isCatching (Cond.code yX10_isCatching cX10_isCatching 1 (some .boolean) :: jWS) { frames := 0, cells := 0, slots := 0, locals := 0 } [.ref h0] [(h0, .inr (9, [.ref x1, .ref x2, .ref x3, .ref x4, .ref x5, .ref x6, .int fi])), (x2, .inr (5, jmem M ca none))] (fun vv uu => (vv = some (.int 0) ∧ uu = [(h0, .inr (9, [.ref x1, .ref x2, .ref x3, .ref x4, .ref x5, .ref x6, .int fi])), (x2, .inr (5, jmem M ca none))])) (fun _ _ => False) := by
  refine jK_of hfl (by decide +kernel) (Nat.le_of_ble_eq_true rfl) ?_
  intro p e s m args below meth c D A Q CC MM
  refine jr_norm0 [(0, .ref h0)] rfl ?_
  refine jr_aload_n CC (jd ddX10_isCatching 0 rfl) 0 rfl ?_
  refine jr_get (v := .ref x2) CC (jd ddX10_isCatching 1 rfl) (jf_X10_19 CC) 0 rfl rfl ?_
  refine jr_get (v := .null) CC (jd ddX10_isCatching 2 rfl) (jf_X10_100 CC) 1 rfl rfl ?_
  refine jr_ifnullN 14 CC (jd ddX10_isCatching 3 rfl) (by decide) ?_
  refine jr_iconst (v := 0) CC (jd ddX10_isCatching 6 rfl) (by decide) ?_
  exact jr_zret rfl CC MM (jd ddX10_isCatching 7 rfl) rfl (by decide) (by decide) ⟨rfl, rfl⟩
set_option maxHeartbeats 8000000 in
set_option maxRecDepth 100000 in
theorem k_X10_isCatching_c (l : Launch) (t : Nat → ClassId) (hfl : l.stackTraces = false) (h0 : Nat) (x1 : Nat) (x2 : Nat) (x3 : Nat) (x4 : Nat) (x5 : Nat) (x6 : Nat) (fi : Int32) (M : Nat → Int32) (ca : Nat) (g : Nat) : jKx l t yX10_isCatching (Cond.code yX10_isCatching cX10_isCatching 1 (some .boolean) :: jWS) { frames := 0, cells := 0, slots := 0, locals := 0 } [.ref h0] [(h0, .inr (9, [.ref x1, .ref x2, .ref x3, .ref x4, .ref x5, .ref x6, .int fi])), (x2, .inr (5, jmem M ca (some g)))] (fun vv uu => (vv = some (.int 1) ∧ uu = [(h0, .inr (9, [.ref x1, .ref x2, .ref x3, .ref x4, .ref x5, .ref x6, .int fi])), (x2, .inr (5, jmem M ca (some g)))])) (fun _ _ => False) := by
  refine jK_of hfl (by decide +kernel) (Nat.le_of_ble_eq_true rfl) ?_
  intro p e s m args below meth c D A Q CC MM
  refine jr_norm0 [(0, .ref h0)] rfl ?_
  refine jr_aload_n CC (jd ddX10_isCatching 0 rfl) 0 rfl ?_
  refine jr_get (v := .ref x2) CC (jd ddX10_isCatching 1 rfl) (jf_X10_19 CC) 0 rfl rfl ?_
  refine jr_get (v := .ref g) CC (jd ddX10_isCatching 2 rfl) (jf_X10_100 CC) 1 rfl rfl ?_
  refine jr_ifnull CC (jd ddX10_isCatching 3 rfl) ?_
  refine jr_iconst (v := 1) CC (jd ddX10_isCatching 4 rfl) (by decide) ?_
  refine jr_goto 15 CC (jd ddX10_isCatching 5 rfl) (by decide) ?_
  exact jr_zret rfl CC MM (jd ddX10_isCatching 7 rfl) rfl (by decide) (by decide) ⟨rfl, rfl⟩
set_option maxHeartbeats 8000000 in
set_option maxRecDepth 100000 in
theorem k_X10_records (l : Launch) (t : Nat → ClassId) (hfl : l.stackTraces = false) (h0 : Nat) (x1 : Nat) (x2 : Nat) (x3 : Nat) (x4 : Nat) (x5 : Nat) (x6 : Nat) (fi : Int32) (M : Nat → Int32) (ca : Nat) (cg : Option Nat) : jKx l t yX10_records (Cond.code yX10_records cX10_records 1 (some .int) :: jWS) { frames := 0, cells := 0, slots := 0, locals := 0 } [.ref h0] [(h0, .inr (9, [.ref x1, .ref x2, .ref x3, .ref x4, .ref x5, .ref x6, .int fi])), (x2, .inr (5, jmem M ca cg))] (fun vv uu => (vv = some (.int (M 1)) ∧ uu = [(h0, .inr (9, [.ref x1, .ref x2, .ref x3, .ref x4, .ref x5, .ref x6, .int fi])), (x2, .inr (5, jmem M ca cg))])) (fun _ _ => False) := by
  refine jK_of hfl (by decide +kernel) (Nat.le_of_ble_eq_true rfl) ?_
  intro p e s m args below meth c D A Q CC MM
  refine jr_norm0 [(0, .ref h0)] rfl ?_
  refine jr_aload_n CC (jd ddX10_records 0 rfl) 0 rfl ?_
  refine jr_get (v := .ref x2) CC (jd ddX10_records 1 rfl) (jf_X10_19 CC) 0 rfl rfl ?_
  refine jr_get (v := .int (M 1)) CC (jd ddX10_records 2 rfl) (jf_X10_94 CC) 1 rfl rfl ?_
  exact jr_iret CC MM (jd ddX10_records 3 rfl) rfl (by decide) (by decide) ⟨rfl, rfl⟩
set_option maxHeartbeats 8000000 in
set_option maxRecDepth 100000 in
theorem k_X10_failures (l : Launch) (t : Nat → ClassId) (hfl : l.stackTraces = false) (h0 : Nat) (x1 : Nat) (x2 : Nat) (x3 : Nat) (x4 : Nat) (x5 : Nat) (x6 : Nat) (fi : Int32) (M : Nat → Int32) (ca : Nat) (cg : Option Nat) : jKx l t yX10_failures (Cond.code yX10_failures cX10_failures 1 (some .int) :: jWS) { frames := 0, cells := 0, slots := 0, locals := 0 } [.ref h0] [(h0, .inr (9, [.ref x1, .ref x2, .ref x3, .ref x4, .ref x5, .ref x6, .int fi])), (x2, .inr (5, jmem M ca cg))] (fun vv uu => (vv = some (.int (M 9)) ∧ uu = [(h0, .inr (9, [.ref x1, .ref x2, .ref x3, .ref x4, .ref x5, .ref x6, .int fi])), (x2, .inr (5, jmem M ca cg))])) (fun _ _ => False) := by
  refine jK_of hfl (by decide +kernel) (Nat.le_of_ble_eq_true rfl) ?_
  intro p e s m args below meth c D A Q CC MM
  refine jr_norm0 [(0, .ref h0)] rfl ?_
  refine jr_aload_n CC (jd ddX10_failures 0 rfl) 0 rfl ?_
  refine jr_get (v := .ref x2) CC (jd ddX10_failures 1 rfl) (jf_X10_19 CC) 0 rfl rfl ?_
  refine jr_get (v := .int (M 9)) CC (jd ddX10_failures 2 rfl) (jf_X10_188 CC) 1 rfl rfl ?_
  exact jr_iret CC MM (jd ddX10_failures 3 rfl) rfl (by decide) (by decide) ⟨rfl, rfl⟩
set_option maxHeartbeats 8000000 in
set_option maxRecDepth 100000 in
theorem k_X10_fired (l : Launch) (t : Nat → ClassId) (hfl : l.stackTraces = false) (h0 : Nat) (x1 : Nat) (x2 : Nat) (x3 : Nat) (x4 : Nat) (x5 : Nat) (x6 : Nat) (fi : Int32) : jKx l t yX10_fired (Cond.code yX10_fired cX10_fired 1 (some .int) :: jWS) { frames := 0, cells := 0, slots := 0, locals := 0 } [.ref h0] [(h0, .inr (9, [.ref x1, .ref x2, .ref x3, .ref x4, .ref x5, .ref x6, .int fi]))] (fun vv uu => (vv = some (.int fi) ∧ uu = [(h0, .inr (9, [.ref x1, .ref x2, .ref x3, .ref x4, .ref x5, .ref x6, .int fi]))])) (fun _ _ => False) := by
  refine jK_of hfl (by decide +kernel) (Nat.le_of_ble_eq_true rfl) ?_
  intro p e s m args below meth c D A Q CC MM
  refine jr_norm0 [(0, .ref h0)] rfl ?_
  refine jr_aload_n CC (jd ddX10_fired 0 rfl) 0 rfl ?_
  refine jr_get (v := .int fi) CC (jd ddX10_fired 1 rfl) (jf_X10_111 CC) 0 rfl rfl ?_
  exact jr_iret CC MM (jd ddX10_fired 2 rfl) rfl (by decide) (by decide) ⟨rfl, rfl⟩
set_option maxHeartbeats 8000000 in
set_option maxRecDepth 100000 in
theorem k_X10_samples (l : Launch) (t : Nat → ClassId) (hfl : l.stackTraces = false) (h0 : Nat) (x1 : Nat) (x2 : Nat) (x3 : Nat) (x4 : Nat) (x5 : Nat) (x6 : Nat) (fi : Int32) (y1 : Nat) (n : Int32) : jKx l t yX10_samples (Cond.code yX10_samples cX10_samples 1 (some .int) :: jWS) { frames := 0, cells := 0, slots := 0, locals := 0 } [.ref h0] [(h0, .inr (9, [.ref x1, .ref x2, .ref x3, .ref x4, .ref x5, .ref x6, .int fi])), (x1, .inr (3, [.ref y1, .int n]))] (fun vv uu => (vv = some (.int n) ∧ uu = [(h0, .inr (9, [.ref x1, .ref x2, .ref x3, .ref x4, .ref x5, .ref x6, .int fi])), (x1, .inr (3, [.ref y1, .int n]))])) (fun _ _ => False) := by
  refine jK_of hfl (by decide +kernel) (Nat.le_of_ble_eq_true rfl) ?_
  intro p e s m args below meth c D A Q CC MM
  refine jr_norm0 [(0, .ref h0)] rfl ?_
  refine jr_aload_n CC (jd ddX10_samples 0 rfl) 0 rfl ?_
  refine jr_get (v := .ref x1) CC (jd ddX10_samples 1 rfl) (jf_X10_12 CC) 0 rfl rfl ?_
  refine jr_get (v := .int n) CC (jd ddX10_samples 2 rfl) (jf_X10_108 CC) 1 rfl rfl ?_
  exact jr_iret CC MM (jd ddX10_samples 3 rfl) rfl (by decide) (by decide) ⟨rfl, rfl⟩
set_option maxHeartbeats 8000000 in
set_option maxRecDepth 100000 in
theorem k_X10_clearTrace (l : Launch) (t : Nat → ClassId) (hfl : l.stackTraces = false) (h0 : Nat) (x1 : Nat) (x2 : Nat) (x3 : Nat) (x4 : Nat) (x5 : Nat) (x6 : Nat) (fi : Int32) (e0 : Nat) (e1 : Nat) (e2 : Nat) (e3 : Nat) (pn : Nat) (ht : Nat) (KA : Nat → Int32) (DA : Nat → Int32) : jKx l t yX10_clearTrace (Cond.code yX10_clearTrace cX10_clearTrace 2 (some .int) :: jWS) { frames := 0, cells := 0, slots := 0, locals := 0 } [.ref h0] [(h0, .inr (9, [.ref x1, .ref x2, .ref x3, .ref x4, .ref x5, .ref x6, .int fi])), (x4, .inr (2, [.ref e0, .ref e1, .ref e2, .ref e3, .int (nI pn), .int (nI ht)]))] (fun vv uu => (vv = some (.int (nI pn)) ∧ uu = [(h0, .inr (9, [.ref x1, .ref x2, .ref x3, .ref x4, .ref x5, .ref x6, .int fi])), (x4, .inr (2, [.ref e0, .ref e1, .ref e2, .ref e3, .int 0, .int 0]))])) (fun _ _ => False) := by
  refine jK_of hfl (by decide +kernel) (Nat.le_of_ble_eq_true rfl) ?_
  intro p e s m args below meth c D A Q CC MM
  refine jr_norm0 [(0, .ref h0)] rfl ?_
  refine jr_aload_n CC (jd ddX10_clearTrace 0 rfl) 0 rfl ?_
  refine jr_get (v := .ref x4) CC (jd ddX10_clearTrace 1 rfl) (jf_X10_33 CC) 0 rfl rfl ?_
  refine jr_get (v := .int (nI pn)) CC (jd ddX10_clearTrace 2 rfl) (jf_X10_207 CC) 1 rfl rfl ?_
  refine jr_istore_n 1 [(1, .int (nI pn)), (0, .ref h0)] CC (jd ddX10_clearTrace 3 rfl) rfl (by decide) rfl ?_
  refine jr_aload_n CC (jd ddX10_clearTrace 4 rfl) 1 rfl ?_
  refine jr_get (v := .ref x4) CC (jd ddX10_clearTrace 5 rfl) (jf_X10_33 CC) 0 rfl rfl ?_
  refine jr_iconst (v := 0) CC (jd ddX10_clearTrace 6 rfl) (by decide) ?_
  refine jr_put CC (jd ddX10_clearTrace 7 rfl) (jf_X10_207 CC) 1 rfl rfl rfl (Nat.le_of_ble_eq_true rfl) ?_
  refine jr_aload_n CC (jd ddX10_clearTrace 8 rfl) 1 rfl ?_
  refine jr_get (v := .ref x4) CC (jd ddX10_clearTrace 9 rfl) (jf_X10_33 CC) 0 rfl rfl ?_
  refine jr_pc (pc' := 20) rfl ?_
  refine jr_iconst (v := 0) CC (jd ddX10_clearTrace 10 rfl) (by decide) ?_
  refine jr_put CC (jd ddX10_clearTrace 11 rfl) (jf_X10_210 CC) 1 rfl rfl rfl (Nat.le_of_ble_eq_true rfl) ?_
  refine jr_iload_n CC (jd ddX10_clearTrace 12 rfl) 0 rfl ?_
  exact jr_iret CC MM (jd ddX10_clearTrace 13 rfl) rfl (by decide) (by decide) ⟨rfl, rfl⟩
set_option maxHeartbeats 8000000 in
set_option maxRecDepth 100000 in
theorem k_X3_add_0 (l : Launch) (t : Nat → ClassId) (hfl : l.stackTraces = false) (x4 : Nat) (e0 : Nat) (e1 : Nat) (e2 : Nat) (e3 : Nat) (pn : Nat) (ht : Nat) (KA : Nat → Int32) (DA : Nat → Int32) (d : Int32) (hp : pn < 16) : jKx l t yX3_add (Cond.code yX3_add cX3_add 4 (some .int) :: jWS) { frames := 0, cells := 0, slots := 0, locals := 0 } [.ref x4, .int 0, .int d] [(x4, .inr (2, [.ref e0, .ref e1, .ref e2, .ref e3, .int (nI pn), .int (nI ht)])), (e0, .inl (t 0, 16, .inl KA)), (e1, .inl (t 0, 16, .inl DA))] (fun vv uu => (vv = some (.int (nI (ht + 1))) ∧ uu = [(x4, .inr (2, [.ref e0, .ref e1, .ref e2, .ref e3, .int (nI (pn + 1)), .int (nI (ht + 1))])), (e0, .inl (t 0, 16, .inl (upd KA pn 0))), (e1, .inl (t 0, 16, .inl (upd DA pn d)))])) (fun _ _ => False) := by
  refine jK_of hfl (by decide +kernel) (Nat.le_of_ble_eq_true rfl) ?_
  intro p e s m args below meth c D A Q CC MM
  refine jr_norm0 [(0, .ref x4), (1, .int 0), (2, .int d)] rfl ?_
  refine jr_aload_n CC (jd ddX3_add 0 rfl) 0 rfl ?_
  refine jr_get (v := .int (nI pn)) CC (jd ddX3_add 1 rfl) (jf_X3_24 CC) 0 rfl rfl ?_
  refine jr_bipush (v := 16) CC (jd ddX3_add 2 rfl) (by decide) ?_
  refine jr_icmp_ge 71 CC (jd ddX3_add 3 rfl) (by decide) (fun h => absurd h (j_nle 16 rfl hp (by decide))) (fun _ => ?_)
  refine jr_aload_n CC (jd ddX3_add 4 rfl) 0 rfl ?_
  refine jr_get (v := .ref e0) CC (jd ddX3_add 5 rfl) (jf_X3_9 CC) 0 rfl rfl ?_
  refine jr_aload_n CC (jd ddX3_add 6 rfl) 0 rfl ?_
  refine jr_get (v := .int (nI pn)) CC (jd ddX3_add 7 rfl) (jf_X3_24 CC) 0 rfl rfl ?_
  refine jr_iload_n CC (jd ddX3_add 8 rfl) 1 rfl ?_
  refine jr_iastN CC (jd ddX3_add 9 rfl) 1 pn rfl rfl (by omega) (by decide) ?_
  refine jr_pc (pc' := 19) rfl ?_
  refine jr_aload_n CC (jd ddX3_add 10 rfl) 0 rfl ?_
  refine jr_get (v := .ref e1) CC (jd ddX3_add 11 rfl) (jf_X3_15 CC) 0 rfl rfl ?_
  refine jr_aload_n CC (jd ddX3_add 12 rfl) 0 rfl ?_
  refine jr_get (v := .int (nI pn)) CC (jd ddX3_add 13 rfl) (jf_X3_24 CC) 0 rfl rfl ?_
  refine jr_iload_n CC (jd ddX3_add 14 rfl) 2 rfl ?_
  refine jr_iastN CC (jd ddX3_add 15 rfl) 2 pn rfl rfl (by omega) (by decide) ?_
  refine jr_aload_n CC (jd ddX3_add 16 rfl) 0 rfl ?_
  refine jr_dup CC (jd ddX3_add 17 rfl) rfl ?_
  refine jr_get (v := .int (nI pn)) CC (jd ddX3_add 18 rfl) (jf_X3_24 CC) 0 rfl rfl ?_
  refine jr_iconst (v := 1) CC (jd ddX3_add 19 rfl) (by decide) ?_
  refine jr_pc (pc' := 35) rfl ?_
  refine jr_iadd CC (jd ddX3_add 20 rfl) ?_
  refine jr_st [.int (nI (pn + 1)), .ref x4] (by rw [nI_1]) ?_
  refine jr_put CC (jd ddX3_add 21 rfl) (jf_X3_24 CC) 0 rfl rfl rfl (Nat.le_of_ble_eq_true rfl) ?_
  refine jr_iload_n CC (jd ddX3_add 22 rfl) 1 rfl ?_
  refine jr_iconst (v := 3) CC (jd ddX3_add 23 rfl) (by decide) ?_
  refine jr_icmp_ne 48 CC (jd ddX3_add 24 rfl) (by decide) (fun _ => ?_) (fun h => absurd h (by decide))
  refine jr_iload_n CC (jd ddX3_add 27 rfl) 1 rfl ?_
  refine jr_iconst (v := 2) CC (jd ddX3_add 28 rfl) (by decide) ?_
  refine jr_icmp_ne 57 CC (jd ddX3_add 29 rfl) (by decide) (fun _ => ?_) (fun h => absurd h (by decide))
  refine jr_iconst (v := 0) CC (jd ddX3_add 32 rfl) (by decide) ?_
  refine jr_istore_n 3 [(3, .int 0), (0, .ref x4), (1, .int 0), (2, .int d)] CC (jd ddX3_add 33 rfl) rfl (by decide) rfl ?_
  refine jr_pc (pc' := 59) rfl ?_
  refine jr_aload_n CC (jd ddX3_add 34 rfl) 1 rfl ?_
  refine jr_dup CC (jd ddX3_add 35 rfl) rfl ?_
  refine jr_get (v := .int (nI ht)) CC (jd ddX3_add 36 rfl) (jf_X3_28 CC) 0 rfl rfl ?_
  refine jr_iconst (v := 1) CC (jd ddX3_add 37 rfl) (by decide) ?_
  refine jr_iload_n CC (jd ddX3_add 38 rfl) 0 rfl ?_
  refine jr_isub CC (jd ddX3_add 39 rfl) ?_
  refine jr_st [.int 1, .int (nI ht), .ref x4] (by rfl) ?_
  refine jr_iadd CC (jd ddX3_add 40 rfl) ?_
  refine jr_st [.int (nI (ht + 1)), .ref x4] (by rw [nI_1]) ?_
  refine jr_put CC (jd ddX3_add 41 rfl) (jf_X3_28 CC) 0 rfl rfl rfl (Nat.le_of_ble_eq_true rfl) ?_
  refine jr_aload_n CC (jd ddX3_add 42 rfl) 1 rfl ?_
  refine jr_get (v := .int (nI (ht + 1))) CC (jd ddX3_add 43 rfl) (jf_X3_28 CC) 0 rfl rfl ?_
  refine jr_pc (pc' := 75) rfl ?_
  exact jr_iret CC MM (jd ddX3_add 44 rfl) rfl (by decide) (by decide) ⟨rfl, rfl⟩
set_option maxHeartbeats 8000000 in
set_option maxRecDepth 100000 in
theorem k_X3_add_1 (l : Launch) (t : Nat → ClassId) (hfl : l.stackTraces = false) (x4 : Nat) (e0 : Nat) (e1 : Nat) (e2 : Nat) (e3 : Nat) (pn : Nat) (ht : Nat) (KA : Nat → Int32) (DA : Nat → Int32) (d : Int32) (hp : pn < 16) : jKx l t yX3_add (Cond.code yX3_add cX3_add 4 (some .int) :: jWS) { frames := 0, cells := 0, slots := 0, locals := 0 } [.ref x4, .int 1, .int d] [(x4, .inr (2, [.ref e0, .ref e1, .ref e2, .ref e3, .int (nI pn), .int (nI ht)])), (e0, .inl (t 0, 16, .inl KA)), (e1, .inl (t 0, 16, .inl DA))] (fun vv uu => (vv = some (.int (nI (ht + 1))) ∧ uu = [(x4, .inr (2, [.ref e0, .ref e1, .ref e2, .ref e3, .int (nI (pn + 1)), .int (nI (ht + 1))])), (e0, .inl (t 0, 16, .inl (upd KA pn 1))), (e1, .inl (t 0, 16, .inl (upd DA pn d)))])) (fun _ _ => False) := by
  refine jK_of hfl (by decide +kernel) (Nat.le_of_ble_eq_true rfl) ?_
  intro p e s m args below meth c D A Q CC MM
  refine jr_norm0 [(0, .ref x4), (1, .int 1), (2, .int d)] rfl ?_
  refine jr_aload_n CC (jd ddX3_add 0 rfl) 0 rfl ?_
  refine jr_get (v := .int (nI pn)) CC (jd ddX3_add 1 rfl) (jf_X3_24 CC) 0 rfl rfl ?_
  refine jr_bipush (v := 16) CC (jd ddX3_add 2 rfl) (by decide) ?_
  refine jr_icmp_ge 71 CC (jd ddX3_add 3 rfl) (by decide) (fun h => absurd h (j_nle 16 rfl hp (by decide))) (fun _ => ?_)
  refine jr_aload_n CC (jd ddX3_add 4 rfl) 0 rfl ?_
  refine jr_get (v := .ref e0) CC (jd ddX3_add 5 rfl) (jf_X3_9 CC) 0 rfl rfl ?_
  refine jr_aload_n CC (jd ddX3_add 6 rfl) 0 rfl ?_
  refine jr_get (v := .int (nI pn)) CC (jd ddX3_add 7 rfl) (jf_X3_24 CC) 0 rfl rfl ?_
  refine jr_iload_n CC (jd ddX3_add 8 rfl) 1 rfl ?_
  refine jr_iastN CC (jd ddX3_add 9 rfl) 1 pn rfl rfl (by omega) (by decide) ?_
  refine jr_pc (pc' := 19) rfl ?_
  refine jr_aload_n CC (jd ddX3_add 10 rfl) 0 rfl ?_
  refine jr_get (v := .ref e1) CC (jd ddX3_add 11 rfl) (jf_X3_15 CC) 0 rfl rfl ?_
  refine jr_aload_n CC (jd ddX3_add 12 rfl) 0 rfl ?_
  refine jr_get (v := .int (nI pn)) CC (jd ddX3_add 13 rfl) (jf_X3_24 CC) 0 rfl rfl ?_
  refine jr_iload_n CC (jd ddX3_add 14 rfl) 2 rfl ?_
  refine jr_iastN CC (jd ddX3_add 15 rfl) 2 pn rfl rfl (by omega) (by decide) ?_
  refine jr_aload_n CC (jd ddX3_add 16 rfl) 0 rfl ?_
  refine jr_dup CC (jd ddX3_add 17 rfl) rfl ?_
  refine jr_get (v := .int (nI pn)) CC (jd ddX3_add 18 rfl) (jf_X3_24 CC) 0 rfl rfl ?_
  refine jr_iconst (v := 1) CC (jd ddX3_add 19 rfl) (by decide) ?_
  refine jr_pc (pc' := 35) rfl ?_
  refine jr_iadd CC (jd ddX3_add 20 rfl) ?_
  refine jr_st [.int (nI (pn + 1)), .ref x4] (by rw [nI_1]) ?_
  refine jr_put CC (jd ddX3_add 21 rfl) (jf_X3_24 CC) 0 rfl rfl rfl (Nat.le_of_ble_eq_true rfl) ?_
  refine jr_iload_n CC (jd ddX3_add 22 rfl) 1 rfl ?_
  refine jr_iconst (v := 3) CC (jd ddX3_add 23 rfl) (by decide) ?_
  refine jr_icmp_ne 48 CC (jd ddX3_add 24 rfl) (by decide) (fun _ => ?_) (fun h => absurd h (by decide))
  refine jr_iload_n CC (jd ddX3_add 27 rfl) 1 rfl ?_
  refine jr_iconst (v := 2) CC (jd ddX3_add 28 rfl) (by decide) ?_
  refine jr_icmp_ne 57 CC (jd ddX3_add 29 rfl) (by decide) (fun _ => ?_) (fun h => absurd h (by decide))
  refine jr_iconst (v := 0) CC (jd ddX3_add 32 rfl) (by decide) ?_
  refine jr_istore_n 3 [(3, .int 0), (0, .ref x4), (1, .int 1), (2, .int d)] CC (jd ddX3_add 33 rfl) rfl (by decide) rfl ?_
  refine jr_pc (pc' := 59) rfl ?_
  refine jr_aload_n CC (jd ddX3_add 34 rfl) 1 rfl ?_
  refine jr_dup CC (jd ddX3_add 35 rfl) rfl ?_
  refine jr_get (v := .int (nI ht)) CC (jd ddX3_add 36 rfl) (jf_X3_28 CC) 0 rfl rfl ?_
  refine jr_iconst (v := 1) CC (jd ddX3_add 37 rfl) (by decide) ?_
  refine jr_iload_n CC (jd ddX3_add 38 rfl) 0 rfl ?_
  refine jr_isub CC (jd ddX3_add 39 rfl) ?_
  refine jr_st [.int 1, .int (nI ht), .ref x4] (by rfl) ?_
  refine jr_iadd CC (jd ddX3_add 40 rfl) ?_
  refine jr_st [.int (nI (ht + 1)), .ref x4] (by rw [nI_1]) ?_
  refine jr_put CC (jd ddX3_add 41 rfl) (jf_X3_28 CC) 0 rfl rfl rfl (Nat.le_of_ble_eq_true rfl) ?_
  refine jr_aload_n CC (jd ddX3_add 42 rfl) 1 rfl ?_
  refine jr_get (v := .int (nI (ht + 1))) CC (jd ddX3_add 43 rfl) (jf_X3_28 CC) 0 rfl rfl ?_
  refine jr_pc (pc' := 75) rfl ?_
  exact jr_iret CC MM (jd ddX3_add 44 rfl) rfl (by decide) (by decide) ⟨rfl, rfl⟩
set_option maxHeartbeats 8000000 in
set_option maxRecDepth 100000 in
theorem k_X3_add_2 (l : Launch) (t : Nat → ClassId) (hfl : l.stackTraces = false) (x4 : Nat) (e0 : Nat) (e1 : Nat) (e2 : Nat) (e3 : Nat) (pn : Nat) (ht : Nat) (KA : Nat → Int32) (DA : Nat → Int32) (d : Int32) (hp : pn < 16) (hh : 1 ≤ ht) : jKx l t yX3_add (Cond.code yX3_add cX3_add 4 (some .int) :: jWS) { frames := 0, cells := 0, slots := 0, locals := 0 } [.ref x4, .int 2, .int d] [(x4, .inr (2, [.ref e0, .ref e1, .ref e2, .ref e3, .int (nI pn), .int (nI ht)])), (e0, .inl (t 0, 16, .inl KA)), (e1, .inl (t 0, 16, .inl DA))] (fun vv uu => (vv = some (.int (nI ht)) ∧ uu = [(x4, .inr (2, [.ref e0, .ref e1, .ref e2, .ref e3, .int (nI (pn + 1)), .int (nI ht)])), (e0, .inl (t 0, 16, .inl (upd KA pn 2))), (e1, .inl (t 0, 16, .inl (upd DA pn d)))])) (fun _ _ => False) := by
  refine jK_of hfl (by decide +kernel) (Nat.le_of_ble_eq_true rfl) ?_
  intro p e s m args below meth c D A Q CC MM
  refine jr_norm0 [(0, .ref x4), (1, .int 2), (2, .int d)] rfl ?_
  refine jr_aload_n CC (jd ddX3_add 0 rfl) 0 rfl ?_
  refine jr_get (v := .int (nI pn)) CC (jd ddX3_add 1 rfl) (jf_X3_24 CC) 0 rfl rfl ?_
  refine jr_bipush (v := 16) CC (jd ddX3_add 2 rfl) (by decide) ?_
  refine jr_icmp_ge 71 CC (jd ddX3_add 3 rfl) (by decide) (fun h => absurd h (j_nle 16 rfl hp (by decide))) (fun _ => ?_)
  refine jr_aload_n CC (jd ddX3_add 4 rfl) 0 rfl ?_
  refine jr_get (v := .ref e0) CC (jd ddX3_add 5 rfl) (jf_X3_9 CC) 0 rfl rfl ?_
  refine jr_aload_n CC (jd ddX3_add 6 rfl) 0 rfl ?_
  refine jr_get (v := .int (nI pn)) CC (jd ddX3_add 7 rfl) (jf_X3_24 CC) 0 rfl rfl ?_
  refine jr_iload_n CC (jd ddX3_add 8 rfl) 1 rfl ?_
  refine jr_iastN CC (jd ddX3_add 9 rfl) 1 pn rfl rfl (by omega) (by decide) ?_
  refine jr_pc (pc' := 19) rfl ?_
  refine jr_aload_n CC (jd ddX3_add 10 rfl) 0 rfl ?_
  refine jr_get (v := .ref e1) CC (jd ddX3_add 11 rfl) (jf_X3_15 CC) 0 rfl rfl ?_
  refine jr_aload_n CC (jd ddX3_add 12 rfl) 0 rfl ?_
  refine jr_get (v := .int (nI pn)) CC (jd ddX3_add 13 rfl) (jf_X3_24 CC) 0 rfl rfl ?_
  refine jr_iload_n CC (jd ddX3_add 14 rfl) 2 rfl ?_
  refine jr_iastN CC (jd ddX3_add 15 rfl) 2 pn rfl rfl (by omega) (by decide) ?_
  refine jr_aload_n CC (jd ddX3_add 16 rfl) 0 rfl ?_
  refine jr_dup CC (jd ddX3_add 17 rfl) rfl ?_
  refine jr_get (v := .int (nI pn)) CC (jd ddX3_add 18 rfl) (jf_X3_24 CC) 0 rfl rfl ?_
  refine jr_iconst (v := 1) CC (jd ddX3_add 19 rfl) (by decide) ?_
  refine jr_pc (pc' := 35) rfl ?_
  refine jr_iadd CC (jd ddX3_add 20 rfl) ?_
  refine jr_st [.int (nI (pn + 1)), .ref x4] (by rw [nI_1]) ?_
  refine jr_put CC (jd ddX3_add 21 rfl) (jf_X3_24 CC) 0 rfl rfl rfl (Nat.le_of_ble_eq_true rfl) ?_
  refine jr_iload_n CC (jd ddX3_add 22 rfl) 1 rfl ?_
  refine jr_iconst (v := 3) CC (jd ddX3_add 23 rfl) (by decide) ?_
  refine jr_icmp_ne 48 CC (jd ddX3_add 24 rfl) (by decide) (fun _ => ?_) (fun h => absurd h (by decide))
  refine jr_iload_n CC (jd ddX3_add 27 rfl) 1 rfl ?_
  refine jr_iconst (v := 2) CC (jd ddX3_add 28 rfl) (by decide) ?_
  refine jr_icmp_ne 57 CC (jd ddX3_add 29 rfl) (by decide) (fun h => absurd h (by decide)) (fun _ => ?_)
  refine jr_iconst (v := 1) CC (jd ddX3_add 30 rfl) (by decide) ?_
  refine jr_goto 58 CC (jd ddX3_add 31 rfl) (by decide) ?_
  refine jr_istore_n 3 [(3, .int 1), (0, .ref x4), (1, .int 2), (2, .int d)] CC (jd ddX3_add 33 rfl) rfl (by decide) rfl ?_
  refine jr_aload_n CC (jd ddX3_add 34 rfl) 1 rfl ?_
  refine jr_dup CC (jd ddX3_add 35 rfl) rfl ?_
  refine jr_get (v := .int (nI ht)) CC (jd ddX3_add 36 rfl) (jf_X3_28 CC) 0 rfl rfl ?_
  refine jr_iconst (v := 1) CC (jd ddX3_add 37 rfl) (by decide) ?_
  refine jr_iload_n CC (jd ddX3_add 38 rfl) 0 rfl ?_
  refine jr_isub CC (jd ddX3_add 39 rfl) ?_
  refine jr_st [.int 0, .int (nI ht), .ref x4] (by rfl) ?_
  refine jr_iadd CC (jd ddX3_add 40 rfl) ?_
  refine jr_st [.int (nI ht), .ref x4] (by rw [Int32.add_zero]) ?_
  refine jr_put CC (jd ddX3_add 41 rfl) (jf_X3_28 CC) 0 rfl rfl rfl (Nat.le_of_ble_eq_true rfl) ?_
  refine jr_aload_n CC (jd ddX3_add 42 rfl) 1 rfl ?_
  refine jr_pc (pc' := 72) rfl ?_
  refine jr_get (v := .int (nI ht)) CC (jd ddX3_add 43 rfl) (jf_X3_28 CC) 0 rfl rfl ?_
  exact jr_iret CC MM (jd ddX3_add 44 rfl) rfl (by decide) (by decide) ⟨rfl, rfl⟩
set_option maxHeartbeats 8000000 in
set_option maxRecDepth 100000 in
theorem k_X3_add_3 (l : Launch) (t : Nat → ClassId) (hfl : l.stackTraces = false) (x4 : Nat) (e0 : Nat) (e1 : Nat) (e2 : Nat) (e3 : Nat) (pn : Nat) (ht : Nat) (KA : Nat → Int32) (DA : Nat → Int32) (d : Int32) (hp : pn < 16) (hh : 2 ≤ ht) : jKx l t yX3_add (Cond.code yX3_add cX3_add 4 (some .int) :: jWS) { frames := 0, cells := 0, slots := 0, locals := 0 } [.ref x4, .int 3, .int d] [(x4, .inr (2, [.ref e0, .ref e1, .ref e2, .ref e3, .int (nI pn), .int (nI ht)])), (e0, .inl (t 0, 16, .inl KA)), (e1, .inl (t 0, 16, .inl DA))] (fun vv uu => (vv = some (.int (nI (ht - 1))) ∧ uu = [(x4, .inr (2, [.ref e0, .ref e1, .ref e2, .ref e3, .int (nI (pn + 1)), .int (nI (ht - 1))])), (e0, .inl (t 0, 16, .inl (upd KA pn 3))), (e1, .inl (t 0, 16, .inl (upd DA pn d)))])) (fun _ _ => False) := by
  refine jK_of hfl (by decide +kernel) (Nat.le_of_ble_eq_true rfl) ?_
  intro p e s m args below meth c D A Q CC MM
  refine jr_norm0 [(0, .ref x4), (1, .int 3), (2, .int d)] rfl ?_
  refine jr_aload_n CC (jd ddX3_add 0 rfl) 0 rfl ?_
  refine jr_get (v := .int (nI pn)) CC (jd ddX3_add 1 rfl) (jf_X3_24 CC) 0 rfl rfl ?_
  refine jr_bipush (v := 16) CC (jd ddX3_add 2 rfl) (by decide) ?_
  refine jr_icmp_ge 71 CC (jd ddX3_add 3 rfl) (by decide) (fun h => absurd h (j_nle 16 rfl hp (by decide))) (fun _ => ?_)
  refine jr_aload_n CC (jd ddX3_add 4 rfl) 0 rfl ?_
  refine jr_get (v := .ref e0) CC (jd ddX3_add 5 rfl) (jf_X3_9 CC) 0 rfl rfl ?_
  refine jr_aload_n CC (jd ddX3_add 6 rfl) 0 rfl ?_
  refine jr_get (v := .int (nI pn)) CC (jd ddX3_add 7 rfl) (jf_X3_24 CC) 0 rfl rfl ?_
  refine jr_iload_n CC (jd ddX3_add 8 rfl) 1 rfl ?_
  refine jr_iastN CC (jd ddX3_add 9 rfl) 1 pn rfl rfl (by omega) (by decide) ?_
  refine jr_pc (pc' := 19) rfl ?_
  refine jr_aload_n CC (jd ddX3_add 10 rfl) 0 rfl ?_
  refine jr_get (v := .ref e1) CC (jd ddX3_add 11 rfl) (jf_X3_15 CC) 0 rfl rfl ?_
  refine jr_aload_n CC (jd ddX3_add 12 rfl) 0 rfl ?_
  refine jr_get (v := .int (nI pn)) CC (jd ddX3_add 13 rfl) (jf_X3_24 CC) 0 rfl rfl ?_
  refine jr_iload_n CC (jd ddX3_add 14 rfl) 2 rfl ?_
  refine jr_iastN CC (jd ddX3_add 15 rfl) 2 pn rfl rfl (by omega) (by decide) ?_
  refine jr_aload_n CC (jd ddX3_add 16 rfl) 0 rfl ?_
  refine jr_dup CC (jd ddX3_add 17 rfl) rfl ?_
  refine jr_get (v := .int (nI pn)) CC (jd ddX3_add 18 rfl) (jf_X3_24 CC) 0 rfl rfl ?_
  refine jr_iconst (v := 1) CC (jd ddX3_add 19 rfl) (by decide) ?_
  refine jr_pc (pc' := 35) rfl ?_
  refine jr_iadd CC (jd ddX3_add 20 rfl) ?_
  refine jr_st [.int (nI (pn + 1)), .ref x4] (by rw [nI_1]) ?_
  refine jr_put CC (jd ddX3_add 21 rfl) (jf_X3_24 CC) 0 rfl rfl rfl (Nat.le_of_ble_eq_true rfl) ?_
  refine jr_iload_n CC (jd ddX3_add 22 rfl) 1 rfl ?_
  refine jr_iconst (v := 3) CC (jd ddX3_add 23 rfl) (by decide) ?_
  refine jr_icmp_ne 48 CC (jd ddX3_add 24 rfl) (by decide) (fun h => absurd h (by decide)) (fun _ => ?_)
  refine jr_iconst (v := 2) CC (jd ddX3_add 25 rfl) (by decide) ?_
  refine jr_goto 58 CC (jd ddX3_add 26 rfl) (by decide) ?_
  refine jr_istore_n 3 [(3, .int 2), (0, .ref x4), (1, .int 3), (2, .int d)] CC (jd ddX3_add 33 rfl) rfl (by decide) rfl ?_
  refine jr_aload_n CC (jd ddX3_add 34 rfl) 1 rfl ?_
  refine jr_dup CC (jd ddX3_add 35 rfl) rfl ?_
  refine jr_get (v := .int (nI ht)) CC (jd ddX3_add 36 rfl) (jf_X3_28 CC) 0 rfl rfl ?_
  refine jr_iconst (v := 1) CC (jd ddX3_add 37 rfl) (by decide) ?_
  refine jr_iload_n CC (jd ddX3_add 38 rfl) 0 rfl ?_
  refine jr_isub CC (jd ddX3_add 39 rfl) ?_
  refine jr_st [.int (-1), .int (nI ht), .ref x4] (by rfl) ?_
  refine jr_iadd CC (jd ddX3_add 40 rfl) ?_
  refine jr_st [.int (nI (ht - 1)), .ref x4] (by rw [show nI ht = nI (ht - 1 + 1) by rw [Nat.sub_add_cancel (by omega)]]; exact congrArg (fun z => [Value.int z, .ref x4]) (pk_m1 _)) ?_
  refine jr_put CC (jd ddX3_add 41 rfl) (jf_X3_28 CC) 0 rfl rfl rfl (Nat.le_of_ble_eq_true rfl) ?_
  refine jr_aload_n CC (jd ddX3_add 42 rfl) 1 rfl ?_
  refine jr_pc (pc' := 72) rfl ?_
  refine jr_get (v := .int (nI (ht - 1))) CC (jd ddX3_add 43 rfl) (jf_X3_28 CC) 0 rfl rfl ?_
  exact jr_iret CC MM (jd ddX3_add 44 rfl) rfl (by decide) (by decide) ⟨rfl, rfl⟩
set_option maxHeartbeats 8000000 in
set_option maxRecDepth 100000 in
theorem k_X10_putChannel (l : Launch) (t : Nat → ClassId) (hfl : l.stackTraces = false) (h0 : Nat) (x1 : Nat) (x2 : Nat) (x3 : Nat) (x4 : Nat) (x5 : Nat) (x6 : Nat) (fi : Int32) (e0 : Nat) (e1 : Nat) (e2 : Nat) (e3 : Nat) (pn : Nat) (ht : Nat) (KA : Nat → Int32) (DA : Nat → Int32) (d : Int32) (hp6 : pn ≤ 16) (hh6 : ht ≤ 16) : jKx l t yX10_putChannel (Cond.code yX10_putChannel cX10_putChannel 2 (some .int) :: jWS) { frames := 8, cells := 2, slots := 12, locals := 124 } [.ref h0, .int d] [(h0, .inr (9, [.ref x1, .ref x2, .ref x3, .ref x4, .ref x5, .ref x6, .int fi])), (x4, .inr (2, [.ref e0, .ref e1, .ref e2, .ref e3, .int (nI pn), .int (nI ht)])), (e0, .inl (t 0, 16, .inl KA)), (e1, .inl (t 0, 16, .inl DA))] (fun vv uu => (((ePutC d (nI pn)) = 0) ∧ vv = some (.int (nI (ht + 1))) ∧ uu = [(h0, .inr (9, [.ref x1, .ref x2, .ref x3, .ref x4, .ref x5, .ref x6, .int fi])), (x4, .inr (2, [.ref e0, .ref e1, .ref e2, .ref e3, .int (nI (pn + 1)), .int (nI (ht + 1))])), (e0, .inl (t 0, 16, .inl (upd KA pn 0))), (e1, .inl (t 0, 16, .inl (upd DA pn d)))])) (fun EE uu => (((ePutC d (nI pn)) = 1) ∧ EE = "java/lang/IllegalArgumentException" ∧ uu = [(h0, .inr (9, [.ref x1, .ref x2, .ref x3, .ref x4, .ref x5, .ref x6, .int fi])), (x4, .inr (2, [.ref e0, .ref e1, .ref e2, .ref e3, .int (nI pn), .int (nI ht)])), (e0, .inl (t 0, 16, .inl KA)), (e1, .inl (t 0, 16, .inl DA))]) ∨ (((ePutC d (nI pn)) = 2) ∧ EE = "java/lang/IllegalStateException" ∧ uu = [(h0, .inr (9, [.ref x1, .ref x2, .ref x3, .ref x4, .ref x5, .ref x6, .int fi])), (x4, .inr (2, [.ref e0, .ref e1, .ref e2, .ref e3, .int (nI pn), .int (nI ht)])), (e0, .inl (t 0, 16, .inl KA)), (e1, .inl (t 0, 16, .inl DA))])) := by
  refine jK_of hfl (by decide +kernel) (Nat.le_of_ble_eq_true rfl) ?_
  intro p e s m args below meth c D A Q CC MM
  refine jr_norm0 [(0, .ref h0), (1, .int d)] rfl ?_
  refine jr_iload_n CC (jd ddX10_putChannel 0 rfl) 1 rfl ?_
  refine jr_callS (rest := []) [.int d] CC (jd ddX10_putChannel 1 rfl) (jy_X10_50 CC) (k_X10_checkChannel l t hfl d) [] rfl (by decide) rfl rfl (by decide) (Nat.le_of_ble_eq_true rfl) (by rintro v u h; rcases h with ⟨h0, rfl, rfl⟩ <;> rfl) (by rintro v u h; rcases h with ⟨h0, rfl, rfl⟩ <;> rfl) (fun E u hx => ?_) (fun v u h => ?_)
  · rcases hx with ⟨c1, rfl, rfl⟩
    exact jr_out CC MM (by decide) (by decide) (Or.inl ⟨by simp [ePutC, jI, c1], rfl, rfl⟩)
  · rcases h with ⟨c2, rfl, rfl⟩
    refine jr_norm [(h0, .inr (9, [.ref x1, .ref x2, .ref x3, .ref x4, .ref x5, .ref x6, .int fi])), (x4, .inr (2, [.ref e0, .ref e1, .ref e2, .ref e3, .int (nI pn), .int (nI ht)])), (e0, .inl (t 0, 16, .inl KA)), (e1, .inl (t 0, 16, .inl DA))] [] 4 1 6 rfl rfl rfl rfl rfl ?_
    refine jr_aload_n CC (jd ddX10_putChannel 2 rfl) 0 rfl ?_
    refine jr_callV (q0 := 0) (rest := []) [] CC (jd ddX10_putChannel 3 rfl) (jy_X10_199 CC) (k_X10_checkRoom l t hfl h0 x1 x2 x3 x4 x5 x6 fi e0 e1 e2 e3 (nI pn) (nI ht)) [0, 1] rfl (by decide) rfl rfl rfl rfl (by decide) (Nat.le_of_ble_eq_true rfl) (by rintro v u h; rcases h with ⟨h0, rfl, rfl⟩ <;> rfl) (by rintro v u h; rcases h with ⟨h0, rfl, rfl⟩ <;> rfl) (fun E u hx => ?_) (fun v u h => ?_)
    · rcases hx with ⟨c3, rfl, rfl⟩
      exact jr_out CC MM (by decide) (by decide) (Or.inr ⟨by simp [ePutC, jI, c2, c3], rfl, rfl⟩)
    · rcases h with ⟨c4, rfl, rfl⟩
      refine jr_norm [(h0, .inr (9, [.ref x1, .ref x2, .ref x3, .ref x4, .ref x5, .ref x6, .int fi])), (x4, .inr (2, [.ref e0, .ref e1, .ref e2, .ref e3, .int (nI pn), .int (nI ht)])), (e0, .inl (t 0, 16, .inl KA)), (e1, .inl (t 0, 16, .inl DA))] [] 8 2 12 rfl rfl rfl rfl rfl ?_
      refine jr_aload_n CC (jd ddX10_putChannel 4 rfl) 0 rfl ?_
      refine jr_get (v := .ref x4) CC (jd ddX10_putChannel 5 rfl) (jf_X10_33 CC) 0 rfl rfl ?_
      refine jr_iconst (v := 0) CC (jd ddX10_putChannel 6 rfl) (by decide) ?_
      refine jr_iload_n CC (jd ddX10_putChannel 7 rfl) 1 rfl ?_
      refine jr_callV (q0 := 1) (rest := []) [.int 0, .int d] CC (jd ddX10_putChannel 8 rfl) (jy_X10_202 CC) (k_X3_add_0 l t hfl x4 e0 e1 e2 e3 pn ht KA DA d (jlt_of (b := 16) c4 (by omega) (by decide))) [1, 2, 3] rfl (by decide) rfl rfl rfl rfl (by decide) (Nat.le_of_ble_eq_true rfl) (by rintro v u h; rcases h with ⟨rfl, rfl⟩ <;> rfl) (fun _ _ h => h.elim) (fun _ _ h => h.elim) (fun v u h => ?_)
      rcases h with ⟨rfl, rfl⟩
      refine jr_norm [(h0, .inr (9, [.ref x1, .ref x2, .ref x3, .ref x4, .ref x5, .ref x6, .int fi])), (x4, .inr (2, [.ref e0, .ref e1, .ref e2, .ref e3, .int (nI (pn + 1)), .int (nI (ht + 1))])), (e0, .inl (t 0, 16, .inl (upd KA pn 0))), (e1, .inl (t 0, 16, .inl (upd DA pn d)))] [.int (nI (ht + 1))] 17 2 12 rfl rfl rfl rfl rfl ?_
      exact jr_iret CC MM (jd ddX10_putChannel 9 rfl) rfl (by decide) (by decide) ⟨by simp [ePutC, jI, c2, c4], rfl, rfl⟩
set_option maxHeartbeats 8000000 in
set_option maxRecDepth 100000 in
theorem k_X10_putConstant (l : Launch) (t : Nat → ClassId) (hfl : l.stackTraces = false) (h0 : Nat) (x1 : Nat) (x2 : Nat) (x3 : Nat) (x4 : Nat) (x5 : Nat) (x6 : Nat) (fi : Int32) (e0 : Nat) (e1 : Nat) (e2 : Nat) (e3 : Nat) (pn : Nat) (ht : Nat) (KA : Nat → Int32) (DA : Nat → Int32) (d : Int32) (hp6 : pn ≤ 16) (hh6 : ht ≤ 16) : jKx l t yX10_putConstant (Cond.code yX10_putConstant cX10_putConstant 2 (some .int) :: jWS) { frames := 7, cells := 2, slots := 12, locals := 104 } [.ref h0, .int d] [(h0, .inr (9, [.ref x1, .ref x2, .ref x3, .ref x4, .ref x5, .ref x6, .int fi])), (x4, .inr (2, [.ref e0, .ref e1, .ref e2, .ref e3, .int (nI pn), .int (nI ht)])), (e0, .inl (t 0, 16, .inl KA)), (e1, .inl (t 0, 16, .inl DA))] (fun vv uu => (((ePutK d (nI pn)) = 0) ∧ vv = some (.int (nI (ht + 1))) ∧ uu = [(h0, .inr (9, [.ref x1, .ref x2, .ref x3, .ref x4, .ref x5, .ref x6, .int fi])), (x4, .inr (2, [.ref e0, .ref e1, .ref e2, .ref e3, .int (nI (pn + 1)), .int (nI (ht + 1))])), (e0, .inl (t 0, 16, .inl (upd KA pn 1))), (e1, .inl (t 0, 16, .inl (upd DA pn d)))])) (fun EE uu => (((ePutK d (nI pn)) = 1) ∧ EE = "java/lang/IllegalArgumentException" ∧ uu = [(h0, .inr (9, [.ref x1, .ref x2, .ref x3, .ref x4, .ref x5, .ref x6, .int fi])), (x4, .inr (2, [.ref e0, .ref e1, .ref e2, .ref e3, .int (nI pn), .int (nI ht)])), (e0, .inl (t 0, 16, .inl KA)), (e1, .inl (t 0, 16, .inl DA))]) ∨ (((ePutK d (nI pn)) = 2) ∧ EE = "java/lang/IllegalStateException" ∧ uu = [(h0, .inr (9, [.ref x1, .ref x2, .ref x3, .ref x4, .ref x5, .ref x6, .int fi])), (x4, .inr (2, [.ref e0, .ref e1, .ref e2, .ref e3, .int (nI pn), .int (nI ht)])), (e0, .inl (t 0, 16, .inl KA)), (e1, .inl (t 0, 16, .inl DA))])) := by
  refine jK_of hfl (by decide +kernel) (Nat.le_of_ble_eq_true rfl) ?_
  intro p e s m args below meth c D A Q CC MM
  refine jr_norm0 [(0, .ref h0), (1, .int d)] rfl ?_
  refine jr_iload_n CC (jd ddX10_putConstant 0 rfl) 1 rfl ?_
  refine jr_sipush (v := (-1000)) CC (jd ddX10_putConstant 1 rfl) (by decide) ?_
  refine jr_sipush (v := 1000) CC (jd ddX10_putConstant 2 rfl) (by decide) ?_
  refine jr_callS (rest := []) [.int d, .int (-1000), .int 1000] CC (jd ddX10_putConstant 3 rfl) (jy_X10_57 CC) (k_X10_checkRange l t hfl d (-1000) 1000) [] rfl (by decide) rfl rfl (by decide) (Nat.le_of_ble_eq_true rfl) (by rintro v u h; rcases h with ⟨h0, rfl, rfl⟩ <;> rfl) (by rintro v u h; rcases h with ⟨h0, rfl, rfl⟩ <;> rfl) (fun E u hx => ?_) (fun v u h => ?_)
  · rcases hx with ⟨c1, rfl, rfl⟩
    exact jr_out CC MM (by decide) (by decide) (Or.inl ⟨by simp [ePutK, jI, c1], rfl, rfl⟩)
  · rcases h with ⟨c2, rfl, rfl⟩
    refine jr_norm [(h0, .inr (9, [.ref x1, .ref x2, .ref x3, .ref x4, .ref x5, .ref x6, .int fi])), (x4, .inr (2, [.ref e0, .ref e1, .ref e2, .ref e3, .int (nI pn), .int (nI ht)])), (e0, .inl (t 0, 16, .inl KA)), (e1, .inl (t 0, 16, .inl DA))] [] 10 1 6 rfl rfl rfl rfl rfl ?_
    refine jr_aload_n CC (jd ddX10_putConstant 4 rfl) 0 rfl ?_
    refine jr_callV (q0 := 0) (rest := []) [] CC (jd ddX10_putConstant 5 rfl) (jy_X10_199 CC) (k_X10_checkRoom l t hfl h0 x1 x2 x3 x4 x5 x6 fi e0 e1 e2 e3 (nI pn) (nI ht)) [0, 1] rfl (by decide) rfl rfl rfl rfl (by decide) (Nat.le_of_ble_eq_true rfl) (by rintro v u h; rcases h with ⟨h0, rfl, rfl⟩ <;> rfl) (by rintro v u h; rcases h with ⟨h0, rfl, rfl⟩ <;> rfl) (fun E u hx => ?_) (fun v u h => ?_)
    · rcases hx with ⟨c3, rfl, rfl⟩
      exact jr_out CC MM (by decide) (by decide) (Or.inr ⟨by simp [ePutK, jI, c2, c3], rfl, rfl⟩)
    · rcases h with ⟨c4, rfl, rfl⟩
      refine jr_norm [(h0, .inr (9, [.ref x1, .ref x2, .ref x3, .ref x4, .ref x5, .ref x6, .int fi])), (x4, .inr (2, [.ref e0, .ref e1, .ref e2, .ref e3, .int (nI pn), .int (nI ht)])), (e0, .inl (t 0, 16, .inl KA)), (e1, .inl (t 0, 16, .inl DA))] [] 14 2 12 rfl rfl rfl rfl rfl ?_
      refine jr_aload_n CC (jd ddX10_putConstant 6 rfl) 0 rfl ?_
      refine jr_get (v := .ref x4) CC (jd ddX10_putConstant 7 rfl) (jf_X10_33 CC) 0 rfl rfl ?_
      refine jr_iconst (v := 1) CC (jd ddX10_putConstant 8 rfl) (by decide) ?_
      refine jr_iload_n CC (jd ddX10_putConstant 9 rfl) 1 rfl ?_
      refine jr_callV (q0 := 1) (rest := []) [.int 1, .int d] CC (jd ddX10_putConstant 10 rfl) (jy_X10_202 CC) (k_X3_add_1 l t hfl x4 e0 e1 e2 e3 pn ht KA DA d (jlt_of (b := 16) c4 (by omega) (by decide))) [1, 2, 3] rfl (by decide) rfl rfl rfl rfl (by decide) (Nat.le_of_ble_eq_true rfl) (by rintro v u h; rcases h with ⟨rfl, rfl⟩ <;> rfl) (fun _ _ h => h.elim) (fun _ _ h => h.elim) (fun v u h => ?_)
      rcases h with ⟨rfl, rfl⟩
      refine jr_norm [(h0, .inr (9, [.ref x1, .ref x2, .ref x3, .ref x4, .ref x5, .ref x6, .int fi])), (x4, .inr (2, [.ref e0, .ref e1, .ref e2, .ref e3, .int (nI (pn + 1)), .int (nI (ht + 1))])), (e0, .inl (t 0, 16, .inl (upd KA pn 1))), (e1, .inl (t 0, 16, .inl (upd DA pn d)))] [.int (nI (ht + 1))] 23 2 12 rfl rfl rfl rfl rfl ?_
      exact jr_iret CC MM (jd ddX10_putConstant 11 rfl) rfl (by decide) (by decide) ⟨by simp [ePutK, jI, c2, c4], rfl, rfl⟩
set_option maxHeartbeats 8000000 in
set_option maxRecDepth 100000 in
theorem k_X10_apply (l : Launch) (t : Nat → ClassId) (hfl : l.stackTraces = false) (h0 : Nat) (x1 : Nat) (x2 : Nat) (x3 : Nat) (x4 : Nat) (x5 : Nat) (x6 : Nat) (fi : Int32) (e0 : Nat) (e1 : Nat) (e2 : Nat) (e3 : Nat) (pn : Nat) (ht : Nat) (KA : Nat → Int32) (DA : Nat → Int32) (d : Int32) (hp6 : pn ≤ 16) (hh6 : ht ≤ 16) : jKx l t yX10_apply (Cond.code yX10_apply cX10_apply 2 (some .int) :: jWS) { frames := 7, cells := 3, slots := 18, locals := 104 } [.ref h0, .int d] [(h0, .inr (9, [.ref x1, .ref x2, .ref x3, .ref x4, .ref x5, .ref x6, .int fi])), (x4, .inr (2, [.ref e0, .ref e1, .ref e2, .ref e3, .int (nI pn), .int (nI ht)])), (e0, .inl (t 0, 16, .inl KA)), (e1, .inl (t 0, 16, .inl DA))] (fun vv uu => (((eApply d (nI pn) (nI ht)) = 0) ∧ vv = some (.int (nI ht)) ∧ uu = [(h0, .inr (9, [.ref x1, .ref x2, .ref x3, .ref x4, .ref x5, .ref x6, .int fi])), (x4, .inr (2, [.ref e0, .ref e1, .ref e2, .ref e3, .int (nI (pn + 1)), .int (nI ht)])), (e0, .inl (t 0, 16, .inl (upd KA pn 2))), (e1, .inl (t 0, 16, .inl (upd DA pn d)))])) (fun EE uu => (((eApply d (nI pn) (nI ht)) = 1) ∧ EE = "java/lang/IllegalArgumentException" ∧ uu = [(h0, .inr (9, [.ref x1, .ref x2, .ref x3, .ref x4, .ref x5, .ref x6, .int fi])), (x4, .inr (2, [.ref e0, .ref e1, .ref e2, .ref e3, .int (nI pn), .int (nI ht)])), (e0, .inl (t 0, 16, .inl KA)), (e1, .inl (t 0, 16, .inl DA))]) ∨ (((eApply d (nI pn) (nI ht)) = 2) ∧ EE = "java/lang/IllegalStateException" ∧ uu = [(h0, .inr (9, [.ref x1, .ref x2, .ref x3, .ref x4, .ref x5, .ref x6, .int fi])), (x4, .inr (2, [.ref e0, .ref e1, .ref e2, .ref e3, .int (nI pn), .int (nI ht)])), (e0, .inl (t 0, 16, .inl KA)), (e1, .inl (t 0, 16, .inl DA))])) := by
  refine jK_of hfl (by decide +kernel) (Nat.le_of_ble_eq_true rfl) ?_
  intro p e s m args below meth c D A Q CC MM
  refine jr_norm0 [(0, .ref h0), (1, .int d)] rfl ?_
  refine jr_iload_n CC (jd ddX10_apply 0 rfl) 1 rfl ?_
  refine jr_iconst (v := 0) CC (jd ddX10_apply 1 rfl) (by decide) ?_
  refine jr_iconst (v := 3) CC (jd ddX10_apply 2 rfl) (by decide) ?_
  refine jr_callS (rest := []) [.int d, .int 0, .int 3] CC (jd ddX10_apply 3 rfl) (jy_X10_57 CC) (k_X10_checkRange l t hfl d 0 3) [] rfl (by decide) rfl rfl (by decide) (Nat.le_of_ble_eq_true rfl) (by rintro v u h; rcases h with ⟨h0, rfl, rfl⟩ <;> rfl) (by rintro v u h; rcases h with ⟨h0, rfl, rfl⟩ <;> rfl) (fun E u hx => ?_) (fun v u h => ?_)
  · rcases hx with ⟨c1, rfl, rfl⟩
    exact jr_out CC MM (by decide) (by decide) (Or.inl ⟨by simp [eApply, jI, c1], rfl, rfl⟩)
  · rcases h with ⟨c2, rfl, rfl⟩
    refine jr_norm [(h0, .inr (9, [.ref x1, .ref x2, .ref x3, .ref x4, .ref x5, .ref x6, .int fi])), (x4, .inr (2, [.ref e0, .ref e1, .ref e2, .ref e3, .int (nI pn), .int (nI ht)])), (e0, .inl (t 0, 16, .inl KA)), (e1, .inl (t 0, 16, .inl DA))] [] 6 1 6 rfl rfl rfl rfl rfl ?_
    refine jr_aload_n CC (jd ddX10_apply 4 rfl) 0 rfl ?_
    refine jr_callV (q0 := 0) (rest := []) [] CC (jd ddX10_apply 5 rfl) (jy_X10_199 CC) (k_X10_checkRoom l t hfl h0 x1 x2 x3 x4 x5 x6 fi e0 e1 e2 e3 (nI pn) (nI ht)) [0, 1] rfl (by decide) rfl rfl rfl rfl (by decide) (Nat.le_of_ble_eq_true rfl) (by rintro v u h; rcases h with ⟨h0, rfl, rfl⟩ <;> rfl) (by rintro v u h; rcases h with ⟨h0, rfl, rfl⟩ <;> rfl) (fun E u hx => ?_) (fun v u h => ?_)
    · rcases hx with ⟨c3, rfl, rfl⟩
      exact jr_out CC MM (by decide) (by decide) (Or.inr ⟨by simp [eApply, jI, c2, c3], rfl, rfl⟩)
    · rcases h with ⟨c4, rfl, rfl⟩
      refine jr_norm [(h0, .inr (9, [.ref x1, .ref x2, .ref x3, .ref x4, .ref x5, .ref x6, .int fi])), (x4, .inr (2, [.ref e0, .ref e1, .ref e2, .ref e3, .int (nI pn), .int (nI ht)])), (e0, .inl (t 0, 16, .inl KA)), (e1, .inl (t 0, 16, .inl DA))] [] 10 2 12 rfl rfl rfl rfl rfl ?_
      refine jr_aload_n CC (jd ddX10_apply 6 rfl) 0 rfl ?_
      refine jr_iconst (v := 1) CC (jd ddX10_apply 7 rfl) (by decide) ?_
      refine jr_callV (q0 := 0) (rest := []) [.int 1] CC (jd ddX10_apply 8 rfl) (jy_X10_204 CC) (k_X10_checkOperands l t hfl h0 x1 x2 x3 x4 x5 x6 fi e0 e1 e2 e3 (nI pn) (nI ht) 1) [0, 1] rfl (by decide) rfl rfl rfl rfl (by decide) (Nat.le_of_ble_eq_true rfl) (by rintro v u h; rcases h with ⟨h0, rfl, rfl⟩ <;> rfl) (by rintro v u h; rcases h with ⟨h0, rfl, rfl⟩ <;> rfl) (fun E u hx => ?_) (fun v u h => ?_)
      · rcases hx with ⟨c5, rfl, rfl⟩
        exact jr_out CC MM (by decide) (by decide) (Or.inr ⟨by simp [eApply, jI, c2, c4, c5], rfl, rfl⟩)
      · rcases h with ⟨c6, rfl, rfl⟩
        refine jr_norm [(h0, .inr (9, [.ref x1, .ref x2, .ref x3, .ref x4, .ref x5, .ref x6, .int fi])), (x4, .inr (2, [.ref e0, .ref e1, .ref e2, .ref e3, .int (nI pn), .int (nI ht)])), (e0, .inl (t 0, 16, .inl KA)), (e1, .inl (t 0, 16, .inl DA))] [] 15 3 18 rfl rfl rfl rfl rfl ?_
        refine jr_aload_n CC (jd ddX10_apply 9 rfl) 0 rfl ?_
        refine jr_get (v := .ref x4) CC (jd ddX10_apply 10 rfl) (jf_X10_33 CC) 0 rfl rfl ?_
        refine jr_iconst (v := 2) CC (jd ddX10_apply 11 rfl) (by decide) ?_
        refine jr_iload_n CC (jd ddX10_apply 12 rfl) 1 rfl ?_
        refine jr_callV (q0 := 1) (rest := []) [.int 2, .int d] CC (jd ddX10_apply 13 rfl) (jy_X10_202 CC) (k_X3_add_2 l t hfl x4 e0 e1 e2 e3 pn ht KA DA d (jlt_of (b := 16) c4 (by omega) (by decide)) (jle_of (a := 1) c6 (by decide) (by omega))) [1, 2, 3] rfl (by decide) rfl rfl rfl rfl (by decide) (Nat.le_of_ble_eq_true rfl) (by rintro v u h; rcases h with ⟨rfl, rfl⟩ <;> rfl) (fun _ _ h => h.elim) (fun _ _ h => h.elim) (fun v u h => ?_)
        rcases h with ⟨rfl, rfl⟩
        refine jr_norm [(h0, .inr (9, [.ref x1, .ref x2, .ref x3, .ref x4, .ref x5, .ref x6, .int fi])), (x4, .inr (2, [.ref e0, .ref e1, .ref e2, .ref e3, .int (nI (pn + 1)), .int (nI ht)])), (e0, .inl (t 0, 16, .inl (upd KA pn 2))), (e1, .inl (t 0, 16, .inl (upd DA pn d)))] [.int (nI ht)] 24 3 18 rfl rfl rfl rfl rfl ?_
        exact jr_iret CC MM (jd ddX10_apply 14 rfl) rfl (by decide) (by decide) ⟨by simp [eApply, jI, c2, c4, c6], rfl, rfl⟩
set_option maxHeartbeats 8000000 in
set_option maxRecDepth 100000 in
theorem k_X10_combine (l : Launch) (t : Nat → ClassId) (hfl : l.stackTraces = false) (h0 : Nat) (x1 : Nat) (x2 : Nat) (x3 : Nat) (x4 : Nat) (x5 : Nat) (x6 : Nat) (fi : Int32) (e0 : Nat) (e1 : Nat) (e2 : Nat) (e3 : Nat) (pn : Nat) (ht : Nat) (KA : Nat → Int32) (DA : Nat → Int32) (d : Int32) (hp6 : pn ≤ 16) (hh6 : ht ≤ 16) : jKx l t yX10_combine (Cond.code yX10_combine cX10_combine 2 (some .int) :: jWS) { frames := 7, cells := 3, slots := 18, locals := 104 } [.ref h0, .int d] [(h0, .inr (9, [.ref x1, .ref x2, .ref x3, .ref x4, .ref x5, .ref x6, .int fi])), (x4, .inr (2, [.ref e0, .ref e1, .ref e2, .ref e3, .int (nI pn), .int (nI ht)])), (e0, .inl (t 0, 16, .inl KA)), (e1, .inl (t 0, 16, .inl DA))] (fun vv uu => (((eComb d (nI pn) (nI ht)) = 0) ∧ vv = some (.int (nI (ht - 1))) ∧ uu = [(h0, .inr (9, [.ref x1, .ref x2, .ref x3, .ref x4, .ref x5, .ref x6, .int fi])), (x4, .inr (2, [.ref e0, .ref e1, .ref e2, .ref e3, .int (nI (pn + 1)), .int (nI (ht - 1))])), (e0, .inl (t 0, 16, .inl (upd KA pn 3))), (e1, .inl (t 0, 16, .inl (upd DA pn d)))])) (fun EE uu => (((eComb d (nI pn) (nI ht)) = 1) ∧ EE = "java/lang/IllegalArgumentException" ∧ uu = [(h0, .inr (9, [.ref x1, .ref x2, .ref x3, .ref x4, .ref x5, .ref x6, .int fi])), (x4, .inr (2, [.ref e0, .ref e1, .ref e2, .ref e3, .int (nI pn), .int (nI ht)])), (e0, .inl (t 0, 16, .inl KA)), (e1, .inl (t 0, 16, .inl DA))]) ∨ (((eComb d (nI pn) (nI ht)) = 2) ∧ EE = "java/lang/IllegalStateException" ∧ uu = [(h0, .inr (9, [.ref x1, .ref x2, .ref x3, .ref x4, .ref x5, .ref x6, .int fi])), (x4, .inr (2, [.ref e0, .ref e1, .ref e2, .ref e3, .int (nI pn), .int (nI ht)])), (e0, .inl (t 0, 16, .inl KA)), (e1, .inl (t 0, 16, .inl DA))])) := by
  refine jK_of hfl (by decide +kernel) (Nat.le_of_ble_eq_true rfl) ?_
  intro p e s m args below meth c D A Q CC MM
  refine jr_norm0 [(0, .ref h0), (1, .int d)] rfl ?_
  refine jr_iload_n CC (jd ddX10_combine 0 rfl) 1 rfl ?_
  refine jr_iconst (v := 0) CC (jd ddX10_combine 1 rfl) (by decide) ?_
  refine jr_iconst (v := 4) CC (jd ddX10_combine 2 rfl) (by decide) ?_
  refine jr_callS (rest := []) [.int d, .int 0, .int 4] CC (jd ddX10_combine 3 rfl) (jy_X10_57 CC) (k_X10_checkRange l t hfl d 0 4) [] rfl (by decide) rfl rfl (by decide) (Nat.le_of_ble_eq_true rfl) (by rintro v u h; rcases h with ⟨h0, rfl, rfl⟩ <;> rfl) (by rintro v u h; rcases h with ⟨h0, rfl, rfl⟩ <;> rfl) (fun E u hx => ?_) (fun v u h => ?_)
  · rcases hx with ⟨c1, rfl, rfl⟩
    exact jr_out CC MM (by decide) (by decide) (Or.inl ⟨by simp [eComb, jI, c1], rfl, rfl⟩)
  · rcases h with ⟨c2, rfl, rfl⟩
    refine jr_norm [(h0, .inr (9, [.ref x1, .ref x2, .ref x3, .ref x4, .ref x5, .ref x6, .int fi])), (x4, .inr (2, [.ref e0, .ref e1, .ref e2, .ref e3, .int (nI pn), .int (nI ht)])), (e0, .inl (t 0, 16, .inl KA)), (e1, .inl (t 0, 16, .inl DA))] [] 6 1 6 rfl rfl rfl rfl rfl ?_
    refine jr_aload_n CC (jd ddX10_combine 4 rfl) 0 rfl ?_
    refine jr_callV (q0 := 0) (rest := []) [] CC (jd ddX10_combine 5 rfl) (jy_X10_199 CC) (k_X10_checkRoom l t hfl h0 x1 x2 x3 x4 x5 x6 fi e0 e1 e2 e3 (nI pn) (nI ht)) [0, 1] rfl (by decide) rfl rfl rfl rfl (by decide) (Nat.le_of_ble_eq_true rfl) (by rintro v u h; rcases h with ⟨h0, rfl, rfl⟩ <;> rfl) (by rintro v u h; rcases h with ⟨h0, rfl, rfl⟩ <;> rfl) (fun E u hx => ?_) (fun v u h => ?_)
    · rcases hx with ⟨c3, rfl, rfl⟩
      exact jr_out CC MM (by decide) (by decide) (Or.inr ⟨by simp [eComb, jI, c2, c3], rfl, rfl⟩)
    · rcases h with ⟨c4, rfl, rfl⟩
      refine jr_norm [(h0, .inr (9, [.ref x1, .ref x2, .ref x3, .ref x4, .ref x5, .ref x6, .int fi])), (x4, .inr (2, [.ref e0, .ref e1, .ref e2, .ref e3, .int (nI pn), .int (nI ht)])), (e0, .inl (t 0, 16, .inl KA)), (e1, .inl (t 0, 16, .inl DA))] [] 10 2 12 rfl rfl rfl rfl rfl ?_
      refine jr_aload_n CC (jd ddX10_combine 6 rfl) 0 rfl ?_
      refine jr_iconst (v := 2) CC (jd ddX10_combine 7 rfl) (by decide) ?_
      refine jr_callV (q0 := 0) (rest := []) [.int 2] CC (jd ddX10_combine 8 rfl) (jy_X10_204 CC) (k_X10_checkOperands l t hfl h0 x1 x2 x3 x4 x5 x6 fi e0 e1 e2 e3 (nI pn) (nI ht) 2) [0, 1] rfl (by decide) rfl rfl rfl rfl (by decide) (Nat.le_of_ble_eq_true rfl) (by rintro v u h; rcases h with ⟨h0, rfl, rfl⟩ <;> rfl) (by rintro v u h; rcases h with ⟨h0, rfl, rfl⟩ <;> rfl) (fun E u hx => ?_) (fun v u h => ?_)
      · rcases hx with ⟨c5, rfl, rfl⟩
        exact jr_out CC MM (by decide) (by decide) (Or.inr ⟨by simp [eComb, jI, c2, c4, c5], rfl, rfl⟩)
      · rcases h with ⟨c6, rfl, rfl⟩
        refine jr_norm [(h0, .inr (9, [.ref x1, .ref x2, .ref x3, .ref x4, .ref x5, .ref x6, .int fi])), (x4, .inr (2, [.ref e0, .ref e1, .ref e2, .ref e3, .int (nI pn), .int (nI ht)])), (e0, .inl (t 0, 16, .inl KA)), (e1, .inl (t 0, 16, .inl DA))] [] 15 3 18 rfl rfl rfl rfl rfl ?_
        refine jr_aload_n CC (jd ddX10_combine 9 rfl) 0 rfl ?_
        refine jr_get (v := .ref x4) CC (jd ddX10_combine 10 rfl) (jf_X10_33 CC) 0 rfl rfl ?_
        refine jr_iconst (v := 3) CC (jd ddX10_combine 11 rfl) (by decide) ?_
        refine jr_iload_n CC (jd ddX10_combine 12 rfl) 1 rfl ?_
        refine jr_callV (q0 := 1) (rest := []) [.int 3, .int d] CC (jd ddX10_combine 13 rfl) (jy_X10_202 CC) (k_X3_add_3 l t hfl x4 e0 e1 e2 e3 pn ht KA DA d (jlt_of (b := 16) c4 (by omega) (by decide)) (jle_of (a := 2) c6 (by decide) (by omega))) [1, 2, 3] rfl (by decide) rfl rfl rfl rfl (by decide) (Nat.le_of_ble_eq_true rfl) (by rintro v u h; rcases h with ⟨rfl, rfl⟩ <;> rfl) (fun _ _ h => h.elim) (fun _ _ h => h.elim) (fun v u h => ?_)
        rcases h with ⟨rfl, rfl⟩
        refine jr_norm [(h0, .inr (9, [.ref x1, .ref x2, .ref x3, .ref x4, .ref x5, .ref x6, .int fi])), (x4, .inr (2, [.ref e0, .ref e1, .ref e2, .ref e3, .int (nI (pn + 1)), .int (nI (ht - 1))])), (e0, .inl (t 0, 16, .inl (upd KA pn 3))), (e1, .inl (t 0, 16, .inl (upd DA pn d)))] [.int (nI (ht - 1))] 24 3 18 rfl rfl rfl rfl rfl ?_
        exact jr_iret CC MM (jd ddX10_combine 14 rfl) rfl (by decide) (by decide) ⟨by simp [eComb, jI, c2, c4, c6], rfl, rfl⟩
