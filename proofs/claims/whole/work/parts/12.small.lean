noncomputable def jI (P : Prop) (a b : Int32) : Int32 := @ite Int32 P (Classical.propDecidable P) a b
theorem jI_t {P : Prop} {a b : Int32} (h : P) : jI P a b = a := @if_pos P (Classical.propDecidable P) h Int32 a b
theorem jI_f {P : Prop} {a b : Int32} (h : ¬ P) : jI P a b = b := @if_neg P (Classical.propDecidable P) h Int32 a b
/-! fresh conditions -/
def gE (ch lv hy ri : Int32) : Nat → Int32 := fun i => match i with | 0 => ch | 1 => lv | 2 => hy | 3 => ri | _ => 0
def gW (ch lv le mo hi : Int32) : Nat → Int32 := fun i => match i with | 0 => ch | 1 => lv | 2 => le | 3 => mo | 4 => hi | _ => 0
def gR (ch lo hi : Int32) : Nat → Int32 := fun i => match i with | 0 => ch | 1 => lo | 2 => hi | _ => 0
def gS (a b sp : Int32) : Nat → Int32 := fun i => match i with | 0 => a | 1 => b | 2 => sp | _ => 0
def cNew (ci : Nat) (G : Nat → Int32) : Nat → Int32 := match ci with
  | 1 => gE (G 0) (G 1) (G 2) (G 3)
  | 6 => gR (G 0) (G 1) (G 2)
  | 7 => gS (G 0) (G 1) (G 2)
  | _ => gW (G 0) (G 1) (G 2) (G 3) (G 4)
/-! the number of what is thrown, 0 for none -/
noncomputable def eEdge (ch lv hy : Int32) : Int32 := jI (jin ch 0 1 ∧ jin lv (-128) 127 ∧ jin hy 0 100) 0 1
noncomputable def eWidth (ch lv le mo : Int32) : Int32 := jI (jin ch 0 1 ∧ jin lv (-128) 127 ∧ jin le 1 100 ∧ jin mo le 100) 0 1
noncomputable def eRunt (ch lo hi : Int32) : Int32 := jI (jin ch 0 1 ∧ jin lo (-128) 127 ∧ jin hi lo 127) 0 1
noncomputable def eSeq (a b sp : Int32) : Int32 := jI (jin a (-128) 127 ∧ jin b (-128) 127 ∧ jin sp 0 100) 0 1
noncomputable def eLen (a b ar : Int32) : Int32 := jI (jin a 0 16 ∧ jin b 0 32) (if ar = 0 then 0 else 2) 1
noncomputable def eHold (a : Int32) : Int32 := jI (jin a 0 1000) 0 1
noncomputable def eRec (n x : Int32) : Int32 := jI (jrec n x) 0 1
noncomputable def eMask (a b lo hi : Int32) : Int32 := jI (jin a 0 48 ∧ jin b a 48 ∧ jin lo (-128) 127 ∧ jin hi lo 127) 0 1
noncomputable def ePutC (ch pt : Int32) : Int32 := jI (jin ch 0 1) (if 16 ≤ pt then 2 else 0) 1
noncomputable def ePutK (v pt : Int32) : Int32 := jI (jin v (-1000) 1000) (if 16 ≤ pt then 2 else 0) 1
noncomputable def eApply (o pt ht : Int32) : Int32 := jI (jin o 0 3) (if 16 ≤ pt then 2 else if ht < 1 then 2 else 0) 1
noncomputable def eComb (o pt ht : Int32) : Int32 := jI (jin o 0 4) (if 16 ≤ pt then 2 else if ht < 2 then 2 else 0) 1
set_option maxHeartbeats 8000000 in
set_option maxRecDepth 100000 in
theorem k_X1_init (l : Launch) (t : Nat → ClassId) (hfl : l.stackTraces = false) (h0 : Nat) : jKx l t yX1_init (Cond.code yX1_init cX1_init 1 none :: jWS) { frames := 1, cells := 0, slots := 0, locals := 12 } [.ref h0] [] (fun vv uu => (vv = none ∧ uu = [])) (fun _ _ => False) := by
  refine jK_of hfl (by decide +kernel) (Nat.le_of_ble_eq_true rfl) ?_
  intro p e s m args below meth c D A Q CC MM
  refine jr_norm0 [(0, .ref h0)] rfl ?_
  refine jr_aload_n CC (jd ddX1_init 0 rfl) 0 rfl ?_
  refine jr_objInit CC (jd ddX1_init 1 rfl) (joi_X1 CC.2.2.2.2.1) (by decide) (Nat.le_of_ble_eq_true rfl) ?_
  exact jr_vret CC MM (jd ddX1_init 2 rfl) rfl (by decide) (by decide) ⟨rfl, rfl⟩
set_option maxHeartbeats 8000000 in
set_option maxRecDepth 100000 in
theorem k_X2_init (l : Launch) (t : Nat → ClassId) (hfl : l.stackTraces = false) (h0 : Nat) (ch : Int32) (lv : Int32) (hy : Int32) (ri : Int32) (hri : ri = 0 ∨ ri = 1) : jKx l t yX2_init (Cond.code yX2_init cX2_init 5 none :: jWS) { frames := 2, cells := 0, slots := 0, locals := 32 } [.ref h0, .int ch, .int lv, .int hy, .int ri] [(h0, .inr (1, [.int 0, .int 0, .int 0, .int 0, .int 0]))] (fun vv uu => (vv = none ∧ uu = [(h0, .inr (1, jcond 1 (gE ch lv hy ri)))])) (fun _ _ => False) := by
  refine jK_of hfl (by decide +kernel) (Nat.le_of_ble_eq_true rfl) ?_
  intro p e s m args below meth c D A Q CC MM
  refine jr_norm0 [(0, .ref h0), (1, .int ch), (2, .int lv), (3, .int hy), (4, .int ri)] rfl ?_
  refine jr_aload_n CC (jd ddX2_init 0 rfl) 0 rfl ?_
  refine jr_callIN (rest := []) [] CC (jd ddX2_init 1 rfl) (jy_X2_1 CC) (k_X1_init l t hfl h0) [] rfl (by decide) rfl rfl (by decide) (Nat.le_of_ble_eq_true rfl) (by rintro v u h; rcases h with ⟨rfl, rfl⟩ <;> rfl) (fun _ _ h => h.elim) (fun _ _ h => h.elim) (fun v u h => ?_)
  rcases h with ⟨rfl, rfl⟩
  refine jr_norm [(h0, .inr (1, [.int 0, .int 0, .int 0, .int 0, .int 0]))] [] 4 0 0 rfl rfl rfl rfl rfl ?_
  refine jr_aload_n CC (jd ddX2_init 2 rfl) 0 rfl ?_
  refine jr_iload_n CC (jd ddX2_init 3 rfl) 1 rfl ?_
  refine jr_putF CC MM.2.2.2.2.2 (jd ddX2_init 4 rfl) (jff_X2_7 CC) 0 rfl rfl rfl (Nat.le_of_ble_eq_true rfl) ?_
  refine jr_aload_n CC (jd ddX2_init 5 rfl) 0 rfl ?_
  refine jr_iload_n CC (jd ddX2_init 6 rfl) 2 rfl ?_
  refine jr_putF CC MM.2.2.2.2.2 (jd ddX2_init 7 rfl) (jff_X2_13 CC) 0 rfl rfl rfl (Nat.le_of_ble_eq_true rfl) ?_
  refine jr_aload_n CC (jd ddX2_init 8 rfl) 0 rfl ?_
  refine jr_iload_n CC (jd ddX2_init 9 rfl) 3 rfl ?_
  refine jr_putF CC MM.2.2.2.2.2 (jd ddX2_init 10 rfl) (jff_X2_16 CC) 0 rfl rfl rfl (Nat.le_of_ble_eq_true rfl) ?_
  refine jr_aload_n CC (jd ddX2_init 11 rfl) 0 rfl ?_
  refine jr_pc (pc' := 20) rfl ?_
  refine jr_iload CC (jd ddX2_init 12 rfl) 4 rfl ?_
  refine jr_putF CC MM.2.2.2.2.2 (jd ddX2_init 13 rfl) (jff_X2_19 CC) 0 rfl (jb01n hri) (jb01f hri) (Nat.le_of_ble_eq_true rfl) ?_
  exact jr_vret CC MM (jd ddX2_init 14 rfl) rfl (by decide) (by decide) ⟨rfl, rfl⟩
set_option maxHeartbeats 8000000 in
set_option maxRecDepth 100000 in
theorem k_X9_init (l : Launch) (t : Nat → ClassId) (hfl : l.stackTraces = false) (h0 : Nat) (ch : Int32) (lv : Int32) (le : Int32) (mo : Int32) (hi : Int32) (hhi : hi = 0 ∨ hi = 1) : jKx l t yX9_init (Cond.code yX9_init cX9_init 6 none :: jWS) { frames := 2, cells := 0, slots := 0, locals := 32 } [.ref h0, .int ch, .int lv, .int le, .int mo, .int hi] [(h0, .inr (8, [.int 0, .int 0, .int 0, .int 0, .int 0, .int 0, .int 0]))] (fun vv uu => (vv = none ∧ uu = [(h0, .inr (8, jcond 8 (gW ch lv le mo hi)))])) (fun _ _ => False) := by
  refine jK_of hfl (by decide +kernel) (Nat.le_of_ble_eq_true rfl) ?_
  intro p e s m args below meth c D A Q CC MM
  refine jr_norm0 [(0, .ref h0), (1, .int ch), (2, .int lv), (3, .int le), (4, .int mo), (5, .int hi)] rfl ?_
  refine jr_aload_n CC (jd ddX9_init 0 rfl) 0 rfl ?_
  refine jr_callIN (rest := []) [] CC (jd ddX9_init 1 rfl) (jy_X9_1 CC) (k_X1_init l t hfl h0) [] rfl (by decide) rfl rfl (by decide) (Nat.le_of_ble_eq_true rfl) (by rintro v u h; rcases h with ⟨rfl, rfl⟩ <;> rfl) (fun _ _ h => h.elim) (fun _ _ h => h.elim) (fun v u h => ?_)
  rcases h with ⟨rfl, rfl⟩
  refine jr_norm [(h0, .inr (8, [.int 0, .int 0, .int 0, .int 0, .int 0, .int 0, .int 0]))] [] 4 0 0 rfl rfl rfl rfl rfl ?_
  refine jr_aload_n CC (jd ddX9_init 2 rfl) 0 rfl ?_
  refine jr_iload_n CC (jd ddX9_init 3 rfl) 1 rfl ?_
  refine jr_putF CC MM.2.2.2.2.2 (jd ddX9_init 4 rfl) (jff_X9_7 CC) 0 rfl rfl rfl (Nat.le_of_ble_eq_true rfl) ?_
  refine jr_aload_n CC (jd ddX9_init 5 rfl) 0 rfl ?_
  refine jr_iload_n CC (jd ddX9_init 6 rfl) 2 rfl ?_
  refine jr_putF CC MM.2.2.2.2.2 (jd ddX9_init 7 rfl) (jff_X9_13 CC) 0 rfl rfl rfl (Nat.le_of_ble_eq_true rfl) ?_
  refine jr_aload_n CC (jd ddX9_init 8 rfl) 0 rfl ?_
  refine jr_iload_n CC (jd ddX9_init 9 rfl) 3 rfl ?_
  refine jr_putF CC MM.2.2.2.2.2 (jd ddX9_init 10 rfl) (jff_X9_16 CC) 0 rfl rfl rfl (Nat.le_of_ble_eq_true rfl) ?_
  refine jr_aload_n CC (jd ddX9_init 11 rfl) 0 rfl ?_
  refine jr_pc (pc' := 20) rfl ?_
  refine jr_iload CC (jd ddX9_init 12 rfl) 4 rfl ?_
  refine jr_putF CC MM.2.2.2.2.2 (jd ddX9_init 13 rfl) (jff_X9_19 CC) 0 rfl rfl rfl (Nat.le_of_ble_eq_true rfl) ?_
  refine jr_aload_n CC (jd ddX9_init 14 rfl) 0 rfl ?_
  refine jr_iload CC (jd ddX9_init 15 rfl) 5 rfl ?_
  refine jr_putF CC MM.2.2.2.2.2 (jd ddX9_init 16 rfl) (jff_X9_22 CC) 0 rfl (jb01n hhi) (jb01f hhi) (Nat.le_of_ble_eq_true rfl) ?_
  exact jr_vret CC MM (jd ddX9_init 17 rfl) rfl (by decide) (by decide) ⟨rfl, rfl⟩
set_option maxHeartbeats 8000000 in
set_option maxRecDepth 100000 in
theorem k_X7_init (l : Launch) (t : Nat → ClassId) (hfl : l.stackTraces = false) (h0 : Nat) (ch : Int32) (lo : Int32) (hi : Int32) : jKx l t yX7_init (Cond.code yX7_init cX7_init 4 none :: jWS) { frames := 2, cells := 0, slots := 0, locals := 32 } [.ref h0, .int ch, .int lo, .int hi] [(h0, .inr (6, [.int 0, .int 0, .int 0, .int 0, .int 0, .int 0]))] (fun vv uu => (vv = none ∧ uu = [(h0, .inr (6, jcond 6 (gR ch lo hi)))])) (fun _ _ => False) := by
  refine jK_of hfl (by decide +kernel) (Nat.le_of_ble_eq_true rfl) ?_
  intro p e s m args below meth c D A Q CC MM
  refine jr_norm0 [(0, .ref h0), (1, .int ch), (2, .int lo), (3, .int hi)] rfl ?_
  refine jr_aload_n CC (jd ddX7_init 0 rfl) 0 rfl ?_
  refine jr_callIN (rest := []) [] CC (jd ddX7_init 1 rfl) (jy_X7_1 CC) (k_X1_init l t hfl h0) [] rfl (by decide) rfl rfl (by decide) (Nat.le_of_ble_eq_true rfl) (by rintro v u h; rcases h with ⟨rfl, rfl⟩ <;> rfl) (fun _ _ h => h.elim) (fun _ _ h => h.elim) (fun v u h => ?_)
  rcases h with ⟨rfl, rfl⟩
  refine jr_norm [(h0, .inr (6, [.int 0, .int 0, .int 0, .int 0, .int 0, .int 0]))] [] 4 0 0 rfl rfl rfl rfl rfl ?_
  refine jr_aload_n CC (jd ddX7_init 2 rfl) 0 rfl ?_
  refine jr_iload_n CC (jd ddX7_init 3 rfl) 1 rfl ?_
  refine jr_putF CC MM.2.2.2.2.2 (jd ddX7_init 4 rfl) (jff_X7_7 CC) 0 rfl rfl rfl (Nat.le_of_ble_eq_true rfl) ?_
  refine jr_aload_n CC (jd ddX7_init 5 rfl) 0 rfl ?_
  refine jr_iload_n CC (jd ddX7_init 6 rfl) 2 rfl ?_
  refine jr_putF CC MM.2.2.2.2.2 (jd ddX7_init 7 rfl) (jff_X7_13 CC) 0 rfl rfl rfl (Nat.le_of_ble_eq_true rfl) ?_
  refine jr_aload_n CC (jd ddX7_init 8 rfl) 0 rfl ?_
  refine jr_iload_n CC (jd ddX7_init 9 rfl) 3 rfl ?_
  refine jr_putF CC MM.2.2.2.2.2 (jd ddX7_init 10 rfl) (jff_X7_16 CC) 0 rfl rfl rfl (Nat.le_of_ble_eq_true rfl) ?_
  exact jr_vret CC MM (jd ddX7_init 11 rfl) rfl (by decide) (by decide) ⟨rfl, rfl⟩
set_option maxHeartbeats 8000000 in
set_option maxRecDepth 100000 in
theorem k_X8_init (l : Launch) (t : Nat → ClassId) (hfl : l.stackTraces = false) (h0 : Nat) (a : Int32) (b : Int32) (sp : Int32) : jKx l t yX8_init (Cond.code yX8_init cX8_init 4 none :: jWS) { frames := 2, cells := 0, slots := 0, locals := 32 } [.ref h0, .int a, .int b, .int sp] [(h0, .inr (7, [.int 0, .int 0, .int 0, .int 0, .int 0, .int 0, .int 0, .int 0]))] (fun vv uu => (vv = none ∧ uu = [(h0, .inr (7, jcond 7 (gS a b sp)))])) (fun _ _ => False) := by
  refine jK_of hfl (by decide +kernel) (Nat.le_of_ble_eq_true rfl) ?_
  intro p e s m args below meth c D A Q CC MM
  refine jr_norm0 [(0, .ref h0), (1, .int a), (2, .int b), (3, .int sp)] rfl ?_
  refine jr_aload_n CC (jd ddX8_init 0 rfl) 0 rfl ?_
  refine jr_callIN (rest := []) [] CC (jd ddX8_init 1 rfl) (jy_X8_1 CC) (k_X1_init l t hfl h0) [] rfl (by decide) rfl rfl (by decide) (Nat.le_of_ble_eq_true rfl) (by rintro v u h; rcases h with ⟨rfl, rfl⟩ <;> rfl) (fun _ _ h => h.elim) (fun _ _ h => h.elim) (fun v u h => ?_)
  rcases h with ⟨rfl, rfl⟩
  refine jr_norm [(h0, .inr (7, [.int 0, .int 0, .int 0, .int 0, .int 0, .int 0, .int 0, .int 0]))] [] 4 0 0 rfl rfl rfl rfl rfl ?_
  refine jr_aload_n CC (jd ddX8_init 2 rfl) 0 rfl ?_
  refine jr_iload_n CC (jd ddX8_init 3 rfl) 1 rfl ?_
  refine jr_putF CC MM.2.2.2.2.2 (jd ddX8_init 4 rfl) (jff_X8_7 CC) 0 rfl rfl rfl (Nat.le_of_ble_eq_true rfl) ?_
  refine jr_aload_n CC (jd ddX8_init 5 rfl) 0 rfl ?_
  refine jr_iload_n CC (jd ddX8_init 6 rfl) 2 rfl ?_
  refine jr_putF CC MM.2.2.2.2.2 (jd ddX8_init 7 rfl) (jff_X8_13 CC) 0 rfl rfl rfl (Nat.le_of_ble_eq_true rfl) ?_
  refine jr_aload_n CC (jd ddX8_init 8 rfl) 0 rfl ?_
  refine jr_iload_n CC (jd ddX8_init 9 rfl) 3 rfl ?_
  refine jr_putF CC MM.2.2.2.2.2 (jd ddX8_init 10 rfl) (jff_X8_16 CC) 0 rfl rfl rfl (Nat.le_of_ble_eq_true rfl) ?_
  exact jr_vret CC MM (jd ddX8_init 11 rfl) rfl (by decide) (by decide) ⟨rfl, rfl⟩
set_option maxHeartbeats 8000000 in
set_option maxRecDepth 100000 in
theorem k_X10_setEdge (l : Launch) (t : Nat → ClassId) (hfl : l.stackTraces = false) (h0 : Nat) (x1 : Nat) (x2 : Nat) (x3 : Nat) (x4 : Nat) (x5 : Nat) (x6 : Nat) (fi : Int32) (ch : Int32) (lv : Int32) (hy : Int32) (ri : Int32) (hri : ri = 0 ∨ ri = 1) : jKx l t yX10_setEdge (Cond.code yX10_setEdge cX10_setEdge 5 none :: jWS) { frames := 8, cells := 4, slots := 23, locals := 124 } [.ref h0, .int ch, .int lv, .int hy, .int ri] [(h0, .inr (9, [.ref x1, .ref x2, .ref x3, .ref x4, .ref x5, .ref x6, .int fi]))] (fun vv uu => (∃ q9 : Nat, ((eEdge ch lv hy) = 0) ∧ vv = none ∧ uu = [(h0, .inr (9, [.ref x1, .ref x2, .ref x3, .ref x4, .ref x5, .ref q9, .int fi])), (q9, .inr (1, jcond 1 (gE ch lv hy ri)))])) (fun EE uu => (((eEdge ch lv hy) = 1) ∧ EE = "java/lang/IllegalArgumentException" ∧ uu = [(h0, .inr (9, [.ref x1, .ref x2, .ref x3, .ref x4, .ref x5, .ref x6, .int fi]))])) := by
  refine jK_of hfl (by decide +kernel) (Nat.le_of_ble_eq_true rfl) ?_
  intro p e s m args below meth c D A Q CC MM
  refine jr_norm0 [(0, .ref h0), (1, .int ch), (2, .int lv), (3, .int hy), (4, .int ri)] rfl ?_
  refine jr_iload_n CC (jd ddX10_setEdge 0 rfl) 1 rfl ?_
  refine jr_callS (rest := []) [.int ch] CC (jd ddX10_setEdge 1 rfl) (jy_X10_50 CC) (k_X10_checkChannel l t hfl ch) [] rfl (by decide) rfl rfl (by decide) (Nat.le_of_ble_eq_true rfl) (by rintro v u h; rcases h with ⟨h0, rfl, rfl⟩ <;> rfl) (by rintro v u h; rcases h with ⟨h0, rfl, rfl⟩ <;> rfl) (fun E u hx => ?_) (fun v u h => ?_)
  · rcases hx with ⟨c1, rfl, rfl⟩
    exact jr_out CC MM (by decide) (by decide) ⟨by simp [eEdge, jI, c1], rfl, rfl⟩
  · rcases h with ⟨c2, rfl, rfl⟩
    refine jr_norm [(h0, .inr (9, [.ref x1, .ref x2, .ref x3, .ref x4, .ref x5, .ref x6, .int fi]))] [] 4 1 6 rfl rfl rfl rfl rfl ?_
    refine jr_iload_n CC (jd ddX10_setEdge 2 rfl) 2 rfl ?_
    refine jr_callS (rest := []) [.int lv] CC (jd ddX10_setEdge 3 rfl) (jy_X10_54 CC) (k_X10_checkValue l t hfl lv) [] rfl (by decide) rfl rfl (by decide) (Nat.le_of_ble_eq_true rfl) (by rintro v u h; rcases h with ⟨h0, rfl, rfl⟩ <;> rfl) (by rintro v u h; rcases h with ⟨h0, rfl, rfl⟩ <;> rfl) (fun E u hx => ?_) (fun v u h => ?_)
    · rcases hx with ⟨c3, rfl, rfl⟩
      exact jr_out CC MM (by decide) (by decide) ⟨by simp [eEdge, jI, c2, c3], rfl, rfl⟩
    · rcases h with ⟨c4, rfl, rfl⟩
      refine jr_norm [(h0, .inr (9, [.ref x1, .ref x2, .ref x3, .ref x4, .ref x5, .ref x6, .int fi]))] [] 8 2 12 rfl rfl rfl rfl rfl ?_
      refine jr_iload_n CC (jd ddX10_setEdge 4 rfl) 3 rfl ?_
      refine jr_iconst (v := 0) CC (jd ddX10_setEdge 5 rfl) (by decide) ?_
      refine jr_bipush (v := 100) CC (jd ddX10_setEdge 6 rfl) (by decide) ?_
      refine jr_callS (rest := []) [.int hy, .int 0, .int 100] CC (jd ddX10_setEdge 7 rfl) (jy_X10_57 CC) (k_X10_checkRange l t hfl hy 0 100) [] rfl (by decide) rfl rfl (by decide) (Nat.le_of_ble_eq_true rfl) (by rintro v u h; rcases h with ⟨h0, rfl, rfl⟩ <;> rfl) (by rintro v u h; rcases h with ⟨h0, rfl, rfl⟩ <;> rfl) (fun E u hx => ?_) (fun v u h => ?_)
      · rcases hx with ⟨c5, rfl, rfl⟩
        exact jr_out CC MM (by decide) (by decide) ⟨by simp [eEdge, jI, c2, c4, c5], rfl, rfl⟩
      · rcases h with ⟨c6, rfl, rfl⟩
        refine jr_norm [(h0, .inr (9, [.ref x1, .ref x2, .ref x3, .ref x4, .ref x5, .ref x6, .int fi]))] [] 15 3 18 rfl rfl rfl rfl rfl ?_
        refine jr_aload_n CC (jd ddX10_setEdge 8 rfl) 0 rfl ?_
        refine jr_new [.int 0, .int 0, .int 0, .int 0, .int 0] CC (jd ddX10_setEdge 9 rfl) (jn_X10_41 CC) (by intro j hj; match j, hj with | 0, _ => rfl | 1, _ => rfl | 2, _ => rfl | 3, _ => rfl | 4, _ => rfl) (by decide) (by decide) (fun q7 => ?_)
        refine jr_dup CC (jd ddX10_setEdge 10 rfl) rfl ?_
        refine jr_iload_n CC (jd ddX10_setEdge 11 rfl) 1 rfl ?_
        refine jr_iload_n CC (jd ddX10_setEdge 12 rfl) 2 rfl ?_
        refine jr_iload_n CC (jd ddX10_setEdge 13 rfl) 3 rfl ?_
        refine jr_iload CC (jd ddX10_setEdge 14 rfl) 4 rfl ?_
        refine jr_callI (rest := [.ref q7, .ref h0]) [.int ch, .int lv, .int hy, .int ri] CC (jd ddX10_setEdge 15 rfl) (jy_X10_43 CC) (k_X2_init l t hfl q7 ch lv hy ri hri) [1] rfl (by decide) rfl rfl (by decide) (Nat.le_of_ble_eq_true rfl) (by rintro v u h; rcases h with ⟨rfl, rfl⟩ <;> rfl) (fun _ _ h => h.elim) (fun _ _ h => h.elim) (fun v u h => ?_)
        rcases h with ⟨rfl, rfl⟩
        refine jr_norm [(h0, .inr (9, [.ref x1, .ref x2, .ref x3, .ref x4, .ref x5, .ref x6, .int fi])), (q7, .inr (1, jcond 1 (gE ch lv hy ri)))] [.ref q7, .ref h0] 28 4 23 rfl rfl rfl rfl rfl ?_
        refine jr_put CC (jd ddX10_setEdge 16 rfl) (jf_X10_46 CC) 0 rfl rfl rfl (Nat.le_of_ble_eq_true rfl) ?_
        exact jr_vret CC MM (jd ddX10_setEdge 17 rfl) rfl (by decide) (by decide) ⟨q7, by simp [eEdge, jI, c2, c4, c6], rfl, rfl⟩
set_option maxHeartbeats 8000000 in
set_option maxRecDepth 100000 in
theorem k_X10_setWidth (l : Launch) (t : Nat → ClassId) (hfl : l.stackTraces = false) (h0 : Nat) (x1 : Nat) (x2 : Nat) (x3 : Nat) (x4 : Nat) (x5 : Nat) (x6 : Nat) (fi : Int32) (ch : Int32) (lv : Int32) (le : Int32) (mo : Int32) (hi : Int32) (hhi : hi = 0 ∨ hi = 1) : jKx l t yX10_setWidth (Cond.code yX10_setWidth cX10_setWidth 6 none :: jWS) { frames := 8, cells := 5, slots := 31, locals := 124 } [.ref h0, .int ch, .int lv, .int le, .int mo, .int hi] [(h0, .inr (9, [.ref x1, .ref x2, .ref x3, .ref x4, .ref x5, .ref x6, .int fi]))] (fun vv uu => (∃ q9 : Nat, ((eWidth ch lv le mo) = 0) ∧ vv = none ∧ uu = [(h0, .inr (9, [.ref x1, .ref x2, .ref x3, .ref x4, .ref x5, .ref q9, .int fi])), (q9, .inr (8, jcond 8 (gW ch lv le mo hi)))])) (fun EE uu => (((eWidth ch lv le mo) = 1) ∧ EE = "java/lang/IllegalArgumentException" ∧ uu = [(h0, .inr (9, [.ref x1, .ref x2, .ref x3, .ref x4, .ref x5, .ref x6, .int fi]))])) := by
  refine jK_of hfl (by decide +kernel) (Nat.le_of_ble_eq_true rfl) ?_
  intro p e s m args below meth c D A Q CC MM
  refine jr_norm0 [(0, .ref h0), (1, .int ch), (2, .int lv), (3, .int le), (4, .int mo), (5, .int hi)] rfl ?_
  refine jr_iload_n CC (jd ddX10_setWidth 0 rfl) 1 rfl ?_
  refine jr_callS (rest := []) [.int ch] CC (jd ddX10_setWidth 1 rfl) (jy_X10_50 CC) (k_X10_checkChannel l t hfl ch) [] rfl (by decide) rfl rfl (by decide) (Nat.le_of_ble_eq_true rfl) (by rintro v u h; rcases h with ⟨h0, rfl, rfl⟩ <;> rfl) (by rintro v u h; rcases h with ⟨h0, rfl, rfl⟩ <;> rfl) (fun E u hx => ?_) (fun v u h => ?_)
  · rcases hx with ⟨c1, rfl, rfl⟩
    exact jr_out CC MM (by decide) (by decide) ⟨by simp [eWidth, jI, c1], rfl, rfl⟩
  · rcases h with ⟨c2, rfl, rfl⟩
    refine jr_norm [(h0, .inr (9, [.ref x1, .ref x2, .ref x3, .ref x4, .ref x5, .ref x6, .int fi]))] [] 4 1 6 rfl rfl rfl rfl rfl ?_
    refine jr_iload_n CC (jd ddX10_setWidth 2 rfl) 2 rfl ?_
    refine jr_callS (rest := []) [.int lv] CC (jd ddX10_setWidth 3 rfl) (jy_X10_54 CC) (k_X10_checkValue l t hfl lv) [] rfl (by decide) rfl rfl (by decide) (Nat.le_of_ble_eq_true rfl) (by rintro v u h; rcases h with ⟨h0, rfl, rfl⟩ <;> rfl) (by rintro v u h; rcases h with ⟨h0, rfl, rfl⟩ <;> rfl) (fun E u hx => ?_) (fun v u h => ?_)
    · rcases hx with ⟨c3, rfl, rfl⟩
      exact jr_out CC MM (by decide) (by decide) ⟨by simp [eWidth, jI, c2, c3], rfl, rfl⟩
    · rcases h with ⟨c4, rfl, rfl⟩
      refine jr_norm [(h0, .inr (9, [.ref x1, .ref x2, .ref x3, .ref x4, .ref x5, .ref x6, .int fi]))] [] 8 2 12 rfl rfl rfl rfl rfl ?_
      refine jr_iload_n CC (jd ddX10_setWidth 4 rfl) 3 rfl ?_
      refine jr_iconst (v := 1) CC (jd ddX10_setWidth 5 rfl) (by decide) ?_
      refine jr_bipush (v := 100) CC (jd ddX10_setWidth 6 rfl) (by decide) ?_
      refine jr_callS (rest := []) [.int le, .int 1, .int 100] CC (jd ddX10_setWidth 7 rfl) (jy_X10_57 CC) (k_X10_checkRange l t hfl le 1 100) [] rfl (by decide) rfl rfl (by decide) (Nat.le_of_ble_eq_true rfl) (by rintro v u h; rcases h with ⟨h0, rfl, rfl⟩ <;> rfl) (by rintro v u h; rcases h with ⟨h0, rfl, rfl⟩ <;> rfl) (fun E u hx => ?_) (fun v u h => ?_)
      · rcases hx with ⟨c5, rfl, rfl⟩
        exact jr_out CC MM (by decide) (by decide) ⟨by simp [eWidth, jI, c2, c4, c5], rfl, rfl⟩
      · rcases h with ⟨c6, rfl, rfl⟩
        refine jr_norm [(h0, .inr (9, [.ref x1, .ref x2, .ref x3, .ref x4, .ref x5, .ref x6, .int fi]))] [] 15 3 18 rfl rfl rfl rfl rfl ?_
        refine jr_iload CC (jd ddX10_setWidth 8 rfl) 4 rfl ?_
        refine jr_iload_n CC (jd ddX10_setWidth 9 rfl) 3 rfl ?_
        refine jr_bipush (v := 100) CC (jd ddX10_setWidth 10 rfl) (by decide) ?_
        refine jr_callS (rest := []) [.int mo, .int le, .int 100] CC (jd ddX10_setWidth 11 rfl) (jy_X10_57 CC) (k_X10_checkRange l t hfl mo le 100) [] rfl (by decide) rfl rfl (by decide) (Nat.le_of_ble_eq_true rfl) (by rintro v u h; rcases h with ⟨h0, rfl, rfl⟩ <;> rfl) (by rintro v u h; rcases h with ⟨h0, rfl, rfl⟩ <;> rfl) (fun E u hx => ?_) (fun v u h => ?_)
        · rcases hx with ⟨c7, rfl, rfl⟩
          exact jr_out CC MM (by decide) (by decide) ⟨by simp [eWidth, jI, c2, c4, c6, c7], rfl, rfl⟩
        · rcases h with ⟨c8, rfl, rfl⟩
          refine jr_norm [(h0, .inr (9, [.ref x1, .ref x2, .ref x3, .ref x4, .ref x5, .ref x6, .int fi]))] [] 23 4 24 rfl rfl rfl rfl rfl ?_
          refine jr_aload_n CC (jd ddX10_setWidth 12 rfl) 0 rfl ?_
          refine jr_new [.int 0, .int 0, .int 0, .int 0, .int 0, .int 0, .int 0] CC (jd ddX10_setWidth 13 rfl) (jn_X10_61 CC) (by intro j hj; match j, hj with | 0, _ => rfl | 1, _ => rfl | 2, _ => rfl | 3, _ => rfl | 4, _ => rfl | 5, _ => rfl | 6, _ => rfl) (by decide) (by decide) (fun q9 => ?_)
          refine jr_dup CC (jd ddX10_setWidth 14 rfl) rfl ?_
          refine jr_iload_n CC (jd ddX10_setWidth 15 rfl) 1 rfl ?_
          refine jr_iload_n CC (jd ddX10_setWidth 16 rfl) 2 rfl ?_
          refine jr_iload_n CC (jd ddX10_setWidth 17 rfl) 3 rfl ?_
          refine jr_iload CC (jd ddX10_setWidth 18 rfl) 4 rfl ?_
          refine jr_iload CC (jd ddX10_setWidth 19 rfl) 5 rfl ?_
          refine jr_callI (rest := [.ref q9, .ref h0]) [.int ch, .int lv, .int le, .int mo, .int hi] CC (jd ddX10_setWidth 20 rfl) (jy_X10_63 CC) (k_X9_init l t hfl q9 ch lv le mo hi hhi) [1] rfl (by decide) rfl rfl (by decide) (Nat.le_of_ble_eq_true rfl) (by rintro v u h; rcases h with ⟨rfl, rfl⟩ <;> rfl) (fun _ _ h => h.elim) (fun _ _ h => h.elim) (fun v u h => ?_)
          rcases h with ⟨rfl, rfl⟩
          refine jr_norm [(h0, .inr (9, [.ref x1, .ref x2, .ref x3, .ref x4, .ref x5, .ref x6, .int fi])), (q9, .inr (8, jcond 8 (gW ch lv le mo hi)))] [.ref q9, .ref h0] 38 5 31 rfl rfl rfl rfl rfl ?_
          refine jr_put CC (jd ddX10_setWidth 21 rfl) (jf_X10_46 CC) 0 rfl rfl rfl (Nat.le_of_ble_eq_true rfl) ?_
          exact jr_vret CC MM (jd ddX10_setWidth 22 rfl) rfl (by decide) (by decide) ⟨q9, by simp [eWidth, jI, c2, c4, c6, c8], rfl, rfl⟩
set_option maxHeartbeats 8000000 in
set_option maxRecDepth 100000 in
theorem k_X10_setRunt (l : Launch) (t : Nat → ClassId) (hfl : l.stackTraces = false) (h0 : Nat) (x1 : Nat) (x2 : Nat) (x3 : Nat) (x4 : Nat) (x5 : Nat) (x6 : Nat) (fi : Int32) (ch : Int32) (lo : Int32) (hi : Int32) : jKx l t yX10_setRunt (Cond.code yX10_setRunt cX10_setRunt 4 none :: jWS) { frames := 8, cells := 4, slots := 24, locals := 124 } [.ref h0, .int ch, .int lo, .int hi] [(h0, .inr (9, [.ref x1, .ref x2, .ref x3, .ref x4, .ref x5, .ref x6, .int fi]))] (fun vv uu => (∃ q9 : Nat, ((eRunt ch lo hi) = 0) ∧ vv = none ∧ uu = [(h0, .inr (9, [.ref x1, .ref x2, .ref x3, .ref x4, .ref x5, .ref q9, .int fi])), (q9, .inr (6, jcond 6 (gR ch lo hi)))])) (fun EE uu => (((eRunt ch lo hi) = 1) ∧ EE = "java/lang/IllegalArgumentException" ∧ uu = [(h0, .inr (9, [.ref x1, .ref x2, .ref x3, .ref x4, .ref x5, .ref x6, .int fi]))])) := by
  refine jK_of hfl (by decide +kernel) (Nat.le_of_ble_eq_true rfl) ?_
  intro p e s m args below meth c D A Q CC MM
  refine jr_norm0 [(0, .ref h0), (1, .int ch), (2, .int lo), (3, .int hi)] rfl ?_
  refine jr_iload_n CC (jd ddX10_setRunt 0 rfl) 1 rfl ?_
  refine jr_callS (rest := []) [.int ch] CC (jd ddX10_setRunt 1 rfl) (jy_X10_50 CC) (k_X10_checkChannel l t hfl ch) [] rfl (by decide) rfl rfl (by decide) (Nat.le_of_ble_eq_true rfl) (by rintro v u h; rcases h with ⟨h0, rfl, rfl⟩ <;> rfl) (by rintro v u h; rcases h with ⟨h0, rfl, rfl⟩ <;> rfl) (fun E u hx => ?_) (fun v u h => ?_)
  · rcases hx with ⟨c1, rfl, rfl⟩
    exact jr_out CC MM (by decide) (by decide) ⟨by simp [eRunt, jI, c1], rfl, rfl⟩
  · rcases h with ⟨c2, rfl, rfl⟩
    refine jr_norm [(h0, .inr (9, [.ref x1, .ref x2, .ref x3, .ref x4, .ref x5, .ref x6, .int fi]))] [] 4 1 6 rfl rfl rfl rfl rfl ?_
    refine jr_iload_n CC (jd ddX10_setRunt 2 rfl) 2 rfl ?_
    refine jr_callS (rest := []) [.int lo] CC (jd ddX10_setRunt 3 rfl) (jy_X10_54 CC) (k_X10_checkValue l t hfl lo) [] rfl (by decide) rfl rfl (by decide) (Nat.le_of_ble_eq_true rfl) (by rintro v u h; rcases h with ⟨h0, rfl, rfl⟩ <;> rfl) (by rintro v u h; rcases h with ⟨h0, rfl, rfl⟩ <;> rfl) (fun E u hx => ?_) (fun v u h => ?_)
    · rcases hx with ⟨c3, rfl, rfl⟩
      exact jr_out CC MM (by decide) (by decide) ⟨by simp [eRunt, jI, c2, c3], rfl, rfl⟩
    · rcases h with ⟨c4, rfl, rfl⟩
      refine jr_norm [(h0, .inr (9, [.ref x1, .ref x2, .ref x3, .ref x4, .ref x5, .ref x6, .int fi]))] [] 8 2 12 rfl rfl rfl rfl rfl ?_
      refine jr_iload_n CC (jd ddX10_setRunt 4 rfl) 3 rfl ?_
      refine jr_iload_n CC (jd ddX10_setRunt 5 rfl) 2 rfl ?_
      refine jr_bipush (v := 127) CC (jd ddX10_setRunt 6 rfl) (by decide) ?_
      refine jr_callS (rest := []) [.int hi, .int lo, .int 127] CC (jd ddX10_setRunt 7 rfl) (jy_X10_57 CC) (k_X10_checkRange l t hfl hi lo 127) [] rfl (by decide) rfl rfl (by decide) (Nat.le_of_ble_eq_true rfl) (by rintro v u h; rcases h with ⟨h0, rfl, rfl⟩ <;> rfl) (by rintro v u h; rcases h with ⟨h0, rfl, rfl⟩ <;> rfl) (fun E u hx => ?_) (fun v u h => ?_)
      · rcases hx with ⟨c5, rfl, rfl⟩
        exact jr_out CC MM (by decide) (by decide) ⟨by simp [eRunt, jI, c2, c4, c5], rfl, rfl⟩
      · rcases h with ⟨c6, rfl, rfl⟩
        refine jr_norm [(h0, .inr (9, [.ref x1, .ref x2, .ref x3, .ref x4, .ref x5, .ref x6, .int fi]))] [] 15 3 18 rfl rfl rfl rfl rfl ?_
        refine jr_aload_n CC (jd ddX10_setRunt 8 rfl) 0 rfl ?_
        refine jr_new [.int 0, .int 0, .int 0, .int 0, .int 0, .int 0] CC (jd ddX10_setRunt 9 rfl) (jn_X10_66 CC) (by intro j hj; match j, hj with | 0, _ => rfl | 1, _ => rfl | 2, _ => rfl | 3, _ => rfl | 4, _ => rfl | 5, _ => rfl) (by decide) (by decide) (fun q7 => ?_)
        refine jr_dup CC (jd ddX10_setRunt 10 rfl) rfl ?_
        refine jr_iload_n CC (jd ddX10_setRunt 11 rfl) 1 rfl ?_
        refine jr_iload_n CC (jd ddX10_setRunt 12 rfl) 2 rfl ?_
        refine jr_iload_n CC (jd ddX10_setRunt 13 rfl) 3 rfl ?_
        refine jr_callI (rest := [.ref q7, .ref h0]) [.int ch, .int lo, .int hi] CC (jd ddX10_setRunt 14 rfl) (jy_X10_68 CC) (k_X7_init l t hfl q7 ch lo hi) [1] rfl (by decide) rfl rfl (by decide) (Nat.le_of_ble_eq_true rfl) (by rintro v u h; rcases h with ⟨rfl, rfl⟩ <;> rfl) (fun _ _ h => h.elim) (fun _ _ h => h.elim) (fun v u h => ?_)
        rcases h with ⟨rfl, rfl⟩
        refine jr_norm [(h0, .inr (9, [.ref x1, .ref x2, .ref x3, .ref x4, .ref x5, .ref x6, .int fi])), (q7, .inr (6, jcond 6 (gR ch lo hi)))] [.ref q7, .ref h0] 26 4 24 rfl rfl rfl rfl rfl ?_
        refine jr_put CC (jd ddX10_setRunt 15 rfl) (jf_X10_46 CC) 0 rfl rfl rfl (Nat.le_of_ble_eq_true rfl) ?_
        exact jr_vret CC MM (jd ddX10_setRunt 16 rfl) rfl (by decide) (by decide) ⟨q7, by simp [eRunt, jI, c2, c4, c6], rfl, rfl⟩
set_option maxHeartbeats 8000000 in
set_option maxRecDepth 100000 in
theorem k_X10_setSequence (l : Launch) (t : Nat → ClassId) (hfl : l.stackTraces = false) (h0 : Nat) (x1 : Nat) (x2 : Nat) (x3 : Nat) (x4 : Nat) (x5 : Nat) (x6 : Nat) (fi : Int32) (a : Int32) (b : Int32) (sp : Int32) : jKx l t yX10_setSequence (Cond.code yX10_setSequence cX10_setSequence 4 none :: jWS) { frames := 8, cells := 4, slots := 26, locals := 124 } [.ref h0, .int a, .int b, .int sp] [(h0, .inr (9, [.ref x1, .ref x2, .ref x3, .ref x4, .ref x5, .ref x6, .int fi]))] (fun vv uu => (∃ q9 : Nat, ((eSeq a b sp) = 0) ∧ vv = none ∧ uu = [(h0, .inr (9, [.ref x1, .ref x2, .ref x3, .ref x4, .ref x5, .ref q9, .int fi])), (q9, .inr (7, jcond 7 (gS a b sp)))])) (fun EE uu => (((eSeq a b sp) = 1) ∧ EE = "java/lang/IllegalArgumentException" ∧ uu = [(h0, .inr (9, [.ref x1, .ref x2, .ref x3, .ref x4, .ref x5, .ref x6, .int fi]))])) := by
  refine jK_of hfl (by decide +kernel) (Nat.le_of_ble_eq_true rfl) ?_
  intro p e s m args below meth c D A Q CC MM
  refine jr_norm0 [(0, .ref h0), (1, .int a), (2, .int b), (3, .int sp)] rfl ?_
  refine jr_iload_n CC (jd ddX10_setSequence 0 rfl) 1 rfl ?_
  refine jr_callS (rest := []) [.int a] CC (jd ddX10_setSequence 1 rfl) (jy_X10_54 CC) (k_X10_checkValue l t hfl a) [] rfl (by decide) rfl rfl (by decide) (Nat.le_of_ble_eq_true rfl) (by rintro v u h; rcases h with ⟨h0, rfl, rfl⟩ <;> rfl) (by rintro v u h; rcases h with ⟨h0, rfl, rfl⟩ <;> rfl) (fun E u hx => ?_) (fun v u h => ?_)
  · rcases hx with ⟨c1, rfl, rfl⟩
    exact jr_out CC MM (by decide) (by decide) ⟨by simp [eSeq, jI, c1], rfl, rfl⟩
  · rcases h with ⟨c2, rfl, rfl⟩
    refine jr_norm [(h0, .inr (9, [.ref x1, .ref x2, .ref x3, .ref x4, .ref x5, .ref x6, .int fi]))] [] 4 1 6 rfl rfl rfl rfl rfl ?_
    refine jr_iload_n CC (jd ddX10_setSequence 2 rfl) 2 rfl ?_
    refine jr_callS (rest := []) [.int b] CC (jd ddX10_setSequence 3 rfl) (jy_X10_54 CC) (k_X10_checkValue l t hfl b) [] rfl (by decide) rfl rfl (by decide) (Nat.le_of_ble_eq_true rfl) (by rintro v u h; rcases h with ⟨h0, rfl, rfl⟩ <;> rfl) (by rintro v u h; rcases h with ⟨h0, rfl, rfl⟩ <;> rfl) (fun E u hx => ?_) (fun v u h => ?_)
    · rcases hx with ⟨c3, rfl, rfl⟩
      exact jr_out CC MM (by decide) (by decide) ⟨by simp [eSeq, jI, c2, c3], rfl, rfl⟩
    · rcases h with ⟨c4, rfl, rfl⟩
      refine jr_norm [(h0, .inr (9, [.ref x1, .ref x2, .ref x3, .ref x4, .ref x5, .ref x6, .int fi]))] [] 8 2 12 rfl rfl rfl rfl rfl ?_
      refine jr_iload_n CC (jd ddX10_setSequence 4 rfl) 3 rfl ?_
      refine jr_iconst (v := 0) CC (jd ddX10_setSequence 5 rfl) (by decide) ?_
      refine jr_bipush (v := 100) CC (jd ddX10_setSequence 6 rfl) (by decide) ?_
      refine jr_callS (rest := []) [.int sp, .int 0, .int 100] CC (jd ddX10_setSequence 7 rfl) (jy_X10_57 CC) (k_X10_checkRange l t hfl sp 0 100) [] rfl (by decide) rfl rfl (by decide) (Nat.le_of_ble_eq_true rfl) (by rintro v u h; rcases h with ⟨h0, rfl, rfl⟩ <;> rfl) (by rintro v u h; rcases h with ⟨h0, rfl, rfl⟩ <;> rfl) (fun E u hx => ?_) (fun v u h => ?_)
      · rcases hx with ⟨c5, rfl, rfl⟩
        exact jr_out CC MM (by decide) (by decide) ⟨by simp [eSeq, jI, c2, c4, c5], rfl, rfl⟩
      · rcases h with ⟨c6, rfl, rfl⟩
        refine jr_norm [(h0, .inr (9, [.ref x1, .ref x2, .ref x3, .ref x4, .ref x5, .ref x6, .int fi]))] [] 15 3 18 rfl rfl rfl rfl rfl ?_
        refine jr_aload_n CC (jd ddX10_setSequence 8 rfl) 0 rfl ?_
        refine jr_new [.int 0, .int 0, .int 0, .int 0, .int 0, .int 0, .int 0, .int 0] CC (jd ddX10_setSequence 9 rfl) (jn_X10_70 CC) (by intro j hj; match j, hj with | 0, _ => rfl | 1, _ => rfl | 2, _ => rfl | 3, _ => rfl | 4, _ => rfl | 5, _ => rfl | 6, _ => rfl | 7, _ => rfl) (by decide) (by decide) (fun q7 => ?_)
        refine jr_dup CC (jd ddX10_setSequence 10 rfl) rfl ?_
        refine jr_iload_n CC (jd ddX10_setSequence 11 rfl) 1 rfl ?_
        refine jr_iload_n CC (jd ddX10_setSequence 12 rfl) 2 rfl ?_
        refine jr_iload_n CC (jd ddX10_setSequence 13 rfl) 3 rfl ?_
        refine jr_callI (rest := [.ref q7, .ref h0]) [.int a, .int b, .int sp] CC (jd ddX10_setSequence 14 rfl) (jy_X10_72 CC) (k_X8_init l t hfl q7 a b sp) [1] rfl (by decide) rfl rfl (by decide) (Nat.le_of_ble_eq_true rfl) (by rintro v u h; rcases h with ⟨rfl, rfl⟩ <;> rfl) (fun _ _ h => h.elim) (fun _ _ h => h.elim) (fun v u h => ?_)
        rcases h with ⟨rfl, rfl⟩
        refine jr_norm [(h0, .inr (9, [.ref x1, .ref x2, .ref x3, .ref x4, .ref x5, .ref x6, .int fi])), (q7, .inr (7, jcond 7 (gS a b sp)))] [.ref q7, .ref h0] 26 4 26 rfl rfl rfl rfl rfl ?_
        refine jr_put CC (jd ddX10_setSequence 15 rfl) (jf_X10_46 CC) 0 rfl rfl rfl (Nat.le_of_ble_eq_true rfl) ?_
        exact jr_vret CC MM (jd ddX10_setSequence 16 rfl) rfl (by decide) (by decide) ⟨q7, by simp [eSeq, jI, c2, c4, c6], rfl, rfl⟩
