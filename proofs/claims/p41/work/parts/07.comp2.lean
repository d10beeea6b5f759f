def jin (x a b : Int32) : Prop := ¬ x < a ∧ x ≤ b
def jrec (n x : Int32) : Prop := ¬ x < 0 ∧ x < n
def jpos (tk : Int32) (x : Int64) : Prop := ¬ lg_cmp x 0 < 0 ∧ lg_cmp x tk.toInt64 < 0
set_option maxHeartbeats 8000000 in
set_option maxRecDepth 100000 in
theorem k_X10_checkRange (l : Launch) (t : Nat → ClassId) (hfl : l.stackTraces = false) (x : Int32) (a : Int32) (b : Int32) : jKx l t yX10_checkRange (Cond.code yX10_checkRange cX10_checkRange 3 none :: jWS) { frames := 6, cells := 1, slots := 6, locals := 82 } [.int x, .int a, .int b] [] (fun vv uu => ((jin x a b) ∧ vv = none ∧ uu = [])) (fun EE uu => ((¬ jin x a b) ∧ EE = "java/lang/IllegalArgumentException" ∧ uu = [])) := by
  refine jK_of hfl (by decide +kernel) (Nat.le_of_ble_eq_true rfl) ?_
  intro p e s m args below meth c D A Q CC MM
  refine jr_norm0 [(0, .int x), (1, .int a), (2, .int b)] rfl ?_
  refine jr_iload_n CC (jd ddX10_checkRange 0 rfl) 0 rfl ?_
  refine jr_iload_n CC (jd ddX10_checkRange 1 rfl) 1 rfl ?_
  refine jr_icmp_lt 10 CC (jd ddX10_checkRange 2 rfl) (by decide) (fun c1 => ?_) (fun c1 => ?_)
  · exact jr_throw (rm := { frames := 0, cells := 0, slots := 0, locals := 0 }) (text := "a parameter is out of range") CC MM (by decide +kernel) (jcl_X10_227 CC.2.2.2.2.1) (jini_0 CC.2.2.2.2.1) (by decide +kernel) (jat_X10_231 CC) (jgood_X10_231) (jd ddX10_checkRange 6 rfl) (jd ddX10_checkRange 7 rfl) (jd ddX10_checkRange 8 rfl) (jd ddX10_checkRange 9 rfl) (jd ddX10_checkRange 10 rfl) ⟨by decide, Nat.le_of_ble_eq_true rfl, by decide, by decide⟩ ⟨(fun hP => by first | exact hP.1 c1 | exact c1 hP.2 | exact c1 hP.1 | exact hP.2 c1), rfl, rfl⟩
  · refine jr_iload_n CC (jd ddX10_checkRange 3 rfl) 0 rfl ?_
    refine jr_iload_n CC (jd ddX10_checkRange 4 rfl) 2 rfl ?_
    refine jr_icmp_le 20 CC (jd ddX10_checkRange 5 rfl) (by decide) (fun c2 => ?_) (fun c2 => ?_)
    · exact jr_vret CC MM (jd ddX10_checkRange 11 rfl) rfl (by decide) (by decide) ⟨⟨c1, c2⟩, rfl, rfl⟩
    · exact jr_throw (rm := { frames := 0, cells := 0, slots := 0, locals := 0 }) (text := "a parameter is out of range") CC MM (by decide +kernel) (jcl_X10_227 CC.2.2.2.2.1) (jini_0 CC.2.2.2.2.1) (by decide +kernel) (jat_X10_231 CC) (jgood_X10_231) (jd ddX10_checkRange 6 rfl) (jd ddX10_checkRange 7 rfl) (jd ddX10_checkRange 8 rfl) (jd ddX10_checkRange 9 rfl) (jd ddX10_checkRange 10 rfl) ⟨by decide, Nat.le_of_ble_eq_true rfl, by decide, by decide⟩ ⟨(fun hP => by first | exact hP.1 c2 | exact c2 hP.2 | exact c2 hP.1 | exact hP.2 c2), rfl, rfl⟩
set_option maxHeartbeats 8000000 in
set_option maxRecDepth 100000 in
theorem k_X10_checkChannel (l : Launch) (t : Nat → ClassId) (hfl : l.stackTraces = false) (x : Int32) : jKx l t yX10_checkChannel (Cond.code yX10_checkChannel cX10_checkChannel 1 none :: jWS) { frames := 7, cells := 1, slots := 6, locals := 104 } [.int x] [] (fun vv uu => ((jin x 0 1) ∧ vv = none ∧ uu = [])) (fun EE uu => ((¬ jin x 0 1) ∧ EE = "java/lang/IllegalArgumentException" ∧ uu = [])) := by
  refine jK_of hfl (by decide +kernel) (Nat.le_of_ble_eq_true rfl) ?_
  intro p e s m args below meth c D A Q CC MM
  refine jr_norm0 [(0, .int x)] rfl ?_
  refine jr_iload_n CC (jd ddX10_checkChannel 0 rfl) 0 rfl ?_
  refine jr_iconst (v := 0) CC (jd ddX10_checkChannel 1 rfl) (by decide) ?_
  refine jr_iconst (v := 1) CC (jd ddX10_checkChannel 2 rfl) (by decide) ?_
  refine jr_callS (rest := []) [.int x, .int 0, .int 1] CC (jd ddX10_checkChannel 3 rfl) (jy_X10_57 CC) (k_X10_checkRange l t hfl x 0 1) [] rfl (by decide) rfl rfl (by decide) (Nat.le_of_ble_eq_true rfl) (by rintro v u h; rcases h with ⟨h0, rfl, rfl⟩ <;> rfl) (by rintro v u h; rcases h with ⟨h0, rfl, rfl⟩ <;> rfl) (fun E u hx => ?_) (fun v u h => ?_)
  · rcases hx with ⟨c1, rfl, rfl⟩
    exact jr_out CC MM (by decide) (by decide) ⟨c1, rfl, rfl⟩
  · rcases h with ⟨c2, rfl, rfl⟩
    refine jr_norm [] [] 6 1 6 rfl rfl rfl rfl rfl ?_
    exact jr_vret CC MM (jd ddX10_checkChannel 4 rfl) rfl (by decide) (by decide) ⟨c2, rfl, rfl⟩
set_option maxHeartbeats 8000000 in
set_option maxRecDepth 100000 in
theorem k_X10_checkValue (l : Launch) (t : Nat → ClassId) (hfl : l.stackTraces = false) (x : Int32) : jKx l t yX10_checkValue (Cond.code yX10_checkValue cX10_checkValue 1 none :: jWS) { frames := 7, cells := 1, slots := 6, locals := 104 } [.int x] [] (fun vv uu => ((jin x (-128) 127) ∧ vv = none ∧ uu = [])) (fun EE uu => ((¬ jin x (-128) 127) ∧ EE = "java/lang/IllegalArgumentException" ∧ uu = [])) := by
  refine jK_of hfl (by decide +kernel) (Nat.le_of_ble_eq_true rfl) ?_
  intro p e s m args below meth c D A Q CC MM
  refine jr_norm0 [(0, .int x)] rfl ?_
  refine jr_iload_n CC (jd ddX10_checkValue 0 rfl) 0 rfl ?_
  refine jr_bipush (v := (-128)) CC (jd ddX10_checkValue 1 rfl) (by decide) ?_
  refine jr_bipush (v := 127) CC (jd ddX10_checkValue 2 rfl) (by decide) ?_
  refine jr_callS (rest := []) [.int x, .int (-128), .int 127] CC (jd ddX10_checkValue 3 rfl) (jy_X10_57 CC) (k_X10_checkRange l t hfl x (-128) 127) [] rfl (by decide) rfl rfl (by decide) (Nat.le_of_ble_eq_true rfl) (by rintro v u h; rcases h with ⟨h0, rfl, rfl⟩ <;> rfl) (by rintro v u h; rcases h with ⟨h0, rfl, rfl⟩ <;> rfl) (fun E u hx => ?_) (fun v u h => ?_)
  · rcases hx with ⟨c1, rfl, rfl⟩
    exact jr_out CC MM (by decide) (by decide) ⟨c1, rfl, rfl⟩
  · rcases h with ⟨c2, rfl, rfl⟩
    refine jr_norm [] [] 8 1 6 rfl rfl rfl rfl rfl ?_
    exact jr_vret CC MM (jd ddX10_checkValue 4 rfl) rfl (by decide) (by decide) ⟨c2, rfl, rfl⟩
set_option maxHeartbeats 8000000 in
set_option maxRecDepth 100000 in
theorem k_X10_checkSource (l : Launch) (t : Nat → ClassId) (hfl : l.stackTraces = false) (x : Int32) : jKx l t yX10_checkSource (Cond.code yX10_checkSource cX10_checkSource 1 none :: jWS) { frames := 7, cells := 1, slots := 6, locals := 104 } [.int x] [] (fun vv uu => ((jin x 0 2) ∧ vv = none ∧ uu = [])) (fun EE uu => ((¬ jin x 0 2) ∧ EE = "java/lang/IllegalArgumentException" ∧ uu = [])) := by
  refine jK_of hfl (by decide +kernel) (Nat.le_of_ble_eq_true rfl) ?_
  intro p e s m args below meth c D A Q CC MM
  refine jr_norm0 [(0, .int x)] rfl ?_
  refine jr_iload_n CC (jd ddX10_checkSource 0 rfl) 0 rfl ?_
  refine jr_iconst (v := 0) CC (jd ddX10_checkSource 1 rfl) (by decide) ?_
  refine jr_iconst (v := 2) CC (jd ddX10_checkSource 2 rfl) (by decide) ?_
  refine jr_callS (rest := []) [.int x, .int 0, .int 2] CC (jd ddX10_checkSource 3 rfl) (jy_X10_57 CC) (k_X10_checkRange l t hfl x 0 2) [] rfl (by decide) rfl rfl (by decide) (Nat.le_of_ble_eq_true rfl) (by rintro v u h; rcases h with ⟨h0, rfl, rfl⟩ <;> rfl) (by rintro v u h; rcases h with ⟨h0, rfl, rfl⟩ <;> rfl) (fun E u hx => ?_) (fun v u h => ?_)
  · rcases hx with ⟨c1, rfl, rfl⟩
    exact jr_out CC MM (by decide) (by decide) ⟨c1, rfl, rfl⟩
  · rcases h with ⟨c2, rfl, rfl⟩
    refine jr_norm [] [] 6 1 6 rfl rfl rfl rfl rfl ?_
    exact jr_vret CC MM (jd ddX10_checkSource 4 rfl) rfl (by decide) (by decide) ⟨c2, rfl, rfl⟩
def jmem (M : Nat → Int32) (ca : Nat) (cg : Option Nat) : List Value := [.ref ca, .int (M 1), va_rf cg, .int (M 3), .int (M 4), .int (M 5), .int (M 6), .int (M 7), .int (M 8), .int (M 9), .int (M 10)]
set_option maxHeartbeats 8000000 in
set_option maxRecDepth 100000 in
theorem k_X10_checkRecord (l : Launch) (t : Nat → ClassId) (hfl : l.stackTraces = false) (h0 : Nat) (x1 : Nat) (x2 : Nat) (x3 : Nat) (x4 : Nat) (x5 : Nat) (x6 : Nat) (fi : Int32) (M : Nat → Int32) (ca : Nat) (cg : Option Nat) (x : Int32) : jKx l t yX10_checkRecord (Cond.code yX10_checkRecord cX10_checkRecord 2 none :: jWS) { frames := 6, cells := 1, slots := 6, locals := 82 } [.ref h0, .int x] [(h0, .inr (9, [.ref x1, .ref x2, .ref x3, .ref x4, .ref x5, .ref x6, .int fi])), (x2, .inr (5, jmem M ca cg))] (fun vv uu => ((jrec (M 1) x) ∧ vv = none ∧ uu = [(h0, .inr (9, [.ref x1, .ref x2, .ref x3, .ref x4, .ref x5, .ref x6, .int fi])), (x2, .inr (5, jmem M ca cg))])) (fun EE uu => ((¬ jrec (M 1) x) ∧ EE = "java/lang/IndexOutOfBoundsException" ∧ uu = [(h0, .inr (9, [.ref x1, .ref x2, .ref x3, .ref x4, .ref x5, .ref x6, .int fi])), (x2, .inr (5, jmem M ca cg))])) := by
  refine jK_of hfl (by decide +kernel) (Nat.le_of_ble_eq_true rfl) ?_
  intro p e s m args below meth c D A Q CC MM
  refine jr_norm0 [(0, .ref h0), (1, .int x)] rfl ?_
  refine jr_iload_n CC (jd ddX10_checkRecord 0 rfl) 1 rfl ?_
  refine jr_if_lt 15 CC (jd ddX10_checkRecord 1 rfl) (by decide) (fun c1 => ?_) (fun c1 => ?_)
  · exact jr_throw (rm := { frames := 0, cells := 0, slots := 0, locals := 0 }) (text := "there is no such record") CC MM (by decide +kernel) (jcl_X10_240 CC.2.2.2.2.1) (jini_2 CC.2.2.2.2.1) (by decide +kernel) (jat_X10_244 CC) (jgood_X10_244) (jd ddX10_checkRecord 7 rfl) (jd ddX10_checkRecord 8 rfl) (jd ddX10_checkRecord 9 rfl) (jd ddX10_checkRecord 10 rfl) (jd ddX10_checkRecord 11 rfl) ⟨by decide, Nat.le_of_ble_eq_true rfl, by decide, by decide⟩ ⟨(fun hP => by first | exact hP.1 c1 | exact c1 hP.2 | exact c1 hP.1 | exact hP.2 c1), rfl, rfl⟩
  · refine jr_iload_n CC (jd ddX10_checkRecord 2 rfl) 1 rfl ?_
    refine jr_aload_n CC (jd ddX10_checkRecord 3 rfl) 0 rfl ?_
    refine jr_get (v := .ref x2) CC (jd ddX10_checkRecord 4 rfl) (jf_X10_19 CC) 0 rfl rfl ?_
    refine jr_get (v := .int (M 1)) CC (jd ddX10_checkRecord 5 rfl) (jf_X10_94 CC) 1 rfl rfl ?_
    refine jr_icmp_lt 25 CC (jd ddX10_checkRecord 6 rfl) (by decide) (fun c2 => ?_) (fun c2 => ?_)
    · exact jr_vret CC MM (jd ddX10_checkRecord 12 rfl) rfl (by decide) (by decide) ⟨⟨c1, c2⟩, rfl, rfl⟩
    · exact jr_throw (rm := { frames := 0, cells := 0, slots := 0, locals := 0 }) (text := "there is no such record") CC MM (by decide +kernel) (jcl_X10_240 CC.2.2.2.2.1) (jini_2 CC.2.2.2.2.1) (by decide +kernel) (jat_X10_244 CC) (jgood_X10_244) (jd ddX10_checkRecord 7 rfl) (jd ddX10_checkRecord 8 rfl) (jd ddX10_checkRecord 9 rfl) (jd ddX10_checkRecord 10 rfl) (jd ddX10_checkRecord 11 rfl) ⟨by decide, Nat.le_of_ble_eq_true rfl, by decide, by decide⟩ ⟨(fun hP => by first | exact hP.1 c2 | exact c2 hP.2 | exact c2 hP.1 | exact hP.2 c2), rfl, rfl⟩
set_option maxHeartbeats 8000000 in
set_option maxRecDepth 100000 in
theorem k_X10_checkRoom (l : Launch) (t : Nat → ClassId) (hfl : l.stackTraces = false) (h0 : Nat) (x1 : Nat) (x2 : Nat) (x3 : Nat) (x4 : Nat) (x5 : Nat) (x6 : Nat) (fi : Int32) (e0 : Nat) (e1 : Nat) (e2 : Nat) (e3 : Nat) (pt : Int32) (ht : Int32) : jKx l t yX10_checkRoom (Cond.code yX10_checkRoom cX10_checkRoom 1 none :: jWS) { frames := 6, cells := 1, slots := 6, locals := 82 } [.ref h0] [(h0, .inr (9, [.ref x1, .ref x2, .ref x3, .ref x4, .ref x5, .ref x6, .int fi])), (x4, .inr (2, [.ref e0, .ref e1, .ref e2, .ref e3, .int pt, .int ht]))] (fun vv uu => ((pt < 16) ∧ vv = none ∧ uu = [(h0, .inr (9, [.ref x1, .ref x2, .ref x3, .ref x4, .ref x5, .ref x6, .int fi])), (x4, .inr (2, [.ref e0, .ref e1, .ref e2, .ref e3, .int pt, .int ht]))])) (fun EE uu => ((¬ pt < 16) ∧ EE = "java/lang/IllegalStateException" ∧ uu = [(h0, .inr (9, [.ref x1, .ref x2, .ref x3, .ref x4, .ref x5, .ref x6, .int fi])), (x4, .inr (2, [.ref e0, .ref e1, .ref e2, .ref e3, .int pt, .int ht]))])) := by
  refine jK_of hfl (by decide +kernel) (Nat.le_of_ble_eq_true rfl) ?_
  intro p e s m args below meth c D A Q CC MM
  refine jr_norm0 [(0, .ref h0)] rfl ?_
  refine jr_aload_n CC (jd ddX10_checkRoom 0 rfl) 0 rfl ?_
  refine jr_get (v := .ref x4) CC (jd ddX10_checkRoom 1 rfl) (jf_X10_33 CC) 0 rfl rfl ?_
  refine jr_get (v := .int pt) CC (jd ddX10_checkRoom 2 rfl) (jf_X10_207 CC) 1 rfl rfl ?_
  refine jr_bipush (v := 16) CC (jd ddX10_checkRoom 3 rfl) (by decide) ?_
  refine jr_icmp_lt 22 CC (jd ddX10_checkRoom 4 rfl) (by decide) (fun c1 => ?_) (fun c1 => ?_)
  · exact jr_vret CC MM (jd ddX10_checkRoom 10 rfl) rfl (by decide) (by decide) ⟨c1, rfl, rfl⟩
  · exact jr_throw (rm := { frames := 0, cells := 0, slots := 0, locals := 0 }) (text := "the expression has 16 parts") CC MM (by decide +kernel) (jcl_X10_77 CC.2.2.2.2.1) (jini_1 CC.2.2.2.2.1) (by decide +kernel) (jat_X10_81 CC) (jgood_X10_81) (jd ddX10_checkRoom 5 rfl) (jd ddX10_checkRoom 6 rfl) (jd ddX10_checkRoom 7 rfl) (jd ddX10_checkRoom 8 rfl) (jd ddX10_checkRoom 9 rfl) ⟨by decide, Nat.le_of_ble_eq_true rfl, by decide, by decide⟩ ⟨c1, rfl, rfl⟩
set_option maxHeartbeats 8000000 in
set_option maxRecDepth 100000 in
theorem k_X10_checkOperands (l : Launch) (t : Nat → ClassId) (hfl : l.stackTraces = false) (h0 : Nat) (x1 : Nat) (x2 : Nat) (x3 : Nat) (x4 : Nat) (x5 : Nat) (x6 : Nat) (fi : Int32) (e0 : Nat) (e1 : Nat) (e2 : Nat) (e3 : Nat) (pt : Int32) (ht : Int32) (x : Int32) : jKx l t yX10_checkOperands (Cond.code yX10_checkOperands cX10_checkOperands 2 none :: jWS) { frames := 6, cells := 1, slots := 6, locals := 82 } [.ref h0, .int x] [(h0, .inr (9, [.ref x1, .ref x2, .ref x3, .ref x4, .ref x5, .ref x6, .int fi])), (x4, .inr (2, [.ref e0, .ref e1, .ref e2, .ref e3, .int pt, .int ht]))] (fun vv uu => ((x ≤ ht) ∧ vv = none ∧ uu = [(h0, .inr (9, [.ref x1, .ref x2, .ref x3, .ref x4, .ref x5, .ref x6, .int fi])), (x4, .inr (2, [.ref e0, .ref e1, .ref e2, .ref e3, .int pt, .int ht]))])) (fun EE uu => ((¬ x ≤ ht) ∧ EE = "java/lang/IllegalStateException" ∧ uu = [(h0, .inr (9, [.ref x1, .ref x2, .ref x3, .ref x4, .ref x5, .ref x6, .int fi])), (x4, .inr (2, [.ref e0, .ref e1, .ref e2, .ref e3, .int pt, .int ht]))])) := by
  refine jK_of hfl (by decide +kernel) (Nat.le_of_ble_eq_true rfl) ?_
  intro p e s m args below meth c D A Q CC MM
  refine jr_norm0 [(0, .ref h0), (1, .int x)] rfl ?_
  refine jr_aload_n CC (jd ddX10_checkOperands 0 rfl) 0 rfl ?_
  refine jr_get (v := .ref x4) CC (jd ddX10_checkOperands 1 rfl) (jf_X10_33 CC) 0 rfl rfl ?_
  refine jr_get (v := .int ht) CC (jd ddX10_checkOperands 2 rfl) (jf_X10_210 CC) 1 rfl rfl ?_
  refine jr_iload_n CC (jd ddX10_checkOperands 3 rfl) 1 rfl ?_
  refine jr_icmp_ge 21 CC (jd ddX10_checkOperands 4 rfl) (by decide) (fun c1 => ?_) (fun c1 => ?_)
  · exact jr_vret CC MM (jd ddX10_checkOperands 10 rfl) rfl (by decide) (by decide) ⟨c1, rfl, rfl⟩
  · exact jr_throw (rm := { frames := 0, cells := 0, slots := 0, locals := 0 }) (text := "there are too few parts on the stack") CC MM (by decide +kernel) (jcl_X10_77 CC.2.2.2.2.1) (jini_1 CC.2.2.2.2.1) (by decide +kernel) (jat_X10_81 CC) (jgood_X10_81) (jd ddX10_checkOperands 5 rfl) (jd ddX10_checkOperands 6 rfl) (jd ddX10_checkOperands 7 rfl) (jd ddX10_checkOperands 8 rfl) (jd ddX10_checkOperands 9 rfl) ⟨by decide, Nat.le_of_ble_eq_true rfl, by decide, by decide⟩ ⟨c1, rfl, rfl⟩
set_option maxHeartbeats 8000000 in
set_option maxRecDepth 100000 in
theorem k_X10_checkTrace (l : Launch) (t : Nat → ClassId) (hfl : l.stackTraces = false) (h0 : Nat) (x1 : Nat) (x2 : Nat) (x3 : Nat) (x4 : Nat) (x5 : Nat) (x6 : Nat) (fi : Int32) (e0 : Nat) (e1 : Nat) (e2 : Nat) (e3 : Nat) (pt : Int32) (ht : Int32) (x : Int32) : jKx l t yX10_checkTrace (Cond.code yX10_checkTrace cX10_checkTrace 2 none :: jWS) { frames := 6, cells := 1, slots := 6, locals := 82 } [.ref h0, .int x] [(h0, .inr (9, [.ref x1, .ref x2, .ref x3, .ref x4, .ref x5, .ref x6, .int fi])), (x4, .inr (2, [.ref e0, .ref e1, .ref e2, .ref e3, .int pt, .int ht]))] (fun vv uu => ((¬ x = 2) ∧ vv = none ∧ uu = [(h0, .inr (9, [.ref x1, .ref x2, .ref x3, .ref x4, .ref x5, .ref x6, .int fi])), (x4, .inr (2, [.ref e0, .ref e1, .ref e2, .ref e3, .int pt, .int ht]))]) ∨ ((x = 2) ∧ (ht = 1) ∧ vv = none ∧ uu = [(h0, .inr (9, [.ref x1, .ref x2, .ref x3, .ref x4, .ref x5, .ref x6, .int fi])), (x4, .inr (2, [.ref e0, .ref e1, .ref e2, .ref e3, .int pt, .int ht]))])) (fun EE uu => ((x = 2) ∧ (¬ ht = 1) ∧ EE = "java/lang/IllegalStateException" ∧ uu = [(h0, .inr (9, [.ref x1, .ref x2, .ref x3, .ref x4, .ref x5, .ref x6, .int fi])), (x4, .inr (2, [.ref e0, .ref e1, .ref e2, .ref e3, .int pt, .int ht]))])) := by
  refine jK_of hfl (by decide +kernel) (Nat.le_of_ble_eq_true rfl) ?_
  intro p e s m args below meth c D A Q CC MM
  refine jr_norm0 [(0, .ref h0), (1, .int x)] rfl ?_
  refine jr_iload_n CC (jd ddX10_checkTrace 0 rfl) 1 rfl ?_
  refine jr_iconst (v := 2) CC (jd ddX10_checkTrace 1 rfl) (by decide) ?_
  refine jr_icmp_ne 26 CC (jd ddX10_checkTrace 2 rfl) (by decide) (fun c1 => ?_) (fun c1 => ?_)
  · exact jr_vret CC MM (jd ddX10_checkTrace 13 rfl) rfl (by decide) (by decide) (Or.inl ⟨c1, rfl, rfl⟩)
  · refine jr_aload_n CC (jd ddX10_checkTrace 3 rfl) 0 rfl ?_
    refine jr_get (v := .ref x4) CC (jd ddX10_checkTrace 4 rfl) (jf_X10_33 CC) 0 rfl rfl ?_
    refine jr_get (v := .int ht) CC (jd ddX10_checkTrace 5 rfl) (jf_X10_210 CC) 1 rfl rfl ?_
    refine jr_iconst (v := 1) CC (jd ddX10_checkTrace 6 rfl) (by decide) ?_
    refine jr_icmp_eq 26 CC (jd ddX10_checkTrace 7 rfl) (by decide) (fun c2 => ?_) (fun c2 => ?_)
    · exact jr_vret CC MM (jd ddX10_checkTrace 13 rfl) rfl (by decide) (by decide) (Or.inr ⟨c1, c2, rfl, rfl⟩)
    · exact jr_throw (rm := { frames := 0, cells := 0, slots := 0, locals := 0 }) (text := "the stack has not just one part") CC MM (by decide +kernel) (jcl_X10_77 CC.2.2.2.2.1) (jini_1 CC.2.2.2.2.1) (by decide +kernel) (jat_X10_81 CC) (jgood_X10_81) (jd ddX10_checkTrace 8 rfl) (jd ddX10_checkTrace 9 rfl) (jd ddX10_checkTrace 10 rfl) (jd ddX10_checkTrace 11 rfl) (jd ddX10_checkTrace 12 rfl) ⟨by decide, Nat.le_of_ble_eq_true rfl, by decide, by decide⟩ ⟨c1, c2, rfl, rfl⟩
def jmin (x y : Int32) : Int32 := if y < x then y else x
def jmax (x y : Int32) : Int32 := if x < y then y else x
def jabs (x : Int32) : Int32 := if 0 ≤ x then x else 0 - x
def jminL (x y : Int64) : Int64 := if y < x then y else x
def jmaxL (x y : Int64) : Int64 := if y < x then x else y
def jfdiv (x y : Int32) : Int32 := if x ^^^ y < 0 then (if x / y * y = x then x / y else x / y - 1) else x / y
def jkept (x : Int64) (a b : Int32) : Int32 := (jmaxL a.toInt64 (jminL b.toInt64 x)).toInt32
theorem jr_mmin {p : Program} {l : Launch} {e : Env} {R : Room} {s : State} {m : MethodId} {args : Array Value} {below : List Frame} {meth : Method} {c : Code} {D : va_G} {t : Nat → ClassId} {A : Nat → Prop} {own : String} {cc : ByteArray} {nL : Nat} {Q : State → Prop} {ws : va_W} {lv : List (Nat × Value)} {pc : Nat} {rest : List Value} {k n : Nat} {index : Nat} {x y : Int32} (CC : jC p l s m args c D t A own cc nL) (hd : decode cc pc = .ok (.invokestatic index, 3)) (hy : jYS own index yJ9_min_7cf53 cJ9_min_7cf53 2 (some .int) 2 args s) (h1 : 1 ≤ R.frames) (h2 : (rest.map fun v => v.category).sum + 13 ≤ R.locals) (h3 : k ≤ R.cells) (h4 : n ≤ R.slots) (k9 : J p l e R s m args below meth c D A nL Q ws lv (pc + 3) (.int (jmin x y) :: rest) k n) : J p l e R s m args below meth c D A nL Q ws lv pc (.int y :: .int x :: rest) k n := fun H locs ls hP hD hS hl => va_mmin CC.1 CC.2.1 (CC.2.2.1.trans hl.1.symm) CC.2.2.2.1 hy.2.1 hy.2.2 hy.1.2.1 (CC.2.2.2.2.1 _ hy.1.1) h1 h2 h3 h4 hd (k9 H locs ls hP hD hS hl)
theorem jr_mmax {p : Program} {l : Launch} {e : Env} {R : Room} {s : State} {m : MethodId} {args : Array Value} {below : List Frame} {meth : Method} {c : Code} {D : va_G} {t : Nat → ClassId} {A : Nat → Prop} {own : String} {cc : ByteArray} {nL : Nat} {Q : State → Prop} {ws : va_W} {lv : List (Nat × Value)} {pc : Nat} {rest : List Value} {k n : Nat} {index : Nat} {x y : Int32} (CC : jC p l s m args c D t A own cc nL) (hd : decode cc pc = .ok (.invokestatic index, 3)) (hy : jYS own index yJ9_max_7cf53 cJ9_max_7cf53 2 (some .int) 2 args s) (h1 : 1 ≤ R.frames) (h2 : (rest.map fun v => v.category).sum + 13 ≤ R.locals) (h3 : k ≤ R.cells) (h4 : n ≤ R.slots) (k9 : J p l e R s m args below meth c D A nL Q ws lv (pc + 3) (.int (jmax x y) :: rest) k n) : J p l e R s m args below meth c D A nL Q ws lv pc (.int y :: .int x :: rest) k n := fun H locs ls hP hD hS hl => va_mmax CC.1 CC.2.1 (CC.2.2.1.trans hl.1.symm) CC.2.2.2.1 hy.2.1 hy.2.2 hy.1.2.1 (CC.2.2.2.2.1 _ hy.1.1) h1 h2 h3 h4 hd (k9 H locs ls hP hD hS hl)
theorem jr_mabs {p : Program} {l : Launch} {e : Env} {R : Room} {s : State} {m : MethodId} {args : Array Value} {below : List Frame} {meth : Method} {c : Code} {D : va_G} {t : Nat → ClassId} {A : Nat → Prop} {own : String} {cc : ByteArray} {nL : Nat} {Q : State → Prop} {ws : va_W} {lv : List (Nat × Value)} {pc : Nat} {rest : List Value} {k n : Nat} {index : Nat} {x : Int32} (CC : jC p l s m args c D t A own cc nL) (hd : decode cc pc = .ok (.invokestatic index, 3)) (hy : jYS own index yJ9_abs_0f7a4 cJ9_abs_0f7a4 1 (some .int) 1 args s) (h1 : 1 ≤ R.frames) (h2 : (rest.map fun v => v.category).sum + 13 ≤ R.locals) (h3 : k ≤ R.cells) (h4 : n ≤ R.slots) (k9 : J p l e R s m args below meth c D A nL Q ws lv (pc + 3) (.int (jabs x) :: rest) k n) : J p l e R s m args below meth c D A nL Q ws lv pc (.int x :: rest) k n := fun H locs ls hP hD hS hl => va_mabs CC.1 CC.2.1 (CC.2.2.1.trans hl.1.symm) CC.2.2.2.1 hy.2.1 hy.2.2 hy.1.2.1 (CC.2.2.2.2.1 _ hy.1.1) h1 h2 h3 h4 hd (k9 H locs ls hP hD hS hl)
theorem jr_mminL {p : Program} {l : Launch} {e : Env} {R : Room} {s : State} {m : MethodId} {args : Array Value} {below : List Frame} {meth : Method} {c : Code} {D : va_G} {t : Nat → ClassId} {A : Nat → Prop} {own : String} {cc : ByteArray} {nL : Nat} {Q : State → Prop} {ws : va_W} {lv : List (Nat × Value)} {pc : Nat} {rest : List Value} {k n : Nat} {index : Nat} {x y : Int64} (CC : jC p l s m args c D t A own cc nL) (hd : decode cc pc = .ok (.invokestatic index, 3)) (hy : jYS own index yJ9_min_f86c9 cJ9_min_f86c9 4 (some .long) 2 args s) (h1 : 1 ≤ R.frames) (h2 : (rest.map fun v => v.category).sum + 15 ≤ R.locals) (h3 : k ≤ R.cells) (h4 : n ≤ R.slots) (k9 : J p l e R s m args below meth c D A nL Q ws lv (pc + 3) (.long (jminL x y) :: rest) k n) : J p l e R s m args below meth c D A nL Q ws lv pc (.long y :: .long x :: rest) k n := fun H locs ls hP hD hS hl => va_mmin_long CC.1 CC.2.1 (CC.2.2.1.trans hl.1.symm) CC.2.2.2.1 hy.2.1 hy.2.2 hy.1.2.1 (CC.2.2.2.2.1 _ hy.1.1) h1 h2 h3 h4 hd (k9 H locs ls hP hD hS hl)
theorem jr_mmaxL {p : Program} {l : Launch} {e : Env} {R : Room} {s : State} {m : MethodId} {args : Array Value} {below : List Frame} {meth : Method} {c : Code} {D : va_G} {t : Nat → ClassId} {A : Nat → Prop} {own : String} {cc : ByteArray} {nL : Nat} {Q : State → Prop} {ws : va_W} {lv : List (Nat × Value)} {pc : Nat} {rest : List Value} {k n : Nat} {index : Nat} {x y : Int64} (CC : jC p l s m args c D t A own cc nL) (hd : decode cc pc = .ok (.invokestatic index, 3)) (hy : jYS own index yJ9_max_f86c9 cJ9_max_f86c9 4 (some .long) 2 args s) (h1 : 1 ≤ R.frames) (h2 : (rest.map fun v => v.category).sum + 15 ≤ R.locals) (h3 : k ≤ R.cells) (h4 : n ≤ R.slots) (k9 : J p l e R s m args below meth c D A nL Q ws lv (pc + 3) (.long (jmaxL x y) :: rest) k n) : J p l e R s m args below meth c D A nL Q ws lv pc (.long y :: .long x :: rest) k n := fun H locs ls hP hD hS hl => va_mmax_long CC.1 CC.2.1 (CC.2.2.1.trans hl.1.symm) CC.2.2.2.1 hy.2.1 hy.2.2 hy.1.2.1 (CC.2.2.2.2.1 _ hy.1.1) h1 h2 h3 h4 hd (k9 H locs ls hP hD hS hl)
theorem jr_fdiv {p : Program} {l : Launch} {e : Env} {R : Room} {s : State} {m : MethodId} {args : Array Value} {below : List Frame} {meth : Method} {c : Code} {D : va_G} {t : Nat → ClassId} {A : Nat → Prop} {own : String} {cc : ByteArray} {nL : Nat} {Q : State → Prop} {ws : va_W} {lv : List (Nat × Value)} {pc : Nat} {rest : List Value} {k n : Nat} {index : Nat} {x y : Int32} (CC : jC p l s m args c D t A own cc nL) (hd : decode cc pc = .ok (.invokestatic index, 3)) (hy : jYS own index yJ9_floorDiv_7cf53 cJ9_floorDiv_7cf53 3 (some .int) 2 args s) (hne : ¬ y = 0) (h1 : 1 ≤ R.frames) (h2 : (rest.map fun v => v.category).sum + 14 ≤ R.locals) (h3 : k ≤ R.cells) (h4 : n ≤ R.slots) (k9 : J p l e R s m args below meth c D A nL Q ws lv (pc + 3) (.int (jfdiv x y) :: rest) k n) : J p l e R s m args below meth c D A nL Q ws lv pc (.int y :: .int x :: rest) k n := by
  intro H locs ls hP hD hS hl T hT X
  have hc := CC.2.2.2.2.1 _ hy.1.1
  have htab : Jvm.Free.JP.Math_floorDiv_II.tab.before args s = true := Jvm.Free.XT.unparts (show (Cond.code Jvm.Free.JP.Math_floorDiv_II.yN Jvm.Free.JP.Math_floorDiv_II.yB 3 (some .int)).before args s = true from hc) (fun w hw => by
    rcases List.mem_cons.mp hw with rfl | h
    · exact hy.1.2.1
    · cases h)
  have hB := Jvm.Free.JP.Math_floorDiv_II.pays (l := l) (R := R) (p := p) (e := e) (below := below) (s := s) (sargs := args) (len := 3) (W := (rest.map fun v => v.category).sum) x y htab h1 h2
  obtain ⟨v, vm₁, ⟨U', l2, c2, s2⟩, hW₁, X', ⟨⟨hv, hh⟩, e1, e2, e3⟩, st⟩ := callS X CC.1 (bytes := Jvm.Free.JP.Math_floorDiv_II.yB) (maxL := 3) (ret := some .int) CC.2.2.2.1 hy.2.1 hy.2.2 hy.1.2.1 hc hy.1.2.2.1 hB (g := F0 m pc ls (.int y :: .int x :: rest)) rfl (hl.1.trans CC.2.2.1.symm) (argsL := [.int x, .int y]) (rest := rest) (fun sig h => by have h2 := hy.1.2.2.2; rw [h] at h2; exact (Option.some.inj h2).symm) rfl (show 2 * 0 + _ ≤ _ by omega) (by rw [CC.2.1]; exact hd) (fun vm₁ hW₁ => ⟨h3, h4, rfl, hne⟩)
  dsimp only [Pt.U, Pt.locs, Pt.cells, Pt.slots] at X' hh e1 e2 e3 st
  subst hv e1 e2 e3
  rw [List.append_nil] at X'
  obtain ⟨t2, a1, a2⟩ := k9 H locs ls hP hD hS hl U' (hh.trans hT) X'
  exact ⟨t2, st t2 a1, a2⟩
def jfill (n : Nat) (v : Int32) (f : Nat → Int32) : Nat → Int32 := fun i => if i < n then v else f i
theorem jfill_0 (v : Int32) (f : Nat → Int32) : jfill 0 v f = f := rfl
theorem jfill_s (n : Nat) (v : Int32) (f : Nat → Int32) : upd (jfill n v f) n v = jfill (n + 1) v f := by
  funext i
  unfold upd jfill
  by_cases h : i = n
  · subst h; simp
  · by_cases h2 : i < n
    · simp [h, h2, Nat.lt_succ_of_lt h2]
    · simp [h, h2, show ¬ i < n + 1 by omega]
set_option maxHeartbeats 8000000 in
set_option maxRecDepth 100000 in
theorem k_X10_kept (l : Launch) (t : Nat → ClassId) (hfl : l.stackTraces = false) (x : Int64) (a : Int32) (b : Int32) : jKx l t yX10_kept (Cond.code yX10_kept cX10_kept 4 (some .int) :: jWS) { frames := 1, cells := 0, slots := 0, locals := 17 } [.long x, .int a, .int b] [] (fun vv uu => (vv = some (.int (jkept x a b)) ∧ uu = [])) (fun _ _ => False) := by
  refine jK_of hfl (by decide +kernel) (Nat.le_of_ble_eq_true rfl) ?_
  intro p e s m args below meth c D A Q CC MM
  refine jr_norm0 [(0, .long x), (2, .int a), (3, .int b)] rfl ?_
  refine jr_iload_n CC (jd ddX10_kept 0 rfl) 1 rfl ?_
  refine jr_i2l CC (jd ddX10_kept 1 rfl) ?_
  refine jr_iload_n CC (jd ddX10_kept 2 rfl) 2 rfl ?_
  refine jr_i2l CC (jd ddX10_kept 3 rfl) ?_
  refine jr_lload_n CC (jd ddX10_kept 4 rfl) 0 rfl ?_
  refine jr_mminL CC (jd ddX10_kept 5 rfl) (jy_X10_253 CC) (by decide) (Nat.le_of_ble_eq_true rfl) (by decide) (by decide) ?_
  refine jr_mmaxL CC (jd ddX10_kept 6 rfl) (jy_X10_256 CC) (by decide) (Nat.le_of_ble_eq_true rfl) (by decide) (by decide) ?_
  refine jr_l2i CC (jd ddX10_kept 7 rfl) ?_
  exact jr_iret CC MM (jd ddX10_kept 8 rfl) rfl (by decide) (by decide) ⟨by simp [jkept], rfl⟩
set_option maxHeartbeats 8000000 in
set_option maxRecDepth 100000 in
theorem k_X3_keptResult (l : Launch) (t : Nat → ClassId) (hfl : l.stackTraces = false) (x : Int64) : jKx l t yX3_keptResult (Cond.code yX3_keptResult cX3_keptResult 2 (some .int) :: jWS) { frames := 2, cells := 0, slots := 0, locals := 40 } [.long x] [] (fun vv uu => (vv = some (.int (jkept x (-1000000) 1000000)) ∧ uu = [])) (fun _ _ => False) := by
  refine jK_of hfl (by decide +kernel) (Nat.le_of_ble_eq_true rfl) ?_
  intro p e s m args below meth c D A Q CC MM
  refine jr_norm0 [(0, .long x)] rfl ?_
  refine jr_lload_n CC (jd ddX3_keptResult 0 rfl) 0 rfl ?_
  refine jr_ldc CC (jk_X3_73 CC.2.2.2.2.1) (jd ddX3_keptResult 1 rfl) ?_
  refine jr_ldc CC (jk_X3_74 CC.2.2.2.2.1) (jd ddX3_keptResult 2 rfl) ?_
  refine jr_callSN (rest := []) [.long x, .int (-1000000), .int 1000000] CC (jd ddX3_keptResult 3 rfl) (jy_X3_75 CC) (k_X10_kept l t hfl x (-1000000) 1000000) [] rfl (by decide) rfl rfl (by decide) (Nat.le_of_ble_eq_true rfl) (by rintro v u h; rcases h with ⟨rfl, rfl⟩ <;> rfl) (fun _ _ h => h.elim) (fun _ _ h => h.elim) (fun v u h => ?_)
  rcases h with ⟨rfl, rfl⟩
  refine jr_norm [] [.int (jkept x (-1000000) 1000000)] 8 0 0 rfl rfl rfl rfl rfl ?_
  exact jr_iret CC MM (jd ddX3_keptResult 4 rfl) rfl (by decide) (by decide) ⟨rfl, rfl⟩
set_option maxHeartbeats 8000000 in
set_option maxRecDepth 100000 in
theorem k_J7_fill_53178 (l : Launch) (t : Nat → ClassId) (hfl : l.stackTraces = false) (h0 : Nat) (n : Nat) (f : Nat → Int32) (v : Int32) (hn : n < 100000) : jKx l t yJ7_fill_53178 (Cond.code yJ7_fill_53178 cJ7_fill_53178 4 none :: jWS) { frames := 0, cells := 0, slots := 0, locals := 0 } [.ref h0, .int v] [(h0, .inl (t 0, n, .inl f))] (fun vv uu => (vv = none ∧ uu = [(h0, .inl (t 0, n, .inl (jfill n v f)))])) (fun _ _ => False) := by
  refine jK_of hfl (by decide +kernel) (Nat.le_of_ble_eq_true rfl) ?_
  intro p e s m args below meth c D A Q CC MM
  refine jr_norm0 [(0, .ref h0), (1, .int v)] rfl ?_
  refine jr_iconst (v := 0) CC (jd ddJ7_fill_53178 0 rfl) (by decide) ?_
  refine jr_istore_n 2 [(2, .int 0), (0, .ref h0), (1, .int v)] CC (jd ddJ7_fill_53178 1 rfl) rfl (by decide) rfl ?_
  refine jr_aload_n CC (jd ddJ7_fill_53178 2 rfl) 1 rfl ?_
  refine jr_alen (n9 := n) (ty := .int) CC (jd ddJ7_fill_53178 3 rfl) 0 0 rfl rfl rfl ?_
  refine jr_istore_n 3 [(3, .int (nI n)), (2, .int 0), (0, .ref h0), (1, .int v)] CC (jd ddJ7_fill_53178 4 rfl) rfl (by decide) rfl ?_
  have hL1 : ∀ (d9 : Nat) (i : Nat) (hi : i ≤ n), n - i < d9 → J p l e { frames := 0, cells := 0, slots := 0, locals := 0 } s m args below meth c D A 4 Q [(h0, .inl (t 0, n, .inl (jfill i v f)))] [(0, .ref h0), (1, .int v), (2, .int (nI i)), (3, .int (nI n))] 5 [] 0 0 := by
    intro d9
    induction d9 with
    | zero => intro i hi hmu; exact absurd hmu (Nat.not_lt_zero _)
    | succ d9 ih5 =>
      intro i hi hmu
      refine jr_iload_n CC (jd ddJ7_fill_53178 5 rfl) 2 rfl ?_
      refine jr_iload_n CC (jd ddJ7_fill_53178 6 rfl) 3 rfl ?_
      refine jr_icmp_ge 20 CC (jd ddJ7_fill_53178 7 rfl) (by decide) (fun c2 => ?_) (fun c2 => ?_)
      · have n2 := jle_of (a := n) (b := i) c2 (by omega) (by omega)
        exact jr_vret CC MM (jd ddJ7_fill_53178 14 rfl) rfl (by decide) (by decide) ⟨rfl, by rw [show n = i by omega]⟩
      · have n2 := jle_not (a := n) (b := i) c2 (by omega) (by omega)
        refine jr_aload_n CC (jd ddJ7_fill_53178 8 rfl) 0 rfl ?_
        refine jr_iload_n CC (jd ddJ7_fill_53178 9 rfl) 2 rfl ?_
        refine jr_iload_n CC (jd ddJ7_fill_53178 10 rfl) 1 rfl ?_
        refine jr_iastN CC (jd ddJ7_fill_53178 11 rfl) 0 i rfl rfl (by omega) (by omega) ?_
        refine jr_iinc [(2, .int (nI (i + 1))), (0, .ref h0), (1, .int v), (3, .int (nI n))] CC (jd ddJ7_fill_53178 12 rfl) 2 rfl (nI_1 _) (by decide) rfl ?_
        refine jr_goto 5 CC (jd ddJ7_fill_53178 13 rfl) (by decide) ?_
        refine jr_ws [(h0, .inl (t 0, n, .inl (jfill (i + 1) v f)))] (by show [_] = [_]; rw [← jfill_s]) ?_
        refine jr_norm [(h0, .inl (t 0, n, .inl (jfill (i + 1) v f)))] [] 5 0 0 rfl rfl rfl rfl rfl ?_
        refine jr_lv [1, 2, 0, 3] [(0, .ref h0), (1, .int v), (2, .int (nI (i + 1))), (3, .int (nI n))] rfl ?_
        exact ih5 (i + 1) (by omega) (by omega)
  refine jr_norm [(h0, .inl (t 0, n, .inl (jfill 0 v f)))] [] 5 0 0 rfl rfl rfl rfl rfl ?_
  refine jr_lv [2, 3, 1, 0] [(0, .ref h0), (1, .int v), (2, .int (nI 0)), (3, .int (nI n))] rfl ?_
  exact hL1 (n - 0 + 1) 0 (Nat.zero_le _) (Nat.lt_succ_self _)
