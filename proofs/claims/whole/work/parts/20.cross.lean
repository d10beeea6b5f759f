/-- whether a row crosses a level upwards at place j -/
def jcr (f : Nat → Int32) (lv : Int32) (j : Nat) : Int32 := if f j ≤ lv then 0 else if lv < f (j - 1) then 0 else 1
theorem jcr01 (f : Nat → Int32) (lv : Int32) (j : Nat) : jcr f lv j = 0 ∨ jcr f lv j = 1 := by
  unfold jcr; (repeat' split) <;> first | exact Or.inl rfl | exact Or.inr rfl
set_option maxHeartbeats 8000000 in
set_option maxRecDepth 100000 in
theorem k_X10_crossesAt (l : Launch) (t : Nat → ClassId) (hfl : l.stackTraces = false) (h0 : Nat) (x1 : Nat) (x2 : Nat) (x3 : Nat) (x4 : Nat) (x5 : Nat) (x6 : Nat) (fi : Int32) (RW : Nat → Int32) (j : Nat) (lv : Int32) (hj : 1 ≤ j) (hj2 : j < 49) : jKx l t yX10_crossesAt (Cond.code yX10_crossesAt cX10_crossesAt 3 (some .boolean) :: jWS) { frames := 0, cells := 0, slots := 0, locals := 0 } [.ref h0, .int (nI j), .int lv] [(h0, .inr (9, [.ref x1, .ref x2, .ref x3, .ref x4, .ref x5, .ref x6, .int fi])), (x5, .inl (t 0, 49, .inl RW))] (fun vv uu => (vv = some (.int (jcr RW lv j)) ∧ uu = [(h0, .inr (9, [.ref x1, .ref x2, .ref x3, .ref x4, .ref x5, .ref x6, .int fi])), (x5, .inl (t 0, 49, .inl RW))])) (fun _ _ => False) := by
  refine jK_of hfl (by decide +kernel) (Nat.le_of_ble_eq_true rfl) ?_
  intro p e s m args below meth c D A Q CC MM
  refine jr_norm0 [(0, .ref h0), (1, .int (nI j)), (2, .int lv)] rfl ?_
  refine jr_aload_n CC (jd ddX10_crossesAt 0 rfl) 0 rfl ?_
  refine jr_get (v := .ref x5) CC (jd ddX10_crossesAt 1 rfl) (jf_X10_37 CC) 0 rfl rfl ?_
  refine jr_iload_n CC (jd ddX10_crossesAt 2 rfl) 1 rfl ?_
  refine jr_ialdN CC (jd ddX10_crossesAt 3 rfl) 1 j rfl rfl (by omega) (by decide) ?_
  refine jr_iload_n CC (jd ddX10_crossesAt 4 rfl) 2 rfl ?_
  refine jr_icmp_le 26 CC (jd ddX10_crossesAt 5 rfl) (by decide) (fun c1 => ?_) (fun c1 => ?_)
  · refine jr_iconst (v := 0) CC (jd ddX10_crossesAt 16 rfl) (by decide) ?_
    exact jr_zret rfl CC MM (jd ddX10_crossesAt 17 rfl) rfl (by decide) (by decide) ⟨by simp [jcr, c1], rfl⟩
  · refine jr_aload_n CC (jd ddX10_crossesAt 6 rfl) 0 rfl ?_
    refine jr_get (v := .ref x5) CC (jd ddX10_crossesAt 7 rfl) (jf_X10_37 CC) 0 rfl rfl ?_
    refine jr_iload_n CC (jd ddX10_crossesAt 8 rfl) 1 rfl ?_
    refine jr_iconst (v := 1) CC (jd ddX10_crossesAt 9 rfl) (by decide) ?_
    refine jr_pc (pc' := 16) rfl ?_
    refine jr_isub CC (jd ddX10_crossesAt 10 rfl) ?_
    refine jr_st [.int (nI (j - 1)), .ref x5] (by rw [jsub1 (a := j) (by omega)]) ?_
    refine jr_ialdN CC (jd ddX10_crossesAt 11 rfl) 1 (j - 1) rfl rfl (by omega) (by decide) ?_
    refine jr_iload_n CC (jd ddX10_crossesAt 12 rfl) 2 rfl ?_
    refine jr_icmp_gt 26 CC (jd ddX10_crossesAt 13 rfl) (by decide) (fun c2 => ?_) (fun c2 => ?_)
    · refine jr_iconst (v := 0) CC (jd ddX10_crossesAt 16 rfl) (by decide) ?_
      exact jr_zret rfl CC MM (jd ddX10_crossesAt 17 rfl) rfl (by decide) (by decide) ⟨by simp [jcr, c1, c2], rfl⟩
    · refine jr_iconst (v := 1) CC (jd ddX10_crossesAt 14 rfl) (by decide) ?_
      refine jr_goto 27 CC (jd ddX10_crossesAt 15 rfl) (by decide) ?_
      exact jr_zret rfl CC MM (jd ddX10_crossesAt 17 rfl) rfl (by decide) (by decide) ⟨by simp [jcr, c1, c2], rfl⟩
